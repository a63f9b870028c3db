/-! ===== OBJECTS BEING MADE ===== -/
theorem oOk.frm2 {D : XD} {g : PS} {M : Nat → Nat → Value} {P : Nat → Nat → Prop} {p : Nat} (h : oOk D g p) (hM : ∀ a k, ¬ P a k → M a k = pM g a k) (hn : ∀ k, ¬ P p k) (hn9 : ∀ a, (dE D a).1 = 9 → ∀ k, ¬ P a k) : oOk D (pSet g M) p := by
  obtain ⟨h1, h2, h3, h4, h5⟩ := h
  have e0 : ∀ q, pM (pSet g M) p q = pM g p q := fun q => hM _ _ (hn q)
  have ek : pK (pSet g M) = pK g := rfl
  have el : pL (pSet g M) = pL g := rfl
  refine ⟨fun z => ?_, fun z => ?_, fun z => ?_, h4, fun z => ?_⟩
  · simp only [e0, ek]; exact h1 z
  · simp only [e0, ek]; exact h2 z
  · have h3 := h3 z
    have e1 : ∀ j q, 1 ≤ j → j ≤ 4 → pM (pSet g M) (p + j) q = pM g (p + j) q := fun j q j1 j2 => hM _ _ (hn9 _ (h3.2.2.2.2.2.2.2.2.2.2 j j1 j2) q)
    obtain ⟨a1, a2, a3, a4, a5, a6, a7, a8, a9, a10, a11⟩ := h3
    exact ⟨a1, fun k hk => (e0 k).trans (a2 k hk), (e0 3).trans a3, a4, fun k hk => ⟨(e1 1 k (by omega) (by omega)).trans (a5 k hk).1, (a5 k hk).2⟩, a6, a7, a8, fun k hk => (e1 2 k (by omega) (by omega)).trans (a9 k hk), fun k hk => ⟨(e1 3 k (by omega) (by omega)).trans (a10 k hk).1, (e1 4 k (by omega) (by omega)).trans (a10 k hk).2⟩, a11⟩
  · simp only [e0, ek, el]; exact h5 z
/-- a cell that is being made is written -/
theorem Rep.pput {X : XS} {g : PS} {p k : Nat} {v : Value} (h : Rep X g) (ht : 10 ≤ (dE (xD X) p).1 ∧ (dE (xD X) p).1 < 100) : Rep X (pPut g p k v) := by
  obtain ⟨a1, a2, a3, a4, a5, a6, a7, a8, a9, a10, a11, a12, a13, a14, a15⟩ := h
  have hp : (dE (xD X) p).1 ≠ 0 := by omega
  obtain ⟨b1, b2, b3⟩ := a15.2 p hp
  have hb : 388 ≤ p ∨ (130 ≤ p ∧ p ≤ 134) ∨ (323 ≤ p ∧ p ≤ 327) := by
    unfold stat at b2
    omega
  have hA : ∀ o i, o < 2 → i < 7 → ∀ k', ¬ (fun x y => x = p ∧ y = k) (dA (xD X) o i) k' := fun o i ho hi k' z => hp (by rw [← show dA (xD X) o i = p from z.1]; exact (a10 o i ho hi).2.1)
  have hp0 : p ≠ 0 := fun z => hp (by rw [z]; exact a15.1)
  have hM := hMp g p k v
  refine ⟨a1, a2, a3.frm hM (fun o f i j a k' hl z => b2 (by rw [← show a = p from z.1]; exact (loc_stat hl).1)), a4.frm hM (fun a k' b hl z => ?_), a5.frm hM (fun k' => ⟨fun z => by have := z.1; omega, fun z => by have := z.1; omega, fun z => hp0 z.1.symm⟩), a6.frm hM (fun o i => ⟨fun ho z => ?_, fun ho hi => ⟨fun z => ?_, fun z => ?_⟩, fun h1 h2 => ⟨fun z => ?_, fun hi z => ?_⟩⟩), a7,
    a8.frm hM (fun o i ho hi => ⟨fun z => ?_, hA o i (by omega) hi⟩), a9.frm hM (fun o i h1 h2 hi => ⟨fun z => ?_, hA o i h2 hi⟩), a10.frm, a11.frm hM (fun o i ho hi z => ?_), a12.frm hM (fun o c ho hc z => ?_), a13.frm a7 hM (fun o q ho => ⟨fun z => ?_, fun hq z => ?_, fun hq k' => ⟨fun z => ?_, fun z => ?_⟩⟩), a14, ⟨a15.1, fun q hq => ⟨(a15.2 q hq).1, (a15.2 q hq).2.1, ?_⟩⟩⟩
  · have e : a = p := z.1
    rcases hl with ⟨o, ho, hl⟩ | ⟨o, h1, h2, hl⟩ | hl | hl
    · rcases hl with h | h | h | h | ⟨q, h⟩ | ⟨q, hq, h | h | h | h⟩ <;> dsimp only [aB, aS, aC, aM] at h <;> rcases (show o = 0 ∨ o = 1 by omega) with rfl | rfl <;> omega
    · have := srfR_rng hl; omega
    · omega
    · omega
  · have e : aB o + 3 = p := z.1
    dsimp only [aB] at e; rcases (show o = 0 ∨ o = 1 by omega) with rfl | rfl <;> omega
  · have e : aS o i = p := z.1
    dsimp only [aS] at e; rcases (show o = 0 ∨ o = 1 by omega) with rfl | rfl <;> omega
  · have e : aS o i = p := z.1
    dsimp only [aS] at e; rcases (show o = 0 ∨ o = 1 by omega) with rfl | rfl <;> omega
  · have e : bB o = p := z.1
    dsimp only [bB] at e; omega
  · have e : bB o + 31 = p := z.1
    dsimp only [bB] at e; omega
  · have e : aS o i = p := z.1
    dsimp only [aS] at e; rcases (show o = 0 ∨ o = 1 by omega) with rfl | rfl <;> omega
  · have e : bB o + 32 = p := z.1
    dsimp only [bB] at e; omega
  · have e : aS o i = p := z.1
    dsimp only [aS] at e; rcases (show o = 0 ∨ o = 1 by omega) with rfl | rfl <;> omega
  · have e : aC o c = p := z.1
    dsimp only [aC] at e; rcases (show o = 0 ∨ o = 1 by omega) with rfl | rfl <;> omega
  · have e : aB o + 3 = p := z.1
    dsimp only [aB] at e; rcases (show o = 0 ∨ o = 1 by omega) with rfl | rfl <;> omega
  · have e : aB o + 4 = p := z.1
    dsimp only [aB] at e; rcases (show o = 0 ∨ o = 1 by omega) with rfl | rfl <;> omega
  · have e : aM o q = p := z.1
    dsimp only [aM] at e; rcases (show o = 0 ∨ o = 1 by omega) with rfl | rfl <;> omega
  · have e : aM o q + 1 = p := z.1
    dsimp only [aM] at e; rcases (show o = 0 ∨ o = 1 by omega) with rfl | rfl <;> omega
  · by_cases e : q = p
    · subst e
      obtain ⟨c1, c2, c3, c4, c5⟩ := b3
      exact ⟨fun z => by omega, fun z => by omega, fun z => by omega, c4, fun z => by omega⟩
    · exact (a15.2 q hq).2.2.frm2 hM (fun k' z => e z.1) (fun a ha k' z => by rw [show a = p from z.1] at ha; omega)
/-- what was being made is there -/
theorem Rep.setE {X : XS} {g : PS} {E : Nat → Nat × ENT} (h : Rep X g) (hE : ∀ a, E a = dE (xD X) a ∨ (10 ≤ (dE (xD X) a).1 ∧ (E a).1 ≠ 0 ∧ oOk (dExt (xD X) E (dC (xD X)) (dZ (xD X))) g a)) : Rep (xSetD X (dExt (xD X) E (dC (xD X)) (dZ (xD X)))) g := by
  obtain ⟨a1, a2, a3, a4, a5, a6, a7, a8, a9, a10, a11, a12, a13, a14, a15⟩ := h
  have hlow : ∀ a, (dE (xD X) a).1 < 10 → E a = dE (xD X) a := fun a ha => by
    rcases hE a with z | z
    · exact z
    · omega
  have hsn : ∀ p r, dSn (xD X) p r → dSn (dExt (xD X) E (dC (xD X)) (dZ (xD X))) p r := fun p r ⟨r', h1, h2⟩ => ⟨r', (hlow p (by rw [h1]; show 3 < 10; decide)).trans h1, h2⟩
  have hrq : ∀ p r, dRq (xD X) p r → dRq (dExt (xD X) E (dC (xD X)) (dZ (xD X))) p r := fun p r ⟨r', h1, h2⟩ => ⟨r', (hlow p (by rw [h1]; show 2 < 10; decide)).trans h1, h2⟩
  have hen : ∀ p e, dE (xD X) p = (1, e) → E p = (1, e) := fun p e h1 => (hlow p (by rw [h1]; show 1 < 10; decide)).trans h1
  refine ⟨a1, a2, a3, a4, a5, a6, a7, fun o i ho hi => ?_, a9, fun o i ho hi => ?_, fun o i ho hi => ?_, fun o c ho hc => ?_, fun o ho => ?_, a14, ⟨(congrArg Prod.fst (hlow 0 (by rw [a15.1]; decide))).trans a15.1, fun p hp => ?_⟩⟩
  · obtain ⟨b1, b2, b3, b4, b5, b6, b7, b8, b9⟩ := a8 o i ho hi
    exact ⟨b1, b2, b3, b4, b5, b6, b7, b8, fun j e he => ⟨hen _ _ (b9 j e he).1, (b9 j e he).2⟩⟩
  · obtain ⟨b1, b2, b3⟩ := a10 o i ho hi
    exact ⟨b1, (congrArg Prod.fst (hlow (dA (xD X) o i) (by rw [b2]; decide))).trans b2, b3⟩
  · obtain ⟨p, b1, b2⟩ := a11 o i ho hi
    exact ⟨p, b1, hsn p _ b2⟩
  · refine ⟨(a12 o c ho hc).1, fun z => ?_⟩
    obtain ⟨q, b1, b2⟩ := (a12 o c ho hc).2 z
    exact ⟨q, b1, hrq q _ b2⟩
  · obtain ⟨b1, b2, b3, b4, b5, b6⟩ := a13 o ho
    refine ⟨b1, b2, b3, b4, fun q hq => ?_, b6⟩
    obtain ⟨c1, c2, c3, c4, c5, c6⟩ := b5 q hq
    refine ⟨c1, c2, c3, fun r hr => ?_, ⟨c5.1, c5.2.mv (fun _ => rfl) hen⟩, fun j e he => ?_⟩
    · obtain ⟨p, d1, d2⟩ := c4 r hr
      exact ⟨p, d1, hsn p r d2⟩
    · obtain ⟨p, d1, d2⟩ := c6 j e he
      exact ⟨p, d1, hen p e d2⟩
  · have hp' : (E p).1 ≠ 0 := hp
    rcases hE p with z | ⟨z1, z2, z3⟩
    · rw [z] at hp'
      obtain ⟨b1, b2, b3⟩ := a15.2 p hp'
      refine ⟨b1, b2, ?_⟩
      have eP : dE (xD (xSetD X (dExt (xD X) E (dC (xD X)) (dZ (xD X))))) p = dE (xD X) p := z
      obtain ⟨c1, c2, c3, c4, c5⟩ := b3
      refine ⟨fun y => ?_, fun y => ?_, fun y => ?_, fun y1 y2 => ?_, fun y => ?_⟩
      · rw [eP] at y ⊢
        obtain ⟨d1, d2, d3, d4⟩ := c1 y
        refine ⟨d1, d2, d3, ?_⟩
        rcases d4 with ⟨f1, f2, q, f3, f4⟩ | d4
        · exact Or.inl ⟨f1, f2, q, f3, hrq q _ f4⟩
        · exact Or.inr d4
      · rw [eP] at y ⊢; exact c2 y
      · rw [eP] at y ⊢
        obtain ⟨d1, d2, d3, d4, d5, d6, d7, d8, d9, d10, d11⟩ := c3 y
        exact ⟨d1, d2, d3, d4, d5, d6, d7, d8, d9, d10, fun k k1 k2 => (congrArg Prod.fst (hlow _ (by rw [d11 k k1 k2]; decide))).trans (d11 k k1 k2)⟩
      · rw [eP] at y1 y2 ⊢; exact c4 y1 y2
      · rw [eP] at y ⊢; exact c5 y
    · obtain ⟨b1, b2, b3⟩ := a15.2 p (by omega)
      exact ⟨b1, b2, z3⟩
/-- a cell begun, a cell made -/
def dNew (D : XD) (p ci z : Nat) : XD := dExt D (fun a => if a = p then (10 + ci, fun _ => 0) else dE D a) (dC D + 1) (dZ D + z)
def dMk (D : XD) (p t : Nat) (e : ENT) : XD := dExt D (fun a => if a = p then (t, e) else dE D a) (dC D) (dZ D)
section ATN
variable {m i pc ln r1 r2 r3 : Nat} {ls : PV} {st : List Value} {X : XS} {Q : PO → XS → Prop} {M : PMet}
theorem AT.new {n : Nat} (hM : qPT m = M) (hr : M.1[i]? = some (pc, .new n, ln, r1, r2, r3)) (h12 : r1 < 12) (k : ∀ p, (dE (xD X) p).1 = 0 → p ≠ 0 → AT m (i + 1) ls (.ref p :: st) (xSetD X (dNew (xD X) p r1 (pF r1))) Q) : AT m i ls st X Q := by
  intro g hg
  have h0 : (dE (xD X) (pN g)).1 = 0 := by
    rcases Nat.eq_zero_or_pos (dE (xD X) (pN g)).1 with z | z
    · exact z
    · have := (hg.2.2.2.2.2.2.2.2.2.2.2.2.2.2.2 (pN g) (by omega)).1
      omega
  refine PW.plain hM hr (by unfold pKind; dsimp only; rw [if_pos h12]) (q := (i + 1, ls, .ref (pN g) :: st, pNew g r1 0 (pF r1) (fun k => defaultValue (pT r1 k)))) ?_ (k (pN g) h0 (by have := hg.1.1; omega) _ (hg.new h12))
  show (if r1 < 12 then some (i + 1, ls, Value.ref (pN g) :: st, pNew g r1 0 (pF r1) (fun k => defaultValue (pT r1 k))) else none) = _
  rw [if_pos h12]
end ATN
/-- what is called on a cell that is being made -/
theorem xKd.new {X : XS} {p ci : Nat} (h : (dE (xD X) p).1 = 10 + ci) (hc : ci < 12) : xKd X p ci := fun g hg => by
  have := ((hg.2.2.2.2.2.2.2.2.2.2.2.2.2.2.2 p (by omega)).2.2.2.2.2.1 (by omega) (by omega))
  omega
theorem PW.pl {m i pc ln r1 r2 r3 nx : Nat} {ins : Instr} {ls ls' : PV} {st st' : List Value} {g g' : PS} {Q : PO → PS → Prop} {M : PMet} (hM : qPT m = M) (hr : M.1[i]? = some (pc, ins, ln, r1, r2, r3)) (hk : pKind ins r1 = 0) (hs : pStep ins (i + 1) r1 r2 ls st g = some (nx, ls', st', g')) (k : PW m nx ls' st' g' Q) : PW m i ls st g Q := PW.plain hM hr hk hs k
/-- Entry.<init> -/
theorem c_39 {X : XS} {p : Nat} {t kd mb : Int32} {vq : Value} {e : ENT} (hp : (dE (xD X) p).1 = 12) (he0 : e 0 = t) (he1 : e 1 = kd) (hq : (eRq e ∧ mb = 0 ∧ ∃ q, vq = .ref q ∧ dRq (xD X) q e) ∨ (¬ eRq e ∧ vq = .null ∧ mb = e 6 ∧ e 2 = -1 ∧ e 3 = 0 ∧ e 4 = 0 ∧ e 5 = 0)) :
    RT 39 [some (.ref p), some (.int t), some (.int kd), some vq, some (.int mb)] X none (xSetD X (dMk (xD X) p 1 e)) := by
  intro g hg
  have hk : ∀ g', pK g' = pK g → pK g' p = 2 := fun g' e => by rw [e]; exact xKd.new (ci := 2) hp (by decide) g hg
  have ht : 10 ≤ (dE (xD X) p).1 ∧ (dE (xD X) p).1 < 100 := by omega
  have hv : ∀ (nx : Nat) (st : List Value) (g : PS), pLdA 3 nx [some (.ref p), some (.int t), some (.int kd), some vq, some (.int mb)] st g = some (nx, [some (.ref p), some (.int t), some (.int kd), some vq, some (.int mb)], vq :: st, g) := fun nx st g => by rcases hq with ⟨-, -, q, rfl, -⟩ | ⟨-, rfl, -⟩ <;> rfl
  have hf : fits (pT 2 2) vq = true := by rcases hq with ⟨-, -, q, rfl, -⟩ | ⟨-, rfl, -⟩ <;> rfl
  refine PW.pl M_39 rfl rfl rfl ?_
  refine PW.obj M_39 rfl rfl (Or.inl (Nat.zero_le _)) ?_
  refine PW.pl M_39 rfl rfl rfl ?_
  refine PW.pl M_39 rfl rfl rfl ?_
  refine PW.pl M_39 rfl rfl (if_pos ⟨hk g rfl, by decide, rfl⟩) ?_
  refine PW.pl M_39 rfl rfl rfl ?_
  refine PW.pl M_39 rfl rfl rfl ?_
  refine PW.pl M_39 rfl rfl (if_pos ⟨hk _ rfl, by decide, rfl⟩) ?_
  refine PW.pl M_39 rfl rfl rfl ?_
  refine PW.pl M_39 rfl rfl (hv _ _ _) ?_
  refine PW.pl M_39 rfl rfl (if_pos ⟨hk _ rfl, by decide, hf⟩) ?_
  refine PW.pl M_39 rfl rfl rfl ?_
  refine PW.pl M_39 rfl rfl rfl ?_
  refine PW.pl M_39 rfl rfl (if_pos ⟨hk _ rfl, by decide, rfl⟩) ?_
  refine PW.ret M_39 rfl rfl (v := none) rfl ⟨_, ?_, rfl, rfl⟩
  have hg4 : Rep X (pPut (pPut (pPut (pPut g p 0 (.int t)) p 1 (.int kd)) p 2 vq) p 3 (.int mb)) := (((hg.pput ht).pput ht).pput ht).pput ht
  refine hg4.setE (fun a => ?_)
  by_cases ea : a = p
  · subst ea
    refine Or.inr ⟨by omega, by rw [if_pos rfl]; show (1 : Nat) ≠ 0; decide, ?_⟩
    have eE : dE (dExt (xD X) (fun x => if x = a then (1, e) else dE (xD X) x) (dC (xD X)) (dZ (xD X))) a = (1, e) := if_pos rfl
    have n0 : ∀ (h : PS) (j k : Nat) (v w : Value), j ≠ k → pM h a k = w → pM (pPut h a j v) a k = w := fun h j k v w hjk hw => (if_neg (fun z => hjk z.2.symm)).trans hw
    have n1 : ∀ (h : PS) (j : Nat) (v : Value), pM (pPut h a j v) a j = v := fun h j v => if_pos ⟨rfl, rfl⟩
    unfold oOk
    rw [eE]
    refine ⟨fun _ => ⟨hk _ rfl, ?_, ?_, ?_⟩, fun z => absurd (show (1 : Nat) = 2 from z) (by decide), fun z => absurd (show (1 : Nat) = 3 from z) (by decide), fun z => absurd (show 10 ≤ 1 from z) (by decide), fun z => absurd (show 100 ≤ 1 from z) (by decide)⟩
    · dsimp only
      rw [he0]
      exact n0 _ _ _ _ _ (by decide) (n0 _ _ _ _ _ (by decide) (n0 _ _ _ _ _ (by decide) (n1 _ _ _)))
    · dsimp only
      rw [he1]
      exact n0 _ _ _ _ _ (by decide) (n0 _ _ _ _ _ (by decide) (n1 _ _ _))
    · rcases hq with ⟨f1, f2, q, f3, f4⟩ | ⟨f1, f2, f3, f4⟩
      · refine Or.inl ⟨f1, by rw [f2]; exact n1 _ _ _, q, by rw [f3]; exact n0 _ _ _ _ _ (by decide) (n1 _ _ _), ?_⟩
        obtain ⟨r', h1, h2⟩ := f4
        refine ⟨r', ?_, h2⟩
        show (if q = a then (1, e) else dE (xD X) q) = _
        rw [if_neg (fun z => by rw [z] at h1; rw [h1] at hp; exact absurd (show (2 : Nat) = 12 from hp) (by decide))]
        exact h1
      · exact Or.inr ⟨f1, by rw [f2]; exact n0 _ _ _ _ _ (by decide) (n1 _ _ _), by rw [f3]; exact n1 _ _ _, f4⟩
  · exact Or.inl (if_neg ea)
/-- Request.<init> -/
theorem c_55 {X : XS} {p : Nat} {r : ENT} (hp : (dE (xD X) p).1 = 15) :
    RT 55 [some (.ref p), some (.int (r 2)), some (.int (r 3)), some (.int (r 1)), some (.int (r 4)), some (.int (r 6)), some (.int (r 5))] X none (xSetD X (dMk (xD X) p 2 r)) := by
  intro g hg
  have hk : ∀ g', pK g' = pK g → pK g' p = 5 := fun g' e => by rw [e]; exact xKd.new (ci := 5) hp (by decide) g hg
  have ht : 10 ≤ (dE (xD X) p).1 ∧ (dE (xD X) p).1 < 100 := by omega
  refine PW.pl M_55 rfl rfl rfl ?_
  refine PW.obj M_55 rfl rfl (Or.inl (Nat.zero_le _)) ?_
  refine PW.pl M_55 rfl rfl rfl ?_
  refine PW.pl M_55 rfl rfl rfl ?_
  refine PW.pl M_55 rfl rfl (if_pos ⟨hk g rfl, by decide, rfl⟩) ?_
  refine PW.pl M_55 rfl rfl rfl ?_
  refine PW.pl M_55 rfl rfl rfl ?_
  refine PW.pl M_55 rfl rfl (if_pos ⟨hk _ rfl, by decide, rfl⟩) ?_
  refine PW.pl M_55 rfl rfl rfl ?_
  refine PW.pl M_55 rfl rfl rfl ?_
  refine PW.pl M_55 rfl rfl (if_pos ⟨hk _ rfl, by decide, rfl⟩) ?_
  refine PW.pl M_55 rfl rfl rfl ?_
  refine PW.pl M_55 rfl rfl rfl ?_
  refine PW.pl M_55 rfl rfl (if_pos ⟨hk _ rfl, by decide, rfl⟩) ?_
  refine PW.pl M_55 rfl rfl rfl ?_
  refine PW.pl M_55 rfl rfl rfl ?_
  refine PW.pl M_55 rfl rfl (if_pos ⟨hk _ rfl, by decide, rfl⟩) ?_
  refine PW.pl M_55 rfl rfl rfl ?_
  refine PW.pl M_55 rfl rfl rfl ?_
  refine PW.pl M_55 rfl rfl (if_pos ⟨hk _ rfl, by decide, rfl⟩) ?_
  refine PW.ret M_55 rfl rfl (v := none) rfl ⟨_, ?_, rfl, rfl⟩
  have hg4 : Rep X (pPut (pPut (pPut (pPut (pPut (pPut g p 0 (.int (r 2))) p 1 (.int (r 3))) p 2 (.int (r 1))) p 3 (.int (r 4))) p 4 (.int (r 6))) p 5 (.int (r 5))) := (((((hg.pput ht).pput ht).pput ht).pput ht).pput ht).pput ht
  refine hg4.setE (fun a => ?_)
  by_cases ea : a = p
  · subst ea
    refine Or.inr ⟨by omega, by rw [if_pos rfl]; show (2 : Nat) ≠ 0; decide, ?_⟩
    have eE : dE (dExt (xD X) (fun x => if x = a then (2, r) else dE (xD X) x) (dC (xD X)) (dZ (xD X))) a = (2, r) := if_pos rfl
    have n0 : ∀ (h : PS) (j k : Nat) (v w : Value), j ≠ k → pM h a k = w → pM (pPut h a j v) a k = w := fun h j k v w hjk hw => (if_neg (fun z => hjk z.2.symm)).trans hw
    have n1 : ∀ (h : PS) (j : Nat) (v : Value), pM (pPut h a j v) a j = v := fun h j v => if_pos ⟨rfl, rfl⟩
    unfold oOk
    rw [eE]
    refine ⟨fun z => absurd (show (2 : Nat) = 1 from z) (by decide), fun _ => ⟨hk _ rfl, ?_, ?_, ?_, ?_, ?_, ?_⟩, fun z => absurd (show (2 : Nat) = 3 from z) (by decide), fun z => absurd (show 10 ≤ 2 from z) (by decide), fun z => absurd (show 100 ≤ 2 from z) (by decide)⟩
    · exact n0 _ _ _ _ _ (by decide) (n0 _ _ _ _ _ (by decide) (n0 _ _ _ _ _ (by decide) (n0 _ _ _ _ _ (by decide) (n0 _ _ _ _ _ (by decide) (n1 _ _ _)))))
    · exact n0 _ _ _ _ _ (by decide) (n0 _ _ _ _ _ (by decide) (n0 _ _ _ _ _ (by decide) (n0 _ _ _ _ _ (by decide) (n1 _ _ _))))
    · exact n0 _ _ _ _ _ (by decide) (n0 _ _ _ _ _ (by decide) (n0 _ _ _ _ _ (by decide) (n1 _ _ _)))
    · exact n0 _ _ _ _ _ (by decide) (n0 _ _ _ _ _ (by decide) (n1 _ _ _))
    · exact n0 _ _ _ _ _ (by decide) (n1 _ _ _)
    · exact n1 _ _ _
  · exact Or.inl (if_neg ea)
