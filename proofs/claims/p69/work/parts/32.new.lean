/-! ===== WHAT IS MADE ===== -/
def dExt (D : XD) (E : Nat → Nat × ENT) (c z : Nat) : XD := (E, D.2.1, D.2.2.1, D.2.2.2.1, D.2.2.2.2.1, D.2.2.2.2.2.1, D.2.2.2.2.2.2.1, c, z)
theorem shp_lt {a kd ln : Nat} (h : shp a kd ln) : a < 388 := by
  rcases h with ⟨o, ho, h⟩ | ⟨o, h1, h2, h⟩ | h | h | h
  · unfold shpC at h
    dsimp only [aB, aM, aS, aC] at h
    rcases h with h | h | h | h | h | h | ⟨q, hq, h⟩ | ⟨q, hq, h⟩ | ⟨q, hq, h⟩ <;> omega
  · unfold shpR at h
    dsimp only [bB] at h
    omega
  · omega
  · omega
  · omega
/-- cells are added -/
theorem Rep.ext {X : XS} {g g' : PS} {E : Nat → Nat × ENT} {c z : Nat} (h : Rep X g) (hK : ∀ a, a < pN g → pK g' a = pK g a ∧ pL g' a = pL g a ∧ ∀ k, pM g' a k = pM g a k) (hN : pN g ≤ pN g') (hC : pC g' ≤ c) (hZ : pZ g' ≤ z ∧ pN g' = c + 1)
    (hE : ∀ a, a < pN g → E a = dE (xD X) a) (hE' : ∀ a, pN g ≤ a → (E a).1 ≠ 0 → a < pN g' ∧ oOk (dExt (xD X) E c z) g' a) : Rep (xSetD X (dExt (xD X) E c z)) g' := by
  obtain ⟨a1, a2, a3, a4, a5, a6, a7, a8, a9, a10, a11, a12, a13, a14, a15⟩ := h
  have hlo : ∀ a k, a < 388 → pM g' a k = pM g a k := fun a k ha => (hK a (by have := a1.1; omega)).2.2 k
  have hsn : ∀ p r, dSn (xD X) p r → dSn (dExt (xD X) E c z) p r := fun p r ⟨r', h1, h2⟩ => ⟨r', by
    show E p = _
    rw [hE p (a15.2 p (by rw [h1]; show (3 : Nat) ≠ 0; decide)).1, h1], h2⟩
  have hrq : ∀ p r, dRq (xD X) p r → dRq (dExt (xD X) E c z) p r := fun p r ⟨r', h1, h2⟩ => ⟨r', by
    show E p = _
    rw [hE p (a15.2 p (by rw [h1]; show (2 : Nat) ≠ 0; decide)).1, h1], h2⟩
  have hen : ∀ p e, dE (xD X) p = (1, e) → E p = (1, e) := fun p e h1 => by
    rw [hE p (a15.2 p (by rw [h1]; show (1 : Nat) ≠ 0; decide)).1, h1]
  refine ⟨⟨by have := a1.1; omega, hC, hZ⟩, fun a kd ln hs => ?_, fun o f i j a k hl => ?_, fun a k b hs => ?_, ?_, ⟨fun o ho => ⟨?_, fun i hi => ⟨?_, ?_⟩⟩, fun o h1 h2 => ⟨?_, fun i hi => ?_⟩⟩, a7, fun o i ho hi => ?_, fun o i h1 h2 hi => ?_, fun o i ho hi => ?_, fun o i ho hi => ?_, fun o c' ho hc => ?_, fun o ho => ?_, a14, ⟨?_, fun p hp => ?_⟩⟩
  · have h1 := hK a (by have := shp_lt hs; have := a1.1; omega)
    rw [h1.1, h1.2.1]
    exact a2 a kd ln hs
  · exact (hlo a k (loc_stat hl).1.1).trans (a3 o f i j a k hl)
  · exact (hlo a k (by have := (srf_lo hs).1; omega)).trans (a4 a k b hs)
  · obtain ⟨b1, b2, b3, b4, b5, b6⟩ := a5
    have h0 := hK 0 (by have := a1.1; omega)
    exact ⟨(hlo _ _ (by omega)).trans b1, (hlo _ _ (by omega)).trans b2, (hlo _ _ (by omega)).trans b3, h0.1.trans b4, h0.2.1.trans b5, fun k hk => (h0.2.2 k).trans (b6 k hk)⟩
  · exact (hlo _ _ (by dsimp only [aB]; omega)).trans (a6.1 o ho).1
  · exact (hlo _ _ (by dsimp only [aS]; omega)).trans ((a6.1 o ho).2 i hi).1
  · exact (hlo _ _ (by dsimp only [aS]; omega)).trans ((a6.1 o ho).2 i hi).2
  · exact (hlo _ _ (by dsimp only [bB]; omega)).trans (a6.2 o h1 h2).1
  · exact (hlo _ _ (by dsimp only [bB]; omega)).trans ((a6.2 o h1 h2).2 i hi)
  · obtain ⟨b1, b2, b3, b4, b5, b6, b7, b8, b9⟩ := a8 o i ho hi
    have hL := hK _ (a10 o i (by omega) hi).1
    exact ⟨(hlo _ _ (by dsimp only [aS]; omega)).trans b1, hL.1.trans b2, hL.2.1.trans b3, b4, b5, b6, b7, fun j h1 h2 => (hL.2.2 j).trans (b8 j h1 h2), fun j e he => ⟨hen _ _ (b9 j e he).1, (b9 j e he).2⟩⟩
  · obtain ⟨b1, b2, b3, b4, b5, b6, b7⟩ := a9 o i h1 h2 hi
    have hL := hK _ (a10 o i h2 hi).1
    exact ⟨(hlo _ _ (by dsimp only [bB]; omega)).trans b1, hL.1.trans b2, hL.2.1.trans b3, b4, b5, fun k hk => (hL.2.2 k).trans (b6 k hk), b7⟩
  · obtain ⟨b1, b2, b3⟩ := a10 o i ho hi
    exact ⟨Nat.lt_of_lt_of_le b1 hN, (congrArg Prod.fst (hE _ b1)).trans b2, b3⟩
  · obtain ⟨p, b1, b2⟩ := a11 o i ho hi
    exact ⟨p, (hlo _ _ (by dsimp only [aS]; omega)).trans b1, hsn p _ b2⟩
  · have e1 := hlo (aC o c') 0 (by dsimp only [aC]; omega)
    refine ⟨fun z => e1.trans ((a12 o c' ho hc).1 z), fun z => ?_⟩
    obtain ⟨q, b1, b2⟩ := (a12 o c' ho hc).2 z
    exact ⟨q, e1.trans b1, hrq q _ b2⟩
  · obtain ⟨b1, b2, b3, b4, b5, b6⟩ := a13 o ho
    refine ⟨(hlo _ _ (by dsimp only [aB]; omega)).trans b1, fun j hj => (hlo _ _ (by dsimp only [aB]; omega)).trans (b2 j hj), b3, b4, fun q hq => ?_, b6⟩
    obtain ⟨c1, c2, c3, c4, c5, c6⟩ := b5 q hq
    have m1 : ∀ k, pM g' (aM o q) k = pM g (aM o q) k := fun k => hlo _ _ (by dsimp only [aM]; omega)
    have m2 : ∀ k, pM g' (aM o q + 1) k = pM g (aM o q + 1) k := fun k => hlo _ _ (by dsimp only [aM]; omega)
    refine ⟨fun k k1 k2 => (m1 k).trans (c1 k k1 k2), c2, fun y => (m1 10).trans (c3 y), fun r hr => ?_, ⟨c5.1, c5.2.mv m2 hen⟩, fun j e he => ?_⟩
    · obtain ⟨p, d1, d2⟩ := c4 r hr
      exact ⟨p, (m1 10).trans d1, hsn p r d2⟩
    · obtain ⟨p, d1, d2⟩ := c6 j e he
      exact ⟨p, (m2 j).trans d1, hen p e d2⟩
  · show (E 0).1 = 0
    rw [hE 0 (by have := a1.1; omega)]; exact a15.1
  · rcases Nat.lt_or_ge p (pN g) with hlt | hge
    · have hp' : (dE (xD X) p).1 ≠ 0 := by rw [← hE p hlt]; exact hp
      obtain ⟨b1, b2, b3⟩ := a15.2 p hp'
      refine ⟨Nat.lt_of_lt_of_le b1 hN, b2, ?_⟩
      have eP : dE (dExt (xD X) E c z) p = dE (xD X) p := hE p hlt
      have hk := hK p hlt
      obtain ⟨c1, c2, c3, c4, c5⟩ := b3
      refine ⟨fun y => ?_, fun y => ?_, fun y => ?_, fun y1 y2 => ?_, fun y => ?_⟩
      · rw [show dE (xD (xSetD X (dExt (xD X) E c z))) p = dE (xD X) p from eP] at y ⊢
        obtain ⟨d1, d2, d3, d4⟩ := c1 y
        refine ⟨hk.1.trans d1, (hk.2.2 _).trans d2, (hk.2.2 _).trans d3, ?_⟩
        rcases d4 with ⟨f1, f2, q, f3, f4⟩ | ⟨f1, f2, f3, f4⟩
        · exact Or.inl ⟨f1, (hk.2.2 _).trans f2, q, (hk.2.2 _).trans f3, hrq q _ f4⟩
        · exact Or.inr ⟨f1, (hk.2.2 _).trans f2, (hk.2.2 _).trans f3, f4⟩
      · rw [show dE (xD (xSetD X (dExt (xD X) E c z))) p = dE (xD X) p from eP] at y ⊢
        obtain ⟨d1, d2, d3, d4, d5, d6, d7⟩ := c2 y
        exact ⟨hk.1.trans d1, (hk.2.2 _).trans d2, (hk.2.2 _).trans d3, (hk.2.2 _).trans d4, (hk.2.2 _).trans d5, (hk.2.2 _).trans d6, (hk.2.2 _).trans d7⟩
      · rw [show dE (xD (xSetD X (dExt (xD X) E c z))) p = dE (xD X) p from eP] at y ⊢
        obtain ⟨d1, d2, d3, d4, d5, d6, d7, d8, d9, d10, d11⟩ := c3 y
        have hq : ∀ k, 1 ≤ k → k ≤ 4 → p + k < pN g := fun k k1 k2 => (a15.2 (p + k) (by rw [d11 k k1 k2]; decide)).1
        have q1 := hK (p + 1) (hq 1 (by omega) (by omega))
        have q2 := hK (p + 2) (hq 2 (by omega) (by omega))
        have q3 := hK (p + 3) (hq 3 (by omega) (by omega))
        have q4 := hK (p + 4) (hq 4 (by omega) (by omega))
        refine ⟨hk.1.trans d1, fun k hk' => (hk.2.2 _).trans (d2 k hk'), (hk.2.2 _).trans d3, q1.1.trans d4, fun k hk' => ⟨(q1.2.2 _).trans (d5 k hk').1, ?_⟩, q2.2.1.trans d6, q3.2.1.trans d7, q4.2.1.trans d8, fun k hk' => (q2.2.2 _).trans (d9 k hk'), fun k hk' => ⟨(q3.2.2 _).trans (d10 k hk').1, (q4.2.2 _).trans (d10 k hk').2⟩, fun k k1 k2 => ?_⟩
        · rcases (show k = 0 ∨ k = 1 ∨ k = 2 by omega) with rfl | rfl | rfl
          · exact q2.1.trans (d5 0 (by omega)).2
          · exact q3.1.trans (d5 1 (by omega)).2
          · exact q4.1.trans (d5 2 (by omega)).2
        · show (E (p + k)).1 = 9
          rw [hE (p + k) (hq k k1 k2)]; exact d11 k k1 k2
      · rw [show dE (xD (xSetD X (dExt (xD X) E c z))) p = dE (xD X) p from eP] at y1 y2 ⊢
        exact hk.1.trans (c4 y1 y2)
      · rw [show dE (xD (xSetD X (dExt (xD X) E c z))) p = dE (xD X) p from eP] at y ⊢
        obtain ⟨d1, d2, d3⟩ := c5 y
        exact ⟨hk.1.trans d1, hk.2.1.trans d2, fun k hk' => (hk.2.2 _).trans (d3 k hk')⟩
    · obtain ⟨b1, b2⟩ := hE' p hge hp
      refine ⟨b1, ?_, b2⟩
      unfold stat
      have := a1.1
      omega
/-- an exception is made -/
theorem Rep.thr {X : XS} {g : PS} (h : Rep X g) : Rep (xSetD X (dExt (xD X) (dE (xD X)) (dC (xD X) + 1) (dZ (xD X) + 6))) (pThr g) := by
  refine h.ext (fun a ha => ⟨?_, rfl, fun _ => rfl⟩) (Nat.le_succ _) (by show pC g + 1 ≤ _; have := h.1.2.1; omega) (by have h2 := h.1.2.2; exact ⟨Nat.add_le_add_right h2.1 6, congrArg (· + 1) h2.2⟩) (fun _ _ => rfl) (fun a ha hz => absurd (h.2.2.2.2.2.2.2.2.2.2.2.2.2.2.2 a hz).1 (by omega))
  show (if a = pN g then 99 else pK g a) = _
  rw [if_neg (by omega)]
def xThr (X : XS) : XS := xSetD X (dExt (xD X) (dE (xD X)) (dC (xD X) + 1) (dZ (xD X) + 6))
theorem AT.thr {m i pc ln r1 r2 r3 : Nat} {ins : Instr} {ls : PV} {st : List Value} {X : XS} {Q : PO → XS → Prop} {M : PMet} (hM : qPT m = M) (hr : M.1[i]? = some (pc, ins, ln, r1, r2, r3)) (hk : pKind ins r1 = 3) (hs : st.length ≤ 4) (hh : M.2.2.2.1.isEmpty = true) (k : Q (.inr (r1 - 100)) (xThr X)) : AT m i ls st X Q :=
  fun g hg => PW.thr hM hr hk (Or.inl hs) hh ⟨_, hg.thr, k⟩
/-- a cell that is being made -/
theorem Rep.new {X : XS} {g : PS} {kd ln z : Nat} {row : Nat → Value} (h : Rep X g) (hkd : kd < 12) : Rep (xSetD X (dExt (xD X) (fun a => if a = pN g then (10 + kd, fun _ => 0) else dE (xD X) a) (dC (xD X) + 1) (dZ (xD X) + z))) (pNew g kd ln z row) := by
  refine h.ext (fun a ha => ⟨?_, ?_, fun k => ?_⟩) (Nat.le_succ _) (by show pC g + 1 ≤ _; have := h.1.2.1; omega) (by have h2 := h.1.2.2; exact ⟨Nat.add_le_add_right h2.1 z, congrArg (· + 1) h2.2⟩) (fun a ha => if_neg (by omega)) (fun a ha hz => ?_)
  · rw [pK_new, if_neg (by omega)]
  · rw [pL_new, if_neg (by omega)]
  · rw [pM_new, if_neg (by omega)]
  · by_cases e : a = pN g
    · subst e
      refine ⟨by rw [pN_new]; omega, ?_⟩
      have eE : dE (dExt (xD X) (fun a => if a = pN g then (10 + kd, fun _ => 0) else dE (xD X) a) (dC (xD X) + 1) (dZ (xD X) + z)) (pN g) = (10 + kd, fun _ => 0) := if_pos rfl
      refine ⟨fun y => ?_, fun y => ?_, fun y => ?_, fun y1 y2 => ?_, fun y => ?_⟩
      · rw [eE] at y; dsimp only at y; omega
      · rw [eE] at y; dsimp only at y; omega
      · rw [eE] at y; dsimp only at y; omega
      · rw [eE, pK_new, if_pos rfl]; dsimp only; omega
      · rw [eE] at y; dsimp only at y; omega
    · have hz2 : (dE (xD X) a).1 ≠ 0 := by
        rw [if_neg e] at hz
        exact hz
      have := (h.2.2.2.2.2.2.2.2.2.2.2.2.2.2.2 a hz2).1
      omega
