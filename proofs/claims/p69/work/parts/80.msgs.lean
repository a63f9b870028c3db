/-! ===== ENTRIES, SNAPSHOTS, ANSWERS: what they do ===== -/
/-- the message in hand: where it lies, what it is -/
def hnd (Y : XS) (o a : Nat) (w : MSG) : Prop := aHand Y o = a ∧ uHand Y o = w ∧ dInj (xD Y) o
theorem hnd.mv {Y Y' : XS} {o a : Nat} {w : MSG} (h : hnd Y o a w) (k : dHnd o (xD Y) (xD Y')) : hnd Y' o a w := by
  obtain ⟨h1, h2, h3⟩ := h
  refine ⟨?_, ?_, k.inj h3⟩
  · rw [← h1]; show aM o (dP (xD Y') o 60) = aM o (dP (xD Y) o 60); rw [k.1]
  · rw [← h2]; show dH (xD Y') o (dP (xD Y') o 60) = _; rw [k.1]; exact k.2 h3
theorem hnd.ms {Y : XS} {o a : Nat} {w : MSG} (h : hnd Y o a w) (ho : o < 2) : xMs Y a w := by
  have := xMs.hand (X := Y) ho
  rw [show aM o (dP (xD Y) o 60) = a from h.1, show dH (xD Y) o (dP (xD Y) o 60) = w from h.2.1] at this
  exact this
theorem hnd.setK {Y : XS} {o a : Nat} {w : MSG} (h : hnd Y o a w) (K : KK) : hnd (xSetK Y o K) o a w := h
theorem hnd.of {X : XS} {g : PS} (h : Rep X g) {o : Nat} (ho : o < 2) : hnd X o (aHand X o) (uHand X o) := ⟨rfl, rfl, h.inj ho⟩
/-- members are looked up anew -/
theorem cRel.mem {o n s : Nat} {X : XS} {D : XD} {K1 K2 : KK} (h : mPr X o) (d1 : dR D = dR (xD X)) (d2 : dV D = dV (xD X)) (d3 : dZ D = dZ (xD X)) (d4 : dC D = dC (xD X)) (d5 : dP D = dP (xD X)) (d6 : dH D = dH (xD X))
    (hK : ∀ i, i < 7 → ¬ i = s → sSame (xK X o) K1 i) (hK2 : ∀ i, i < 7 → sSame K1 K2 i) : cRel o n 0 0 X (xSetK (xSetD X (dMem D o s K1)) o K2) K2 := by
  refine ⟨⟨rfl, fun a => rfl, ⟨fun a b _ => ?_, fun a f i j z => ?_, ?_, ?_, fun b _ => ?_⟩, fun i hi => ?_⟩, ?_, fun _ => ?_⟩
  · show dR D a b = _; rw [d1]
  · show (if _ then _ else if _ then _ else dV D a f i j) = _
    rw [if_neg (fun y => z ⟨y.1, Or.inr y.2.1⟩), if_neg (fun y => z ⟨y.1, Or.inl y.2.1⟩), d2]
  · show dZ D + _ ≤ dZ (xD X) + 2 * rTot D o + 0
    unfold rTot
    rw [d1, d3]; omega
  · show 64 * dC D + _ ≤ 64 * dC (xD X) + rTot D o + 64 * 0
    unfold rTot
    rw [d1, d4]; omega
  · show dR (xD X) o b ≤ dR D o b ∧ (dR D o b ≤ _ ∨ _)
    rw [d1]
    exact ⟨Nat.le_refl _, Or.inl (Nat.le_refl _)⟩
  · rw [xK_same, (hK2 i hi).mem, (hK2 i hi).mix]
    by_cases e : i = s
    · subst e
      refine ⟨?_, ?_⟩
      · show (if _ then _ else if _ then _ else _) = _
        rw [if_neg (by omega), if_pos ⟨rfl, rfl, rfl, rfl⟩]
      · show (if _ then _ else _) = _
        rw [if_pos ⟨rfl, rfl, rfl, rfl⟩]
    · rw [(hK i hi e).mem, (hK i hi e).mix, ← (h i hi).1, ← (h i hi).2]
      refine ⟨?_, ?_⟩
      · show (if _ then _ else if _ then _ else dV D _ _ _ _) = _
        rw [if_neg (fun z => e z.2.2.1), if_neg (fun z => e z.2.2.1), d2]
      · show (if _ then _ else if _ then _ else dV D _ _ _ _) = _
        rw [if_neg (fun z => e z.2.2.1), if_neg (fun z => e z.2.2.1), d2]
  · show dP D = _; exact d5
  · show dH D _ _ = _; rw [d6]
/-- an entry that comes is accepted -/
def kAcc (K : KK) (s : Nat) (x : Int32) (e : ENT) : KK := if x ≤ K.1 18 s 0 ∨ sHas K s x (e 0) = true then K else kLog (kTrim K s x) s ((kTrim K s x).2.1 s ++ [e])
def kAccs (s : Nat) : KK → Int32 → List ENT → KK
  | K, _, [] => K
  | K, x, e :: t => kAccs s (kAcc K s x e) (x + 1) t
/-- what is committed isn't taken away -/
def kAccOk (s : Nat) : KK → Int32 → List ENT → Prop
  | _, _, [] => True
  | K, x, e :: t => (x ≤ K.1 18 s 0 ∨ sHas K s x (e 0) = true ∨ K.1 15 s 0 < x) ∧ kAccOk s (kAcc K s x e) (x + 1) t
theorem kTrim_1 (K : KK) (s : Nat) (x : Int32) : (kTrim K s x).1 = K.1 := by
  unfold kTrim; split <;> rfl
theorem kTrim_o {K : KK} {s i : Nat} (x : Int32) (h : ¬ i = s) : (kTrim K s x).2.1 i = K.2.1 i := by
  unfold kTrim; split
  · exact if_neg h
  · rfl
theorem kAcc_1 (K : KK) (s : Nat) (x : Int32) (e : ENT) : (kAcc K s x e).1 = K.1 := by
  unfold kAcc; split
  · rfl
  · exact kTrim_1 K s x
theorem kAcc_o {K : KK} {s i : Nat} (x : Int32) (e : ENT) (h : ¬ i = s) : (kAcc K s x e).2.1 i = K.2.1 i := by
  unfold kAcc; split
  · rfl
  · exact (if_neg h).trans (kTrim_o x h)
theorem rAcc.rel {o n s : Nat} {X Y : XS} {x : Int32} {e : ENT} {q : Nat} (hs : s < 7) (h : mPr X o) (h64 : 64 ≤ dR (xD X) o s) (hn : ((xK X o).2.1 s).length ≤ n) (hR : rAcc X o s x e q Y) : cRel o n 0 0 X Y (kAcc (xK X o) s x e) := by
  unfold rAcc at hR
  unfold kAcc
  by_cases c : x ≤ (xK X o).1 18 s 0 ∨ sHas (xK X o) s x (e 0) = true
  · rw [if_pos c] at hR
    subst hR
    rw [if_pos c]
    exact cRel.rf n h
  · rw [if_neg c] at hR
    rw [if_neg c]
    obtain ⟨D', h1, rfl⟩ := hR
    have hl := kTrim_len (xK X o) s x
    unfold dTrim at h1
    by_cases c2 : x ≤ sLast (xK X o) s
    · rw [if_pos c2] at h1
      have r1 : cRel o n 0 0 X (xSetK (xSetD X (dMem (xD X) o s (kTrim (xK X o) s x))) o (kTrim (xK X o) s x)) (kTrim (xK X o) s x) :=
        cRel.mem h rfl rfl rfl rfl rfl rfl (fun i _ hi => ⟨kTrim_o x hi, fun j _ => by rw [kTrim_1]⟩) (fun i _ => sSame.rf _ _)
      have r2 := cRel.app (n := n) (c := 0) (z := 0) (K := kTrim (xK X o) s x) (e := e) (q := q) hs r1.pr (fun i _ => by rw [xK_same]; exact sSame.rf _ _) h64 (by omega) (dRel.rf _ _ _) (dHnd.rf _ _) rfl ⟨D', h1, rfl⟩
      have e9 : xApp (xSetK (xSetD X (dMem (xD X) o s (kTrim (xK X o) s x))) o (kTrim (xK X o) s x)) D' o s (kTrim (xK X o) s x) e q = xApp X D' o s (kTrim (xK X o) s x) e q := by
        unfold xApp
        simp only [xK_same, xSetK_idem, xD_setK, xK_setD, xD_setD, xSetD_setK, xSetD_idem]
      rw [e9] at r2
      exact r1.tr r2
    · rw [if_neg c2] at h1
      have e9 : kTrim (xK X o) s x = xK X o := if_neg c2
      rw [e9] at h1 ⊢
      exact cRel.app (n := n) (c := 0) (z := 0) (K := xK X o) (e := e) (q := q) hs h (fun i _ => sSame.rf _ _) h64 hn (dRel.rf _ _ _) (dHnd.rf _ _) rfl ⟨D', h1, rfl⟩
/-- where an accepted entry lies -/
theorem kAcc_ok {K : KK} {s xn : Nat} {e : ENT} (h : sOk K s) (hx1 : xn ≤ kA K s + (K.2.1 s).length + 1) (hx2 : xn < 399990) (he : eOk e) (hc : Int32.ofNat xn ≤ K.1 18 s 0 ∨ sHas K s (Int32.ofNat xn) (e 0) = true ∨ K.1 15 s 0 < Int32.ofNat xn) :
    sOk (kAcc K s (Int32.ofNat xn) e) s ∧ xn ≤ kA K s + ((kAcc K s (Int32.ofNat xn) e).2.1 s).length ∧ ((kAcc K s (Int32.ofNat xn) e).2.1 s).length ≤ max (K.2.1 s).length (xn - kA K s) := by
  obtain ⟨h1, h2, h3, h4, h5, h6, h7⟩ := h
  have eL : sLast K s = Int32.ofNat (kA K s + (K.2.1 s).length) := sLast_of h1
  by_cases c : Int32.ofNat xn ≤ K.1 18 s 0 ∨ sHas K s (Int32.ofNat xn) (e 0) = true
  · have e1 : kAcc K s (Int32.ofNat xn) e = K := if_pos c
    rw [e1]
    refine ⟨⟨h1, h2, h3, h4, h5, h6, h7⟩, ?_, Nat.le_max_left _ _⟩
    rcases c with z | z
    · rw [h1, i32_le (by omega) (by omega)] at z; omega
    · unfold sHas at z
      cases hE : sEnt K s (Int32.ofNat xn) with
      | none => rw [hE] at z; cases z
      | some e' =>
        have := (sEnt_some hE ⟨_, h1, by omega⟩).2.1
        rw [eL, i32_le (by omega) (by omega)] at this
        exact this
  · have e1 : kAcc K s (Int32.ofNat xn) e = kLog (kTrim K s (Int32.ofNat xn)) s ((kTrim K s (Int32.ofNat xn)).2.1 s ++ [e]) := if_neg c
    have hlt : K.1 15 s 0 < Int32.ofNat xn := by
      rcases hc with z | z | z
      · exact absurd (Or.inl z) c
      · exact absurd (Or.inr z) c
      · exact z
    rw [h2, i32_lt (by omega) (by omega)] at hlt
    have e2 : (kTrim K s (Int32.ofNat xn)).2.1 s = (K.2.1 s).take (xn - kA K s - 1) := by
      unfold kTrim
      rw [eL]
      by_cases c2 : xn ≤ kA K s + (K.2.1 s).length
      · rw [if_pos (by rw [i32_le (by omega) (by omega)]; exact c2)]
        show (if s = s then _ else _) = _
        rw [if_pos rfl, h1]
        congr 1
        rw [show xn = kA K s + 1 + (xn - kA K s - 1) by omega, Int32.ofNat_add, Int32.ofNat_add, show (Int32.ofNat (kA K s) + Int32.ofNat 1 + Int32.ofNat (xn - kA K s - 1) - Int32.ofNat (kA K s) - 1 : Int32) = Int32.ofNat (xn - kA K s - 1) from i32_sub3 _ _, (i32_ix (by omega)).1]
        omega
      · rw [if_neg (by rw [i32_le (by omega) (by omega)]; exact c2), List.take_of_length_le (by omega)]
    have e3 : (kAcc K s (Int32.ofNat xn) e).2.1 s = (K.2.1 s).take (xn - kA K s - 1) ++ [e] := by
      rw [e1]; show (if s = s then _ else _) = _; rw [if_pos rfl, e2]
    have e4 : (kAcc K s (Int32.ofNat xn) e).1 = K.1 := kAcc_1 _ _ _ _
    have eA : kA (kAcc K s (Int32.ofNat xn) e) s = kA K s := by unfold kA; rw [e4]
    have eC : kC (kAcc K s (Int32.ofNat xn) e) s = kC K s := by unfold kC; rw [e4]
    have e5 : ((kAcc K s (Int32.ofNat xn) e).2.1 s).length = xn - kA K s := by
      rw [e3, List.length_append, List.length_singleton, List.length_take]; omega
    refine ⟨⟨by rw [e4, eA]; exact h1, by rw [e4, eC]; exact h2, by rw [eA, eC]; exact h3, by rw [eA, eC, e5]; omega, by rw [eA, e5]; omega, fun x hx => ?_, by rw [e4]; exact h7⟩, by rw [e5]; omega, by rw [e5]; exact Nat.le_max_right _ _⟩
    rw [e3] at hx
    rcases List.mem_append.mp hx with z | z
    · exact h6 x (List.mem_of_mem_take z)
    · rw [List.mem_singleton.mp z]; exact he
theorem kAcc_C (K : KK) (s : Nat) (x : Int32) (e : ENT) (i : Nat) : kA (kAcc K s x e) i = kA K i ∧ kC (kAcc K s x e) i = kC K i := by
  unfold kA kC; rw [kAcc_1]; exact ⟨rfl, rfl⟩
def kMin (x y : Int32) : Int32 := if y < x then y else x
def kCommTo (K : KK) (s : Nat) (x : Int32) : KK := kComm K s (kC K s) (x.toNatClampNeg - kC K s)
def kEntT (K : KK) (s : Nat) (w : MSG) : KK := kSend (kCommTo K s (kMin (w.1 8) (w.1 6 + w.1 9))) (mRep w 6 (K.1 5 s 0) 1 (w.1 6 + w.1 9))
def kOnEnt2 (K : KK) (s : Nat) (w : MSG) : KK := if w.1 6 ≤ K.1 18 s 0 ∨ sHas K s (w.1 6) (w.1 7) = true then kEntT (kAccs s K (w.1 6 + 1) w.2.2) s w else kSend K (mRep w 6 (K.1 5 s 0) 0 (sTry K s (w.1 6)))
def kOnEnt (K : KK) (s : Nat) (w : MSG) : KK := if w.1 4 < K.1 5 s 0 then kSend K (mRep w 6 (K.1 5 s 0) 0 0) else kOnEnt2 (kObey K s (w.1 2)) s w
def kInst (K : KK) (s : Nat) : Option ENT → KK
  | none => K
  | some r => if K.1 15 s 0 < r 0 then kTab (kSet (kCut K s (sCutN K s r) r) 15 s 0 (r 0)) s r else K
def kOnSnp (K : KK) (s : Nat) (w : MSG) : KK := if w.1 4 < K.1 5 s 0 then kSend K (mRep w 6 (K.1 5 s 0) 0 0) else kSend (kInst (kObey K s (w.1 2)) s w.2.1) (mRep w 6 (K.1 5 s 0) 1 (w.1 6))
def kMax (x y : Int32) : Int32 := if x < y then y else x
def kAns6 (K : KK) (s f : Nat) : KK := if K.1 12 s 0 = 3 ∧ K.1 2 s f ≤ sLast K s then kSend K (mLog K s f) else K
def kOnAns (K : KK) (s f : Nat) (w : MSG) : KK :=
  if K.1 12 s 0 = 3 ∧ w.1 4 = K.1 5 s 0 then
    (if w.1 5 = 0 then kSend (kSet K 2 s f (kMax (w.1 6) (K.1 3 s f) + 1)) (mLog (kSet K 2 s f (kMax (w.1 6) (K.1 3 s f) + 1)) s f)
     else kAns6 (kLk (kLearn K s f (w.1 6)) s) s f)
  else K
theorem sSame.obey (K : KK) (t : Nat) (l : Int32) (s : Nat) : sSame K (kObey K t l) s := ((sSame.set (by decide) s).tr (sSame.set (by decide) s)).tr (sSame.set (by decide) s)
theorem kObey_1 {K : KK} {t a b c : Nat} {l : Int32} (h : ¬ (b = t ∧ (a = 12 ∨ a = 13 ∨ a = 14))) : (kObey K t l).1 a b c = K.1 a b c := by
  unfold kObey
  rw [kSet_ne (by omega), kSet_ne (by omega), kSet_ne (by omega)]
theorem sSame.learn (K : KK) (t j : Nat) (x : Int32) (s : Nat) : sSame K (kLearn K t j x) s := by
  unfold kLearn
  split
  · exact sSame.rf _ _
  · exact (sSame.set (by decide) s).tr (sSame.set (by decide) s)
theorem kLearn_1 {K : KK} {t j a b c : Nat} {x : Int32} (h : ¬ (a = 2 ∨ a = 3)) : (kLearn K t j x).1 a b c = K.1 a b c := by
  unfold kLearn
  split
  · rfl
  · rw [kSet_ne (by omega), kSet_ne (by omega)]
