/-! ===== A MESSAGE IS TAKEN OUT ===== -/
def sgT (n j k : Nat) : Nat := if k = 60 then j else if k + 1 = n then 60 else if j ≤ k ∧ k + 1 < n then k + 1 else k
theorem sgT_lt {n j : Nat} (hn : n ≤ 60) (hj : j < n) : ∀ k, k < 61 → sgT n j k < 61 := fun k hk => by
  unfold sgT
  split
  · omega
  · split
    · omega
    · split <;> omega
theorem sgT_inj {n j : Nat} (hn : n ≤ 60) (hj : j < n) : ∀ k k', k < 61 → k' < 61 → sgT n j k = sgT n j k' → k = k' := fun k k' hk hk' h => by
  unfold sgT at h
  by_cases a1 : k = 60
  · rw [if_pos a1] at h
    by_cases b1 : k' = 60
    · omega
    rw [if_neg b1] at h
    by_cases b2 : k' + 1 = n
    · rw [if_pos b2] at h; omega
    rw [if_neg b2] at h
    by_cases b3 : j ≤ k' ∧ k' + 1 < n
    · rw [if_pos b3] at h; omega
    · rw [if_neg b3] at h; omega
  · rw [if_neg a1] at h
    by_cases a2 : k + 1 = n
    · rw [if_pos a2] at h
      by_cases b1 : k' = 60
      · rw [if_pos b1] at h; omega
      rw [if_neg b1] at h
      by_cases b2 : k' + 1 = n
      · omega
      rw [if_neg b2] at h
      by_cases b3 : j ≤ k' ∧ k' + 1 < n
      · rw [if_pos b3] at h; omega
      · rw [if_neg b3] at h; omega
    · rw [if_neg a2] at h
      by_cases a3 : j ≤ k ∧ k + 1 < n
      · rw [if_pos a3] at h
        by_cases b1 : k' = 60
        · rw [if_pos b1] at h; omega
        rw [if_neg b1] at h
        by_cases b2 : k' + 1 = n
        · rw [if_pos b2] at h; omega
        rw [if_neg b2] at h
        by_cases b3 : j ≤ k' ∧ k' + 1 < n
        · rw [if_pos b3] at h; omega
        · rw [if_neg b3] at h; omega
      · rw [if_neg a3] at h
        by_cases b1 : k' = 60
        · rw [if_pos b1] at h; omega
        rw [if_neg b1] at h
        by_cases b2 : k' + 1 = n
        · rw [if_pos b2] at h; omega
        rw [if_neg b2] at h
        by_cases b3 : j ≤ k' ∧ k' + 1 < n
        · rw [if_pos b3] at h; omega
        · rw [if_neg b3] at h; omega
/-- the row, shifted up to place i -/
def gTo (g : PS) (b j i : Nat) : PS := pSet g (fun a k => if a = b ∧ j ≤ k ∧ k + 1 < i then pM g a (k + 1) else pM g a k)
theorem gTo_0 (g : PS) (b j : Nat) : gTo g b j (j + 1) = g := by
  refine Prod.ext rfl (Prod.ext rfl (Prod.ext (funext fun a => funext fun k => ?_) rfl))
  exact if_neg (by omega)
theorem gTo_put (g : PS) (b j i : Nat) (hi : j < i) : pPut (gTo g b j i) b (i - 1) (pM g b i) = gTo g b j (i + 1) := by
  refine Prod.ext rfl (Prod.ext rfl (Prod.ext (funext fun a => funext fun k => ?_) rfl))
  show (if a = b ∧ k = i - 1 then pM g b i else if a = b ∧ j ≤ k ∧ k + 1 < i then pM g a (k + 1) else pM g a k) = if a = b ∧ j ≤ k ∧ k + 1 < i + 1 then pM g a (k + 1) else pM g a k
  by_cases ha : a = b
  · by_cases hk : k = i - 1
    · rw [if_pos ⟨ha, hk⟩, if_pos ⟨ha, by omega, by omega⟩, ha, show k + 1 = i by omega]
    · rw [if_neg (fun z => hk z.2)]
      by_cases h2 : j ≤ k ∧ k + 1 < i
      · rw [if_pos ⟨ha, h2.1, h2.2⟩, if_pos ⟨ha, h2.1, by omega⟩]
      · rw [if_neg (fun z => h2 z.2), if_neg (fun z => h2 ⟨z.2.1, by omega⟩)]
  · rw [if_neg (fun z => ha z.1), if_neg (fun z => ha z.1), if_neg (fun z => ha z.1)]
theorem i32_prd {i : Nat} (h : 0 < i) : Int32.ofNat i - 1 = Int32.ofNat (i - 1) := by
  obtain ⟨c, rfl⟩ : ∃ c, i = c + 1 := ⟨i - 1, by omega⟩
  rw [i32_sc, Nat.add_sub_cancel]
theorem l_54 {g : PS} {b n j : Nat} {y : Nat} (k4 : pK g b = 4) (k17 : pK g (b + 1) = 17) (l17 : pL g (b + 1) = 60) (m0 : pM g b 0 = .ref (b + 1)) (m3 : pM g b 3 = .int (Int32.ofNat n)) (hn : n ≤ 60) (hm : ∀ i, i < 60 → ∃ q, pM g (b + 1) i = .ref q ∧ pK g q = 3) {Q : PO → PS → Prop}
    (hQ : PW 54 25 [some (.ref b), some (.int (Int32.ofNat j)), some (.ref y), some (.int (Int32.ofNat n))] [] (gTo g (b + 1) j n) Q) : ∀ c i : Nat, i + c = n → j < i → PW 54 9 [some (.ref b), some (.int (Int32.ofNat j)), some (.ref y), some (.int (Int32.ofNat i))] [] (gTo g (b + 1) j i) Q := by
  have mb : ∀ i k, pM (gTo g (b + 1) j i) b k = pM g b k := fun i k => if_neg (fun z => by have := z.1; omega)
  have gf : ∀ (i n' nx f : Nat) (ls : PV) (st : List Value) (v : Value), f < 6 → pM g b f = v → pStep (.getfield n') nx 4 f ls (.ref b :: st) (gTo g (b + 1) j i) = some (nx, ls, v :: st, gTo g (b + 1) j i) := fun i n' nx f ls st v hf hv => by
    show (if pK g b = 4 ∧ f < pF 4 then some (nx, ls, pM (gTo g (b + 1) j i) b f :: st, _) else none) = _
    rw [if_pos ⟨k4, show f < 6 from hf⟩, mb, hv]
  intro c
  induction c with
  | zero =>
    intro i hi hj
    have e : i = n := by omega
    subst e
    refine PW.pl M_54 rfl rfl rfl ?_
    refine PW.pl M_54 rfl rfl rfl ?_
    refine PW.pl M_54 rfl rfl (gf _ _ _ _ _ _ _ (by decide) m3) ?_
    refine PW.pl M_54 rfl rfl (congrArg some (Prod.ext (if_pos (Int32.le_refl _)) rfl)) ?_
    exact hQ
  | succ c ih =>
    intro i hi hj
    obtain ⟨q, hq1, hq2⟩ := hm i (by omega)
    refine PW.pl M_54 rfl rfl rfl ?_
    refine PW.pl M_54 rfl rfl rfl ?_
    refine PW.pl M_54 rfl rfl (gf _ _ _ _ _ _ _ (by decide) m3) ?_
    refine PW.pl M_54 rfl rfl (congrArg some (Prod.ext (if_neg (by rw [i32_le (by omega) (by omega)]; omega)) rfl)) ?_
    refine PW.pl M_54 rfl rfl rfl ?_
    refine PW.pl M_54 rfl rfl (gf _ _ _ _ _ _ _ (by decide) m0) ?_
    refine PW.pl M_54 rfl rfl rfl ?_
    refine PW.pl M_54 rfl rfl rfl ?_
    refine PW.pl M_54 rfl rfl (st' := [.int (Int32.ofNat i - 1), .ref (b + 1)]) (g' := gTo g (b + 1) j i) rfl ?_
    refine PW.pl M_54 rfl rfl rfl ?_
    refine PW.pl M_54 rfl rfl (gf _ _ _ _ _ _ _ (by decide) m0) ?_
    refine PW.pl M_54 rfl rfl rfl ?_
    refine PW.pl M_54 rfl rfl (st' := [.ref q, .int (Int32.ofNat i - 1), .ref (b + 1)]) (g' := gTo g (b + 1) j i) (ls' := [some (.ref b), some (.int (Int32.ofNat j)), some (.ref y), some (.int (Int32.ofNat i))]) (nx := 22) ?_ ?_
    · show (if 15 ≤ pK g (b + 1) ∧ pK g (b + 1) ≤ 19 ∧ ¬ (Int32.ofNat i < 0 ∨ pL g (b + 1) ≤ (Int32.ofNat i).toNatClampNeg) then some (22, _, pM (gTo g (b + 1) j i) (b + 1) (Int32.ofNat i).toNatClampNeg :: _, _) else none) = _
      rw [k17, l17, if_pos ⟨by decide, by decide, i32_in (by omega) (by omega)⟩, (i32_ix (by omega)).1]
      have e2 : pM (gTo g (b + 1) j i) (b + 1) i = .ref q := (if_neg (by omega)).trans hq1
      rw [e2]
    refine PW.pl M_54 rfl rfl (st' := []) (g' := gTo g (b + 1) j (i + 1)) (ls' := [some (.ref b), some (.int (Int32.ofNat j)), some (.ref y), some (.int (Int32.ofNat i))]) (nx := 23) ?_ ?_
    · show (if 15 ≤ pK g (b + 1) ∧ pK g (b + 1) ≤ 19 ∧ pK g q = pE (pK g (b + 1)) ∧ ¬ (Int32.ofNat i - 1 < 0 ∨ pL g (b + 1) ≤ (Int32.ofNat i - 1).toNatClampNeg) then some (23, _, _, pPut (gTo g (b + 1) j i) (b + 1) (Int32.ofNat i - 1).toNatClampNeg (.ref q)) else none) = _
      rw [i32_prd (by omega), k17, l17, hq2, if_pos ⟨by decide, by decide, rfl, i32_in (by omega) (by omega)⟩, (i32_ix (by omega)).1, ← hq1, gTo_put _ _ _ _ hj]
    refine PW.pl M_54 rfl rfl (st' := []) (g' := gTo g (b + 1) j (i + 1)) (ls' := [some (.ref b), some (.int (Int32.ofNat j)), some (.ref y), some (.int (Int32.ofNat (i + 1)))]) (nx := 24) ?_ ?_
    · show pSt1 3 (.int (Int32.ofNat i + Int32.ofInt 1)) 24 _ _ _ = _
      rw [i32_succ]
      rfl
    refine PW.pl M_54 rfl rfl rfl ?_
    exact ih (i + 1) (by omega) (by omega)
theorem c_54 {X : XS} {o j : Nat} (ho : o < 2) (hj : j < (xK X o).2.2.length) : RT 54 [some (.ref (aB o + 3)), some (.int (Int32.ofNat j)), none, none] X (some (.ref (aM o (dP (xD X) o j)))) (xSetK (xSetD X (dSetP (xD X) o (fun k => dP (xD X) o (sgT (xK X o).2.2.length j k)))) o (kNet (xK X o) (lMsg (dSetP (xD X) o (fun k => dP (xD X) o (sgT (xK X o).2.2.length j k))) o ((xK X o).2.2.length - 1)))) := by
  intro g hg
  obtain ⟨b1, b2, b3, b4, b5, b6⟩ := hg.2.2.2.2.2.2.2.2.2.2.2.2.1 o ho
  have hn : (xK X o).2.2.length ≤ 60 := (hg.2.2.2.2.2.2.1 o (by omega)).1
  have m3 : pM g (aB o + 3) 3 = .int (Int32.ofNat (xK X o).2.2.length) := (hg.2.2.2.2.2.1.1 o ho).1
  have m0 : pM g (aB o + 3) 0 = .ref (aB o + 3 + 1) := hg.2.2.2.1 _ _ _ (Or.inl ⟨o, ho, Or.inr (Or.inr (Or.inr (Or.inl ⟨rfl, by omega, rfl⟩)))⟩)
  have k4 : pK g (aB o + 3) = 4 := (hg.2.1 _ _ _ (shp_net ho)).1
  have s17 : shp (aB o + 4) 17 60 := Or.inl ⟨o, ho, Or.inr (Or.inr (Or.inr (Or.inr (Or.inl ⟨rfl, rfl, rfl⟩))))⟩
  have k17 : pK g (aB o + 3 + 1) = 17 := (hg.2.1 _ _ _ s17).1
  have l17 : pL g (aB o + 3 + 1) = 60 := (hg.2.1 _ _ _ s17).2 (by decide)
  have kM : ∀ q, q < 61 → pK g (aM o q) = 3 := fun q hq => (hg.2.1 _ _ _ (shp_msg ho hq)).1
  obtain ⟨n, hnn⟩ : ∃ n, n = (xK X o).2.2.length := ⟨_, rfl⟩
  rw [← hnn] at hn m3 hj ⊢
  have gf : ∀ (g' : PS) (n' nx f : Nat) (ls : PV) (st : List Value) (v : Value), f < 6 → pK g' (aB o + 3) = 4 → pM g' (aB o + 3) f = v → pStep (.getfield n') nx 4 f ls (.ref (aB o + 3) :: st) g' = some (nx, ls, v :: st, g') := fun g' n' nx f ls st v hf h1 hv => by
    show (if pK g' (aB o + 3) = 4 ∧ f < pF 4 then some (nx, ls, pM g' (aB o + 3) f :: st, _) else none) = _
    rw [if_pos ⟨h1, show f < 6 from hf⟩, hv]
  refine PW.pl M_54 rfl rfl rfl ?_
  refine PW.pl M_54 rfl rfl (gf _ _ _ _ _ _ _ (by decide) k4 m0) ?_
  refine PW.pl M_54 rfl rfl rfl ?_
  refine PW.pl M_54 rfl rfl (st' := [.ref (aM o (dP (xD X) o j))]) (g' := g) (ls' := [some (.ref (aB o + 3)), some (.int (Int32.ofNat j)), none, none]) (nx := 4) ?_ ?_
  · show (if 15 ≤ pK g (aB o + 3 + 1) ∧ pK g (aB o + 3 + 1) ≤ 19 ∧ ¬ (Int32.ofNat j < 0 ∨ pL g (aB o + 3 + 1) ≤ (Int32.ofNat j).toNatClampNeg) then some (4, _, pM g (aB o + 3 + 1) (Int32.ofNat j).toNatClampNeg :: _, _) else none) = _
    rw [k17, l17, if_pos ⟨by decide, by decide, i32_in (by omega) (by omega)⟩, (i32_ix (by omega)).1]
    have e2 : pM g (aB o + 3 + 1) j = .ref (aM o (dP (xD X) o j)) := b2 j (by omega)
    rw [e2]
  refine PW.pl M_54 rfl rfl rfl ?_
  refine PW.pl M_54 rfl rfl rfl ?_
  refine PW.pl M_54 rfl rfl rfl ?_
  refine PW.pl M_54 rfl rfl (st' := [.int (Int32.ofNat (j + 1))]) (g' := g) (by show some _ = some _; rw [show Int32.ofNat j + Int32.ofInt 1 = Int32.ofNat (j + 1) from i32_succ j]) ?_
  refine PW.pl M_54 rfl rfl rfl ?_
  have hgo := gTo_0 g (aB o + 3 + 1) j
  rw [← hgo]
  refine l_54 k4 k17 l17 m0 m3 hn (fun i hi => ⟨aM o (dP (xD X) o i), b2 i hi, kM _ (b3 i (by omega))⟩) ?_ (n - (j + 1)) (j + 1) (by omega) (Nat.lt_succ_self j)
  have mb : ∀ k, pM (gTo g (aB o + 3 + 1) j n) (aB o + 3) k = pM g (aB o + 3) k := fun k => if_neg (fun z => by have := z.1; omega)
  refine PW.pl M_54 rfl rfl rfl ?_
  refine PW.pl M_54 rfl rfl rfl ?_
  refine PW.pl M_54 rfl rfl (gf _ _ _ _ _ _ _ (by decide) k4 ((mb 3).trans m3)) ?_
  refine PW.pl M_54 rfl rfl rfl ?_
  refine PW.pl M_54 rfl rfl (st' := [.int (Int32.ofNat (n - 1)), .ref (aB o + 3)]) (g' := gTo g (aB o + 3 + 1) j n) (by show some _ = some _; rw [show Int32.ofNat n - Int32.ofInt 1 = Int32.ofNat (n - 1) from i32_prd (by omega)]) ?_
  refine PW.pl M_54 rfl rfl (if_pos ⟨k4, by decide, rfl⟩) ?_
  obtain ⟨g1, hg1⟩ : ∃ g1 : PS, g1 = pPut (gTo g (aB o + 3 + 1) j n) (aB o + 3) 3 (.int (Int32.ofNat (n - 1))) := ⟨_, rfl⟩
  have kk1 : pK g1 = pK g := by rw [hg1]; rfl
  have ll1 : pL g1 = pL g := by rw [hg1]; rfl
  have a0 : pM g1 (aB o + 3) 0 = .ref (aB o + 3 + 1) := by rw [hg1]; exact (if_neg (fun z => by have := z.2; omega)).trans ((mb 0).trans m0)
  have a2 : pM g1 (aB o + 3) 2 = .ref (aM o (dP (xD X) o 60)) := by rw [hg1]; exact (if_neg (fun z => by have := z.2; omega)).trans ((mb 2).trans b1)
  have a3 : pM g1 (aB o + 3) 3 = .int (Int32.ofNat (n - 1)) := by rw [hg1]; exact if_pos ⟨rfl, rfl⟩
  refine PW.pl M_54 rfl rfl rfl ?_
  rw [← hg1]
  refine PW.pl M_54 rfl rfl (gf _ _ _ _ _ _ _ (by decide) (by rw [kk1]; exact k4) a0) ?_
  refine PW.pl M_54 rfl rfl rfl ?_
  refine PW.pl M_54 rfl rfl (gf _ _ _ _ _ _ _ (by decide) (by rw [kk1]; exact k4) a3) ?_
  refine PW.pl M_54 rfl rfl rfl ?_
  refine PW.pl M_54 rfl rfl (gf _ _ _ _ _ _ _ (by decide) (by rw [kk1]; exact k4) a2) ?_
  refine PW.pl M_54 rfl rfl (st' := []) (g' := pPut g1 (aB o + 3 + 1) (n - 1) (.ref (aM o (dP (xD X) o 60)))) (ls' := [some (.ref (aB o + 3)), some (.int (Int32.ofNat j)), some (.ref (aM o (dP (xD X) o j))), some (.int (Int32.ofNat n))]) (nx := 38) ?_ ?_
  · show (if 15 ≤ pK g1 (aB o + 3 + 1) ∧ pK g1 (aB o + 3 + 1) ≤ 19 ∧ pK g1 (aM o (dP (xD X) o 60)) = pE (pK g1 (aB o + 3 + 1)) ∧ ¬ (Int32.ofNat (n - 1) < 0 ∨ pL g1 (aB o + 3 + 1) ≤ (Int32.ofNat (n - 1)).toNatClampNeg) then some (38, _, _, pPut g1 (aB o + 3 + 1) (Int32.ofNat (n - 1)).toNatClampNeg (.ref (aM o (dP (xD X) o 60)))) else none) = _
    rw [kk1, ll1, k17, l17, kM _ (b3 60 (by omega)), if_pos ⟨by decide, by decide, rfl, i32_in (by omega) (by omega)⟩, (i32_ix (by omega)).1]
  refine PW.pl M_54 rfl rfl rfl ?_
  refine PW.pl M_54 rfl rfl rfl ?_
  refine PW.pl M_54 rfl rfl (if_pos ⟨by show pK g1 (aB o + 3) = 4; rw [kk1]; exact k4, by decide, rfl⟩) ?_
  refine PW.pl M_54 rfl rfl rfl ?_
  refine PW.ret M_54 rfl rfl (v := some (.ref (aM o (dP (xD X) o j)))) rfl ⟨_, ?_, rfl, rfl⟩
  rw [hg1]
  refine hg.perm (n := n - 1) (P := fun k => dP (xD X) o (sgT n j k)) (M := pM (pPut (pPut (pPut (gTo g (aB o + 3 + 1) j n) (aB o + 3) 3 (.int (Int32.ofNat (n - 1)))) (aB o + 3 + 1) (n - 1) (.ref (aM o (dP (xD X) o 60)))) (aB o + 3) 2 (.ref (aM o (dP (xD X) o j))))) ho (by omega) (fun k hk => b3 _ (sgT_lt hn hj k hk)) (fun k k' h1 h2 z => sgT_inj hn hj k k' h1 h2 (b4 _ _ (sgT_lt hn hj k h1) (sgT_lt hn hj k' h2) z)) (fun a k hh => ?_) ?_ ?_ (fun k hk => ?_)
  · rw [pM_put, if_neg (fun z => hh (Or.inl ⟨z.1, Or.inl z.2⟩)), pM_put, if_neg (fun z => hh (Or.inr z.1)), pM_put, if_neg (fun z => hh (Or.inl ⟨z.1, Or.inr z.2⟩))]
    exact if_neg (fun z => hh (Or.inr z.1))
  · rw [pM_put, if_pos ⟨rfl, rfl⟩]
    show _ = Value.ref (aM o (dP (xD X) o (sgT n j 60)))
    rfl
  · rw [pM_put, if_neg (fun z => by have := z.2; omega), pM_put, if_neg (fun z => by have := z.1; omega), pM_put, if_pos ⟨rfl, rfl⟩]
  · have hb2 : pM g (aB o + 3 + 1) k = .ref (aM o (dP (xD X) o k)) := b2 k hk
    show _ = Value.ref (aM o (dP (xD X) o (sgT n j k)))
    rw [show aB o + 4 = aB o + 3 + 1 from rfl, pM_put, if_neg (fun z => by have := z.1; omega), pM_put]
    unfold sgT
    rw [if_neg (show ¬ k = 60 by omega)]
    by_cases h1 : k + 1 = n
    · rw [if_pos ⟨rfl, by omega⟩, if_pos h1]
    · rw [if_neg (fun z => by have := z.2; omega), if_neg h1, pM_put, if_neg (fun z => by have := z.1; omega)]
      by_cases h2 : j ≤ k ∧ k + 1 < n
      · rw [if_pos h2]
        exact (if_pos ⟨rfl, h2.1, h2.2⟩).trans (b2 (k + 1) (by omega))
      · rw [if_neg h2]
        exact (if_neg (fun z => h2 z.2)).trans hb2
