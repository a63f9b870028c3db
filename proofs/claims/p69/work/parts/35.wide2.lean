/-! ===== WIDENING ===== -/
def gWd (g : PS) (n L q : Nat) : PS := pNew g 16 n n (fun j => if j < q then pM g L j else .null)
theorem gWd_put (g : PS) (n L q : Nat) : pPut (gWd g n L q) (pN g) q (pM g L q) = gWd g n L (q + 1) := by
  refine Prod.ext rfl (Prod.ext rfl (Prod.ext (funext fun x => funext fun j => ?_) rfl))
  show (if x = pN g ∧ j = q then pM g L q else if x = pN g then (if j < q then pM g L j else .null) else pM g x j) = if x = pN g then (if j < q + 1 then pM g L j else .null) else pM g x j
  by_cases hx : x = pN g
  · rw [if_pos hx, if_pos hx]
    by_cases hj : j = q
    · rw [if_pos ⟨hx, hj⟩, if_pos (by omega), hj]
    · rw [if_neg (fun z => hj z.2)]
      by_cases h2 : j < q
      · rw [if_pos h2, if_pos (by omega)]
      · rw [if_neg h2, if_neg (by omega)]
  · rw [if_neg (fun z => hx z.1), if_neg hx, if_neg hx]
theorem l_75 {X : XS} {o s : Nat} (ho : o < 2) (hs : s < 7) {g : PS} (hg : Rep X g) (hfull : ((xK X o).2.1 s).length = dR (xD X) o s) (hR : dR (xD X) o s < 500000) {Q : PO → PS → Prop} (hQ : Q (.inl none) (pPut (gWd g (2 * dR (xD X) o s) (dA (xD X) o s) (dR (xD X) o s)) (aS o s) 7 (.ref (pN g)))) :
    ∀ n q : Nat, q + n = dR (xD X) o s → PW 75 15 [some (.ref (aS o s)), some (.ref (pN g)), some (.int (Int32.ofNat q))] [] (gWd g (2 * dR (xD X) o s) (dA (xD X) o s) q) Q := by
  have hN := hg.1.1
  obtain ⟨x1, x2, x3, x4, x5, x6, x7, x8, x9⟩ := hg.2.2.2.2.2.2.2.1 o s ho hs
  have hL := (hg.2.2.2.2.2.2.2.2.2.1 o s (by omega) hs).1
  have kS : ∀ q, pK (gWd g (2 * dR (xD X) o s) (dA (xD X) o s) q) (aS o s) = 6 := fun q => by
    unfold gWd
    rw [pK_new, if_neg (by dsimp only [aS]; omega)]
    exact (hg.2.1 _ _ _ (shp_sv ho hs)).1
  have mS : ∀ q, pM (gWd g (2 * dR (xD X) o s) (dA (xD X) o s) q) (aS o s) 7 = .ref (dA (xD X) o s) := fun q => by
    unfold gWd
    rw [pM_new, if_neg (by dsimp only [aS]; omega)]
    exact x1
  have kL : ∀ q, pK (gWd g (2 * dR (xD X) o s) (dA (xD X) o s) q) (dA (xD X) o s) = 16 := fun q => by
    unfold gWd
    rw [pK_new, if_neg (by omega)]; exact x2
  have lL : ∀ q, pL (gWd g (2 * dR (xD X) o s) (dA (xD X) o s) q) (dA (xD X) o s) = dR (xD X) o s := fun q => by
    unfold gWd
    rw [pL_new, if_neg (by omega)]; exact x3
  have mL : ∀ q j, pM (gWd g (2 * dR (xD X) o s) (dA (xD X) o s) q) (dA (xD X) o s) j = pM g (dA (xD X) o s) j := fun q j => by
    unfold gWd
    rw [pM_new, if_neg (by omega)]
  have kP : ∀ q, pK (gWd g (2 * dR (xD X) o s) (dA (xD X) o s) q) (pN g) = 16 := fun q => if_pos rfl
  have lP : ∀ q, pL (gWd g (2 * dR (xD X) o s) (dA (xD X) o s) q) (pN g) = 2 * dR (xD X) o s := fun q => if_pos rfl
  have gf : ∀ (q nx : Nat) (ls : PV) (st : List Value), pStep (.getfield 27) nx 6 7 ls (.ref (aS o s) :: st) (gWd g (2 * dR (xD X) o s) (dA (xD X) o s) q) = some (nx, ls, .ref (dA (xD X) o s) :: st, gWd g (2 * dR (xD X) o s) (dA (xD X) o s) q) := fun q nx ls st => by
    show (if pK (gWd g (2 * dR (xD X) o s) (dA (xD X) o s) q) (aS o s) = 6 ∧ 7 < pF 6 then some (nx, ls, pM (gWd g (2 * dR (xD X) o s) (dA (xD X) o s) q) (aS o s) 7 :: st, _) else none) = _
    rw [if_pos ⟨kS q, by decide⟩, mS]
  intro n
  induction n with
  | zero =>
    intro q hq
    have e : q = dR (xD X) o s := by omega
    subst e
    refine PW.pl M_75 rfl rfl rfl ?_
    refine PW.pl M_75 rfl rfl rfl ?_
    refine PW.pl M_75 rfl rfl (gf _ _ _ _) ?_
    refine PW.pl M_75 rfl rfl (st' := [.int (Int32.ofNat (dR (xD X) o s)), .int (Int32.ofNat (dR (xD X) o s))]) (g' := gWd g (2 * dR (xD X) o s) (dA (xD X) o s) (dR (xD X) o s)) (ls' := [some (.ref (aS o s)), some (.ref (pN g)), some (.int (Int32.ofNat (dR (xD X) o s)))]) (nx := 19) ?_ ?_
    · show (if 12 ≤ pK (gWd g (2 * dR (xD X) o s) (dA (xD X) o s) (dR (xD X) o s)) (dA (xD X) o s) ∧ pK (gWd g (2 * dR (xD X) o s) (dA (xD X) o s) (dR (xD X) o s)) (dA (xD X) o s) ≤ 20 then some (19, _, Value.int (Int32.ofNat (pL (gWd g (2 * dR (xD X) o s) (dA (xD X) o s) (dR (xD X) o s)) (dA (xD X) o s))) :: _, _) else none) = _
      rw [kL, lL, if_pos (by decide)]
    refine PW.pl M_75 rfl rfl (congrArg some (Prod.ext (if_pos (Int32.le_refl _)) rfl)) ?_
    refine PW.pl M_75 rfl rfl rfl ?_
    refine PW.pl M_75 rfl rfl rfl ?_
    refine PW.pl M_75 rfl rfl (if_pos ⟨kS _, by decide, rfl⟩) ?_
    exact PW.ret M_75 rfl rfl (v := none) rfl hQ
  | succ n ih =>
    intro q hq
    have hqR : q < dR (xD X) o s := by omega
    obtain ⟨e, he⟩ : ∃ e, ((xK X o).2.1 s)[q]? = some e := ⟨_, List.getElem?_eq_getElem (by omega)⟩
    have h9 := x9 q e he
    have h8 := x8 q h9.2 hqR
    have hk2 := (dE.ent h9.1 hg).1
    have hlt := (hg.2.2.2.2.2.2.2.2.2.2.2.2.2.2.2 (dQ (xD X) o s q) (by rw [h9.1]; show (1 : Nat) ≠ 0; decide)).1
    refine PW.pl M_75 rfl rfl rfl ?_
    refine PW.pl M_75 rfl rfl rfl ?_
    refine PW.pl M_75 rfl rfl (gf _ _ _ _) ?_
    refine PW.pl M_75 rfl rfl (st' := [.int (Int32.ofNat (dR (xD X) o s)), .int (Int32.ofNat q)]) (g' := gWd g (2 * dR (xD X) o s) (dA (xD X) o s) q) (ls' := [some (.ref (aS o s)), some (.ref (pN g)), some (.int (Int32.ofNat q))]) (nx := 19) ?_ ?_
    · show (if 12 ≤ pK (gWd g (2 * dR (xD X) o s) (dA (xD X) o s) q) (dA (xD X) o s) ∧ pK (gWd g (2 * dR (xD X) o s) (dA (xD X) o s) q) (dA (xD X) o s) ≤ 20 then some (19, _, Value.int (Int32.ofNat (pL (gWd g (2 * dR (xD X) o s) (dA (xD X) o s) q) (dA (xD X) o s))) :: _, _) else none) = _
      rw [kL, lL, if_pos (by decide)]
    refine PW.pl M_75 rfl rfl (congrArg some (Prod.ext (if_neg (by rw [i32_le (by omega) (by omega)]; omega)) rfl)) ?_
    refine PW.pl M_75 rfl rfl rfl ?_
    refine PW.pl M_75 rfl rfl rfl ?_
    refine PW.pl M_75 rfl rfl rfl ?_
    refine PW.pl M_75 rfl rfl (gf _ _ _ _) ?_
    refine PW.pl M_75 rfl rfl rfl ?_
    refine PW.pl M_75 rfl rfl (st' := [.ref (dQ (xD X) o s q), .int (Int32.ofNat q), .ref (pN g)]) (g' := gWd g (2 * dR (xD X) o s) (dA (xD X) o s) q) (ls' := [some (.ref (aS o s)), some (.ref (pN g)), some (.int (Int32.ofNat q))]) (nx := 26) ?_ ?_
    · show (if 15 ≤ pK (gWd g (2 * dR (xD X) o s) (dA (xD X) o s) q) (dA (xD X) o s) ∧ pK (gWd g (2 * dR (xD X) o s) (dA (xD X) o s) q) (dA (xD X) o s) ≤ 19 ∧ ¬ (Int32.ofNat q < 0 ∨ pL (gWd g (2 * dR (xD X) o s) (dA (xD X) o s) q) (dA (xD X) o s) ≤ (Int32.ofNat q).toNatClampNeg) then some (26, _, pM (gWd g (2 * dR (xD X) o s) (dA (xD X) o s) q) (dA (xD X) o s) (Int32.ofNat q).toNatClampNeg :: _, _) else none) = _
      rw [kL, lL, mL, if_pos ⟨by decide, by decide, i32_in (by omega) hqR⟩, (i32_ix (by omega)).1, h8]
    refine PW.pl M_75 rfl rfl (st' := []) (g' := gWd g (2 * dR (xD X) o s) (dA (xD X) o s) (q + 1)) (ls' := [some (.ref (aS o s)), some (.ref (pN g)), some (.int (Int32.ofNat q))]) (nx := 27) ?_ ?_
    · show (if 15 ≤ pK (gWd g (2 * dR (xD X) o s) (dA (xD X) o s) q) (pN g) ∧ pK (gWd g (2 * dR (xD X) o s) (dA (xD X) o s) q) (pN g) ≤ 19 ∧ pK (gWd g (2 * dR (xD X) o s) (dA (xD X) o s) q) (dQ (xD X) o s q) = pE (pK (gWd g (2 * dR (xD X) o s) (dA (xD X) o s) q) (pN g)) ∧ ¬ (Int32.ofNat q < 0 ∨ pL (gWd g (2 * dR (xD X) o s) (dA (xD X) o s) q) (pN g) ≤ (Int32.ofNat q).toNatClampNeg) then some (27, _, _, pPut (gWd g (2 * dR (xD X) o s) (dA (xD X) o s) q) (pN g) (Int32.ofNat q).toNatClampNeg (.ref (dQ (xD X) o s q))) else none) = _
      have hk3 : pK (gWd g (2 * dR (xD X) o s) (dA (xD X) o s) q) (dQ (xD X) o s q) = 2 := by
        unfold gWd
        rw [pK_new, if_neg (by omega)]; exact hk2
      rw [kP, lP, hk3, if_pos ⟨by decide, by decide, rfl, i32_in (by omega) (by omega)⟩, (i32_ix (by omega)).1, ← h8, gWd_put]
    refine PW.pl M_75 rfl rfl (st' := []) (g' := gWd g (2 * dR (xD X) o s) (dA (xD X) o s) (q + 1)) (ls' := [some (.ref (aS o s)), some (.ref (pN g)), some (.int (Int32.ofNat (q + 1)))]) (nx := 28) ?_ ?_
    · show pSt1 2 (.int (Int32.ofNat q + Int32.ofInt 1)) 28 _ _ _ = _
      rw [i32_succ]
      rfl
    refine PW.pl M_75 rfl rfl rfl ?_
    exact ih (q + 1) (by omega)
