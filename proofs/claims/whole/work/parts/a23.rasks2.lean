/-! ===== THE REFERENCE: copies, wins, agreement ===== -/
theorem sCntF_sum (p : Nat → Bool) : ∀ n, sCntF p n = sSum (fun j => bI (p j)) n
  | 0 => rfl
  | n + 1 => by
    show sCntF p n + bI (p n) = sSum _ n + bI (p n)
    rw [sCntF_sum p n]
def nOr (p : Nat → Bool) : Nat → Nat
  | 0 => 0
  | q + 1 => if p q = true then nOr p q ||| 2 ^ q else nOr p q
theorem nOr_bit (p : Nat → Bool) (j : Nat) : ∀ q, (nOr p q).testBit j = (decide (j < q) && p j)
  | 0 => by simp [nOr]
  | q + 1 => by
    have ih := nOr_bit p j q
    unfold nOr
    by_cases h : p q = true
    · rw [if_pos h, Nat.testBit_or, Nat.testBit_two_pow, ih]
      by_cases e : j = q
      · subst e; simp [h]
      · rw [show decide (j < q + 1) = decide (j < q) from by rw [decide_eq_decide]; omega, show decide (q = j) = false from decide_eq_false (fun z => e z.symm), Bool.or_false]
    · rw [if_neg h, ih]
      by_cases e : j = q
      · subst e; simp [h]
      · rw [show decide (j < q + 1) = decide (j < q) from by rw [decide_eq_decide]; omega]
theorem nOr_lt (p : Nat → Bool) : ∀ q, q ≤ 7 → nOr p q < 128
  | 0, _ => by show 0 < 128; omega
  | q + 1, h => by
    unfold nOr
    split
    · exact Nat.or_lt_two_pow (n := 7) (nOr_lt p q (by omega)) (Nat.pow_lt_pow_right (by omega) (by omega))
    · exact nOr_lt p q (by omega)
theorem sWin_n {K : KK} {s n : Nat} (hn : n < 128) (hm : sMem K s = Int32.ofNat n) : sMost (sMem K s) (Int32.ofNat (nOr (fun i => sGood K i (sLastT K s) (sLast K s)) 7)) = sWin K s (sMem K s) := by
  unfold sMost sWin
  rw [hm, i32_andN, sCnt_sum, sCnt_sum, sCntF_sum, sCntF_sum]
  have e : sSum (fun j => bI (sBit (Int32.ofNat (nOr (fun i => sGood K i (sLastT K s) (sLast K s)) 7 &&& n)) j)) 7 = sSum (fun j => bI (sWinP K (Int32.ofNat n) (sLastT K s) (sLast K s) j)) 7 := sSum_congr 7 (fun j hj => by
    rw [sBit_nat _ (Nat.lt_of_le_of_lt Nat.and_le_right hn) j hj, Nat.testBit_and, nOr_bit]
    unfold sWinP
    rw [sBit_nat n hn j hj, show decide (j < 7) = true from decide_eq_true hj, Bool.true_and, Bool.and_comm])
  rw [e]
  rw [decide_eq_decide]
  exact Int32.not_le.symm
theorem l_228 {X : XS} {o s : Nat} (h2 : 2 ≤ o) (h4 : o < 4) (hs : s < 7) {x : Int32} {e : ENT} (hk : ∀ i, i < 7 → kWf (xK X o) i) (hx : sEnt (xK X o) s x = some e) (he : ¬ e 0 = -1) : ∀ d q : Nat, q + d = 7 → AT 228 8 [some (.ref (bB o)), some (.int (Int32.ofNat s)), some (.int x), some (.int (sMem (xK X o) s)), some (.int (sCntF (sCopyP (xK X o) (sMem (xK X o) s) x (e 0)) q)), some (.int (Int32.ofNat q))] [] X (fun o' Y => o' = .inl (some (.int (sCntF (sCopyP (xK X o) (sMem (xK X o) s) x (e 0)) 7))) ∧ Y = X)
  | 0, q, hq => by
    refine AT.iload M_228 rfl rfl ?_
    refine AT.bipush M_228 rfl (v := 7) (by decide) ?_
    refine AT.icmp_ge M_228 rfl (fun b10 => ?_) (fun b10 => absurd (by rw [show q = 7 by omega]; exact Int32.le_refl _) b10)
    refine AT.iload M_228 rfl rfl ?_
    refine AT.iret M_228 rfl rfl ?_
    rw [show q = 7 by omega]
    exact ⟨rfl, rfl⟩
  | d + 1, q, hq => by
    refine AT.iload M_228 rfl rfl ?_
    refine AT.bipush M_228 rfl (v := 7) (by decide) ?_
    refine AT.icmp_ge M_228 rfl (fun b10 => absurd ((i32_le (a := 7) (b := q) (by omega) (by omega)).mp b10) (by omega)) (fun b10 => ?_)
    refine AT.iload_n M_228 rfl rfl ?_
    refine AT.iload M_228 rfl rfl ?_
    refine AT.ishr M_228 rfl rfl ?_
    refine AT.iconst M_228 rfl (v := 1) (by decide) ?_
    refine AT.iand M_228 rfl rfl ?_
    refine AT.if_ne M_228 rfl (fun b16 => ?_) (fun b16 => ?_)
    · refine AT.iload M_228 rfl rfl ?_
      refine AT.aload_n M_228 rfl rfl ?_
      refine AT.r10_13 M_228 rfl h2 h4 ?_
      refine AT.iload M_228 rfl rfl ?_
      refine AT.ra_18_0 M_228 rfl rfl h2 h4 (by omega) ?_
      refine AT.iload_n M_228 rfl rfl ?_
      refine AT.icmp_ge M_228 rfl (fun b24 => ?_) (fun b24 => ?_)
      · refine AT.iconst M_228 rfl (v := 1) (by decide) ?_
        refine AT.goto M_228 rfl ?_
        refine AT.iadd M_228 rfl rfl ?_
        refine AT.ist4 M_228 rfl rfl ?_
        refine AT.iinc5 M_228 rfl rfl (i32_succ _) ?_
        refine AT.goto M_228 rfl ?_
        have hb : sBit (sMem (xK X o) s) q = true := bI_ne0.mp (by rw [← i32_bit (by omega : q < 7)]; exact b16)
        have hp : (sCopyP (xK X o) (sMem (xK X o) s) x (e 0)) q = true := by unfold sCopyP; simp [hb, b24]
        rw [show sCntF (sCopyP (xK X o) (sMem (xK X o) s) x (e 0)) q + 1 = sCntF (sCopyP (xK X o) (sMem (xK X o) s) x (e 0)) (q + 1) from (sCntF_t hp).symm]
        exact l_228 h2 h4 hs hk hx he d (q + 1) (by omega)
      · refine AT.aload_n M_228 rfl rfl ?_
        refine AT.iload M_228 rfl rfl ?_
        refine AT.iload_n M_228 rfl rfl ?_
        refine AT.cv3i M_228 rfl M_188 rfl (Nat.le_of_ble_eq_true rfl) (xKd.of (sh_st h2 h4)) (by decide) (c_188 (s := q) h2 h4 (by omega)) ?_ (Nat.le_of_ble_eq_true rfl) rfl
        refine AT.if_eq M_228 rfl (fun b29 => ?_) (fun b29 => ?_)
        · refine AT.iconst M_228 rfl (v := 0) (by decide) ?_
          refine AT.iadd M_228 rfl rfl ?_
          refine AT.ist4 M_228 rfl rfl ?_
          refine AT.iinc5 M_228 rfl rfl (i32_succ _) ?_
          refine AT.goto M_228 rfl ?_
          have hb : sBit (sMem (xK X o) s) q = true := bI_ne0.mp (by rw [← i32_bit (by omega : q < 7)]; exact b16)
          have hne : ¬ x = (xK X o).1 18 q 0 := fun z => b24 (by rw [z]; exact Int32.le_refl _)
          have hN : sEnt (xK X o) q x = none := by
            cases hE : sEnt (xK X o) q x with
            | none => rfl
            | some e2 => exact absurd ((sHasE_some (hk q (by omega))).mpr ⟨e2, hE⟩) (fun z => by rw [z] at b29; exact absurd b29 (by decide))
          have hT : sTix (xK X o) q x = -1 := by unfold sTix; rw [if_neg hne, hN]
          have hp : (sCopyP (xK X o) (sMem (xK X o) s) x (e 0)) q = false := by unfold sCopyP; rw [hT]; simp [b24]; exact fun _ z => he z.symm
          rw [Int32.add_zero, ← sCntF_f hp]
          exact l_228 h2 h4 hs hk hx he d (q + 1) (by omega)
        · obtain ⟨e2, hx2⟩ := (sHasE_some (hk q (by omega))).mp (bI_ne0.mp b29)
          refine AT.aload_n M_228 rfl rfl ?_
          refine AT.iload M_228 rfl rfl ?_
          refine AT.iload_n M_228 rfl rfl ?_
          refine AT.iconst M_228 rfl (v := 0) (by decide) ?_
          refine AT.cv4i M_228 rfl M_190 rfl (Nat.le_of_ble_eq_true rfl) (xKd.of (sh_st h2 h4)) (by decide) (c_190 (s := q) h2 h4 (by omega) hx2 (hk q (by omega)) (c := 0) (by omega) rfl) ?_ (Nat.le_of_ble_eq_true rfl) rfl
          refine AT.aload_n M_228 rfl rfl ?_
          refine AT.iload_n M_228 rfl rfl ?_
          refine AT.iload_n M_228 rfl rfl ?_
          refine AT.iconst M_228 rfl (v := 0) (by decide) ?_
          refine AT.cv4i M_228 rfl M_190 rfl (Nat.le_of_ble_eq_true rfl) (xKd.of (sh_st h2 h4)) (by decide) (c_190 h2 h4 hs hx (hk s hs) (c := 0) (by omega) rfl) ?_ (Nat.le_of_ble_eq_true rfl) rfl
          refine AT.icmp_ne M_228 rfl (fun b40 => ?_) (fun b40 => ?_)
          · refine AT.iconst M_228 rfl (v := 0) (by decide) ?_
            refine AT.iadd M_228 rfl rfl ?_
            refine AT.ist4 M_228 rfl rfl ?_
            refine AT.iinc5 M_228 rfl rfl (i32_succ _) ?_
            refine AT.goto M_228 rfl ?_
            have hb : sBit (sMem (xK X o) s) q = true := bI_ne0.mp (by rw [← i32_bit (by omega : q < 7)]; exact b16)
            have hne : ¬ x = (xK X o).1 18 q 0 := fun z => b24 (by rw [z]; exact Int32.le_refl _)
            have hT : sTix (xK X o) q x = e2 0 := by unfold sTix; rw [if_neg hne, hx2]
            have hp : (sCopyP (xK X o) (sMem (xK X o) s) x (e 0)) q = false := by unfold sCopyP; rw [hT]; simp [b24, b40]
            rw [Int32.add_zero, ← sCntF_f hp]
            exact l_228 h2 h4 hs hk hx he d (q + 1) (by omega)
          · refine AT.iconst M_228 rfl (v := 1) (by decide) ?_
            refine AT.goto M_228 rfl ?_
            refine AT.iadd M_228 rfl rfl ?_
            refine AT.ist4 M_228 rfl rfl ?_
            refine AT.iinc5 M_228 rfl rfl (i32_succ _) ?_
            refine AT.goto M_228 rfl ?_
            have hb : sBit (sMem (xK X o) s) q = true := bI_ne0.mp (by rw [← i32_bit (by omega : q < 7)]; exact b16)
            have hne : ¬ x = (xK X o).1 18 q 0 := fun z => b24 (by rw [z]; exact Int32.le_refl _)
            have hT : sTix (xK X o) q x = e2 0 := by unfold sTix; rw [if_neg hne, hx2]
            have hp : (sCopyP (xK X o) (sMem (xK X o) s) x (e 0)) q = true := by unfold sCopyP; rw [hT, hb]; simp [Classical.not_not.mp b40]
            rw [show sCntF (sCopyP (xK X o) (sMem (xK X o) s) x (e 0)) q + 1 = sCntF (sCopyP (xK X o) (sMem (xK X o) s) x (e 0)) (q + 1) from (sCntF_t hp).symm]
            exact l_228 h2 h4 hs hk hx he d (q + 1) (by omega)
    · refine AT.goto M_228 rfl ?_
      refine AT.iinc5 M_228 rfl rfl (i32_succ _) ?_
      refine AT.goto M_228 rfl ?_
      have hb : sBit (sMem (xK X o) s) q = false := bI_eq0.mp (by rw [← i32_bit (by omega : q < 7)]; exact Classical.not_not.mp b16)
      have hp : (sCopyP (xK X o) (sMem (xK X o) s) x (e 0)) q = false := by unfold sCopyP; rw [hb]; rfl
      rw [← sCntF_f hp]
      exact l_228 h2 h4 hs hk hx he d (q + 1) (by omega)
theorem c_228 {X : XS} {o s : Nat} (h2 : 2 ≤ o) (h4 : o < 4) (hs : s < 7) {x : Int32} {e : ENT} (hk : ∀ i, i < 7 → kWf (xK X o) i) (hx : sEnt (xK X o) s x = some e) (he : ¬ e 0 = -1) : RT 228 [some (.ref (bB o)), some (.int (Int32.ofNat s)), some (.int x), none, none, none] X (some (.int (sCntF (sCopyP (xK X o) (sMem (xK X o) s) x (e 0)) 7))) X := by
  refine AT.aload_n M_228 rfl rfl ?_
  refine AT.iload_n M_228 rfl rfl ?_
  refine AT.cv2i M_228 rfl M_195 rfl (Nat.le_of_ble_eq_true rfl) (xKd.of (sh_st h2 h4)) (by decide) (c_195 h2 h4 hs (hk s hs)) ?_ (Nat.le_of_ble_eq_true rfl) rfl
  refine AT.ist3 M_228 rfl rfl ?_
  refine AT.iconst M_228 rfl (v := 0) (by decide) ?_
  refine AT.ist4 M_228 rfl rfl ?_
  refine AT.iconst M_228 rfl (v := 0) (by decide) ?_
  refine AT.ist5 M_228 rfl rfl ?_
  exact l_228 h2 h4 hs hk hx he 7 0 rfl
theorem l_229 {X : XS} {o s : Nat} (h2 : 2 ≤ o) (h4 : o < 4) (hs : s < 7) (hk : ∀ i, i < 7 → kWf (xK X o) i) (h7 : ∃ n : Nat, n < 128 ∧ sMem (xK X o) s = Int32.ofNat n) : ∀ d q : Nat, q + d = 7 → AT 229 4 [some (.ref (bB o)), some (.int (Int32.ofNat s)), some (.int (Int32.ofNat (nOr (fun i => sGood (xK X o) i (sLastT (xK X o) s) (sLast (xK X o) s)) q))), some (.int (Int32.ofNat q))] [] X (fun o' Y => o' = .inl (some (.int (bI (sWin (xK X o) s (sMem (xK X o) s))))) ∧ Y = X)
  | 0, q, hq => by
    refine AT.iload_n M_229 rfl rfl ?_
    refine AT.bipush M_229 rfl (v := 7) (by decide) ?_
    refine AT.icmp_ge M_229 rfl (fun b6 => ?_) (fun b6 => absurd (by rw [show q = 7 by omega]; exact Int32.le_refl _) b6)
    refine AT.aload_n M_229 rfl rfl ?_
    refine AT.iload_n M_229 rfl rfl ?_
    refine AT.iload_n M_229 rfl rfl ?_
    refine AT.cv3i M_229 rfl M_198 rfl (Nat.le_of_ble_eq_true rfl) (xKd.of (sh_st h2 h4)) (by decide) (c_198 h2 h4 hs (hk s hs) h7) ?_ (Nat.le_of_ble_eq_true rfl) rfl
    obtain ⟨n, hn, hm⟩ := h7
    rw [show q = 7 by omega, sWin_n hn hm]
    refine AT.zret M_229 rfl rfl (bI_01 _) ?_
    exact ⟨rfl, rfl⟩
  | d + 1, q, hq => by
    refine AT.iload_n M_229 rfl rfl ?_
    refine AT.bipush M_229 rfl (v := 7) (by decide) ?_
    refine AT.icmp_ge M_229 rfl (fun b6 => absurd ((i32_le (a := 7) (b := q) (by omega) (by omega)).mp b6) (by omega)) (fun b6 => ?_)
    refine AT.aload_n M_229 rfl rfl ?_
    refine AT.aload_n M_229 rfl rfl ?_
    refine AT.iload_n M_229 rfl rfl ?_
    refine AT.cv2i M_229 rfl M_192 rfl (Nat.le_of_ble_eq_true rfl) (xKd.of (sh_st h2 h4)) (by decide) (c_192 h2 h4 hs (hk s hs)) ?_ (Nat.le_of_ble_eq_true rfl) rfl
    refine AT.aload_n M_229 rfl rfl ?_
    refine AT.iload_n M_229 rfl rfl ?_
    refine AT.cv2i M_229 rfl M_187 rfl (Nat.le_of_ble_eq_true rfl) (xKd.of (sh_st h2 h4)) (by decide) (c_187 h2 h4 hs) ?_ (Nat.le_of_ble_eq_true rfl) rfl
    refine AT.iload_n M_229 rfl rfl ?_
    refine AT.cv4i M_229 rfl M_199 rfl (Nat.le_of_ble_eq_true rfl) (xKd.of (sh_st h2 h4)) (by decide) (c_199 (s := q) h2 h4 (by omega) (hk q (by omega))) ?_ (Nat.le_of_ble_eq_true rfl) rfl
    refine AT.if_eq M_229 rfl (fun b16 => ?_) (fun b16 => ?_)
    · refine AT.iinc3 M_229 rfl rfl (i32_succ _) ?_
      refine AT.goto M_229 rfl ?_
      rw [show nOr (fun i => sGood (xK X o) i (sLastT (xK X o) s) (sLast (xK X o) s)) q = nOr (fun i => sGood (xK X o) i (sLastT (xK X o) s) (sLast (xK X o) s)) (q + 1) from (if_neg (fun z => by have h9 := bI_eq0.mp b16; exact absurd (h9.symm.trans z) (by decide)) : nOr (fun i => sGood (xK X o) i (sLastT (xK X o) s) (sLast (xK X o) s)) (q + 1) = _).symm]
      exact l_229 h2 h4 hs hk h7 d (q + 1) (by omega)
    · refine AT.iload_n M_229 rfl rfl ?_
      refine AT.iconst M_229 rfl (v := 1) (by decide) ?_
      refine AT.iload_n M_229 rfl rfl ?_
      refine AT.ishl M_229 rfl rfl ?_
      refine AT.ior M_229 rfl rfl ?_
      rw [i32_shlN q (by omega), i32_orN]
      refine AT.ist2 M_229 rfl rfl ?_
      refine AT.iinc3 M_229 rfl rfl (i32_succ _) ?_
      refine AT.goto M_229 rfl ?_
      rw [show (nOr (fun i => sGood (xK X o) i (sLastT (xK X o) s) (sLast (xK X o) s)) q ||| 2 ^ q) = nOr (fun i => sGood (xK X o) i (sLastT (xK X o) s) (sLast (xK X o) s)) (q + 1) from (if_pos (bI_ne0.mp b16) : nOr (fun i => sGood (xK X o) i (sLastT (xK X o) s) (sLast (xK X o) s)) (q + 1) = _).symm]
      exact l_229 h2 h4 hs hk h7 d (q + 1) (by omega)
theorem c_229 {X : XS} {o s : Nat} (h2 : 2 ≤ o) (h4 : o < 4) (hs : s < 7) (hk : ∀ i, i < 7 → kWf (xK X o) i) (h7 : ∃ n : Nat, n < 128 ∧ sMem (xK X o) s = Int32.ofNat n) : RT 229 [some (.ref (bB o)), some (.int (Int32.ofNat s)), none, none] X (some (.int (bI (sWin (xK X o) s (sMem (xK X o) s))))) X := by
  refine AT.iconst M_229 rfl (v := 0) (by decide) ?_
  refine AT.ist2 M_229 rfl rfl ?_
  refine AT.iconst M_229 rfl (v := 0) (by decide) ?_
  refine AT.ist3 M_229 rfl rfl ?_
  exact l_229 h2 h4 hs hk h7 7 0 rfl
theorem l_225 {X : XS} {o : Nat} (h2 : 2 ≤ o) (h4 : o < 4) {b : Nat} (hb : b < 7) (hk : sOk (xK X o) b) (h0 : ¬ (xK X o).1 15 b 0 < sLast (xK X o) b) : ∀ d q : Nat, q + d = 7 → sAllF (sAgP (xK X o) b (sMem (xK X o) b)) q = true → AT 225 18 [some (.ref (bB o)), some (.int (Int32.ofNat b)), some (.int (Int32.ofNat q))] [] X (fun o' Y => o' = .inl (some (.int (bI (sAllF (sAgP (xK X o) b (sMem (xK X o) b)) 7)))) ∧ Y = X)
  | 0, q, hq, hA => by
    refine AT.iload_n M_225 rfl rfl ?_
    refine AT.bipush M_225 rfl (v := 7) (by decide) ?_
    refine AT.icmp_ge M_225 rfl (fun b20 => ?_) (fun b20 => absurd (by rw [show q = 7 by omega]; exact Int32.le_refl _) b20)
    refine AT.iconst M_225 rfl (v := 1) (by decide) ?_
    refine AT.zret M_225 rfl rfl (by first | exact Or.inl rfl | exact Or.inr rfl | assumption) ?_
    have e : q = 7 := by omega
    subst e
    rw [hA]
    exact ⟨rfl, rfl⟩
  | d + 1, q, hq, hA => by
    refine AT.iload_n M_225 rfl rfl ?_
    refine AT.bipush M_225 rfl (v := 7) (by decide) ?_
    refine AT.icmp_ge M_225 rfl (fun b20 => absurd ((i32_le (a := 7) (b := q) (by omega) (by omega)).mp b20) (by omega)) (fun b20 => ?_)
    refine AT.aload_n M_225 rfl rfl ?_
    refine AT.r10_2 M_225 rfl h2 h4 ?_
    refine AT.iload_n M_225 rfl rfl ?_
    refine AT.ra_4 M_225 rfl rfl h2 h4 (by omega) ?_
    refine AT.if_eq M_225 rfl (fun b25 => ?_) (fun b25 => ?_)
    · refine AT.iinc2 M_225 rfl rfl (i32_succ _) ?_
      refine AT.goto M_225 rfl ?_
      have hp : (sAgP (xK X o) b (sMem (xK X o) b)) q = true := by
        by_cases e : q = b
        · subst e; unfold sAgP; simp [Int32.not_lt.mp h0]
        · unfold sAgP; simp [e, b25]
      exact l_225 h2 h4 hb hk h0 d (q + 1) (by omega) (sAllF_up hA hp)
    · refine AT.aload_n M_225 rfl rfl ?_
      refine AT.iload_n M_225 rfl rfl ?_
      refine AT.iload_n M_225 rfl rfl ?_
      refine AT.cv3i M_225 rfl M_196 rfl (Nat.le_of_ble_eq_true rfl) (xKd.of (sh_st h2 h4)) (by decide) (c_196 h2 h4 hb (j := q) (by omega) hk.wf hk.m128) ?_ (Nat.le_of_ble_eq_true rfl) rfl
      refine AT.if_eq M_225 rfl (fun b30 => ?_) (fun b30 => ?_)
      · refine AT.iinc2 M_225 rfl rfl (i32_succ _) ?_
        refine AT.goto M_225 rfl ?_
        have hp : (sAgP (xK X o) b (sMem (xK X o) b)) q = true := by
          by_cases e : q = b
          · subst e; unfold sAgP; simp [Int32.not_lt.mp h0]
          · unfold sAgP; simp [e, bI_eq0.mp b30]
        exact l_225 h2 h4 hb hk h0 d (q + 1) (by omega) (sAllF_up hA hp)
      · refine AT.aload_n M_225 rfl rfl ?_
        refine AT.r10_8 M_225 rfl h2 h4 ?_
        refine AT.iload_n M_225 rfl rfl ?_
        refine AT.ra_15 M_225 rfl rfl h2 h4 (by omega) ?_
        refine AT.aload_n M_225 rfl rfl ?_
        refine AT.iload_n M_225 rfl rfl ?_
        refine AT.cv2i M_225 rfl M_187 rfl (Nat.le_of_ble_eq_true rfl) (xKd.of (sh_st h2 h4)) (by decide) (c_187 h2 h4 hb) ?_ (Nat.le_of_ble_eq_true rfl) rfl
        refine AT.icmp_ge M_225 rfl (fun b38 => ?_) (fun b38 => ?_)
        · refine AT.iinc2 M_225 rfl rfl (i32_succ _) ?_
          refine AT.goto M_225 rfl ?_
          have hp : (sAgP (xK X o) b (sMem (xK X o) b)) q = true := by unfold sAgP; simp [b38]
          exact l_225 h2 h4 hb hk h0 d (q + 1) (by omega) (sAllF_up hA hp)
        · refine AT.iconst M_225 rfl (v := 0) (by decide) ?_
          refine AT.zret M_225 rfl rfl (by first | exact Or.inl rfl | exact Or.inr rfl | assumption) ?_
          have hp : (sAgP (xK X o) b (sMem (xK X o) b)) q = false := by unfold sAgP; simp [b25, bI_ne0.mp b30, b38]
          rw [sAllF_no hp (by omega)]
          exact ⟨rfl, rfl⟩
theorem c_225 {X : XS} {o : Nat} (h2 : 2 ≤ o) (h4 : o < 4) (hk : ∀ i, i < 7 → sOk (xK X o) i) : RT 225 [some (.ref (bB o)), none, none] X (some (.int (bI (sAgreed (xK X o) (fun i => sMem (xK X o) i))))) X := by
  cases hN : sNewL (xK X o) 7 with
  | none =>
    refine AT.aload_n M_225 rfl rfl ?_
    refine AT.cv1i M_225 rfl M_222 rfl (Nat.le_of_ble_eq_true rfl) (xKd.of (sh_st h2 h4)) (by decide) (c_222 h2 h4) ?_ (Nat.le_of_ble_eq_true rfl) rfl
    rw [sLdr_oI, hN, show oI none = -1 from rfl]
    refine AT.ist1 M_225 rfl rfl ?_
    refine AT.iload_n M_225 rfl rfl ?_
    refine AT.iconst M_225 rfl (v := (-1)) (by decide) ?_
    refine AT.icmp_eq M_225 rfl (fun b5 => ?_) (fun b5 => absurd rfl b5)
    refine AT.iconst M_225 rfl (v := 0) (by decide) ?_
    refine AT.zret M_225 rfl rfl (by first | exact Or.inl rfl | exact Or.inr rfl | assumption) ?_
    rw [show sAgreed (xK X o) (fun i => sMem (xK X o) i) = false from by unfold sAgreed; rw [hN]]
    exact ⟨rfl, rfl⟩
  | some b =>
    have hb := sNew_lt hN
    refine AT.aload_n M_225 rfl rfl ?_
    refine AT.cv1i M_225 rfl M_222 rfl (Nat.le_of_ble_eq_true rfl) (xKd.of (sh_st h2 h4)) (by decide) (c_222 h2 h4) ?_ (Nat.le_of_ble_eq_true rfl) rfl
    rw [sLdr_oI, hN, show oI (some b) = Int32.ofNat b from rfl]
    refine AT.ist1 M_225 rfl rfl ?_
    refine AT.iload_n M_225 rfl rfl ?_
    refine AT.iconst M_225 rfl (v := (-1)) (by decide) ?_
    refine AT.icmp_eq M_225 rfl (fun b5 => absurd b5 (i32_m1 (by omega))) (fun b5 => ?_)
    refine AT.aload_n M_225 rfl rfl ?_
    refine AT.r10_8 M_225 rfl h2 h4 ?_
    refine AT.iload_n M_225 rfl rfl ?_
    refine AT.ra_15 M_225 rfl rfl h2 h4 (by assumption) ?_
    refine AT.aload_n M_225 rfl rfl ?_
    refine AT.iload_n M_225 rfl rfl ?_
    refine AT.cv2i M_225 rfl M_187 rfl (Nat.le_of_ble_eq_true rfl) (xKd.of (sh_st h2 h4)) (by decide) (c_187 h2 h4 hb) ?_ (Nat.le_of_ble_eq_true rfl) rfl
    refine AT.icmp_ge M_225 rfl (fun b13 => ?_) (fun b13 => ?_)
    · refine AT.iconst M_225 rfl (v := 0) (by decide) ?_
      refine AT.ist2 M_225 rfl rfl ?_
      rw [show sAgreed (xK X o) (fun i => sMem (xK X o) i) = sAllF (sAgP (xK X o) b (sMem (xK X o) b)) 7 from by unfold sAgreed; rw [hN]]
      exact l_225 h2 h4 hb (hk b hb) (Int32.not_lt.mpr b13) 7 0 rfl rfl
    · refine AT.iconst M_225 rfl (v := 0) (by decide) ?_
      refine AT.zret M_225 rfl rfl (by first | exact Or.inl rfl | exact Or.inr rfl | assumption) ?_
      have hp : (sAgP (xK X o) b (sMem (xK X o) b)) b = false := by unfold sAgP; simp [Int32.not_le.mpr (Int32.not_le.mp b13)]
      rw [show sAgreed (xK X o) (fun i => sMem (xK X o) i) = false from by unfold sAgreed; rw [hN]; exact sAllF_no hp hb]
      exact ⟨rfl, rfl⟩
theorem l_227 {X : XS} {o s t : Nat} (h2 : 2 ≤ o) (h4 : o < 4) (hs : s < 7) (ht : t < 7) {a a2 m : Nat} (ha : (xK X o).1 18 s 0 = Int32.ofNat a) (ha2 : (xK X o).1 18 t 0 = Int32.ofNat a2) (hl : a + ((xK X o).2.1 s).length < 16777216) (hl2 : a2 + ((xK X o).2.1 t).length < 16777216) (hm : m ≤ a + ((xK X o).2.1 s).length) (hm2 : m ≤ a2 + ((xK X o).2.1 t).length) : ∀ n x : Nat, x + n = m → a ≤ x ∨ n = 0 → a2 ≤ x ∨ n = 0 → AT 227 20 [some (.ref (bB o)), some (.int (Int32.ofNat s)), some (.int (Int32.ofNat t)), some (.int (Int32.ofNat m)), some (.int (Int32.ofNat x))] [] X (fun o' Y => o' = .inl (some (.int (Int32.ofNat (sAgrN (xK X o) (xK X o) s t n x)))) ∧ Y = X)
  | 0, x, hx, h1, h3 => by
    refine AT.iload M_227 rfl rfl ?_
    refine AT.iload_n M_227 rfl rfl ?_
    refine AT.icmp_ge M_227 rfl (fun b22 => ?_) (fun b22 => absurd (by rw [show x = m by omega]; exact Int32.le_refl _) b22)
    refine AT.iload M_227 rfl rfl ?_
    refine AT.iret M_227 rfl rfl ?_
    rw [show x = m by omega]
    exact ⟨rfl, rfl⟩
  | n + 1, x, hx, h1, h3 => by
    have hx1 : sEnt (xK X o) s (Int32.ofNat (x + 1)) = some (((xK X o).2.1 s)[x - a]'(by omega)) := by
      rw [show x + 1 = a + 1 + (x - a) by omega, sEnt_at ha hl (by omega), List.getElem?_eq_getElem (by omega)]
    have hx2 : sEnt (xK X o) t (Int32.ofNat (x + 1)) = some (((xK X o).2.1 t)[x - a2]'(by omega)) := by
      rw [show x + 1 = a2 + 1 + (x - a2) by omega, sEnt_at ha2 hl2 (by omega), List.getElem?_eq_getElem (by omega)]
    have hT1 : sTix (xK X o) s (Int32.ofNat (x + 1)) = (((xK X o).2.1 s)[x - a]'(by omega)) 0 := by
      unfold sTix
      rw [if_neg (fun z => by rw [ha] at z; have := i32_nat (by omega) (by omega) z; omega), hx1]
    have hT2 : sTix (xK X o) t (Int32.ofNat (x + 1)) = (((xK X o).2.1 t)[x - a2]'(by omega)) 0 := by
      unfold sTix
      rw [if_neg (fun z => by rw [ha2] at z; have := i32_nat (by omega) (by omega) z; omega), hx2]
    refine AT.iload M_227 rfl rfl ?_
    refine AT.iload_n M_227 rfl rfl ?_
    refine AT.icmp_ge M_227 rfl (fun b22 => absurd ((i32_le (a := m) (b := x) (by omega) (by omega)).mp b22) (by omega)) (fun b22 => ?_)
    refine AT.aload_n M_227 rfl rfl ?_
    refine AT.iload_n M_227 rfl rfl ?_
    refine AT.iload M_227 rfl rfl ?_
    refine AT.iconst M_227 rfl (v := 1) (by decide) ?_
    refine AT.iadd M_227 rfl rfl ?_
    rw [i32_suc1]
    refine AT.iconst M_227 rfl (v := 0) (by decide) ?_
    refine AT.cv4i M_227 rfl M_190 rfl (Nat.le_of_ble_eq_true rfl) (xKd.of (sh_st h2 h4)) (by decide) (c_190 h2 h4 hs hx1 ⟨a, ha, hl⟩ (c := 0) (by omega) rfl) ?_ (Nat.le_of_ble_eq_true rfl) rfl
    refine AT.aload_n M_227 rfl rfl ?_
    refine AT.iload_n M_227 rfl rfl ?_
    refine AT.iload M_227 rfl rfl ?_
    refine AT.iconst M_227 rfl (v := 1) (by decide) ?_
    refine AT.iadd M_227 rfl rfl ?_
    rw [i32_suc1]
    refine AT.iconst M_227 rfl (v := 0) (by decide) ?_
    refine AT.cv4i M_227 rfl M_190 rfl (Nat.le_of_ble_eq_true rfl) (xKd.of (sh_st h2 h4)) (by decide) (c_190 (s := t) h2 h4 ht hx2 ⟨a2, ha2, hl2⟩ (c := 0) (by omega) rfl) ?_ (Nat.le_of_ble_eq_true rfl) rfl
    refine AT.icmp_ne M_227 rfl (fun b37 => ?_) (fun b37 => ?_)
    · refine AT.iload M_227 rfl rfl ?_
      refine AT.iret M_227 rfl rfl ?_
      rw [show sAgrN (xK X o) (xK X o) s t (n + 1) x = x from if_neg (by rw [hT1, hT2]; exact b37)]
      exact ⟨rfl, rfl⟩
    · refine AT.iinc4 M_227 rfl rfl (i32_succ _) ?_
      refine AT.goto M_227 rfl ?_
      rw [show sAgrN (xK X o) (xK X o) s t (n + 1) x = sAgrN (xK X o) (xK X o) s t n (x + 1) from if_pos (by rw [hT1, hT2]; exact Classical.not_not.mp b37)]
      exact l_227 h2 h4 hs ht ha ha2 hl hl2 hm hm2 n (x + 1) (by omega) (by omega) (by omega)
theorem c_227 {X : XS} {o s t : Nat} (h2 : 2 ≤ o) (h4 : o < 4) (hs : s < 7) (ht : t < 7) (hk : sOk (xK X o) s) (hk2 : sOk (xK X o) t) : RT 227 [some (.ref (bB o)), some (.int (Int32.ofNat s)), some (.int (Int32.ofNat t)), none, none] X (some (.int (sAgr (xK X o) s t))) X := by
  have hl := hk.2.2.2.2.1
  have hl2 := hk2.2.2.2.2.1
  refine AT.aload_n M_227 rfl rfl ?_
  refine AT.iload_n M_227 rfl rfl ?_
  refine AT.cv2i M_227 rfl M_187 rfl (Nat.le_of_ble_eq_true rfl) (xKd.of (sh_st h2 h4)) (by decide) (c_187 h2 h4 hs) ?_ (Nat.le_of_ble_eq_true rfl) rfl
  refine AT.aload_n M_227 rfl rfl ?_
  refine AT.iload_n M_227 rfl rfl ?_
  refine AT.cv2i M_227 rfl M_187 rfl (Nat.le_of_ble_eq_true rfl) (xKd.of (sh_st h2 h4)) (by decide) (c_187 (s := t) h2 h4 ht) ?_ (Nat.le_of_ble_eq_true rfl) rfl
  rw [sLast_of hk.1, sLast_of hk2.1]
  refine AT.min M_227 rfl rfl (Nat.le_of_ble_eq_true rfl) (v := Int32.ofNat (min (kA (xK X o) s + ((xK X o).2.1 s).length) (kA (xK X o) t + ((xK X o).2.1 t).length))) (i32_mm (by omega) (by omega)) ?_
  refine AT.ist3 M_227 rfl rfl ?_
  refine AT.iload_n M_227 rfl rfl ?_
  refine AT.aload_n M_227 rfl rfl ?_
  refine AT.r10_13 M_227 rfl h2 h4 ?_
  refine AT.iload_n M_227 rfl rfl ?_
  refine AT.ra_18_0 M_227 rfl rfl h2 h4 (by assumption) ?_
  refine AT.aload_n M_227 rfl rfl ?_
  refine AT.r10_13 M_227 rfl h2 h4 ?_
  refine AT.iload_n M_227 rfl rfl ?_
  refine AT.ra_18_0 M_227 rfl rfl h2 h4 (by assumption) ?_
  rw [hk.1, hk2.1]
  refine AT.max M_227 rfl rfl (Nat.le_of_ble_eq_true rfl) (v := Int32.ofNat (max (kA (xK X o) s) (kA (xK X o) t))) ((i32_mx (by omega) (by omega)).trans (by congr 1; omega)) ?_
  refine AT.min M_227 rfl rfl (Nat.le_of_ble_eq_true rfl) (v := Int32.ofNat (min (min (kA (xK X o) s + ((xK X o).2.1 s).length) (kA (xK X o) t + ((xK X o).2.1 t).length)) (max (kA (xK X o) s) (kA (xK X o) t)))) (i32_mm (by omega) (by omega)) ?_
  refine AT.ist4 M_227 rfl rfl ?_
  unfold sAgr sAgr2
  by_cases hc : (min (kA (xK X o) s + ((xK X o).2.1 s).length) (kA (xK X o) t + ((xK X o).2.1 t).length)) ≤ (max (kA (xK X o) s) (kA (xK X o) t))
  · rw [if_pos hc, Nat.min_eq_left hc]
    exact l_227 h2 h4 hs ht hk.1 hk2.1 (by omega) (by omega) (Nat.min_le_left _ _) (Nat.min_le_right _ _) 0 _ (by omega) (Or.inr rfl) (Or.inr rfl)
  · rw [if_neg hc, Nat.min_eq_right (by omega : (max (kA (xK X o) s) (kA (xK X o) t)) ≤ (min (kA (xK X o) s + ((xK X o).2.1 s).length) (kA (xK X o) t + ((xK X o).2.1 t).length)))]
    exact l_227 h2 h4 hs ht hk.1 hk2.1 (by omega) (by omega) (Nat.min_le_left _ _) (Nat.min_le_right _ _) ((min (kA (xK X o) s + ((xK X o).2.1 s).length) (kA (xK X o) t + ((xK X o).2.1 t).length)) - (max (kA (xK X o) s) (kA (xK X o) t))) _ (by omega) (Or.inl (Nat.le_max_left _ _)) (Or.inl (Nat.le_max_right _ _))
