/-! ===== THE REFERENCE: a leader looks what is committed ===== -/
theorem i32_orN (x y : Nat) : Int32.ofNat x ||| Int32.ofNat y = Int32.ofNat (x ||| y) := by
  rw [← Int32.toBitVec_inj, Int32.toBitVec_or]
  show BitVec.ofNat 32 x ||| BitVec.ofNat 32 y = BitVec.ofNat 32 (x ||| y)
  rw [BitVec.ofNat_or]
theorem i32_andN (x y : Nat) : Int32.ofNat x &&& Int32.ofNat y = Int32.ofNat (x &&& y) := by
  rw [← Int32.toBitVec_inj, Int32.toBitVec_and]
  show BitVec.ofNat 32 x &&& BitVec.ofNat 32 y = BitVec.ofNat 32 (x &&& y)
  rw [BitVec.ofNat_and]
theorem i32_shlN : ∀ q, q < 7 → (1 : Int32) <<< (Int32.ofNat q &&& 31) = Int32.ofNat (2 ^ q) := by decide
theorem sCnt_sum (x : Int32) : sCnt x = sSum (fun j => bI (sBit x j)) 7 := by
  have e0 : x >>> Int32.ofNat 0 = x := by
    show x >>> (0 : Int32) = x
    first | exact Int32.shiftRight_zero | simp
  have h : ∀ j, (x >>> Int32.ofNat j) &&& (1 : Int32) = bI (sBit x j) := fun j => i32_and1 _
  have h0 : x &&& (1 : Int32) = bI (sBit x 0) := by have := h 0; rw [e0] at this; exact this
  show (x &&& (1 : Int32)) + ((x >>> Int32.ofNat 1) &&& (1 : Int32)) + ((x >>> Int32.ofNat 2) &&& (1 : Int32)) + ((x >>> Int32.ofNat 3) &&& (1 : Int32)) + ((x >>> Int32.ofNat 4) &&& (1 : Int32)) + ((x >>> Int32.ofNat 5) &&& (1 : Int32)) + ((x >>> Int32.ofNat 6) &&& (1 : Int32)) = 0 + bI (sBit x 0) + bI (sBit x 1) + bI (sBit x 2) + bI (sBit x 3) + bI (sBit x 4) + bI (sBit x 5) + bI (sBit x 6)
  rw [h0, h, h, h, h, h, h, Int32.zero_add]
theorem sBit_nat : ∀ n, n < 128 → ∀ j, j < 7 → sBit (Int32.ofNat n) j = n.testBit j := by
  unfold sBit
  decide +kernel
def nHave (n s : Nat) (p : Nat → Bool) : Nat → Nat
  | 0 => n &&& 2 ^ s
  | q + 1 => if ¬ q = s ∧ p q = true then nHave n s p q ||| (n &&& 2 ^ q) else nHave n s p q
theorem nHave_bit (n s j : Nat) (p : Nat → Bool) : ∀ q, (nHave n s p q).testBit j = (n.testBit j && (decide (j = s) || (decide (j < q) && p j)))
  | 0 => by
    unfold nHave
    rw [Nat.testBit_and, Nat.testBit_two_pow]
    by_cases h : j = s
    · simp [h]
    · simp [h, Ne.symm h]
  | q + 1 => by
    unfold nHave
    have ih := nHave_bit n s j p q
    split
    · rename_i h
      rw [Nat.testBit_or, Nat.testBit_and, Nat.testBit_two_pow, ih]
      by_cases e : j = q
      · subst e; simp [h.2, h.1]
      · have e1 : decide (j < q + 1) = decide (j < q) := by
          rw [decide_eq_decide]; omega
        rw [e1, show decide (q = j) = false from decide_eq_false (fun z => e z.symm), Bool.and_false, Bool.or_false]
    · rename_i h
      rw [ih]
      by_cases e : j = q
      · subst e
        by_cases e2 : j = s
        · simp [e2]
        · have hp : p j = false := by
            cases hb : p j with
            | false => rfl
            | true => exact absurd ⟨e2, hb⟩ h
          simp [hp]
      · have e1 : decide (j < q + 1) = decide (j < q) := by
          rw [decide_eq_decide]; omega
        rw [e1]
theorem nHave_lt {n s : Nat} {p : Nat → Bool} (hn : n < 128) : ∀ q, nHave n s p q < 128
  | 0 => Nat.lt_of_le_of_lt Nat.and_le_left hn
  | q + 1 => by
    unfold nHave
    split
    · exact Nat.or_lt_two_pow (n := 7) (nHave_lt hn q) (Nat.lt_of_le_of_lt Nat.and_le_left hn)
    · exact nHave_lt hn q
theorem sSum_congr {f g : Nat → Int32} : ∀ n, (∀ j, j < n → f j = g j) → sSum f n = sSum g n
  | 0, _ => rfl
  | n + 1, h => by
    unfold sSum
    rw [sSum_congr n (fun j hj => h j (by omega)), h n (by omega)]
theorem sHave_n {K : KK} {s n : Nat} {x : Int32} (hn : n < 128) : sHave K s (Int32.ofNat n) x = decide (sCnt (Int32.ofNat n) < 2 * sCnt (Int32.ofNat (nHave n s (fun j => decide (x ≤ K.1 3 s j)) 7))) := by
  unfold sHave
  rw [sCnt_sum, sCnt_sum]
  congr 3
  refine sSum_congr 7 (fun j hj => ?_)
  rw [sBit_nat n hn j hj, sBit_nat _ (nHave_lt hn 7) j hj, nHave_bit]
  rw [show decide (j < 7) = true from decide_eq_true hj, Bool.true_and]
theorem l_207h {X : XS} {o s n xx : Nat} {Q : PO → XS → Prop} (h2 : 2 ≤ o) (h4 : o < 4) (hs : s < 7) (hn : n < 128) : ∀ d q : Nat, q + d = 7 → (AT 207 63 [some (.ref (bB o)), some (.int (Int32.ofNat s)), some (.int (Int32.ofNat n)), some (.int (Int32.ofNat xx)), some (.int (Int32.ofNat (nHave n s (fun j => decide ((Int32.ofNat xx) ≤ (xK X o).1 3 s j)) 7))), some (.int (Int32.ofNat 7))] [] X Q) → AT 207 39 [some (.ref (bB o)), some (.int (Int32.ofNat s)), some (.int (Int32.ofNat n)), some (.int (Int32.ofNat xx)), some (.int (Int32.ofNat (nHave n s (fun j => decide ((Int32.ofNat xx) ≤ (xK X o).1 3 s j)) q))), some (.int (Int32.ofNat q))] [] X Q
  | 0, q, hq, hk => by
    refine AT.iload M_207 rfl rfl ?_
    refine AT.bipush M_207 rfl (v := 7) (by decide) ?_
    refine AT.icmp_ge M_207 rfl (fun b41 => ?_) (fun b41 => absurd (by rw [show q = 7 by omega]; exact Int32.le_refl _) b41)
    have e : q = 7 := by omega
    subst e
    exact hk
  | d + 1, q, hq, hk => by
    refine AT.iload M_207 rfl rfl ?_
    refine AT.bipush M_207 rfl (v := 7) (by decide) ?_
    refine AT.icmp_ge M_207 rfl (fun b41 => absurd ((i32_le (a := 7) (b := q) (by omega) (by omega)).mp b41) (by omega)) (fun b41 => ?_)
    refine AT.iload M_207 rfl rfl ?_
    refine AT.iload_n M_207 rfl rfl ?_
    refine AT.icmp_eq M_207 rfl (fun b44 => ?_) (fun b44 => ?_)
    · refine AT.iinc5 M_207 rfl rfl (i32_succ _) ?_
      refine AT.goto M_207 rfl ?_
      rw [show nHave n s (fun j => decide ((Int32.ofNat xx) ≤ (xK X o).1 3 s j)) q = nHave n s (fun j => decide ((Int32.ofNat xx) ≤ (xK X o).1 3 s j)) (q + 1) from (if_neg (fun z => z.1 (i32_nat (by omega) (by omega) b44)) : nHave n s (fun j => decide ((Int32.ofNat xx) ≤ (xK X o).1 3 s j)) (q + 1) = _).symm]
      exact l_207h h2 h4 hs hn d (q + 1) (by omega) hk
    · refine AT.aload_n M_207 rfl rfl ?_
      refine AT.r10_21 M_207 rfl h2 h4 ?_
      refine AT.iload_n M_207 rfl rfl ?_
      refine AT.rr_mat M_207 rfl rfl h2 h4 (by assumption) ?_
      refine AT.iload M_207 rfl rfl ?_
      refine AT.ra_mat M_207 rfl rfl h2 h4 (by assumption) (by omega) ?_
      refine AT.iload_n M_207 rfl rfl ?_
      refine AT.icmp_lt M_207 rfl (fun b52 => ?_) (fun b52 => ?_)
      · refine AT.iinc5 M_207 rfl rfl (i32_succ _) ?_
        refine AT.goto M_207 rfl ?_
        rw [show nHave n s (fun j => decide ((Int32.ofNat xx) ≤ (xK X o).1 3 s j)) q = nHave n s (fun j => decide ((Int32.ofNat xx) ≤ (xK X o).1 3 s j)) (q + 1) from (if_neg (fun z => absurd b52 (Int32.not_lt.mpr (of_decide_eq_true z.2))) : nHave n s (fun j => decide ((Int32.ofNat xx) ≤ (xK X o).1 3 s j)) (q + 1) = _).symm]
        exact l_207h h2 h4 hs hn d (q + 1) (by omega) hk
      · refine AT.iload M_207 rfl rfl ?_
        refine AT.iload_n M_207 rfl rfl ?_
        refine AT.iconst M_207 rfl (v := 1) (by decide) ?_
        refine AT.iload M_207 rfl rfl ?_
        refine AT.ishl M_207 rfl rfl ?_
        refine AT.iand M_207 rfl rfl ?_
        refine AT.ior M_207 rfl rfl ?_
        rw [i32_shlN q (by omega), i32_andN, i32_orN]
        refine AT.ist4 M_207 rfl rfl ?_
        refine AT.iinc5 M_207 rfl rfl (i32_succ _) ?_
        refine AT.goto M_207 rfl ?_
        rw [show (nHave n s (fun j => decide ((Int32.ofNat xx) ≤ (xK X o).1 3 s j)) q ||| (n &&& 2 ^ q)) = nHave n s (fun j => decide ((Int32.ofNat xx) ≤ (xK X o).1 3 s j)) (q + 1) from (if_pos ⟨fun z => b44 (by rw [z]), decide_eq_true (Int32.not_lt.mp b52)⟩ : nHave n s (fun j => decide ((Int32.ofNat xx) ≤ (xK X o).1 3 s j)) (q + 1) = _).symm]
        exact l_207h h2 h4 hs hn d (q + 1) (by omega) hk
theorem l_207d {X : XS} {o s nn a c : Nat} {Q : PO → XS → Prop} (h2 : 2 ≤ o) (h4 : o < 4) (hs : s < 7) (hnn : nn < 128) (ha : (xK X o).1 18 s 0 = Int32.ofNat a) (h15 : (xK X o).1 15 s 0 = Int32.ofNat c) (hac : a ≤ c) (hl : a + ((xK X o).2.1 s).length < 16777216) : ∀ n : Nat, c + n ≤ a + ((xK X o).2.1 s).length → (∀ x3 x4 x5, AT 207 79 [some (.ref (bB o)), some (.int (Int32.ofNat s)), some (.int (Int32.ofNat nn)), some (.int x3), x4, x5] [] (xSetK X o (kSet (xK X o) 15 s 0 (Int32.ofNat (c + sLkN (fun k => sLkP (xK X o) s (Int32.ofNat nn) (Int32.ofNat (c + k))) n)))) Q) → ∀ x4 x5, AT 207 8 [some (.ref (bB o)), some (.int (Int32.ofNat s)), some (.int (Int32.ofNat nn)), some (.int (Int32.ofNat (c + n))), x4, x5] [] X Q
  | 0, hn, hk, x4, x5 => by
    refine AT.iload_n M_207 rfl rfl ?_
    refine AT.aload_n M_207 rfl rfl ?_
    refine AT.r10_13 M_207 rfl h2 h4 ?_
    refine AT.iload_n M_207 rfl rfl ?_
    refine AT.ra_18_0 M_207 rfl rfl h2 h4 (by assumption) ?_
    refine AT.icmp_le M_207 rfl (fun b13 => ?_) (fun b13 => ?_)
    · have e : (xSetK X o (kSet (xK X o) 15 s 0 (Int32.ofNat (c + sLkN (fun k => sLkP (xK X o) s (Int32.ofNat nn) (Int32.ofNat (c + k))) 0)))) = X := by
        rw [show sLkN _ 0 = 0 from rfl, Nat.add_zero, ← h15, kSet_self]
        exact xSetK_self _ _
      rw [e] at hk
      exact hk _ _ _
    · refine AT.iload_n M_207 rfl rfl ?_
      refine AT.aload_n M_207 rfl rfl ?_
      refine AT.r10_8 M_207 rfl h2 h4 ?_
      refine AT.iload_n M_207 rfl rfl ?_
      refine AT.ra_15 M_207 rfl rfl h2 h4 (by assumption) ?_
      refine AT.icmp_le M_207 rfl (fun b19 => ?_) (fun b19 => absurd (by rw [h15]; exact Int32.le_refl _) b19)
      have e : (xSetK X o (kSet (xK X o) 15 s 0 (Int32.ofNat (c + sLkN (fun k => sLkP (xK X o) s (Int32.ofNat nn) (Int32.ofNat (c + k))) 0)))) = X := by
        rw [show sLkN _ 0 = 0 from rfl, Nat.add_zero, ← h15, kSet_self]
        exact xSetK_self _ _
      rw [e] at hk
      exact hk _ _ _
  | n + 1, hn, hk, x4, x5 => by
    have hx : sEnt (xK X o) s (Int32.ofNat (c + (n + 1))) = some (((xK X o).2.1 s)[c - a + n]'(by omega)) := by
      rw [show c + (n + 1) = a + 1 + (c - a + n) by omega, sEnt_at ha hl (by omega), List.getElem?_eq_getElem (by omega)]
    have hT : sTix (xK X o) s (Int32.ofNat (c + (n + 1))) = (((xK X o).2.1 s)[c - a + n]'(by omega)) 0 := by
      unfold sTix
      rw [if_neg (fun z => by rw [ha] at z; have := i32_nat (by omega) (by omega) z; omega), hx]
    refine AT.iload_n M_207 rfl rfl ?_
    refine AT.aload_n M_207 rfl rfl ?_
    refine AT.r10_13 M_207 rfl h2 h4 ?_
    refine AT.iload_n M_207 rfl rfl ?_
    refine AT.ra_18_0 M_207 rfl rfl h2 h4 (by assumption) ?_
    refine AT.icmp_le M_207 rfl (fun b13 => absurd ((i32_le (a := c + (n + 1)) (b := a) (by omega) (by omega)).mp (by rw [← ha]; exact b13)) (by omega)) (fun b13 => ?_)
    refine AT.iload_n M_207 rfl rfl ?_
    refine AT.aload_n M_207 rfl rfl ?_
    refine AT.r10_8 M_207 rfl h2 h4 ?_
    refine AT.iload_n M_207 rfl rfl ?_
    refine AT.ra_15 M_207 rfl rfl h2 h4 (by assumption) ?_
    refine AT.icmp_le M_207 rfl (fun b19 => absurd ((i32_le (a := c + (n + 1)) (b := c) (by omega) (by omega)).mp (by rw [← h15]; exact b19)) (by omega)) (fun b19 => ?_)
    refine AT.aload_n M_207 rfl rfl ?_
    refine AT.iload_n M_207 rfl rfl ?_
    refine AT.iload_n M_207 rfl rfl ?_
    refine AT.iconst M_207 rfl (v := 0) (by decide) ?_
    refine AT.cv4i M_207 rfl M_190 rfl (Nat.le_of_ble_eq_true rfl) (xKd.of (sh_st h2 h4)) (by decide) (c_190 h2 h4 hs hx ⟨a, ha, hl⟩ (c := 0) (by omega) rfl) ?_ (Nat.le_of_ble_eq_true rfl) rfl
    refine AT.aload_n M_207 rfl rfl ?_
    refine AT.r10_3 M_207 rfl h2 h4 ?_
    refine AT.iload_n M_207 rfl rfl ?_
    refine AT.ra_5 M_207 rfl rfl h2 h4 (by assumption) ?_
    refine AT.icmp_eq M_207 rfl (fun b29 => ?_) (fun b29 => ?_)
    · refine AT.iload_n M_207 rfl rfl ?_
      refine AT.iconst M_207 rfl (v := 1) (by decide) ?_
      refine AT.iload_n M_207 rfl rfl ?_
      refine AT.ishl M_207 rfl rfl ?_
      refine AT.iand M_207 rfl rfl ?_
      refine AT.ist4 M_207 rfl rfl ?_
      refine AT.iconst M_207 rfl (v := 0) (by decide) ?_
      refine AT.ist5 M_207 rfl rfl ?_
      rw [i32_shlN s hs, i32_andN, show nn &&& 2 ^ s = nHave nn s (fun j => decide (Int32.ofNat (c + (n + 1)) ≤ (xK X o).1 3 s j)) 0 from rfl]
      refine l_207h h2 h4 hs hnn 7 0 rfl ?_
      refine AT.iconst M_207 rfl (v := 2) (by decide) ?_
      refine AT.iload M_207 rfl rfl ?_
      refine AT.cs1i M_207 rfl M_197 rfl (Nat.le_of_ble_eq_true rfl) rfl (c_197 (nHave_lt hnn 7)) ?_ (Nat.le_of_ble_eq_true rfl) rfl
      refine AT.imul M_207 rfl rfl ?_
      refine AT.iload_n M_207 rfl rfl ?_
      refine AT.cs1i M_207 rfl M_197 rfl (Nat.le_of_ble_eq_true rfl) rfl (c_197 hnn) ?_ (Nat.le_of_ble_eq_true rfl) rfl
      refine AT.icmp_gt M_207 rfl (fun b69 => ?_) (fun b69 => ?_)
      · refine AT.aload_n M_207 rfl rfl ?_
        refine AT.r10_8 M_207 rfl h2 h4 ?_
        refine AT.iload_n M_207 rfl rfl ?_
        refine AT.iload_n M_207 rfl rfl ?_
        refine AT.rs_15 M_207 rfl rfl h2 h4 (by assumption) ?_
        refine AT.goto M_207 rfl ?_
        rw [show sLkN (fun k => sLkP (xK X o) s (Int32.ofNat nn) (Int32.ofNat (c + k))) (n + 1) = n + 1 from if_pos (Bool.and_eq_true_iff.mpr ⟨by rw [hT]; exact decide_eq_true b29, by rw [sHave_n hnn]; exact decide_eq_true b69⟩)] at hk
        exact hk _ _ _
      · refine AT.goto M_207 rfl ?_
        refine AT.iinc3 M_207 rfl rfl (show Int32.ofNat (c + (n + 1)) + Int32.ofInt (-1) = Int32.ofNat (c + n) from i32_dec _) ?_
        refine AT.goto M_207 rfl ?_
        rw [show sLkN (fun k => sLkP (xK X o) s (Int32.ofNat nn) (Int32.ofNat (c + k))) (n + 1) = sLkN (fun k => sLkP (xK X o) s (Int32.ofNat nn) (Int32.ofNat (c + k))) n from if_neg (fun z => b69 (by have h9 := (Bool.and_eq_true_iff.mp z).2; rw [sHave_n hnn] at h9; exact of_decide_eq_true h9))] at hk
        exact l_207d h2 h4 hs hnn ha h15 hac hl n (by omega) hk _ _
    · refine AT.goto M_207 rfl ?_
      refine AT.iinc3 M_207 rfl rfl (show Int32.ofNat (c + (n + 1)) + Int32.ofInt (-1) = Int32.ofNat (c + n) from i32_dec _) ?_
      refine AT.goto M_207 rfl ?_
      rw [show sLkN (fun k => sLkP (xK X o) s (Int32.ofNat nn) (Int32.ofNat (c + k))) (n + 1) = sLkN (fun k => sLkP (xK X o) s (Int32.ofNat nn) (Int32.ofNat (c + k))) n from if_neg (fun z => b29 (by have h9 := (Bool.and_eq_true_iff.mp z).1; rw [hT] at h9; exact of_decide_eq_true h9))] at hk
      exact l_207d h2 h4 hs hnn ha h15 hac hl n (by omega) hk _ _
