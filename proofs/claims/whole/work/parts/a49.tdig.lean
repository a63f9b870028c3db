/-! ===== THE TWIN: the mean; the checksum ===== -/
def xG (X : XS) (t : Int32) (l : List Int32) : XS := xSetT (xSetS X (sDig (xS X) l)) t
theorem lFor_nil {f : Nat → List Int32} : ∀ n q, (∀ j, f j = []) → lFor f n q = []
  | 0, _, _ => rfl
  | n + 1, q, h => by
    show f q ++ lFor f n (q + 1) = []
    rw [h q, lFor_nil n (q + 1) h]; rfl
theorem l_318 {X : XS} (hk : ∀ i, i < 7 → sOk (xK X 2) i) : ∀ d q : Nat, q + d = 7 → AT 318 7 [some (.ref 388), some (.int (Int32.ofNat (sComN (xK X 2) q))), some (.int (Int32.ofNat q))] [] (xSetT X 0) (fun o' Y => o' = .inl (some (.double (sMean (xK X 2)))) ∧ Y = (xSetT X 0))
  | 0, q, hq => by
    have e7 : q = 7 := by omega
    subst e7
    refine AT.iload_n M_318 rfl rfl ?_
    refine AT.bipush M_318 rfl (v := 7) (by decide) ?_
    refine AT.icmp_ge M_318 rfl (fun b9 => ?_) (fun b9 => absurd (Int32.le_refl _) b9)
    refine AT.aload_n M_318 rfl rfl ?_
    refine AT.cv1i M_318 rfl M_239 rfl (Nat.le_of_ble_eq_true rfl) (xKd.of sh_mod) (by decide) (c_239 (X := (xSetT X 0))) ?_ (Nat.le_of_ble_eq_true rfl) rfl
    refine AT.if_ne M_318 rfl (fun b30 => ?_) (fun b30 => ?_)
    · refine AT.iload_n M_318 rfl rfl ?_
      refine AT.i2d M_318 rfl ?_
      refine AT.aload_n M_318 rfl rfl ?_
      refine AT.cv1i M_318 rfl M_239 rfl (Nat.le_of_ble_eq_true rfl) (xKd.of sh_mod) (by decide) (c_239 (X := (xSetT X 0))) ?_ (Nat.le_of_ble_eq_true rfl) rfl
      refine AT.i2d M_318 rfl ?_
      refine AT.ddiv M_318 rfl rfl (fp_div _ _ b30) ?_
      refine AT.dret M_318 rfl rfl ?_
      rw [show sMean (xK X 2) = FP.ddiv (FP.i2d (Int32.ofNat (sComN (xK X 2) 7))) (FP.i2d (sUp (xK X 2))) from if_neg b30]
      exact ⟨rfl, rfl⟩
    · refine AT.dconst M_318 rfl ?_
      refine AT.goto M_318 rfl ?_
      refine AT.dret M_318 rfl rfl ?_
      rw [show sMean (xK X 2) = FP.dconst0 from if_pos (Classical.not_not.mp b30)]
      exact ⟨rfl, rfl⟩
  | d + 1, q, hq => by
    have hq7 : q < 7 := by omega
    refine AT.iload_n M_318 rfl rfl ?_
    refine AT.bipush M_318 rfl (v := 7) (by decide) ?_
    refine AT.icmp_ge M_318 rfl (fun b9 => absurd ((i32_le (a := 7) (b := q) (by omega) (by omega)).mp b9) (by omega)) (fun b9 => ?_)
    refine AT.iload_n M_318 rfl rfl ?_
    refine AT.aload_n M_318 rfl rfl ?_
    refine AT.r11_0 M_318 rfl ?_
    refine AT.r10_2 M_318 rfl (show 2 ≤ 2 by omega) (show 2 < 4 by omega) ?_
    refine AT.iload_n M_318 rfl rfl ?_
    refine AT.ra_4 M_318 rfl rfl (show 2 ≤ 2 by omega) (show 2 < 4 by omega) hq7 ?_
    refine AT.if_eq M_318 rfl (fun b16 => ?_) (fun b16 => ?_)
    · refine AT.iconst M_318 rfl (v := 0) (by decide) ?_
      refine AT.iadd M_318 rfl rfl ?_
      refine AT.ist1 M_318 rfl rfl ?_
      refine AT.iinc2 M_318 rfl rfl (i32_succ _) ?_
      refine AT.goto M_318 rfl ?_
      rw [Int32.add_zero, show sComN (xK X 2) q = sComN (xK X 2) (q + 1) from by show _ = _ + (if _ then _ else _); rw [if_neg (not_not_intro (show (xK X 2).1 4 q 0 = 0 from b16))]; rfl]
      exact l_318 hk d (q + 1) (by omega)
    · refine AT.aload_n M_318 rfl rfl ?_
      refine AT.r11_0 M_318 rfl ?_
      refine AT.r10_8 M_318 rfl (show 2 ≤ 2 by omega) (show 2 < 4 by omega) ?_
      refine AT.iload_n M_318 rfl rfl ?_
      refine AT.ra_15 M_318 rfl rfl (show 2 ≤ 2 by omega) (show 2 < 4 by omega) hq7 ?_
      rw [show (xK (xSetT X 0) 2).1 15 q 0 = Int32.ofNat (kC (xK X 2) q) from (hk q hq7).2.1]
      refine AT.goto M_318 rfl ?_
      refine AT.iadd M_318 rfl rfl ?_
      refine AT.ist1 M_318 rfl rfl ?_
      refine AT.iinc2 M_318 rfl rfl (i32_succ _) ?_
      refine AT.goto M_318 rfl ?_
      rw [← Int32.ofNat_add, show sComN (xK X 2) q + kC (xK X 2) q = sComN (xK X 2) (q + 1) from by show _ = _ + (if _ then _ else _); rw [if_pos (show ¬ (xK X 2).1 4 q 0 = 0 from b16)]]
      exact l_318 hk d (q + 1) (by omega)
theorem c_318 {X : XS} (hk : ∀ i, i < 7 → sOk (xK X 2) i) : RT 318 [some (.ref 388), none, none] X (some (.double (sMean (xK X 2)))) (xSetT X 0) := by
  refine AT.aload_n M_318 rfl rfl ?_
  refine AT.iconst M_318 rfl (v := 0) (by decide) ?_
  refine AT.w11_2 M_318 rfl ?_
  refine AT.iconst M_318 rfl (v := 0) (by decide) ?_
  refine AT.ist1 M_318 rfl rfl ?_
  refine AT.iconst M_318 rfl (v := 0) (by decide) ?_
  refine AT.ist2 M_318 rfl rfl ?_
  exact l_318 hk 7 0 rfl
theorem c_319 {X : XS} {t x : Int32} {l l' : List Int32} (h : l' = l ++ [x]) : RT 319 [some (.ref 388), some (.int x)] (xG X t l) none (xG X t l') := by
  refine AT.aload_n M_319 rfl rfl ?_
  refine AT.aload_n M_319 rfl rfl ?_
  refine AT.r11_3 M_319 rfl ?_
  refine AT.ldc2 M_319 rfl rfl rfl ?_
  refine AT.lmul M_319 rfl rfl ?_
  refine AT.iload_n M_319 rfl rfl ?_
  refine AT.i2l M_319 rfl ?_
  refine AT.ladd M_319 rfl rfl ?_
  refine AT.w11_3 M_319 rfl ?_
  refine AT.vret M_319 rfl rfl ?_
  rw [h, show xG X t (l ++ [x]) = xSetS (xG X t l) (sDig (xS X) l * Int64.ofNat 31 + x.toInt64) from by unfold xG; rw [sDig_app]; rfl]
  exact ⟨rfl, rfl⟩
theorem l_320a {X : XS} {s : Nat} {t : Int32} {l : List Int32} {x2 : Option Value} {Q : PO → XS → Prop} (hs : s < 7) (hk : AT 320 11 [some (.ref 388), some (.int (Int32.ofNat s)), x2] [] (xG X t (l ++ [bI (decide (¬ (xK X 2).1 4 s 0 = 0))])) Q) : AT 320 0 [some (.ref 388), some (.int (Int32.ofNat s)), x2] [] (xG X t l) Q := by
  refine AT.aload_n M_320 rfl rfl ?_
  refine AT.aload_n M_320 rfl rfl ?_
  refine AT.r11_0 M_320 rfl ?_
  refine AT.r10_2 M_320 rfl (show 2 ≤ 2 by omega) (show 2 < 4 by omega) ?_
  refine AT.iload_n M_320 rfl rfl ?_
  refine AT.ra_4 M_320 rfl rfl (show 2 ≤ 2 by omega) (show 2 < 4 by omega) hs ?_
  refine AT.if_eq M_320 rfl (fun b6 => ?_) (fun b6 => ?_)
  · refine AT.iconst M_320 rfl (v := 0) (by decide) ?_
    refine AT.cv20 M_320 rfl M_319 rfl (Nat.le_of_ble_eq_true rfl) (xKd.of sh_mod) (by decide) (c_319 (X := X) (t := t) (l' := l ++ [bI (decide (¬ (xK X 2).1 4 s 0 = 0))]) (by rw [show bI (decide (¬ (xK X 2).1 4 s 0 = 0)) = 0 from by rw [decide_eq_false (not_not_intro (show (xK X 2).1 4 s 0 = 0 from b6))]; rfl])) ?_ (Nat.le_of_ble_eq_true rfl) rfl
    exact hk
  · refine AT.iconst M_320 rfl (v := 1) (by decide) ?_
    refine AT.goto M_320 rfl ?_
    refine AT.cv20 M_320 rfl M_319 rfl (Nat.le_of_ble_eq_true rfl) (xKd.of sh_mod) (by decide) (c_319 (X := X) (t := t) (l' := l ++ [bI (decide (¬ (xK X 2).1 4 s 0 = 0))]) (by rw [show bI (decide (¬ (xK X 2).1 4 s 0 = 0)) = 1 from by rw [decide_eq_true (show ¬ (xK X 2).1 4 s 0 = 0 from b6)]; rfl])) ?_ (Nat.le_of_ble_eq_true rfl) rfl
    exact hk
theorem l_320b {X : XS} {s : Nat} {t : Int32} {l : List Int32} {x2 : Option Value} {Q : PO → XS → Prop} (hs : s < 7) (hk : sOk (xK X 2) s) (hc : AT 320 79 [some (.ref 388), some (.int (Int32.ofNat s)), x2] [] (xG X t (l ++ [(xK X 2).1 12 s 0, (xK X 2).1 5 s 0, (xK X 2).1 6 s 0, (xK X 2).1 13 s 0, (xK X 2).1 14 s 0, (xK X 2).1 18 s 0, sLast (xK X 2) s, sLastT (xK X 2) s, (xK X 2).1 15 s 0, sCnt (sMem (xK X 2) s)])) Q) : AT 320 11 [some (.ref 388), some (.int (Int32.ofNat s)), x2] [] (xG X t l) Q := by
  refine AT.aload_n M_320 rfl rfl ?_
  refine AT.aload_n M_320 rfl rfl ?_
  refine AT.r11_0 M_320 rfl ?_
  refine AT.r10_5 M_320 rfl (show 2 ≤ 2 by omega) (show 2 < 4 by omega) ?_
  refine AT.iload_n M_320 rfl rfl ?_
  refine AT.ra_12 M_320 rfl rfl (show 2 ≤ 2 by omega) (show 2 < 4 by omega) hs ?_
  refine AT.cv20 M_320 rfl M_319 rfl (Nat.le_of_ble_eq_true rfl) (xKd.of sh_mod) (by decide) (c_319 (X := X) (t := t) (l' := l ++ [(xK X 2).1 12 s 0]) (by rfl)) ?_ (Nat.le_of_ble_eq_true rfl) rfl
  refine AT.aload_n M_320 rfl rfl ?_
  refine AT.aload_n M_320 rfl rfl ?_
  refine AT.r11_0 M_320 rfl ?_
  refine AT.r10_3 M_320 rfl (show 2 ≤ 2 by omega) (show 2 < 4 by omega) ?_
  refine AT.iload_n M_320 rfl rfl ?_
  refine AT.ra_5 M_320 rfl rfl (show 2 ≤ 2 by omega) (show 2 < 4 by omega) hs ?_
  refine AT.cv20 M_320 rfl M_319 rfl (Nat.le_of_ble_eq_true rfl) (xKd.of sh_mod) (by decide) (c_319 (X := X) (t := t) (l' := l ++ [(xK X 2).1 12 s 0, (xK X 2).1 5 s 0]) (by rw [List.append_assoc]; rfl)) ?_ (Nat.le_of_ble_eq_true rfl) rfl
  refine AT.aload_n M_320 rfl rfl ?_
  refine AT.aload_n M_320 rfl rfl ?_
  refine AT.r11_0 M_320 rfl ?_
  refine AT.r10_4 M_320 rfl (show 2 ≤ 2 by omega) (show 2 < 4 by omega) ?_
  refine AT.iload_n M_320 rfl rfl ?_
  refine AT.ra_6 M_320 rfl rfl (show 2 ≤ 2 by omega) (show 2 < 4 by omega) hs ?_
  refine AT.cv20 M_320 rfl M_319 rfl (Nat.le_of_ble_eq_true rfl) (xKd.of sh_mod) (by decide) (c_319 (X := X) (t := t) (l' := l ++ [(xK X 2).1 12 s 0, (xK X 2).1 5 s 0, (xK X 2).1 6 s 0]) (by rw [List.append_assoc]; rfl)) ?_ (Nat.le_of_ble_eq_true rfl) rfl
  refine AT.aload_n M_320 rfl rfl ?_
  refine AT.aload_n M_320 rfl rfl ?_
  refine AT.r11_0 M_320 rfl ?_
  refine AT.r10_6 M_320 rfl (show 2 ≤ 2 by omega) (show 2 < 4 by omega) ?_
  refine AT.iload_n M_320 rfl rfl ?_
  refine AT.ra_13 M_320 rfl rfl (show 2 ≤ 2 by omega) (show 2 < 4 by omega) hs ?_
  refine AT.cv20 M_320 rfl M_319 rfl (Nat.le_of_ble_eq_true rfl) (xKd.of sh_mod) (by decide) (c_319 (X := X) (t := t) (l' := l ++ [(xK X 2).1 12 s 0, (xK X 2).1 5 s 0, (xK X 2).1 6 s 0, (xK X 2).1 13 s 0]) (by rw [List.append_assoc]; rfl)) ?_ (Nat.le_of_ble_eq_true rfl) rfl
  refine AT.aload_n M_320 rfl rfl ?_
  refine AT.aload_n M_320 rfl rfl ?_
  refine AT.r11_0 M_320 rfl ?_
  refine AT.r10_7 M_320 rfl (show 2 ≤ 2 by omega) (show 2 < 4 by omega) ?_
  refine AT.iload_n M_320 rfl rfl ?_
  refine AT.ra_14 M_320 rfl rfl (show 2 ≤ 2 by omega) (show 2 < 4 by omega) hs ?_
  refine AT.cv20 M_320 rfl M_319 rfl (Nat.le_of_ble_eq_true rfl) (xKd.of sh_mod) (by decide) (c_319 (X := X) (t := t) (l' := l ++ [(xK X 2).1 12 s 0, (xK X 2).1 5 s 0, (xK X 2).1 6 s 0, (xK X 2).1 13 s 0, (xK X 2).1 14 s 0]) (by rw [List.append_assoc]; rfl)) ?_ (Nat.le_of_ble_eq_true rfl) rfl
  refine AT.aload_n M_320 rfl rfl ?_
  refine AT.aload_n M_320 rfl rfl ?_
  refine AT.r11_0 M_320 rfl ?_
  refine AT.r10_13 M_320 rfl (show 2 ≤ 2 by omega) (show 2 < 4 by omega) ?_
  refine AT.iload_n M_320 rfl rfl ?_
  refine AT.ra_18_0 M_320 rfl rfl (show 2 ≤ 2 by omega) (show 2 < 4 by omega) hs ?_
  refine AT.cv20 M_320 rfl M_319 rfl (Nat.le_of_ble_eq_true rfl) (xKd.of sh_mod) (by decide) (c_319 (X := X) (t := t) (l' := l ++ [(xK X 2).1 12 s 0, (xK X 2).1 5 s 0, (xK X 2).1 6 s 0, (xK X 2).1 13 s 0, (xK X 2).1 14 s 0, (xK X 2).1 18 s 0]) (by rw [List.append_assoc]; rfl)) ?_ (Nat.le_of_ble_eq_true rfl) rfl
  refine AT.aload_n M_320 rfl rfl ?_
  refine AT.aload_n M_320 rfl rfl ?_
  refine AT.r11_0 M_320 rfl ?_
  refine AT.iload_n M_320 rfl rfl ?_
  refine AT.cv2i M_320 rfl M_187 rfl (Nat.le_of_ble_eq_true rfl) (xKd.of (sh_st (o := 2) (by omega) (by omega))) (by decide) (c_187 (X := xG X t (l ++ [(xK X 2).1 12 s 0, (xK X 2).1 5 s 0, (xK X 2).1 6 s 0, (xK X 2).1 13 s 0, (xK X 2).1 14 s 0, (xK X 2).1 18 s 0])) (o := 2) (by omega) (by omega) hs) ?_ (Nat.le_of_ble_eq_true rfl) rfl
  refine AT.cv20 M_320 rfl M_319 rfl (Nat.le_of_ble_eq_true rfl) (xKd.of sh_mod) (by decide) (c_319 (X := X) (t := t) (l' := l ++ [(xK X 2).1 12 s 0, (xK X 2).1 5 s 0, (xK X 2).1 6 s 0, (xK X 2).1 13 s 0, (xK X 2).1 14 s 0, (xK X 2).1 18 s 0, sLast (xK X 2) s]) (by rw [List.append_assoc]; rfl)) ?_ (Nat.le_of_ble_eq_true rfl) rfl
  refine AT.aload_n M_320 rfl rfl ?_
  refine AT.aload_n M_320 rfl rfl ?_
  refine AT.r11_0 M_320 rfl ?_
  refine AT.iload_n M_320 rfl rfl ?_
  refine AT.cv2i M_320 rfl M_192 rfl (Nat.le_of_ble_eq_true rfl) (xKd.of (sh_st (o := 2) (by omega) (by omega))) (by decide) (c_192 (X := xG X t (l ++ [(xK X 2).1 12 s 0, (xK X 2).1 5 s 0, (xK X 2).1 6 s 0, (xK X 2).1 13 s 0, (xK X 2).1 14 s 0, (xK X 2).1 18 s 0, sLast (xK X 2) s])) (o := 2) (by omega) (by omega) hs hk.wf) ?_ (Nat.le_of_ble_eq_true rfl) rfl
  refine AT.cv20 M_320 rfl M_319 rfl (Nat.le_of_ble_eq_true rfl) (xKd.of sh_mod) (by decide) (c_319 (X := X) (t := t) (l' := l ++ [(xK X 2).1 12 s 0, (xK X 2).1 5 s 0, (xK X 2).1 6 s 0, (xK X 2).1 13 s 0, (xK X 2).1 14 s 0, (xK X 2).1 18 s 0, sLast (xK X 2) s, sLastT (xK X 2) s]) (by rw [List.append_assoc]; rfl)) ?_ (Nat.le_of_ble_eq_true rfl) rfl
  refine AT.aload_n M_320 rfl rfl ?_
  refine AT.aload_n M_320 rfl rfl ?_
  refine AT.r11_0 M_320 rfl ?_
  refine AT.r10_8 M_320 rfl (show 2 ≤ 2 by omega) (show 2 < 4 by omega) ?_
  refine AT.iload_n M_320 rfl rfl ?_
  refine AT.ra_15 M_320 rfl rfl (show 2 ≤ 2 by omega) (show 2 < 4 by omega) hs ?_
  refine AT.cv20 M_320 rfl M_319 rfl (Nat.le_of_ble_eq_true rfl) (xKd.of sh_mod) (by decide) (c_319 (X := X) (t := t) (l' := l ++ [(xK X 2).1 12 s 0, (xK X 2).1 5 s 0, (xK X 2).1 6 s 0, (xK X 2).1 13 s 0, (xK X 2).1 14 s 0, (xK X 2).1 18 s 0, sLast (xK X 2) s, sLastT (xK X 2) s, (xK X 2).1 15 s 0]) (by rw [List.append_assoc]; rfl)) ?_ (Nat.le_of_ble_eq_true rfl) rfl
  refine AT.aload_n M_320 rfl rfl ?_
  refine AT.aload_n M_320 rfl rfl ?_
  refine AT.r11_0 M_320 rfl ?_
  refine AT.iload_n M_320 rfl rfl ?_
  refine AT.cv2i M_320 rfl M_195 rfl (Nat.le_of_ble_eq_true rfl) (xKd.of (sh_st (o := 2) (by omega) (by omega))) (by decide) (c_195 (X := xG X t (l ++ [(xK X 2).1 12 s 0, (xK X 2).1 5 s 0, (xK X 2).1 6 s 0, (xK X 2).1 13 s 0, (xK X 2).1 14 s 0, (xK X 2).1 18 s 0, sLast (xK X 2) s, sLastT (xK X 2) s, (xK X 2).1 15 s 0])) (o := 2) (by omega) (by omega) hs hk.wf) ?_ (Nat.le_of_ble_eq_true rfl) rfl
  refine AT.cs1i M_320 rfl M_197 rfl (Nat.le_of_ble_eq_true rfl) rfl (c_197x hk.m128) ?_ (Nat.le_of_ble_eq_true rfl) rfl
  refine AT.cv20 M_320 rfl M_319 rfl (Nat.le_of_ble_eq_true rfl) (xKd.of sh_mod) (by decide) (c_319 (X := X) (t := t) (l' := l ++ [(xK X 2).1 12 s 0, (xK X 2).1 5 s 0, (xK X 2).1 6 s 0, (xK X 2).1 13 s 0, (xK X 2).1 14 s 0, (xK X 2).1 18 s 0, sLast (xK X 2) s, sLastT (xK X 2) s, (xK X 2).1 15 s 0, sCnt (sMem (xK X 2) s)]) (by rw [List.append_assoc]; rfl)) ?_ (Nat.le_of_ble_eq_true rfl) rfl
  exact hc
theorem l_320c {X : XS} {s : Nat} {t : Int32} {l : List Int32} {x2 : Option Value} {Q : PO → XS → Prop} (hs : s < 7) (hk : ∀ i, i < 7 → sOk (xK X 2) i) (hc : AT 320 89 [some (.ref 388), some (.int (Int32.ofNat s)), x2] [] (xG X t (l ++ [bI (sWin (xK X 2) s (sMem (xK X 2) s))])) Q) : AT 320 79 [some (.ref 388), some (.int (Int32.ofNat s)), x2] [] (xG X t l) Q := by
  refine AT.aload_n M_320 rfl rfl ?_
  refine AT.aload_n M_320 rfl rfl ?_
  refine AT.r11_0 M_320 rfl ?_
  refine AT.iload_n M_320 rfl rfl ?_
  refine AT.cv2i M_320 rfl M_229 rfl (Nat.le_of_ble_eq_true rfl) (xKd.of (sh_st (o := 2) (by omega) (by omega))) (by decide) (c_229 (X := xG X t l) (o := 2) (by omega) (by omega) hs (fun i hi => (hk i hi).wf) (hk s hs).m128) ?_ (Nat.le_of_ble_eq_true rfl) rfl
  refine AT.if_eq M_320 rfl (fun b84 => ?_) (fun b84 => ?_)
  · refine AT.iconst M_320 rfl (v := 0) (by decide) ?_
    refine AT.cv20 M_320 rfl M_319 rfl (Nat.le_of_ble_eq_true rfl) (xKd.of sh_mod) (by decide) (c_319 (X := X) (t := t) (l' := l ++ [bI (sWin (xK X 2) s (sMem (xK X 2) s))]) (by rw [show bI (sWin (xK X 2) s (sMem (xK X 2) s)) = 0 from b84])) ?_ (Nat.le_of_ble_eq_true rfl) rfl
    exact hc
  · refine AT.iconst M_320 rfl (v := 1) (by decide) ?_
    refine AT.goto M_320 rfl ?_
    refine AT.cv20 M_320 rfl M_319 rfl (Nat.le_of_ble_eq_true rfl) (xKd.of sh_mod) (by decide) (c_319 (X := X) (t := t) (l' := l ++ [bI (sWin (xK X 2) s (sMem (xK X 2) s))]) (by rw [show bI (sWin (xK X 2) s (sMem (xK X 2) s)) = 1 from by rw [show sWin (xK X 2) s (sMem (xK X 2) s) = true from bI_ne0.mp b84]; rfl])) ?_ (Nat.le_of_ble_eq_true rfl) rfl
    exact hc
theorem l_320d {X : XS} {s a : Nat} {Q : PO → XS → Prop} (hs : s < 7) (hk : ∀ i, i < 7 → sOk (xK X 2) i) (hE : ∀ e, e ∈ (xK X 2).2.1 s → ((e 1 = 4 → sVal e = sCnt (e 6)) ∧ (¬ e 1 = 4 → sVal e = e 5)) ∧ ¬ e 0 = -1) (ha : (xK X 2).1 18 s 0 = Int32.ofNat a) (hb : a + ((xK X 2).2.1 s).length < 400000) :
    ∀ n j : Nat, j + n = ((xK X 2).2.1 s).length → ∀ (t : Int32) {l : List Int32}, (∀ t', AT 320 150 [some (.ref 388), some (.int (Int32.ofNat s)), some (.int (Int32.ofNat (a + 1 + ((xK X 2).2.1 s).length)))] [] (xG X t' (l ++ dLog (xK X 2) s (((xK X 2).2.1 s).drop j) j)) Q) → AT 320 97 [some (.ref 388), some (.int (Int32.ofNat s)), some (.int (Int32.ofNat (a + 1 + j)))] [] (xG X t l) Q
  | 0, j, hj, t, l, hc => by
    refine AT.iload_n M_320 rfl rfl ?_
    refine AT.aload_n M_320 rfl rfl ?_
    refine AT.r11_0 M_320 rfl ?_
    refine AT.iload_n M_320 rfl rfl ?_
    refine AT.cv2i M_320 rfl M_187 rfl (Nat.le_of_ble_eq_true rfl) (xKd.of (sh_st (o := 2) (by omega) (by omega))) (by decide) (c_187 (X := xG X t l) (o := 2) (by omega) (by omega) hs) ?_ (Nat.le_of_ble_eq_true rfl) rfl
    refine AT.icmp_gt M_320 rfl (fun b102 => ?_) (fun b102 => absurd (show sLast (xK X 2) s < Int32.ofNat (a + 1 + j) from by rw [sLast_of ha, i32_lt (by omega) (by omega)]; omega) b102)
    rw [List.drop_of_length_le (by omega), show dLog (xK X 2) s [] j = [] from rfl, List.append_nil] at hc
    rw [show a + 1 + j = a + 1 + ((xK X 2).2.1 s).length by omega]
    exact hc t
  | n + 1, j, hj, t, l, hc => by
    have hj2 : j < ((xK X 2).2.1 s).length := by omega
    obtain ⟨e, he⟩ : ∃ e, ((xK X 2).2.1 s)[j]? = some e := ⟨_, List.getElem?_eq_getElem hj2⟩
    have hmem : e ∈ (xK X 2).2.1 s := List.mem_of_getElem? he
    have hx : sEnt (xK X 2) s (Int32.ofNat (a + 1 + j)) = some e := ((eFrom_ix (K := (xK X 2)) (s := s) ha (by omega) (j := j) (by omega) 0 (by omega)).2.2 hj2).trans he
    have hw : kWf (xK X 2) s := (hk s hs).wf
    have h8 := ((hk s hs).2.2.2.2.2.1 e hmem).1
    have hv := (hE e hmem).1
    have hne := (hE e hmem).2
    have hd : ((xK X 2).2.1 s).drop j = e :: ((xK X 2).2.1 s).drop (j + 1) := by
      rw [List.drop_eq_getElem_cons hj2]
      congr 1
      exact Option.some.inj ((List.getElem?_eq_getElem hj2).symm.trans he)
    have hix : Int32.ofNat (a + 1 + j) = (xK X 2).1 18 s 0 + 1 + Int32.ofNat j := by rw [ha, Int32.ofNat_add, Int32.ofNat_add]; rfl
    rw [hd] at hc
    replace hc : ∀ t', AT 320 150 [some (.ref 388), some (.int (Int32.ofNat s)), some (.int (Int32.ofNat (a + 1 + ((xK X 2).2.1 s).length)))] [] (xG X t' (l ++ ([e 0, e 1, sVal e, e 2, e 3, sCntF (sCopyP (xK X 2) (sMem (xK X 2) s) ((xK X 2).1 18 s 0 + 1 + Int32.ofNat j) (e 0)) 7] ++ dLog (xK X 2) s (((xK X 2).2.1 s).drop (j + 1)) (j + 1)))) Q := hc
    refine AT.iload_n M_320 rfl rfl ?_
    refine AT.aload_n M_320 rfl rfl ?_
    refine AT.r11_0 M_320 rfl ?_
    refine AT.iload_n M_320 rfl rfl ?_
    refine AT.cv2i M_320 rfl M_187 rfl (Nat.le_of_ble_eq_true rfl) (xKd.of (sh_st (o := 2) (by omega) (by omega))) (by decide) (c_187 (X := xG X t l) (o := 2) (by omega) (by omega) hs) ?_ (Nat.le_of_ble_eq_true rfl) rfl
    refine AT.icmp_gt M_320 rfl (fun b102 => absurd (show sLast (xK X 2) s < Int32.ofNat (a + 1 + j) from b102) (by rw [sLast_of ha, i32_lt (by omega) (by omega)]; omega)) (fun b102 => ?_)
    refine AT.aload_n M_320 rfl rfl ?_
    refine AT.aload_n M_320 rfl rfl ?_
    refine AT.r11_0 M_320 rfl ?_
    refine AT.iload_n M_320 rfl rfl ?_
    refine AT.iload_n M_320 rfl rfl ?_
    refine AT.iconst M_320 rfl (v := 0) (by decide) ?_
    refine AT.cv4i M_320 rfl M_190 rfl (Nat.le_of_ble_eq_true rfl) (xKd.of (sh_st (o := 2) (by omega) (by omega))) (by decide) (c_190 (X := xG X t l) (o := 2) (by omega) (by omega) hs hx hw (c := 0) (by omega) rfl) ?_ (Nat.le_of_ble_eq_true rfl) rfl
    refine AT.cv20 M_320 rfl M_319 rfl (Nat.le_of_ble_eq_true rfl) (xKd.of sh_mod) (by decide) (c_319 (X := X) (t := t) (l' := l ++ [e 0]) (by rfl)) ?_ (Nat.le_of_ble_eq_true rfl) rfl
    refine AT.aload_n M_320 rfl rfl ?_
    refine AT.aload_n M_320 rfl rfl ?_
    refine AT.r11_0 M_320 rfl ?_
    refine AT.iload_n M_320 rfl rfl ?_
    refine AT.iload_n M_320 rfl rfl ?_
    refine AT.iconst M_320 rfl (v := 1) (by decide) ?_
    refine AT.cv4i M_320 rfl M_190 rfl (Nat.le_of_ble_eq_true rfl) (xKd.of (sh_st (o := 2) (by omega) (by omega))) (by decide) (c_190 (X := xG X t (l ++ [e 0])) (o := 2) (by omega) (by omega) hs hx hw (c := 1) (by omega) rfl) ?_ (Nat.le_of_ble_eq_true rfl) rfl
    refine AT.cv20 M_320 rfl M_319 rfl (Nat.le_of_ble_eq_true rfl) (xKd.of sh_mod) (by decide) (c_319 (X := X) (t := t) (l' := l ++ [e 0, e 1]) (by rw [List.append_assoc]; rfl)) ?_ (Nat.le_of_ble_eq_true rfl) rfl
    refine AT.aload_n M_320 rfl rfl ?_
    refine AT.aload_n M_320 rfl rfl ?_
    refine AT.iload_n M_320 rfl rfl ?_
    refine AT.iload_n M_320 rfl rfl ?_
    refine AT.cv3i M_320 rfl M_295 rfl (Nat.le_of_ble_eq_true rfl) (xKd.of sh_mod) (by decide) (c_295 (X := xG X t (l ++ [e 0, e 1])) hs hw hx h8 hv) ?_ (Nat.le_of_ble_eq_true rfl) rfl
    refine AT.cv20 M_320 rfl M_319 rfl (Nat.le_of_ble_eq_true rfl) (xKd.of sh_mod) (by decide) (c_319 (X := X) (t := 0) (l' := l ++ [e 0, e 1, sVal e]) (by rw [List.append_assoc]; rfl)) ?_ (Nat.le_of_ble_eq_true rfl) rfl
    refine AT.aload_n M_320 rfl rfl ?_
    refine AT.aload_n M_320 rfl rfl ?_
    refine AT.r11_0 M_320 rfl ?_
    refine AT.iload_n M_320 rfl rfl ?_
    refine AT.iload_n M_320 rfl rfl ?_
    refine AT.iconst M_320 rfl (v := 2) (by decide) ?_
    refine AT.cv4i M_320 rfl M_190 rfl (Nat.le_of_ble_eq_true rfl) (xKd.of (sh_st (o := 2) (by omega) (by omega))) (by decide) (c_190 (X := xG X 0 (l ++ [e 0, e 1, sVal e])) (o := 2) (by omega) (by omega) hs hx hw (c := 2) (by omega) rfl) ?_ (Nat.le_of_ble_eq_true rfl) rfl
    refine AT.cv20 M_320 rfl M_319 rfl (Nat.le_of_ble_eq_true rfl) (xKd.of sh_mod) (by decide) (c_319 (X := X) (t := 0) (l' := l ++ [e 0, e 1, sVal e, e 2]) (by rw [List.append_assoc]; rfl)) ?_ (Nat.le_of_ble_eq_true rfl) rfl
    refine AT.aload_n M_320 rfl rfl ?_
    refine AT.aload_n M_320 rfl rfl ?_
    refine AT.r11_0 M_320 rfl ?_
    refine AT.iload_n M_320 rfl rfl ?_
    refine AT.iload_n M_320 rfl rfl ?_
    refine AT.iconst M_320 rfl (v := 3) (by decide) ?_
    refine AT.cv4i M_320 rfl M_190 rfl (Nat.le_of_ble_eq_true rfl) (xKd.of (sh_st (o := 2) (by omega) (by omega))) (by decide) (c_190 (X := xG X 0 (l ++ [e 0, e 1, sVal e, e 2])) (o := 2) (by omega) (by omega) hs hx hw (c := 3) (by omega) rfl) ?_ (Nat.le_of_ble_eq_true rfl) rfl
    refine AT.cv20 M_320 rfl M_319 rfl (Nat.le_of_ble_eq_true rfl) (xKd.of sh_mod) (by decide) (c_319 (X := X) (t := 0) (l' := l ++ [e 0, e 1, sVal e, e 2, e 3]) (by rw [List.append_assoc]; rfl)) ?_ (Nat.le_of_ble_eq_true rfl) rfl
    refine AT.aload_n M_320 rfl rfl ?_
    refine AT.aload_n M_320 rfl rfl ?_
    refine AT.r11_0 M_320 rfl ?_
    refine AT.iload_n M_320 rfl rfl ?_
    refine AT.iload_n M_320 rfl rfl ?_
    refine AT.cv3i M_320 rfl M_228 rfl (Nat.le_of_ble_eq_true rfl) (xKd.of (sh_st (o := 2) (by omega) (by omega))) (by decide) (c_228 (X := xG X 0 (l ++ [e 0, e 1, sVal e, e 2, e 3])) (o := 2) (by omega) (by omega) hs (fun i hi => (hk i hi).wf) hx hne) ?_ (Nat.le_of_ble_eq_true rfl) rfl
    refine AT.cv20 M_320 rfl M_319 rfl (Nat.le_of_ble_eq_true rfl) (xKd.of sh_mod) (by decide) (c_319 (X := X) (t := 0) (l' := l ++ [e 0, e 1, sVal e, e 2, e 3, sCntF (sCopyP (xK X 2) (sMem (xK X 2) s) ((xK X 2).1 18 s 0 + 1 + Int32.ofNat j) (e 0)) 7]) (by rw [hix, List.append_assoc]; rfl)) ?_ (Nat.le_of_ble_eq_true rfl) rfl
    refine AT.iinc2 M_320 rfl rfl (i32_succ _) ?_
    refine AT.goto M_320 rfl ?_
    refine l_320d hs hk hE ha hb n (j + 1) (by omega) 0 (fun t' => ?_)
    rw [List.append_assoc]
    exact hc t'
theorem l_320e {X : XS} {s : Nat} {t : Int32} {Q : PO → XS → Prop} (hs : s < 7) : ∀ d q : Nat, q + d = 12 → ∀ {l : List Int32}, AT 320 166 [some (.ref 388), some (.int (Int32.ofNat s)), some (.int (Int32.ofNat 12))] [] (xG X t (l ++ lFor (fun j => [(xK X 2).1 19 s j]) d q)) Q → AT 320 152 [some (.ref 388), some (.int (Int32.ofNat s)), some (.int (Int32.ofNat q))] [] (xG X t l) Q
  | 0, q, hq, l, hc => by
    refine AT.iload_n M_320 rfl rfl ?_
    refine AT.bipush M_320 rfl (v := 12) (by decide) ?_
    refine AT.icmp_ge M_320 rfl (fun b154 => ?_) (fun b154 => absurd (by rw [show q = 12 by omega]; exact Int32.le_refl _) b154)
    rw [show lFor (fun j => [(xK X 2).1 19 s j]) 0 q = [] from rfl, List.append_nil] at hc
    rw [show q = 12 by omega]
    exact hc
  | d + 1, q, hq, l, hc => by
    refine AT.iload_n M_320 rfl rfl ?_
    refine AT.bipush M_320 rfl (v := 12) (by decide) ?_
    refine AT.icmp_ge M_320 rfl (fun b154 => absurd ((i32_le (a := 12) (b := q) (by omega) (by omega)).mp b154) (by omega)) (fun b154 => ?_)
    refine AT.aload_n M_320 rfl rfl ?_
    refine AT.aload_n M_320 rfl rfl ?_
    refine AT.r11_0 M_320 rfl ?_
    refine AT.r10_17 M_320 rfl (show 2 ≤ 2 by omega) (show 2 < 4 by omega) ?_
    refine AT.iload_n M_320 rfl rfl ?_
    refine AT.rr_tab M_320 rfl rfl (show 2 ≤ 2 by omega) (show 2 < 4 by omega) hs ?_
    refine AT.iload_n M_320 rfl rfl ?_
    refine AT.ra_tab M_320 rfl rfl (show 2 ≤ 2 by omega) (show 2 < 4 by omega) hs (by omega) ?_
    refine AT.cv20 M_320 rfl M_319 rfl (Nat.le_of_ble_eq_true rfl) (xKd.of sh_mod) (by decide) (c_319 (X := X) (t := t) (l' := l ++ [(xK X 2).1 19 s q]) rfl) ?_ (Nat.le_of_ble_eq_true rfl) rfl
    refine AT.iinc2 M_320 rfl rfl (i32_succ _) ?_
    refine AT.goto M_320 rfl ?_
    refine l_320e hs d (q + 1) (by omega) ?_
    rw [List.append_assoc]
    exact hc
theorem l_320f0 {X : XS} {s : Nat} {t : Int32} {l : List Int32} {Q : PO → XS → Prop} (hs : s < 7) (hr : ¬ (xK X 2).1 12 s 0 = 3) (hc : ∀ q : Nat, AT 320 199 [some (.ref 388), some (.int (Int32.ofNat s)), some (.int (Int32.ofNat q))] [] (xG X t (l ++ lFor (dNxt (xK X 2) s) 7 0)) Q) : AT 320 168 [some (.ref 388), some (.int (Int32.ofNat s)), some (.int (Int32.ofNat 0))] [] (xG X t l) Q := by
  refine AT.iload_n M_320 rfl rfl ?_
  refine AT.bipush M_320 rfl (v := 7) (by decide) ?_
  refine AT.icmp_ge M_320 rfl (fun b170 => absurd b170 (by decide)) (fun b170 => ?_)
  refine AT.aload_n M_320 rfl rfl ?_
  refine AT.iload_n M_320 rfl rfl ?_
  refine AT.cv2i M_320 rfl M_241 rfl (Nat.le_of_ble_eq_true rfl) (xKd.of sh_mod) (by decide) (c_241 (X := xG X t l) hs) ?_ (Nat.le_of_ble_eq_true rfl) rfl
  refine AT.if_eq M_320 rfl (fun b174 => ?_) (fun b174 => absurd (by rw [show decide ((xK (xG X t l) 2).1 12 s 0 = 3) = false from decide_eq_false hr]; rfl) b174)
  rw [show lFor (dNxt (xK X 2) s) 7 0 = [] from lFor_nil 7 0 (fun j => if_neg (fun z => hr z.1)), List.append_nil] at hc
  exact hc 0
theorem l_320f {X : XS} {s : Nat} {t : Int32} {Q : PO → XS → Prop} (hs : s < 7) (hr : (xK X 2).1 12 s 0 = 3) : ∀ d q : Nat, q + d = 7 → ∀ {l : List Int32}, (∀ q' : Nat, AT 320 199 [some (.ref 388), some (.int (Int32.ofNat s)), some (.int (Int32.ofNat q'))] [] (xG X t (l ++ lFor (dNxt (xK X 2) s) d q)) Q) → AT 320 168 [some (.ref 388), some (.int (Int32.ofNat s)), some (.int (Int32.ofNat q))] [] (xG X t l) Q
  | 0, q, hq, l, hc => by
    refine AT.iload_n M_320 rfl rfl ?_
    refine AT.bipush M_320 rfl (v := 7) (by decide) ?_
    refine AT.icmp_ge M_320 rfl (fun b170 => ?_) (fun b170 => absurd (by rw [show q = 7 by omega]; exact Int32.le_refl _) b170)
    rw [show lFor (dNxt (xK X 2) s) 0 q = [] from rfl, List.append_nil] at hc
    exact hc q
  | d + 1, q, hq, l, hc => by
    refine AT.iload_n M_320 rfl rfl ?_
    refine AT.bipush M_320 rfl (v := 7) (by decide) ?_
    refine AT.icmp_ge M_320 rfl (fun b170 => absurd ((i32_le (a := 7) (b := q) (by omega) (by omega)).mp b170) (by omega)) (fun b170 => ?_)
    refine AT.aload_n M_320 rfl rfl ?_
    refine AT.iload_n M_320 rfl rfl ?_
    refine AT.cv2i M_320 rfl M_241 rfl (Nat.le_of_ble_eq_true rfl) (xKd.of sh_mod) (by decide) (c_241 (X := xG X t l) hs) ?_ (Nat.le_of_ble_eq_true rfl) rfl
    refine AT.if_eq M_320 rfl (fun b174 => absurd b174 (by rw [show decide ((xK (xG X t l) 2).1 12 s 0 = 3) = true from decide_eq_true hr]; decide)) (fun b174 => ?_)
    refine AT.iload_n M_320 rfl rfl ?_
    refine AT.iload_n M_320 rfl rfl ?_
    refine AT.icmp_ne M_320 rfl (fun b177 => ?_) (fun b177 => ?_)
    · refine AT.aload_n M_320 rfl rfl ?_
      refine AT.aload_n M_320 rfl rfl ?_
      refine AT.r11_0 M_320 rfl ?_
      refine AT.r10_20 M_320 rfl (show 2 ≤ 2 by omega) (show 2 < 4 by omega) ?_
      refine AT.iload_n M_320 rfl rfl ?_
      refine AT.rr_nxt M_320 rfl rfl (show 2 ≤ 2 by omega) (show 2 < 4 by omega) hs ?_
      refine AT.iload_n M_320 rfl rfl ?_
      refine AT.ra_nxt M_320 rfl rfl (show 2 ≤ 2 by omega) (show 2 < 4 by omega) hs (by omega) ?_
      refine AT.cv20 M_320 rfl M_319 rfl (Nat.le_of_ble_eq_true rfl) (xKd.of sh_mod) (by decide) (c_319 (X := X) (t := t) (l' := l ++ [(xK X 2).1 2 s q]) rfl) ?_ (Nat.le_of_ble_eq_true rfl) rfl
      refine AT.aload_n M_320 rfl rfl ?_
      refine AT.aload_n M_320 rfl rfl ?_
      refine AT.r11_0 M_320 rfl ?_
      refine AT.r10_21 M_320 rfl (show 2 ≤ 2 by omega) (show 2 < 4 by omega) ?_
      refine AT.iload_n M_320 rfl rfl ?_
      refine AT.rr_mat M_320 rfl rfl (show 2 ≤ 2 by omega) (show 2 < 4 by omega) hs ?_
      refine AT.iload_n M_320 rfl rfl ?_
      refine AT.ra_mat M_320 rfl rfl (show 2 ≤ 2 by omega) (show 2 < 4 by omega) hs (by omega) ?_
      refine AT.cv20 M_320 rfl M_319 rfl (Nat.le_of_ble_eq_true rfl) (xKd.of sh_mod) (by decide) (c_319 (X := X) (t := t) (l' := l ++ [(xK X 2).1 2 s q, (xK X 2).1 3 s q]) (by rw [List.append_assoc]; rfl)) ?_ (Nat.le_of_ble_eq_true rfl) rfl
      refine AT.iinc2 M_320 rfl rfl (i32_succ _) ?_
      refine AT.goto M_320 rfl ?_
      have hne : ¬ q = s := fun z => b177 (by rw [z])
      refine l_320f hs hr d (q + 1) (by omega) (fun q' => ?_)
      rw [List.append_assoc]
      have h9 := hc q'
      rw [show lFor (dNxt (xK X 2) s) (d + 1) q = [(xK X 2).1 2 s q, (xK X 2).1 3 s q] ++ lFor (dNxt (xK X 2) s) d (q + 1) from by show dNxt (xK X 2) s q ++ _ = _; rw [show dNxt (xK X 2) s q = _ from if_pos ⟨hr, hne⟩]] at h9
      exact h9
    · refine AT.goto M_320 rfl ?_
      refine AT.iinc2 M_320 rfl rfl (i32_succ _) ?_
      refine AT.goto M_320 rfl ?_
      have he : q = s := i32_nat (by omega) (by omega) (Classical.not_not.mp b177)
      refine l_320f hs hr d (q + 1) (by omega) (fun q' => ?_)
      have h9 := hc q'
      rw [show lFor (dNxt (xK X 2) s) (d + 1) q = lFor (dNxt (xK X 2) s) d (q + 1) from by show dNxt (xK X 2) s q ++ _ = _; rw [show dNxt (xK X 2) s q = [] from if_neg (fun z => z.2 he)]; rfl] at h9
      exact h9
theorem l_320g {X : XS} {s : Nat} {t : Int32} (hs : s < 7) (hk : ∀ i, i < 7 → sOk (xK X 2) i) : ∀ d q : Nat, q + d = 7 → ∀ {l : List Int32}, AT 320 201 [some (.ref 388), some (.int (Int32.ofNat s)), some (.int (Int32.ofNat q))] [] (xG X t l) (fun o' Y => o' = .inl none ∧ ∃ t', Y = xG X t' (l ++ lFor (fun q => [sAgr (xK X 2) s q]) d q))
  | 0, q, hq, l => by
    refine AT.iload_n M_320 rfl rfl ?_
    refine AT.bipush M_320 rfl (v := 7) (by decide) ?_
    refine AT.icmp_ge M_320 rfl (fun b203 => ?_) (fun b203 => absurd (by rw [show q = 7 by omega]; exact Int32.le_refl _) b203)
    refine AT.vret M_320 rfl rfl ?_
    rw [show lFor (fun q => [sAgr (xK X 2) s q]) 0 q = [] from rfl, List.append_nil]
    exact ⟨rfl, t, rfl⟩
  | d + 1, q, hq, l => by
    refine AT.iload_n M_320 rfl rfl ?_
    refine AT.bipush M_320 rfl (v := 7) (by decide) ?_
    refine AT.icmp_ge M_320 rfl (fun b203 => absurd ((i32_le (a := 7) (b := q) (by omega) (by omega)).mp b203) (by omega)) (fun b203 => ?_)
    refine AT.aload_n M_320 rfl rfl ?_
    refine AT.aload_n M_320 rfl rfl ?_
    refine AT.r11_0 M_320 rfl ?_
    refine AT.iload_n M_320 rfl rfl ?_
    refine AT.iload_n M_320 rfl rfl ?_
    refine AT.cv3i M_320 rfl M_227 rfl (Nat.le_of_ble_eq_true rfl) (xKd.of (sh_st (o := 2) (by omega) (by omega))) (by decide) (c_227 (X := xG X t l) (o := 2) (by omega) (by omega) hs (by omega) (hk s hs) (hk q (by omega))) ?_ (Nat.le_of_ble_eq_true rfl) rfl
    refine AT.cv20 M_320 rfl M_319 rfl (Nat.le_of_ble_eq_true rfl) (xKd.of sh_mod) (by decide) (c_319 (X := X) (t := t) (l' := l ++ [sAgr (xK X 2) s q]) rfl) ?_ (Nat.le_of_ble_eq_true rfl) rfl
    refine AT.iinc2 M_320 rfl rfl (i32_succ _) ?_
    refine AT.goto M_320 rfl ?_
    have ih := l_320g (X := X) (t := t) hs hk d (q + 1) (by omega) (l := l ++ [sAgr (xK X 2) s q])
    rw [List.append_assoc] at ih
    exact ih
theorem l_320p {X : XS} {s : Nat} {t : Int32} {l : List Int32} {x2 : Option Value} {Q : PO → XS → Prop} (hs : s < 7) (hk : ∀ i, i < 7 → sOk (xK X 2) i) (hd : AT 320 97 [some (.ref 388), some (.int (Int32.ofNat s)), some (.int (Int32.ofNat (kA (xK X 2) s + 1 + 0)))] [] (xG X t (l ++ dSrv (xK X 2) s)) Q) : AT 320 89 [some (.ref 388), some (.int (Int32.ofNat s)), x2] [] (xG X t (l ++ dSrv (xK X 2) s)) Q := by
  refine AT.aload_n M_320 rfl rfl ?_
  refine AT.r11_0 M_320 rfl ?_
  refine AT.r10_13 M_320 rfl (show 2 ≤ 2 by omega) (show 2 < 4 by omega) ?_
  refine AT.iload_n M_320 rfl rfl ?_
  refine AT.ra_18_0 M_320 rfl rfl (show 2 ≤ 2 by omega) (show 2 < 4 by omega) hs ?_
  rw [show (xK (xG X t (l ++ dSrv (xK X 2) s)) 2).1 18 s 0 = Int32.ofNat (kA (xK X 2) s) from (hk s hs).1]
  refine AT.iconst M_320 rfl (v := 1) (by decide) ?_
  refine AT.iadd M_320 rfl rfl ?_
  rw [show Int32.ofNat (kA (xK X 2) s) + 1 = Int32.ofNat (kA (xK X 2) s + 1 + 0) from i32_suc1 _]
  refine AT.ist2 M_320 rfl rfl ?_
  exact hd
theorem l_320q {X : XS} {s : Nat} {x2 : Option Value} {Q : PO → XS → Prop} (hd : AT 320 152 [some (.ref 388), some (.int (Int32.ofNat s)), some (.int (Int32.ofNat 0))] [] X Q) : AT 320 150 [some (.ref 388), some (.int (Int32.ofNat s)), x2] [] X Q := by
  refine AT.iconst M_320 rfl (v := 0) (by decide) ?_
  refine AT.ist2 M_320 rfl rfl ?_
  exact hd
theorem l_320r {X : XS} {s : Nat} {x2 : Option Value} {Q : PO → XS → Prop} (hd : AT 320 168 [some (.ref 388), some (.int (Int32.ofNat s)), some (.int (Int32.ofNat 0))] [] X Q) : AT 320 166 [some (.ref 388), some (.int (Int32.ofNat s)), x2] [] X Q := by
  refine AT.iconst M_320 rfl (v := 0) (by decide) ?_
  refine AT.ist2 M_320 rfl rfl ?_
  exact hd
theorem l_320s {X : XS} {s : Nat} {x2 : Option Value} {Q : PO → XS → Prop} (hd : AT 320 201 [some (.ref 388), some (.int (Int32.ofNat s)), some (.int (Int32.ofNat 0))] [] X Q) : AT 320 199 [some (.ref 388), some (.int (Int32.ofNat s)), x2] [] X Q := by
  refine AT.iconst M_320 rfl (v := 0) (by decide) ?_
  refine AT.ist2 M_320 rfl rfl ?_
  exact hd
theorem c_320 {X : XS} {s : Nat} {t : Int32} {l : List Int32} (hs : s < 7) (hk : ∀ i, i < 7 → sOk (xK X 2) i) (hE : ∀ e, e ∈ (xK X 2).2.1 s → ((e 1 = 4 → sVal e = sCnt (e 6)) ∧ (¬ e 1 = 4 → sVal e = e 5)) ∧ ¬ e 0 = -1) : RU 320 [some (.ref 388), some (.int (Int32.ofNat s)), none] (xG X t l) none (fun Y => ∃ t', Y = xG X t' (l ++ dAll1 (xK X 2) s)) := by
  refine l_320a hs (l_320b hs (hk s hs) (l_320c hs hk ?_))
  rw [show l ++ [bI (decide (¬ (xK X 2).1 4 s 0 = 0))] ++ [(xK X 2).1 12 s 0, (xK X 2).1 5 s 0, (xK X 2).1 6 s 0, (xK X 2).1 13 s 0, (xK X 2).1 14 s 0, (xK X 2).1 18 s 0, sLast (xK X 2) s, sLastT (xK X 2) s, (xK X 2).1 15 s 0, sCnt (sMem (xK X 2) s)] ++ [bI (sWin (xK X 2) s (sMem (xK X 2) s))] = l ++ dSrv (xK X 2) s from by rw [List.append_assoc, List.append_assoc]; rfl]
  refine l_320p hs hk (l_320d hs hk hE (hk s hs).1 (hk s hs).2.2.2.2.1 ((xK X 2).2.1 s).length 0 (by omega) t (fun t1 => ?_))
  refine l_320q (l_320e hs 12 0 rfl (l_320r ?_))
  have fin : ∀ q' : Nat, AT 320 199 [some (.ref 388), some (.int (Int32.ofNat s)), some (.int (Int32.ofNat q'))] [] (xG X t1 (l ++ dSrv (xK X 2) s ++ dLog (xK X 2) s (((xK X 2).2.1 s).drop 0) 0 ++ lFor (fun j => [(xK X 2).1 19 s j]) 12 0 ++ lFor (dNxt (xK X 2) s) 7 0)) (fun o' Y => o' = .inl none ∧ ∃ t', Y = xG X t' (l ++ dAll1 (xK X 2) s)) := fun q' => by
    refine l_320s (AT.mono (l_320g (X := X) hs hk 7 0 rfl) (fun o' Z hz => ⟨hz.1, ?_⟩))
    obtain ⟨t2, h2⟩ := hz.2
    refine ⟨t2, h2.trans (congrArg (xG X t2) ?_)⟩
    simp only [List.append_assoc]
    rfl
  by_cases hr : (xK X 2).1 12 s 0 = 3
  · exact l_320f hs hr 7 0 rfl fin
  · exact l_320f0 hs hr fin
