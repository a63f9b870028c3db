/-! ===== THE LAW: one call of each, on ===== -/
set_option maxRecDepth 100000 in
theorem b_17 {X : XS} {c : Nat} {R : XS → Prop} {Q : PO → XS → Prop} {x5 x6 x7 x8 : Option Value} (hc5 : 5 * c + 5 ≤ (xC X).1) (hL : (xC X).1 ≤ 2560) (h : qPair 338 263 [some (.ref 1), some (.int ((xC X).2 (5 * c + 1))), some (.ref 511), none] [some (.ref 388), some (.int ((xC X).2 (5 * c + 1)))] X R) (hk : ∀ Z y5 y6 y7 y8, R Z → AT 378 2335 (qLoc c y5 y6 y7 y8) [] Z Q) : AT 378 645 (qLoc c x5 x6 x7 x8) [] X Q := by
  obtain ⟨k, hw⟩ := h
  refine AT.aload_n M_378 rfl rfl ?_
  refine AT.aload_n M_378 rfl rfl ?_
  refine AT.iload M_378 rfl rfl ?_
  refine AT.iconst M_378 rfl (v := 1) (by decide) ?_
  refine AT.iadd M_378 rfl (i32_at (5 * c) 1 rfl) ?_
  refine AT.scr M_378 rfl rfl (by omega) (by omega) ?_
  refine AT.aload_n M_378 rfl rfl ?_
  refine AT.cs3u M_378 rfl M_338 rfl (Nat.le_of_ble_eq_true rfl) rfl hw (fun Y hc652 => ?_) (Nat.le_of_ble_eq_true rfl) rfl
  obtain ⟨hx, b, hm⟩ := hc652
  refine AT.ist5 M_378 rfl rfl ?_
  refine AT.aload_n M_378 rfl rfl ?_
  refine AT.aload_n M_378 rfl rfl ?_
  refine AT.iload M_378 rfl rfl ?_
  refine AT.iconst M_378 rfl (v := 1) (by decide) ?_
  refine AT.iadd M_378 rfl (i32_at (5 * c) 1 rfl) ?_
  refine AT.scr M_378 rfl rfl (by rw [hx]; omega) (by rw [hx]; omega) ?_
  rw [hx]
  refine AT.cv2u M_378 rfl M_263 rfl (Nat.le_of_ble_eq_true rfl) (xKd.of sh_mod) (by decide) hm (fun Z hc660 => ?_) (Nat.le_of_ble_eq_true rfl) rfl
  obtain ⟨hT, hO, hR⟩ := hc660
  refine AT.ist6 M_378 rfl rfl ?_
  refine AT.aload_n M_378 rfl rfl ?_
  refine AT.cv1i M_378 rfl M_232 rfl (Nat.le_of_ble_eq_true rfl) (xKd.of sh_mod) (by decide) (c_232 (X := Z)) ?_ (Nat.le_of_ble_eq_true rfl) rfl
  refine AT.iload M_378 rfl rfl ?_
  refine AT.icmp_eq M_378 rfl (fun b665 => ?_) (fun b665 => absurd hT b665)
  refine AT.iload M_378 rfl rfl ?_
  refine AT.if_ne M_378 rfl (fun b669 => ?_) (fun b669 => ?_)
  · refine AT.goto M_378 rfl ?_
    exact hk _ _ _ _ _ hR
  · refine AT.aload_n M_378 rfl rfl ?_
    refine AT.iconst M_378 rfl (v := 0) (by decide) ?_
    refine AT.out M_378 rfl rfl ?_
    refine AT.iload M_378 rfl rfl ?_
    refine AT.i2l M_378 rfl ?_
    rw [hO (Classical.not_not.mp b669)]
    refine AT.lcmp M_378 rfl ?_
    refine AT.if_eq M_378 rfl (fun b676 => ?_) (fun b676 => absurd (lg_self _) b676)
    refine AT.goto M_378 rfl ?_
    exact hk _ _ _ _ _ hR
set_option maxRecDepth 100000 in
theorem b_18 {X : XS} {c : Nat} {R : XS → Prop} {Q : PO → XS → Prop} {x5 x6 x7 x8 : Option Value} (hc5 : 5 * c + 5 ≤ (xC X).1) (hL : (xC X).1 ≤ 2560) (h : qPair 339 264 [some (.ref 1), some (.int ((xC X).2 (5 * c + 1))), some (.ref 511), none] [some (.ref 388), some (.int ((xC X).2 (5 * c + 1)))] X R) (hk : ∀ Z y5 y6 y7 y8, R Z → AT 378 2335 (qLoc c y5 y6 y7 y8) [] Z Q) : AT 378 680 (qLoc c x5 x6 x7 x8) [] X Q := by
  obtain ⟨k, hw⟩ := h
  refine AT.aload_n M_378 rfl rfl ?_
  refine AT.aload_n M_378 rfl rfl ?_
  refine AT.iload M_378 rfl rfl ?_
  refine AT.iconst M_378 rfl (v := 1) (by decide) ?_
  refine AT.iadd M_378 rfl (i32_at (5 * c) 1 rfl) ?_
  refine AT.scr M_378 rfl rfl (by omega) (by omega) ?_
  refine AT.aload_n M_378 rfl rfl ?_
  refine AT.cs3u M_378 rfl M_339 rfl (Nat.le_of_ble_eq_true rfl) rfl hw (fun Y hc687 => ?_) (Nat.le_of_ble_eq_true rfl) rfl
  obtain ⟨hx, b, hm⟩ := hc687
  refine AT.ist5 M_378 rfl rfl ?_
  refine AT.aload_n M_378 rfl rfl ?_
  refine AT.aload_n M_378 rfl rfl ?_
  refine AT.iload M_378 rfl rfl ?_
  refine AT.iconst M_378 rfl (v := 1) (by decide) ?_
  refine AT.iadd M_378 rfl (i32_at (5 * c) 1 rfl) ?_
  refine AT.scr M_378 rfl rfl (by rw [hx]; omega) (by rw [hx]; omega) ?_
  rw [hx]
  refine AT.cv2u M_378 rfl M_264 rfl (Nat.le_of_ble_eq_true rfl) (xKd.of sh_mod) (by decide) hm (fun Z hc695 => ?_) (Nat.le_of_ble_eq_true rfl) rfl
  obtain ⟨hT, hO, hR⟩ := hc695
  refine AT.ist6 M_378 rfl rfl ?_
  refine AT.aload_n M_378 rfl rfl ?_
  refine AT.cv1i M_378 rfl M_232 rfl (Nat.le_of_ble_eq_true rfl) (xKd.of sh_mod) (by decide) (c_232 (X := Z)) ?_ (Nat.le_of_ble_eq_true rfl) rfl
  refine AT.iload M_378 rfl rfl ?_
  refine AT.icmp_eq M_378 rfl (fun b700 => ?_) (fun b700 => absurd hT b700)
  refine AT.iload M_378 rfl rfl ?_
  refine AT.if_ne M_378 rfl (fun b704 => ?_) (fun b704 => ?_)
  · refine AT.goto M_378 rfl ?_
    exact hk _ _ _ _ _ hR
  · refine AT.aload_n M_378 rfl rfl ?_
    refine AT.iconst M_378 rfl (v := 0) (by decide) ?_
    refine AT.out M_378 rfl rfl ?_
    refine AT.iload M_378 rfl rfl ?_
    refine AT.i2l M_378 rfl ?_
    rw [hO (Classical.not_not.mp b704)]
    refine AT.lcmp M_378 rfl ?_
    refine AT.if_eq M_378 rfl (fun b711 => ?_) (fun b711 => absurd (lg_self _) b711)
    refine AT.goto M_378 rfl ?_
    exact hk _ _ _ _ _ hR
set_option maxRecDepth 100000 in
theorem b_19 {X : XS} {c : Nat} {R : XS → Prop} {Q : PO → XS → Prop} {x5 x6 x7 x8 : Option Value} (hc5 : 5 * c + 5 ≤ (xC X).1) (hL : (xC X).1 ≤ 2560) (h : qPair 340 265 [some (.ref 1), some (.int ((xC X).2 (5 * c + 1))), some (.ref 511), none] [some (.ref 388), some (.int ((xC X).2 (5 * c + 1)))] X R) (hk : ∀ Z y5 y6 y7 y8, R Z → AT 378 2335 (qLoc c y5 y6 y7 y8) [] Z Q) : AT 378 715 (qLoc c x5 x6 x7 x8) [] X Q := by
  obtain ⟨k, hw⟩ := h
  refine AT.aload_n M_378 rfl rfl ?_
  refine AT.aload_n M_378 rfl rfl ?_
  refine AT.iload M_378 rfl rfl ?_
  refine AT.iconst M_378 rfl (v := 1) (by decide) ?_
  refine AT.iadd M_378 rfl (i32_at (5 * c) 1 rfl) ?_
  refine AT.scr M_378 rfl rfl (by omega) (by omega) ?_
  refine AT.aload_n M_378 rfl rfl ?_
  refine AT.cs3u M_378 rfl M_340 rfl (Nat.le_of_ble_eq_true rfl) rfl hw (fun Y hc722 => ?_) (Nat.le_of_ble_eq_true rfl) rfl
  obtain ⟨hx, b, hm⟩ := hc722
  refine AT.ist5 M_378 rfl rfl ?_
  refine AT.aload_n M_378 rfl rfl ?_
  refine AT.aload_n M_378 rfl rfl ?_
  refine AT.iload M_378 rfl rfl ?_
  refine AT.iconst M_378 rfl (v := 1) (by decide) ?_
  refine AT.iadd M_378 rfl (i32_at (5 * c) 1 rfl) ?_
  refine AT.scr M_378 rfl rfl (by rw [hx]; omega) (by rw [hx]; omega) ?_
  rw [hx]
  refine AT.cv2u M_378 rfl M_265 rfl (Nat.le_of_ble_eq_true rfl) (xKd.of sh_mod) (by decide) hm (fun Z hc730 => ?_) (Nat.le_of_ble_eq_true rfl) rfl
  obtain ⟨hT, hO, hR⟩ := hc730
  refine AT.ist6 M_378 rfl rfl ?_
  refine AT.aload_n M_378 rfl rfl ?_
  refine AT.cv1i M_378 rfl M_232 rfl (Nat.le_of_ble_eq_true rfl) (xKd.of sh_mod) (by decide) (c_232 (X := Z)) ?_ (Nat.le_of_ble_eq_true rfl) rfl
  refine AT.iload M_378 rfl rfl ?_
  refine AT.icmp_eq M_378 rfl (fun b735 => ?_) (fun b735 => absurd hT b735)
  refine AT.iload M_378 rfl rfl ?_
  refine AT.if_ne M_378 rfl (fun b739 => ?_) (fun b739 => ?_)
  · refine AT.goto M_378 rfl ?_
    exact hk _ _ _ _ _ hR
  · refine AT.aload_n M_378 rfl rfl ?_
    refine AT.iconst M_378 rfl (v := 0) (by decide) ?_
    refine AT.out M_378 rfl rfl ?_
    refine AT.iload M_378 rfl rfl ?_
    refine AT.i2l M_378 rfl ?_
    rw [hO (Classical.not_not.mp b739)]
    refine AT.lcmp M_378 rfl ?_
    refine AT.if_eq M_378 rfl (fun b746 => ?_) (fun b746 => absurd (lg_self _) b746)
    refine AT.goto M_378 rfl ?_
    exact hk _ _ _ _ _ hR
set_option maxRecDepth 100000 in
theorem b_20 {X : XS} {c : Nat} {R : XS → Prop} {Q : PO → XS → Prop} {x5 x6 x7 x8 : Option Value} (hc5 : 5 * c + 5 ≤ (xC X).1) (hL : (xC X).1 ≤ 2560) (h : qPair 341 266 [some (.ref 1), some (.int ((xC X).2 (5 * c + 1))), some (.ref 511), none] [some (.ref 388), some (.int ((xC X).2 (5 * c + 1)))] X R) (hk : ∀ Z y5 y6 y7 y8, R Z → AT 378 2335 (qLoc c y5 y6 y7 y8) [] Z Q) : AT 378 750 (qLoc c x5 x6 x7 x8) [] X Q := by
  obtain ⟨k, hw⟩ := h
  refine AT.aload_n M_378 rfl rfl ?_
  refine AT.aload_n M_378 rfl rfl ?_
  refine AT.iload M_378 rfl rfl ?_
  refine AT.iconst M_378 rfl (v := 1) (by decide) ?_
  refine AT.iadd M_378 rfl (i32_at (5 * c) 1 rfl) ?_
  refine AT.scr M_378 rfl rfl (by omega) (by omega) ?_
  refine AT.aload_n M_378 rfl rfl ?_
  refine AT.cs3u M_378 rfl M_341 rfl (Nat.le_of_ble_eq_true rfl) rfl hw (fun Y hc757 => ?_) (Nat.le_of_ble_eq_true rfl) rfl
  obtain ⟨hx, b, hm⟩ := hc757
  refine AT.ist5 M_378 rfl rfl ?_
  refine AT.aload_n M_378 rfl rfl ?_
  refine AT.aload_n M_378 rfl rfl ?_
  refine AT.iload M_378 rfl rfl ?_
  refine AT.iconst M_378 rfl (v := 1) (by decide) ?_
  refine AT.iadd M_378 rfl (i32_at (5 * c) 1 rfl) ?_
  refine AT.scr M_378 rfl rfl (by rw [hx]; omega) (by rw [hx]; omega) ?_
  rw [hx]
  refine AT.cv2u M_378 rfl M_266 rfl (Nat.le_of_ble_eq_true rfl) (xKd.of sh_mod) (by decide) hm (fun Z hc765 => ?_) (Nat.le_of_ble_eq_true rfl) rfl
  obtain ⟨hT, hO, hR⟩ := hc765
  refine AT.ist6 M_378 rfl rfl ?_
  refine AT.aload_n M_378 rfl rfl ?_
  refine AT.cv1i M_378 rfl M_232 rfl (Nat.le_of_ble_eq_true rfl) (xKd.of sh_mod) (by decide) (c_232 (X := Z)) ?_ (Nat.le_of_ble_eq_true rfl) rfl
  refine AT.iload M_378 rfl rfl ?_
  refine AT.icmp_eq M_378 rfl (fun b770 => ?_) (fun b770 => absurd hT b770)
  refine AT.iload M_378 rfl rfl ?_
  refine AT.if_ne M_378 rfl (fun b774 => ?_) (fun b774 => ?_)
  · refine AT.goto M_378 rfl ?_
    exact hk _ _ _ _ _ hR
  · refine AT.aload_n M_378 rfl rfl ?_
    refine AT.iconst M_378 rfl (v := 0) (by decide) ?_
    refine AT.out M_378 rfl rfl ?_
    refine AT.iload M_378 rfl rfl ?_
    refine AT.i2l M_378 rfl ?_
    rw [hO (Classical.not_not.mp b774)]
    refine AT.lcmp M_378 rfl ?_
    refine AT.if_eq M_378 rfl (fun b781 => ?_) (fun b781 => absurd (lg_self _) b781)
    refine AT.goto M_378 rfl ?_
    exact hk _ _ _ _ _ hR
set_option maxRecDepth 100000 in
theorem b_21 {X : XS} {c : Nat} {R : XS → Prop} {Q : PO → XS → Prop} {x5 x6 x7 x8 : Option Value} (hc5 : 5 * c + 5 ≤ (xC X).1) (hL : (xC X).1 ≤ 2560) (h : qPair 342 268 [some (.ref 1), some (.int ((xC X).2 (5 * c + 1))), some (.int ((xC X).2 (5 * c + 2))), some (.int ((xC X).2 (5 * c + 3))), some (.ref 511), none] [some (.ref 388), some (.int ((xC X).2 (5 * c + 1))), some (.int ((xC X).2 (5 * c + 2))), some (.int ((xC X).2 (5 * c + 3)))] X R) (hk : ∀ Z y5 y6 y7 y8, R Z → AT 378 2335 (qLoc c y5 y6 y7 y8) [] Z Q) : AT 378 785 (qLoc c x5 x6 x7 x8) [] X Q := by
  obtain ⟨k, hw⟩ := h
  refine AT.aload_n M_378 rfl rfl ?_
  refine AT.aload_n M_378 rfl rfl ?_
  refine AT.iload M_378 rfl rfl ?_
  refine AT.iconst M_378 rfl (v := 1) (by decide) ?_
  refine AT.iadd M_378 rfl (i32_at (5 * c) 1 rfl) ?_
  refine AT.scr M_378 rfl rfl (by omega) (by omega) ?_
  refine AT.aload_n M_378 rfl rfl ?_
  refine AT.iload M_378 rfl rfl ?_
  refine AT.iconst M_378 rfl (v := 2) (by decide) ?_
  refine AT.iadd M_378 rfl (i32_at (5 * c) 2 rfl) ?_
  refine AT.scr M_378 rfl rfl (by omega) (by omega) ?_
  refine AT.aload_n M_378 rfl rfl ?_
  refine AT.iload M_378 rfl rfl ?_
  refine AT.iconst M_378 rfl (v := 3) (by decide) ?_
  refine AT.iadd M_378 rfl (i32_at (5 * c) 3 rfl) ?_
  refine AT.scr M_378 rfl rfl (by omega) (by omega) ?_
  refine AT.aload_n M_378 rfl rfl ?_
  refine AT.cs5u M_378 rfl M_342 rfl (Nat.le_of_ble_eq_true rfl) rfl hw (fun Y hc802 => ?_) (Nat.le_of_ble_eq_true rfl) rfl
  obtain ⟨hx, b, hm⟩ := hc802
  refine AT.ist5 M_378 rfl rfl ?_
  refine AT.aload_n M_378 rfl rfl ?_
  refine AT.aload_n M_378 rfl rfl ?_
  refine AT.iload M_378 rfl rfl ?_
  refine AT.iconst M_378 rfl (v := 1) (by decide) ?_
  refine AT.iadd M_378 rfl (i32_at (5 * c) 1 rfl) ?_
  refine AT.scr M_378 rfl rfl (by rw [hx]; omega) (by rw [hx]; omega) ?_
  rw [hx]
  refine AT.aload_n M_378 rfl rfl ?_
  refine AT.iload M_378 rfl rfl ?_
  refine AT.iconst M_378 rfl (v := 2) (by decide) ?_
  refine AT.iadd M_378 rfl (i32_at (5 * c) 2 rfl) ?_
  refine AT.scr M_378 rfl rfl (by rw [hx]; omega) (by rw [hx]; omega) ?_
  rw [hx]
  refine AT.aload_n M_378 rfl rfl ?_
  refine AT.iload M_378 rfl rfl ?_
  refine AT.iconst M_378 rfl (v := 3) (by decide) ?_
  refine AT.iadd M_378 rfl (i32_at (5 * c) 3 rfl) ?_
  refine AT.scr M_378 rfl rfl (by rw [hx]; omega) (by rw [hx]; omega) ?_
  rw [hx]
  refine AT.cv4u M_378 rfl M_268 rfl (Nat.le_of_ble_eq_true rfl) (xKd.of sh_mod) (by decide) hm (fun Z hc820 => ?_) (Nat.le_of_ble_eq_true rfl) rfl
  obtain ⟨hT, hO, hR⟩ := hc820
  refine AT.ist6 M_378 rfl rfl ?_
  refine AT.aload_n M_378 rfl rfl ?_
  refine AT.cv1i M_378 rfl M_232 rfl (Nat.le_of_ble_eq_true rfl) (xKd.of sh_mod) (by decide) (c_232 (X := Z)) ?_ (Nat.le_of_ble_eq_true rfl) rfl
  refine AT.iload M_378 rfl rfl ?_
  refine AT.icmp_eq M_378 rfl (fun b825 => ?_) (fun b825 => absurd hT b825)
  refine AT.iload M_378 rfl rfl ?_
  refine AT.if_ne M_378 rfl (fun b829 => ?_) (fun b829 => ?_)
  · refine AT.goto M_378 rfl ?_
    exact hk _ _ _ _ _ hR
  · refine AT.aload_n M_378 rfl rfl ?_
    refine AT.iconst M_378 rfl (v := 0) (by decide) ?_
    refine AT.out M_378 rfl rfl ?_
    refine AT.iload M_378 rfl rfl ?_
    refine AT.i2l M_378 rfl ?_
    rw [hO (Classical.not_not.mp b829)]
    refine AT.lcmp M_378 rfl ?_
    refine AT.if_eq M_378 rfl (fun b836 => ?_) (fun b836 => absurd (lg_self _) b836)
    refine AT.goto M_378 rfl ?_
    exact hk _ _ _ _ _ hR
set_option maxRecDepth 100000 in
theorem b_22 {X : XS} {c : Nat} {R : XS → Prop} {Q : PO → XS → Prop} {x5 x6 x7 x8 : Option Value} (hc5 : 5 * c + 5 ≤ (xC X).1) (hL : (xC X).1 ≤ 2560) (h : qPair 343 269 [some (.ref 1), some (.int ((xC X).2 (5 * c + 1))), some (.int ((xC X).2 (5 * c + 2))), some (.int ((xC X).2 (5 * c + 3))), some (.ref 511), none] [some (.ref 388), some (.int ((xC X).2 (5 * c + 1))), some (.int ((xC X).2 (5 * c + 2))), some (.int ((xC X).2 (5 * c + 3)))] X R) (hk : ∀ Z y5 y6 y7 y8, R Z → AT 378 2335 (qLoc c y5 y6 y7 y8) [] Z Q) : AT 378 840 (qLoc c x5 x6 x7 x8) [] X Q := by
  obtain ⟨k, hw⟩ := h
  refine AT.aload_n M_378 rfl rfl ?_
  refine AT.aload_n M_378 rfl rfl ?_
  refine AT.iload M_378 rfl rfl ?_
  refine AT.iconst M_378 rfl (v := 1) (by decide) ?_
  refine AT.iadd M_378 rfl (i32_at (5 * c) 1 rfl) ?_
  refine AT.scr M_378 rfl rfl (by omega) (by omega) ?_
  refine AT.aload_n M_378 rfl rfl ?_
  refine AT.iload M_378 rfl rfl ?_
  refine AT.iconst M_378 rfl (v := 2) (by decide) ?_
  refine AT.iadd M_378 rfl (i32_at (5 * c) 2 rfl) ?_
  refine AT.scr M_378 rfl rfl (by omega) (by omega) ?_
  refine AT.aload_n M_378 rfl rfl ?_
  refine AT.iload M_378 rfl rfl ?_
  refine AT.iconst M_378 rfl (v := 3) (by decide) ?_
  refine AT.iadd M_378 rfl (i32_at (5 * c) 3 rfl) ?_
  refine AT.scr M_378 rfl rfl (by omega) (by omega) ?_
  refine AT.aload_n M_378 rfl rfl ?_
  refine AT.cs5u M_378 rfl M_343 rfl (Nat.le_of_ble_eq_true rfl) rfl hw (fun Y hc857 => ?_) (Nat.le_of_ble_eq_true rfl) rfl
  obtain ⟨hx, b, hm⟩ := hc857
  refine AT.ist5 M_378 rfl rfl ?_
  refine AT.aload_n M_378 rfl rfl ?_
  refine AT.aload_n M_378 rfl rfl ?_
  refine AT.iload M_378 rfl rfl ?_
  refine AT.iconst M_378 rfl (v := 1) (by decide) ?_
  refine AT.iadd M_378 rfl (i32_at (5 * c) 1 rfl) ?_
  refine AT.scr M_378 rfl rfl (by rw [hx]; omega) (by rw [hx]; omega) ?_
  rw [hx]
  refine AT.aload_n M_378 rfl rfl ?_
  refine AT.iload M_378 rfl rfl ?_
  refine AT.iconst M_378 rfl (v := 2) (by decide) ?_
  refine AT.iadd M_378 rfl (i32_at (5 * c) 2 rfl) ?_
  refine AT.scr M_378 rfl rfl (by rw [hx]; omega) (by rw [hx]; omega) ?_
  rw [hx]
  refine AT.aload_n M_378 rfl rfl ?_
  refine AT.iload M_378 rfl rfl ?_
  refine AT.iconst M_378 rfl (v := 3) (by decide) ?_
  refine AT.iadd M_378 rfl (i32_at (5 * c) 3 rfl) ?_
  refine AT.scr M_378 rfl rfl (by rw [hx]; omega) (by rw [hx]; omega) ?_
  rw [hx]
  refine AT.cv4u M_378 rfl M_269 rfl (Nat.le_of_ble_eq_true rfl) (xKd.of sh_mod) (by decide) hm (fun Z hc875 => ?_) (Nat.le_of_ble_eq_true rfl) rfl
  obtain ⟨hT, hO, hR⟩ := hc875
  refine AT.ist6 M_378 rfl rfl ?_
  refine AT.aload_n M_378 rfl rfl ?_
  refine AT.cv1i M_378 rfl M_232 rfl (Nat.le_of_ble_eq_true rfl) (xKd.of sh_mod) (by decide) (c_232 (X := Z)) ?_ (Nat.le_of_ble_eq_true rfl) rfl
  refine AT.iload M_378 rfl rfl ?_
  refine AT.icmp_eq M_378 rfl (fun b880 => ?_) (fun b880 => absurd hT b880)
  refine AT.iload M_378 rfl rfl ?_
  refine AT.if_ne M_378 rfl (fun b884 => ?_) (fun b884 => ?_)
  · refine AT.goto M_378 rfl ?_
    exact hk _ _ _ _ _ hR
  · refine AT.aload_n M_378 rfl rfl ?_
    refine AT.iconst M_378 rfl (v := 0) (by decide) ?_
    refine AT.out M_378 rfl rfl ?_
    refine AT.iload M_378 rfl rfl ?_
    refine AT.i2l M_378 rfl ?_
    rw [hO (Classical.not_not.mp b884)]
    refine AT.lcmp M_378 rfl ?_
    refine AT.if_eq M_378 rfl (fun b891 => ?_) (fun b891 => absurd (lg_self _) b891)
    refine AT.goto M_378 rfl ?_
    exact hk _ _ _ _ _ hR
set_option maxRecDepth 100000 in
theorem b_23 {X : XS} {c : Nat} {R : XS → Prop} {Q : PO → XS → Prop} {x5 x6 x7 x8 : Option Value} (hc5 : 5 * c + 5 ≤ (xC X).1) (hL : (xC X).1 ≤ 2560) (h : qPair 344 270 [some (.ref 1), some (.int ((xC X).2 (5 * c + 1))), some (.int ((xC X).2 (5 * c + 2))), some (.int ((xC X).2 (5 * c + 3))), some (.int ((xC X).2 (5 * c + 4))), some (.ref 511), none] [some (.ref 388), some (.int ((xC X).2 (5 * c + 1))), some (.int ((xC X).2 (5 * c + 2))), some (.int ((xC X).2 (5 * c + 3))), some (.int ((xC X).2 (5 * c + 4)))] X R) (hk : ∀ Z y5 y6 y7 y8, R Z → AT 378 2335 (qLoc c y5 y6 y7 y8) [] Z Q) : AT 378 895 (qLoc c x5 x6 x7 x8) [] X Q := by
  obtain ⟨k, hw⟩ := h
  refine AT.aload_n M_378 rfl rfl ?_
  refine AT.aload_n M_378 rfl rfl ?_
  refine AT.iload M_378 rfl rfl ?_
  refine AT.iconst M_378 rfl (v := 1) (by decide) ?_
  refine AT.iadd M_378 rfl (i32_at (5 * c) 1 rfl) ?_
  refine AT.scr M_378 rfl rfl (by omega) (by omega) ?_
  refine AT.aload_n M_378 rfl rfl ?_
  refine AT.iload M_378 rfl rfl ?_
  refine AT.iconst M_378 rfl (v := 2) (by decide) ?_
  refine AT.iadd M_378 rfl (i32_at (5 * c) 2 rfl) ?_
  refine AT.scr M_378 rfl rfl (by omega) (by omega) ?_
  refine AT.aload_n M_378 rfl rfl ?_
  refine AT.iload M_378 rfl rfl ?_
  refine AT.iconst M_378 rfl (v := 3) (by decide) ?_
  refine AT.iadd M_378 rfl (i32_at (5 * c) 3 rfl) ?_
  refine AT.scr M_378 rfl rfl (by omega) (by omega) ?_
  refine AT.aload_n M_378 rfl rfl ?_
  refine AT.iload M_378 rfl rfl ?_
  refine AT.iconst M_378 rfl (v := 4) (by decide) ?_
  refine AT.iadd M_378 rfl (i32_at (5 * c) 4 rfl) ?_
  refine AT.scr M_378 rfl rfl (by omega) (by omega) ?_
  refine AT.aload_n M_378 rfl rfl ?_
  refine AT.cs6u M_378 rfl M_344 rfl (Nat.le_of_ble_eq_true rfl) rfl hw (fun Y hc917 => ?_) (Nat.le_of_ble_eq_true rfl) rfl
  obtain ⟨hx, b, hm⟩ := hc917
  refine AT.ist5 M_378 rfl rfl ?_
  refine AT.aload_n M_378 rfl rfl ?_
  refine AT.aload_n M_378 rfl rfl ?_
  refine AT.iload M_378 rfl rfl ?_
  refine AT.iconst M_378 rfl (v := 1) (by decide) ?_
  refine AT.iadd M_378 rfl (i32_at (5 * c) 1 rfl) ?_
  refine AT.scr M_378 rfl rfl (by rw [hx]; omega) (by rw [hx]; omega) ?_
  rw [hx]
  refine AT.aload_n M_378 rfl rfl ?_
  refine AT.iload M_378 rfl rfl ?_
  refine AT.iconst M_378 rfl (v := 2) (by decide) ?_
  refine AT.iadd M_378 rfl (i32_at (5 * c) 2 rfl) ?_
  refine AT.scr M_378 rfl rfl (by rw [hx]; omega) (by rw [hx]; omega) ?_
  rw [hx]
  refine AT.aload_n M_378 rfl rfl ?_
  refine AT.iload M_378 rfl rfl ?_
  refine AT.iconst M_378 rfl (v := 3) (by decide) ?_
  refine AT.iadd M_378 rfl (i32_at (5 * c) 3 rfl) ?_
  refine AT.scr M_378 rfl rfl (by rw [hx]; omega) (by rw [hx]; omega) ?_
  rw [hx]
  refine AT.aload_n M_378 rfl rfl ?_
  refine AT.iload M_378 rfl rfl ?_
  refine AT.iconst M_378 rfl (v := 4) (by decide) ?_
  refine AT.iadd M_378 rfl (i32_at (5 * c) 4 rfl) ?_
  refine AT.scr M_378 rfl rfl (by rw [hx]; omega) (by rw [hx]; omega) ?_
  rw [hx]
  refine AT.cv5u M_378 rfl M_270 rfl (Nat.le_of_ble_eq_true rfl) (xKd.of sh_mod) (by decide) hm (fun Z hc940 => ?_) (Nat.le_of_ble_eq_true rfl) rfl
  obtain ⟨hT, hO, hR⟩ := hc940
  refine AT.ist6 M_378 rfl rfl ?_
  refine AT.aload_n M_378 rfl rfl ?_
  refine AT.cv1i M_378 rfl M_232 rfl (Nat.le_of_ble_eq_true rfl) (xKd.of sh_mod) (by decide) (c_232 (X := Z)) ?_ (Nat.le_of_ble_eq_true rfl) rfl
  refine AT.iload M_378 rfl rfl ?_
  refine AT.icmp_eq M_378 rfl (fun b945 => ?_) (fun b945 => absurd hT b945)
  refine AT.iload M_378 rfl rfl ?_
  refine AT.if_ne M_378 rfl (fun b949 => ?_) (fun b949 => ?_)
  · refine AT.goto M_378 rfl ?_
    exact hk _ _ _ _ _ hR
  · refine AT.aload_n M_378 rfl rfl ?_
    refine AT.iconst M_378 rfl (v := 0) (by decide) ?_
    refine AT.out M_378 rfl rfl ?_
    refine AT.iload M_378 rfl rfl ?_
    refine AT.i2l M_378 rfl ?_
    rw [hO (Classical.not_not.mp b949)]
    refine AT.lcmp M_378 rfl ?_
    refine AT.if_eq M_378 rfl (fun b956 => ?_) (fun b956 => absurd (lg_self _) b956)
    refine AT.goto M_378 rfl ?_
    exact hk _ _ _ _ _ hR
set_option maxRecDepth 100000 in
theorem b_24 {X : XS} {c : Nat} {R : XS → Prop} {Q : PO → XS → Prop} {x5 x6 x7 x8 : Option Value} (hc5 : 5 * c + 5 ≤ (xC X).1) (hL : (xC X).1 ≤ 2560) (h : qPair 345 272 [some (.ref 1), some (.int ((xC X).2 (5 * c + 1))), some (.int ((xC X).2 (5 * c + 2))), some (.ref 511), none] [some (.ref 388), some (.int ((xC X).2 (5 * c + 1))), some (.int ((xC X).2 (5 * c + 2))), none] X R) (hk : ∀ Z y5 y6 y7 y8, R Z → AT 378 2335 (qLoc c y5 y6 y7 y8) [] Z Q) : AT 378 960 (qLoc c x5 x6 x7 x8) [] X Q := by
  obtain ⟨k, hw⟩ := h
  refine AT.aload_n M_378 rfl rfl ?_
  refine AT.aload_n M_378 rfl rfl ?_
  refine AT.iload M_378 rfl rfl ?_
  refine AT.iconst M_378 rfl (v := 1) (by decide) ?_
  refine AT.iadd M_378 rfl (i32_at (5 * c) 1 rfl) ?_
  refine AT.scr M_378 rfl rfl (by omega) (by omega) ?_
  refine AT.aload_n M_378 rfl rfl ?_
  refine AT.iload M_378 rfl rfl ?_
  refine AT.iconst M_378 rfl (v := 2) (by decide) ?_
  refine AT.iadd M_378 rfl (i32_at (5 * c) 2 rfl) ?_
  refine AT.scr M_378 rfl rfl (by omega) (by omega) ?_
  refine AT.aload_n M_378 rfl rfl ?_
  refine AT.cs4u M_378 rfl M_345 rfl (Nat.le_of_ble_eq_true rfl) rfl hw (fun Y hc972 => ?_) (Nat.le_of_ble_eq_true rfl) rfl
  obtain ⟨hx, b, hm⟩ := hc972
  refine AT.ist5 M_378 rfl rfl ?_
  refine AT.aload_n M_378 rfl rfl ?_
  refine AT.aload_n M_378 rfl rfl ?_
  refine AT.iload M_378 rfl rfl ?_
  refine AT.iconst M_378 rfl (v := 1) (by decide) ?_
  refine AT.iadd M_378 rfl (i32_at (5 * c) 1 rfl) ?_
  refine AT.scr M_378 rfl rfl (by rw [hx]; omega) (by rw [hx]; omega) ?_
  rw [hx]
  refine AT.aload_n M_378 rfl rfl ?_
  refine AT.iload M_378 rfl rfl ?_
  refine AT.iconst M_378 rfl (v := 2) (by decide) ?_
  refine AT.iadd M_378 rfl (i32_at (5 * c) 2 rfl) ?_
  refine AT.scr M_378 rfl rfl (by rw [hx]; omega) (by rw [hx]; omega) ?_
  rw [hx]
  refine AT.cv3u M_378 rfl M_272 rfl (Nat.le_of_ble_eq_true rfl) (xKd.of sh_mod) (by decide) hm (fun Z hc985 => ?_) (Nat.le_of_ble_eq_true rfl) rfl
  obtain ⟨hT, hO, hR⟩ := hc985
  refine AT.ist6 M_378 rfl rfl ?_
  refine AT.aload_n M_378 rfl rfl ?_
  refine AT.cv1i M_378 rfl M_232 rfl (Nat.le_of_ble_eq_true rfl) (xKd.of sh_mod) (by decide) (c_232 (X := Z)) ?_ (Nat.le_of_ble_eq_true rfl) rfl
  refine AT.iload M_378 rfl rfl ?_
  refine AT.icmp_eq M_378 rfl (fun b990 => ?_) (fun b990 => absurd hT b990)
  refine AT.iload M_378 rfl rfl ?_
  refine AT.if_ne M_378 rfl (fun b994 => ?_) (fun b994 => ?_)
  · refine AT.goto M_378 rfl ?_
    exact hk _ _ _ _ _ hR
  · refine AT.aload_n M_378 rfl rfl ?_
    refine AT.iconst M_378 rfl (v := 0) (by decide) ?_
    refine AT.out M_378 rfl rfl ?_
    refine AT.iload M_378 rfl rfl ?_
    refine AT.i2l M_378 rfl ?_
    rw [hO (Classical.not_not.mp b994)]
    refine AT.lcmp M_378 rfl ?_
    refine AT.if_eq M_378 rfl (fun b1001 => ?_) (fun b1001 => absurd (lg_self _) b1001)
    refine AT.goto M_378 rfl ?_
    exact hk _ _ _ _ _ hR
set_option maxRecDepth 100000 in
theorem b_25 {X : XS} {c : Nat} {R : XS → Prop} {Q : PO → XS → Prop} {x5 x6 x7 x8 : Option Value} (hc5 : 5 * c + 5 ≤ (xC X).1) (hL : (xC X).1 ≤ 2560) (h : qPair 346 273 [some (.ref 1), some (.int ((xC X).2 (5 * c + 1))), some (.ref 511), none] [some (.ref 388), some (.int ((xC X).2 (5 * c + 1)))] X R) (hk : ∀ Z y5 y6 y7 y8, R Z → AT 378 2335 (qLoc c y5 y6 y7 y8) [] Z Q) : AT 378 1005 (qLoc c x5 x6 x7 x8) [] X Q := by
  obtain ⟨k, hw⟩ := h
  refine AT.aload_n M_378 rfl rfl ?_
  refine AT.aload_n M_378 rfl rfl ?_
  refine AT.iload M_378 rfl rfl ?_
  refine AT.iconst M_378 rfl (v := 1) (by decide) ?_
  refine AT.iadd M_378 rfl (i32_at (5 * c) 1 rfl) ?_
  refine AT.scr M_378 rfl rfl (by omega) (by omega) ?_
  refine AT.aload_n M_378 rfl rfl ?_
  refine AT.cs3u M_378 rfl M_346 rfl (Nat.le_of_ble_eq_true rfl) rfl hw (fun Y hc1012 => ?_) (Nat.le_of_ble_eq_true rfl) rfl
  obtain ⟨hx, b, hm⟩ := hc1012
  refine AT.ist5 M_378 rfl rfl ?_
  refine AT.aload_n M_378 rfl rfl ?_
  refine AT.aload_n M_378 rfl rfl ?_
  refine AT.iload M_378 rfl rfl ?_
  refine AT.iconst M_378 rfl (v := 1) (by decide) ?_
  refine AT.iadd M_378 rfl (i32_at (5 * c) 1 rfl) ?_
  refine AT.scr M_378 rfl rfl (by rw [hx]; omega) (by rw [hx]; omega) ?_
  rw [hx]
  refine AT.cv2u M_378 rfl M_273 rfl (Nat.le_of_ble_eq_true rfl) (xKd.of sh_mod) (by decide) hm (fun Z hc1020 => ?_) (Nat.le_of_ble_eq_true rfl) rfl
  obtain ⟨hT, hO, hR⟩ := hc1020
  refine AT.ist6 M_378 rfl rfl ?_
  refine AT.aload_n M_378 rfl rfl ?_
  refine AT.cv1i M_378 rfl M_232 rfl (Nat.le_of_ble_eq_true rfl) (xKd.of sh_mod) (by decide) (c_232 (X := Z)) ?_ (Nat.le_of_ble_eq_true rfl) rfl
  refine AT.iload M_378 rfl rfl ?_
  refine AT.icmp_eq M_378 rfl (fun b1025 => ?_) (fun b1025 => absurd hT b1025)
  refine AT.iload M_378 rfl rfl ?_
  refine AT.if_ne M_378 rfl (fun b1029 => ?_) (fun b1029 => ?_)
  · refine AT.goto M_378 rfl ?_
    exact hk _ _ _ _ _ hR
  · refine AT.aload_n M_378 rfl rfl ?_
    refine AT.iconst M_378 rfl (v := 0) (by decide) ?_
    refine AT.out M_378 rfl rfl ?_
    refine AT.iload M_378 rfl rfl ?_
    refine AT.i2l M_378 rfl ?_
    rw [hO (Classical.not_not.mp b1029)]
    refine AT.lcmp M_378 rfl ?_
    refine AT.if_eq M_378 rfl (fun b1036 => ?_) (fun b1036 => absurd (lg_self _) b1036)
    refine AT.goto M_378 rfl ?_
    exact hk _ _ _ _ _ hR
set_option maxRecDepth 100000 in
theorem b_26 {X : XS} {c : Nat} {R : XS → Prop} {Q : PO → XS → Prop} {x5 x6 x7 x8 : Option Value} (hc5 : 5 * c + 5 ≤ (xC X).1) (hL : (xC X).1 ≤ 2560) (h : qPairB 347 274 [some (.ref 1), some (.int ((xC X).2 (5 * c + 1))), some (.ref 511), none] [some (.ref 388), some (.int ((xC X).2 (5 * c + 1)))] X R) (hk : ∀ Z y5 y6 y7 y8, R Z → AT 378 2335 (qLoc c y5 y6 y7 y8) [] Z Q) : AT 378 1040 (qLoc c x5 x6 x7 x8) [] X Q := by
  obtain ⟨k, hw⟩ := h
  refine AT.aload_n M_378 rfl rfl ?_
  refine AT.aload_n M_378 rfl rfl ?_
  refine AT.iload M_378 rfl rfl ?_
  refine AT.iconst M_378 rfl (v := 1) (by decide) ?_
  refine AT.iadd M_378 rfl (i32_at (5 * c) 1 rfl) ?_
  refine AT.scr M_378 rfl rfl (by omega) (by omega) ?_
  refine AT.aload_n M_378 rfl rfl ?_
  refine AT.cs3u M_378 rfl M_347 rfl (Nat.le_of_ble_eq_true rfl) rfl hw (fun Y hc1047 => ?_) (Nat.le_of_ble_eq_true rfl) rfl
  obtain ⟨hx, b, hm⟩ := hc1047
  refine AT.ist5 M_378 rfl rfl ?_
  refine AT.aload_n M_378 rfl rfl ?_
  refine AT.aload_n M_378 rfl rfl ?_
  refine AT.iload M_378 rfl rfl ?_
  refine AT.iconst M_378 rfl (v := 1) (by decide) ?_
  refine AT.iadd M_378 rfl (i32_at (5 * c) 1 rfl) ?_
  refine AT.scr M_378 rfl rfl (by rw [hx]; omega) (by rw [hx]; omega) ?_
  rw [hx]
  refine AT.cv2u M_378 rfl M_274 rfl (Nat.le_of_ble_eq_true rfl) (xKd.of sh_mod) (by decide) hm (fun Z hc1055 => ?_) (Nat.le_of_ble_eq_true rfl) rfl
  obtain ⟨hT, hO, hR⟩ := hc1055
  refine AT.ist6 M_378 rfl rfl ?_
  refine AT.aload_n M_378 rfl rfl ?_
  refine AT.cv1i M_378 rfl M_232 rfl (Nat.le_of_ble_eq_true rfl) (xKd.of sh_mod) (by decide) (c_232 (X := Z)) ?_ (Nat.le_of_ble_eq_true rfl) rfl
  refine AT.iload M_378 rfl rfl ?_
  refine AT.icmp_eq M_378 rfl (fun b1060 => ?_) (fun b1060 => absurd hT b1060)
  refine AT.iload M_378 rfl rfl ?_
  refine AT.if_ne M_378 rfl (fun b1064 => ?_) (fun b1064 => ?_)
  · refine AT.goto M_378 rfl ?_
    exact hk _ _ _ _ _ hR
  · refine AT.aload_n M_378 rfl rfl ?_
    refine AT.iconst M_378 rfl (v := 0) (by decide) ?_
    refine AT.out M_378 rfl rfl ?_
    refine AT.iload M_378 rfl rfl ?_
    refine AT.if_eq M_378 rfl (fun b1069 => ?_) (fun b1069 => ?_)
    · rw [(hO (Classical.not_not.mp b1064)).2, b1069]
      change AT 378 _ _ (.long 0 :: _) _ _
      refine AT.lconst M_378 rfl (v := 0) (by decide) ?_
      refine AT.lcmp M_378 rfl ?_
      refine AT.if_eq M_378 rfl (fun b1074 => ?_) (fun b1074 => absurd (lg_self _) b1074)
      refine AT.goto M_378 rfl ?_
      exact hk _ _ _ _ _ hR
    · rw [(hO (Classical.not_not.mp b1064)).2, (hO (Classical.not_not.mp b1064)).1.resolve_left b1069]
      change AT 378 _ _ (.long 1 :: _) _ _
      refine AT.lconst M_378 rfl (v := 1) (by decide) ?_
      refine AT.goto M_378 rfl ?_
      refine AT.lcmp M_378 rfl ?_
      refine AT.if_eq M_378 rfl (fun b1074 => ?_) (fun b1074 => absurd (lg_self _) b1074)
      refine AT.goto M_378 rfl ?_
      exact hk _ _ _ _ _ hR
set_option maxRecDepth 100000 in
theorem b_27 {X : XS} {c : Nat} {R : XS → Prop} {Q : PO → XS → Prop} {x5 x6 x7 x8 : Option Value} (hc5 : 5 * c + 5 ≤ (xC X).1) (hL : (xC X).1 ≤ 2560) (h : qPair 348 275 [some (.ref 1), some (.int ((xC X).2 (5 * c + 1))), some (.ref 511), none] [some (.ref 388), some (.int ((xC X).2 (5 * c + 1)))] X R) (hk : ∀ Z y5 y6 y7 y8, R Z → AT 378 2335 (qLoc c y5 y6 y7 y8) [] Z Q) : AT 378 1078 (qLoc c x5 x6 x7 x8) [] X Q := by
  obtain ⟨k, hw⟩ := h
  refine AT.aload_n M_378 rfl rfl ?_
  refine AT.aload_n M_378 rfl rfl ?_
  refine AT.iload M_378 rfl rfl ?_
  refine AT.iconst M_378 rfl (v := 1) (by decide) ?_
  refine AT.iadd M_378 rfl (i32_at (5 * c) 1 rfl) ?_
  refine AT.scr M_378 rfl rfl (by omega) (by omega) ?_
  refine AT.aload_n M_378 rfl rfl ?_
  refine AT.cs3u M_378 rfl M_348 rfl (Nat.le_of_ble_eq_true rfl) rfl hw (fun Y hc1085 => ?_) (Nat.le_of_ble_eq_true rfl) rfl
  obtain ⟨hx, b, hm⟩ := hc1085
  refine AT.ist5 M_378 rfl rfl ?_
  refine AT.aload_n M_378 rfl rfl ?_
  refine AT.aload_n M_378 rfl rfl ?_
  refine AT.iload M_378 rfl rfl ?_
  refine AT.iconst M_378 rfl (v := 1) (by decide) ?_
  refine AT.iadd M_378 rfl (i32_at (5 * c) 1 rfl) ?_
  refine AT.scr M_378 rfl rfl (by rw [hx]; omega) (by rw [hx]; omega) ?_
  rw [hx]
  refine AT.cv2u M_378 rfl M_275 rfl (Nat.le_of_ble_eq_true rfl) (xKd.of sh_mod) (by decide) hm (fun Z hc1093 => ?_) (Nat.le_of_ble_eq_true rfl) rfl
  obtain ⟨hT, hO, hR⟩ := hc1093
  refine AT.ist6 M_378 rfl rfl ?_
  refine AT.aload_n M_378 rfl rfl ?_
  refine AT.cv1i M_378 rfl M_232 rfl (Nat.le_of_ble_eq_true rfl) (xKd.of sh_mod) (by decide) (c_232 (X := Z)) ?_ (Nat.le_of_ble_eq_true rfl) rfl
  refine AT.iload M_378 rfl rfl ?_
  refine AT.icmp_eq M_378 rfl (fun b1098 => ?_) (fun b1098 => absurd hT b1098)
  refine AT.iload M_378 rfl rfl ?_
  refine AT.if_ne M_378 rfl (fun b1102 => ?_) (fun b1102 => ?_)
  · refine AT.goto M_378 rfl ?_
    exact hk _ _ _ _ _ hR
  · refine AT.aload_n M_378 rfl rfl ?_
    refine AT.iconst M_378 rfl (v := 0) (by decide) ?_
    refine AT.out M_378 rfl rfl ?_
    refine AT.iload M_378 rfl rfl ?_
    refine AT.i2l M_378 rfl ?_
    rw [hO (Classical.not_not.mp b1102)]
    refine AT.lcmp M_378 rfl ?_
    refine AT.if_eq M_378 rfl (fun b1109 => ?_) (fun b1109 => absurd (lg_self _) b1109)
    refine AT.goto M_378 rfl ?_
    exact hk _ _ _ _ _ hR
set_option maxRecDepth 100000 in
theorem b_28 {X : XS} {c : Nat} {R : XS → Prop} {Q : PO → XS → Prop} {x5 x6 x7 x8 : Option Value} (hc5 : 5 * c + 5 ≤ (xC X).1) (hL : (xC X).1 ≤ 2560) (h : ∃ v : Int32, RU 123 [some (.ref 1)] X (some (.int v)) (fun Y => RU 276 [some (.ref 388)] Y (some (.int v)) R)) (hk : ∀ Z y5 y6 y7 y8, R Z → AT 378 2335 (qLoc c y5 y6 y7 y8) [] Z Q) : AT 378 1113 (qLoc c x5 x6 x7 x8) [] X Q := by
  obtain ⟨v, hw⟩ := h
  refine AT.aload_n M_378 rfl rfl ?_
  refine AT.cv1u M_378 rfl M_123 rfl (Nat.le_of_ble_eq_true rfl) (xKd.of (Or.inr (Or.inr (Or.inl ⟨rfl, rfl, rfl⟩)))) (by decide) hw (fun Y hc1114 => ?_) (Nat.le_of_ble_eq_true rfl) rfl
  have hm := hc1114
  refine AT.aload_n M_378 rfl rfl ?_
  refine AT.cv1u M_378 rfl M_276 rfl (Nat.le_of_ble_eq_true rfl) (xKd.of sh_mod) (by decide) hm (fun Z hc1116 => ?_) (Nat.le_of_ble_eq_true rfl) rfl
  have hR := hc1116
  refine AT.icmp_eq M_378 rfl (fun b1117 => ?_) (fun b1117 => absurd rfl b1117)
  exact hk _ _ _ _ _ hR
set_option maxRecDepth 100000 in
theorem b_29 {X : XS} {c : Nat} {R : XS → Prop} {Q : PO → XS → Prop} {x5 x6 x7 x8 : Option Value} (hc5 : 5 * c + 5 ≤ (xC X).1) (hL : (xC X).1 ≤ 2560) (h : ∃ v : Int32, RU 124 [some (.ref 1)] X (some (.int v)) (fun Y => RU 277 [some (.ref 388)] Y (some (.int v)) R)) (hk : ∀ Z y5 y6 y7 y8, R Z → AT 378 2335 (qLoc c y5 y6 y7 y8) [] Z Q) : AT 378 1120 (qLoc c x5 x6 x7 x8) [] X Q := by
  obtain ⟨v, hw⟩ := h
  refine AT.aload_n M_378 rfl rfl ?_
  refine AT.cv1u M_378 rfl M_124 rfl (Nat.le_of_ble_eq_true rfl) (xKd.of (Or.inr (Or.inr (Or.inl ⟨rfl, rfl, rfl⟩)))) (by decide) hw (fun Y hc1121 => ?_) (Nat.le_of_ble_eq_true rfl) rfl
  have hm := hc1121
  refine AT.aload_n M_378 rfl rfl ?_
  refine AT.cv1u M_378 rfl M_277 rfl (Nat.le_of_ble_eq_true rfl) (xKd.of sh_mod) (by decide) hm (fun Z hc1123 => ?_) (Nat.le_of_ble_eq_true rfl) rfl
  have hR := hc1123
  refine AT.icmp_eq M_378 rfl (fun b1124 => ?_) (fun b1124 => absurd rfl b1124)
  exact hk _ _ _ _ _ hR
set_option maxRecDepth 100000 in
theorem b_30 {X : XS} {c : Nat} {R : XS → Prop} {Q : PO → XS → Prop} {x5 x6 x7 x8 : Option Value} (hc5 : 5 * c + 5 ≤ (xC X).1) (hL : (xC X).1 ≤ 2560) (h : qPairB 349 279 [some (.ref 1), some (.int ((xC X).2 (5 * c + 1))), some (.ref 511), none] [some (.ref 388), some (.int ((xC X).2 (5 * c + 1)))] X R) (hk : ∀ Z y5 y6 y7 y8, R Z → AT 378 2335 (qLoc c y5 y6 y7 y8) [] Z Q) : AT 378 1127 (qLoc c x5 x6 x7 x8) [] X Q := by
  obtain ⟨k, hw⟩ := h
  refine AT.aload_n M_378 rfl rfl ?_
  refine AT.aload_n M_378 rfl rfl ?_
  refine AT.iload M_378 rfl rfl ?_
  refine AT.iconst M_378 rfl (v := 1) (by decide) ?_
  refine AT.iadd M_378 rfl (i32_at (5 * c) 1 rfl) ?_
  refine AT.scr M_378 rfl rfl (by omega) (by omega) ?_
  refine AT.aload_n M_378 rfl rfl ?_
  refine AT.cs3u M_378 rfl M_349 rfl (Nat.le_of_ble_eq_true rfl) rfl hw (fun Y hc1134 => ?_) (Nat.le_of_ble_eq_true rfl) rfl
  obtain ⟨hx, b, hm⟩ := hc1134
  refine AT.ist5 M_378 rfl rfl ?_
  refine AT.aload_n M_378 rfl rfl ?_
  refine AT.aload_n M_378 rfl rfl ?_
  refine AT.iload M_378 rfl rfl ?_
  refine AT.iconst M_378 rfl (v := 1) (by decide) ?_
  refine AT.iadd M_378 rfl (i32_at (5 * c) 1 rfl) ?_
  refine AT.scr M_378 rfl rfl (by rw [hx]; omega) (by rw [hx]; omega) ?_
  rw [hx]
  refine AT.cv2u M_378 rfl M_279 rfl (Nat.le_of_ble_eq_true rfl) (xKd.of sh_mod) (by decide) hm (fun Z hc1142 => ?_) (Nat.le_of_ble_eq_true rfl) rfl
  obtain ⟨hT, hO, hR⟩ := hc1142
  refine AT.ist6 M_378 rfl rfl ?_
  refine AT.aload_n M_378 rfl rfl ?_
  refine AT.cv1i M_378 rfl M_232 rfl (Nat.le_of_ble_eq_true rfl) (xKd.of sh_mod) (by decide) (c_232 (X := Z)) ?_ (Nat.le_of_ble_eq_true rfl) rfl
  refine AT.iload M_378 rfl rfl ?_
  refine AT.icmp_eq M_378 rfl (fun b1147 => ?_) (fun b1147 => absurd hT b1147)
  refine AT.iload M_378 rfl rfl ?_
  refine AT.if_ne M_378 rfl (fun b1151 => ?_) (fun b1151 => ?_)
  · refine AT.goto M_378 rfl ?_
    exact hk _ _ _ _ _ hR
  · refine AT.aload_n M_378 rfl rfl ?_
    refine AT.iconst M_378 rfl (v := 0) (by decide) ?_
    refine AT.out M_378 rfl rfl ?_
    refine AT.iload M_378 rfl rfl ?_
    refine AT.if_eq M_378 rfl (fun b1156 => ?_) (fun b1156 => ?_)
    · rw [(hO (Classical.not_not.mp b1151)).2, b1156]
      change AT 378 _ _ (.long 0 :: _) _ _
      refine AT.lconst M_378 rfl (v := 0) (by decide) ?_
      refine AT.lcmp M_378 rfl ?_
      refine AT.if_eq M_378 rfl (fun b1161 => ?_) (fun b1161 => absurd (lg_self _) b1161)
      refine AT.goto M_378 rfl ?_
      exact hk _ _ _ _ _ hR
    · rw [(hO (Classical.not_not.mp b1151)).2, (hO (Classical.not_not.mp b1151)).1.resolve_left b1156]
      change AT 378 _ _ (.long 1 :: _) _ _
      refine AT.lconst M_378 rfl (v := 1) (by decide) ?_
      refine AT.goto M_378 rfl ?_
      refine AT.lcmp M_378 rfl ?_
      refine AT.if_eq M_378 rfl (fun b1161 => ?_) (fun b1161 => absurd (lg_self _) b1161)
      refine AT.goto M_378 rfl ?_
      exact hk _ _ _ _ _ hR
set_option maxRecDepth 100000 in
theorem b_31 {X : XS} {c : Nat} {R : XS → Prop} {Q : PO → XS → Prop} {x5 x6 x7 x8 : Option Value} (hc5 : 5 * c + 5 ≤ (xC X).1) (hL : (xC X).1 ≤ 2560) (h : qPair 350 280 [some (.ref 1), some (.int ((xC X).2 (5 * c + 1))), some (.ref 511), none] [some (.ref 388), some (.int ((xC X).2 (5 * c + 1)))] X R) (hk : ∀ Z y5 y6 y7 y8, R Z → AT 378 2335 (qLoc c y5 y6 y7 y8) [] Z Q) : AT 378 1165 (qLoc c x5 x6 x7 x8) [] X Q := by
  obtain ⟨k, hw⟩ := h
  refine AT.aload_n M_378 rfl rfl ?_
  refine AT.aload_n M_378 rfl rfl ?_
  refine AT.iload M_378 rfl rfl ?_
  refine AT.iconst M_378 rfl (v := 1) (by decide) ?_
  refine AT.iadd M_378 rfl (i32_at (5 * c) 1 rfl) ?_
  refine AT.scr M_378 rfl rfl (by omega) (by omega) ?_
  refine AT.aload_n M_378 rfl rfl ?_
  refine AT.cs3u M_378 rfl M_350 rfl (Nat.le_of_ble_eq_true rfl) rfl hw (fun Y hc1172 => ?_) (Nat.le_of_ble_eq_true rfl) rfl
  obtain ⟨hx, b, hm⟩ := hc1172
  refine AT.ist5 M_378 rfl rfl ?_
  refine AT.aload_n M_378 rfl rfl ?_
  refine AT.aload_n M_378 rfl rfl ?_
  refine AT.iload M_378 rfl rfl ?_
  refine AT.iconst M_378 rfl (v := 1) (by decide) ?_
  refine AT.iadd M_378 rfl (i32_at (5 * c) 1 rfl) ?_
  refine AT.scr M_378 rfl rfl (by rw [hx]; omega) (by rw [hx]; omega) ?_
  rw [hx]
  refine AT.cv2u M_378 rfl M_280 rfl (Nat.le_of_ble_eq_true rfl) (xKd.of sh_mod) (by decide) hm (fun Z hc1180 => ?_) (Nat.le_of_ble_eq_true rfl) rfl
  obtain ⟨hT, hO, hR⟩ := hc1180
  refine AT.ist6 M_378 rfl rfl ?_
  refine AT.aload_n M_378 rfl rfl ?_
  refine AT.cv1i M_378 rfl M_232 rfl (Nat.le_of_ble_eq_true rfl) (xKd.of sh_mod) (by decide) (c_232 (X := Z)) ?_ (Nat.le_of_ble_eq_true rfl) rfl
  refine AT.iload M_378 rfl rfl ?_
  refine AT.icmp_eq M_378 rfl (fun b1185 => ?_) (fun b1185 => absurd hT b1185)
  refine AT.iload M_378 rfl rfl ?_
  refine AT.if_ne M_378 rfl (fun b1189 => ?_) (fun b1189 => ?_)
  · refine AT.goto M_378 rfl ?_
    exact hk _ _ _ _ _ hR
  · refine AT.aload_n M_378 rfl rfl ?_
    refine AT.iconst M_378 rfl (v := 0) (by decide) ?_
    refine AT.out M_378 rfl rfl ?_
    refine AT.iload M_378 rfl rfl ?_
    refine AT.i2l M_378 rfl ?_
    rw [hO (Classical.not_not.mp b1189)]
    refine AT.lcmp M_378 rfl ?_
    refine AT.if_eq M_378 rfl (fun b1196 => ?_) (fun b1196 => absurd (lg_self _) b1196)
    refine AT.goto M_378 rfl ?_
    exact hk _ _ _ _ _ hR
set_option maxRecDepth 100000 in
theorem b_32 {X : XS} {c : Nat} {R : XS → Prop} {Q : PO → XS → Prop} {x5 x6 x7 x8 : Option Value} (hc5 : 5 * c + 5 ≤ (xC X).1) (hL : (xC X).1 ≤ 2560) (h : qPair 351 281 [some (.ref 1), some (.int ((xC X).2 (5 * c + 1))), some (.ref 511), none] [some (.ref 388), some (.int ((xC X).2 (5 * c + 1)))] X R) (hk : ∀ Z y5 y6 y7 y8, R Z → AT 378 2335 (qLoc c y5 y6 y7 y8) [] Z Q) : AT 378 1200 (qLoc c x5 x6 x7 x8) [] X Q := by
  obtain ⟨k, hw⟩ := h
  refine AT.aload_n M_378 rfl rfl ?_
  refine AT.aload_n M_378 rfl rfl ?_
  refine AT.iload M_378 rfl rfl ?_
  refine AT.iconst M_378 rfl (v := 1) (by decide) ?_
  refine AT.iadd M_378 rfl (i32_at (5 * c) 1 rfl) ?_
  refine AT.scr M_378 rfl rfl (by omega) (by omega) ?_
  refine AT.aload_n M_378 rfl rfl ?_
  refine AT.cs3u M_378 rfl M_351 rfl (Nat.le_of_ble_eq_true rfl) rfl hw (fun Y hc1207 => ?_) (Nat.le_of_ble_eq_true rfl) rfl
  obtain ⟨hx, b, hm⟩ := hc1207
  refine AT.ist5 M_378 rfl rfl ?_
  refine AT.aload_n M_378 rfl rfl ?_
  refine AT.aload_n M_378 rfl rfl ?_
  refine AT.iload M_378 rfl rfl ?_
  refine AT.iconst M_378 rfl (v := 1) (by decide) ?_
  refine AT.iadd M_378 rfl (i32_at (5 * c) 1 rfl) ?_
  refine AT.scr M_378 rfl rfl (by rw [hx]; omega) (by rw [hx]; omega) ?_
  rw [hx]
  refine AT.cv2u M_378 rfl M_281 rfl (Nat.le_of_ble_eq_true rfl) (xKd.of sh_mod) (by decide) hm (fun Z hc1215 => ?_) (Nat.le_of_ble_eq_true rfl) rfl
  obtain ⟨hT, hO, hR⟩ := hc1215
  refine AT.ist6 M_378 rfl rfl ?_
  refine AT.aload_n M_378 rfl rfl ?_
  refine AT.cv1i M_378 rfl M_232 rfl (Nat.le_of_ble_eq_true rfl) (xKd.of sh_mod) (by decide) (c_232 (X := Z)) ?_ (Nat.le_of_ble_eq_true rfl) rfl
  refine AT.iload M_378 rfl rfl ?_
  refine AT.icmp_eq M_378 rfl (fun b1220 => ?_) (fun b1220 => absurd hT b1220)
  refine AT.iload M_378 rfl rfl ?_
  refine AT.if_ne M_378 rfl (fun b1224 => ?_) (fun b1224 => ?_)
  · refine AT.goto M_378 rfl ?_
    exact hk _ _ _ _ _ hR
  · refine AT.aload_n M_378 rfl rfl ?_
    refine AT.iconst M_378 rfl (v := 0) (by decide) ?_
    refine AT.out M_378 rfl rfl ?_
    refine AT.iload M_378 rfl rfl ?_
    refine AT.i2l M_378 rfl ?_
    rw [hO (Classical.not_not.mp b1224)]
    refine AT.lcmp M_378 rfl ?_
    refine AT.if_eq M_378 rfl (fun b1231 => ?_) (fun b1231 => absurd (lg_self _) b1231)
    refine AT.goto M_378 rfl ?_
    exact hk _ _ _ _ _ hR
set_option maxRecDepth 100000 in
theorem b_33 {X : XS} {c : Nat} {R : XS → Prop} {Q : PO → XS → Prop} {x5 x6 x7 x8 : Option Value} (hc5 : 5 * c + 5 ≤ (xC X).1) (hL : (xC X).1 ≤ 2560) (h : qPair 352 282 [some (.ref 1), some (.int ((xC X).2 (5 * c + 1))), some (.ref 511), none] [some (.ref 388), some (.int ((xC X).2 (5 * c + 1)))] X R) (hk : ∀ Z y5 y6 y7 y8, R Z → AT 378 2335 (qLoc c y5 y6 y7 y8) [] Z Q) : AT 378 1235 (qLoc c x5 x6 x7 x8) [] X Q := by
  obtain ⟨k, hw⟩ := h
  refine AT.aload_n M_378 rfl rfl ?_
  refine AT.aload_n M_378 rfl rfl ?_
  refine AT.iload M_378 rfl rfl ?_
  refine AT.iconst M_378 rfl (v := 1) (by decide) ?_
  refine AT.iadd M_378 rfl (i32_at (5 * c) 1 rfl) ?_
  refine AT.scr M_378 rfl rfl (by omega) (by omega) ?_
  refine AT.aload_n M_378 rfl rfl ?_
  refine AT.cs3u M_378 rfl M_352 rfl (Nat.le_of_ble_eq_true rfl) rfl hw (fun Y hc1242 => ?_) (Nat.le_of_ble_eq_true rfl) rfl
  obtain ⟨hx, b, hm⟩ := hc1242
  refine AT.ist5 M_378 rfl rfl ?_
  refine AT.aload_n M_378 rfl rfl ?_
  refine AT.aload_n M_378 rfl rfl ?_
  refine AT.iload M_378 rfl rfl ?_
  refine AT.iconst M_378 rfl (v := 1) (by decide) ?_
  refine AT.iadd M_378 rfl (i32_at (5 * c) 1 rfl) ?_
  refine AT.scr M_378 rfl rfl (by rw [hx]; omega) (by rw [hx]; omega) ?_
  rw [hx]
  refine AT.cv2u M_378 rfl M_282 rfl (Nat.le_of_ble_eq_true rfl) (xKd.of sh_mod) (by decide) hm (fun Z hc1250 => ?_) (Nat.le_of_ble_eq_true rfl) rfl
  obtain ⟨hT, hO, hR⟩ := hc1250
  refine AT.ist6 M_378 rfl rfl ?_
  refine AT.aload_n M_378 rfl rfl ?_
  refine AT.cv1i M_378 rfl M_232 rfl (Nat.le_of_ble_eq_true rfl) (xKd.of sh_mod) (by decide) (c_232 (X := Z)) ?_ (Nat.le_of_ble_eq_true rfl) rfl
  refine AT.iload M_378 rfl rfl ?_
  refine AT.icmp_eq M_378 rfl (fun b1255 => ?_) (fun b1255 => absurd hT b1255)
  refine AT.iload M_378 rfl rfl ?_
  refine AT.if_ne M_378 rfl (fun b1259 => ?_) (fun b1259 => ?_)
  · refine AT.goto M_378 rfl ?_
    exact hk _ _ _ _ _ hR
  · refine AT.aload_n M_378 rfl rfl ?_
    refine AT.iconst M_378 rfl (v := 0) (by decide) ?_
    refine AT.out M_378 rfl rfl ?_
    refine AT.iload M_378 rfl rfl ?_
    refine AT.i2l M_378 rfl ?_
    rw [hO (Classical.not_not.mp b1259)]
    refine AT.lcmp M_378 rfl ?_
    refine AT.if_eq M_378 rfl (fun b1266 => ?_) (fun b1266 => absurd (lg_self _) b1266)
    refine AT.goto M_378 rfl ?_
    exact hk _ _ _ _ _ hR
