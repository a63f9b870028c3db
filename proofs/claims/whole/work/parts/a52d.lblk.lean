/-! ===== THE LAW: one call of each, on ===== -/
set_option maxRecDepth 100000 in
theorem b_51 {X : XS} {c : Nat} {R : XS → Prop} {Q : PO → XS → Prop} {x5 x6 x7 x8 : Option Value} (hc5 : 5 * c + 5 ≤ (xC X).1) (hL : (xC X).1 ≤ 2560) (h : qPair 370 302 [some (.ref 1), some (.int ((xC X).2 (5 * c + 1))), some (.int ((xC X).2 (5 * c + 2))), some (.ref 511), none] [some (.ref 388), some (.int ((xC X).2 (5 * c + 1))), some (.int ((xC X).2 (5 * c + 2)))] X R) (hk : ∀ Z y5 y6 y7 y8, R Z → AT 378 2335 (qLoc c y5 y6 y7 y8) [] Z Q) : AT 378 1958 (qLoc c x5 x6 x7 x8) [] X Q := by
  obtain ⟨k, hw⟩ := h
  refine AT.aload_n M_378 rfl rfl ?_
  refine AT.aload_n M_378 rfl rfl ?_
  refine AT.iload M_378 rfl rfl ?_
  refine AT.iconst M_378 rfl (v := 1) (by decide) ?_
  refine AT.iadd M_378 rfl (i32_at (5 * c) 1 rfl) ?_
  refine AT.scr M_378 rfl rfl (by omega) (by omega) ?_
  refine AT.aload_n M_378 rfl rfl ?_
  refine AT.iload M_378 rfl rfl ?_
  refine AT.iconst M_378 rfl (v := 2) (by decide) ?_
  refine AT.iadd M_378 rfl (i32_at (5 * c) 2 rfl) ?_
  refine AT.scr M_378 rfl rfl (by omega) (by omega) ?_
  refine AT.aload_n M_378 rfl rfl ?_
  refine AT.cs4u M_378 rfl M_370 rfl (Nat.le_of_ble_eq_true rfl) rfl hw (fun Y hc1970 => ?_) (Nat.le_of_ble_eq_true rfl) rfl
  obtain ⟨hx, b, hm⟩ := hc1970
  refine AT.ist5 M_378 rfl rfl ?_
  refine AT.aload_n M_378 rfl rfl ?_
  refine AT.aload_n M_378 rfl rfl ?_
  refine AT.iload M_378 rfl rfl ?_
  refine AT.iconst M_378 rfl (v := 1) (by decide) ?_
  refine AT.iadd M_378 rfl (i32_at (5 * c) 1 rfl) ?_
  refine AT.scr M_378 rfl rfl (by rw [hx]; omega) (by rw [hx]; omega) ?_
  rw [hx]
  refine AT.aload_n M_378 rfl rfl ?_
  refine AT.iload M_378 rfl rfl ?_
  refine AT.iconst M_378 rfl (v := 2) (by decide) ?_
  refine AT.iadd M_378 rfl (i32_at (5 * c) 2 rfl) ?_
  refine AT.scr M_378 rfl rfl (by rw [hx]; omega) (by rw [hx]; omega) ?_
  rw [hx]
  refine AT.cv3u M_378 rfl M_302 rfl (Nat.le_of_ble_eq_true rfl) (xKd.of sh_mod) (by decide) hm (fun Z hc1983 => ?_) (Nat.le_of_ble_eq_true rfl) rfl
  obtain ⟨hT, hO, hR⟩ := hc1983
  refine AT.ist6 M_378 rfl rfl ?_
  refine AT.aload_n M_378 rfl rfl ?_
  refine AT.cv1i M_378 rfl M_232 rfl (Nat.le_of_ble_eq_true rfl) (xKd.of sh_mod) (by decide) (c_232 (X := Z)) ?_ (Nat.le_of_ble_eq_true rfl) rfl
  refine AT.iload M_378 rfl rfl ?_
  refine AT.icmp_eq M_378 rfl (fun b1988 => ?_) (fun b1988 => absurd hT b1988)
  refine AT.iload M_378 rfl rfl ?_
  refine AT.if_ne M_378 rfl (fun b1992 => ?_) (fun b1992 => ?_)
  · refine AT.goto M_378 rfl ?_
    exact hk _ _ _ _ _ hR
  · refine AT.aload_n M_378 rfl rfl ?_
    refine AT.iconst M_378 rfl (v := 0) (by decide) ?_
    refine AT.out M_378 rfl rfl ?_
    refine AT.iload M_378 rfl rfl ?_
    refine AT.i2l M_378 rfl ?_
    rw [hO (Classical.not_not.mp b1992)]
    refine AT.lcmp M_378 rfl ?_
    refine AT.if_eq M_378 rfl (fun b1999 => ?_) (fun b1999 => absurd (lg_self _) b1999)
    refine AT.goto M_378 rfl ?_
    exact hk _ _ _ _ _ hR
set_option maxRecDepth 100000 in
theorem b_52 {X : XS} {c : Nat} {R : XS → Prop} {Q : PO → XS → Prop} {x5 x6 x7 x8 : Option Value} (hc5 : 5 * c + 5 ≤ (xC X).1) (hL : (xC X).1 ≤ 2560) (h : ∃ v : Int32, RU 147 [some (.ref 1), none] X (some (.int v)) (fun Y => RU 303 [some (.ref 388)] Y (some (.int v)) R)) (hk : ∀ Z y5 y6 y7 y8, R Z → AT 378 2335 (qLoc c y5 y6 y7 y8) [] Z Q) : AT 378 2003 (qLoc c x5 x6 x7 x8) [] X Q := by
  obtain ⟨v, hw⟩ := h
  refine AT.aload_n M_378 rfl rfl ?_
  refine AT.cv1u M_378 rfl M_147 rfl (Nat.le_of_ble_eq_true rfl) (xKd.of (Or.inr (Or.inr (Or.inl ⟨rfl, rfl, rfl⟩)))) (by decide) hw (fun Y hc2004 => ?_) (Nat.le_of_ble_eq_true rfl) rfl
  have hm := hc2004
  refine AT.aload_n M_378 rfl rfl ?_
  refine AT.cv1u M_378 rfl M_303 rfl (Nat.le_of_ble_eq_true rfl) (xKd.of sh_mod) (by decide) hm (fun Z hc2006 => ?_) (Nat.le_of_ble_eq_true rfl) rfl
  have hR := hc2006
  refine AT.icmp_eq M_378 rfl (fun b2007 => ?_) (fun b2007 => absurd rfl b2007)
  exact hk _ _ _ _ _ hR
set_option maxRecDepth 100000 in
theorem b_53 {X : XS} {c : Nat} {R : XS → Prop} {Q : PO → XS → Prop} {x5 x6 x7 x8 : Option Value} (hc5 : 5 * c + 5 ≤ (xC X).1) (hL : (xC X).1 ≤ 2560) (h : ∃ v : Int32, RU 148 [some (.ref 1)] X (some (.int v)) (fun Y => RU 305 [some (.ref 388)] Y (some (.int v)) R)) (hk : ∀ Z y5 y6 y7 y8, R Z → AT 378 2335 (qLoc c y5 y6 y7 y8) [] Z Q) : AT 378 2010 (qLoc c x5 x6 x7 x8) [] X Q := by
  obtain ⟨v, hw⟩ := h
  refine AT.aload_n M_378 rfl rfl ?_
  refine AT.cv1u M_378 rfl M_148 rfl (Nat.le_of_ble_eq_true rfl) (xKd.of (Or.inr (Or.inr (Or.inl ⟨rfl, rfl, rfl⟩)))) (by decide) hw (fun Y hc2011 => ?_) (Nat.le_of_ble_eq_true rfl) rfl
  have hm := hc2011
  refine AT.aload_n M_378 rfl rfl ?_
  refine AT.cv1u M_378 rfl M_305 rfl (Nat.le_of_ble_eq_true rfl) (xKd.of sh_mod) (by decide) hm (fun Z hc2013 => ?_) (Nat.le_of_ble_eq_true rfl) rfl
  have hR := hc2013
  refine AT.icmp_eq M_378 rfl (fun b2014 => ?_) (fun b2014 => absurd rfl b2014)
  exact hk _ _ _ _ _ hR
set_option maxRecDepth 100000 in
theorem b_54 {X : XS} {c : Nat} {R : XS → Prop} {Q : PO → XS → Prop} {x5 x6 x7 x8 : Option Value} (hc5 : 5 * c + 5 ≤ (xC X).1) (hL : (xC X).1 ≤ 2560) (h : ∃ v : Int32, RU 149 [some (.ref 1), none, none, none, none, none] X (some (.int v)) (fun Y => RU 306 [some (.ref 388)] Y (some (.int v)) R)) (hk : ∀ Z y5 y6 y7 y8, R Z → AT 378 2335 (qLoc c y5 y6 y7 y8) [] Z Q) : AT 378 2017 (qLoc c x5 x6 x7 x8) [] X Q := by
  obtain ⟨v, hw⟩ := h
  refine AT.aload_n M_378 rfl rfl ?_
  refine AT.cv1u M_378 rfl M_149 rfl (Nat.le_of_ble_eq_true rfl) (xKd.of (Or.inr (Or.inr (Or.inl ⟨rfl, rfl, rfl⟩)))) (by decide) hw (fun Y hc2018 => ?_) (Nat.le_of_ble_eq_true rfl) rfl
  have hm := hc2018
  refine AT.aload_n M_378 rfl rfl ?_
  refine AT.cv1u M_378 rfl M_306 rfl (Nat.le_of_ble_eq_true rfl) (xKd.of sh_mod) (by decide) hm (fun Z hc2020 => ?_) (Nat.le_of_ble_eq_true rfl) rfl
  have hR := hc2020
  refine AT.icmp_eq M_378 rfl (fun b2021 => ?_) (fun b2021 => absurd rfl b2021)
  exact hk _ _ _ _ _ hR
set_option maxRecDepth 100000 in
theorem b_55 {X : XS} {c : Nat} {R : XS → Prop} {Q : PO → XS → Prop} {x5 x6 x7 x8 : Option Value} (hc5 : 5 * c + 5 ≤ (xC X).1) (hL : (xC X).1 ≤ 2560) (h : qPair 371 307 [some (.ref 1), some (.int ((xC X).2 (5 * c + 1))), some (.int ((xC X).2 (5 * c + 2))), some (.ref 511), none] [some (.ref 388), some (.int ((xC X).2 (5 * c + 1))), some (.int ((xC X).2 (5 * c + 2)))] X R) (hk : ∀ Z y5 y6 y7 y8, R Z → AT 378 2335 (qLoc c y5 y6 y7 y8) [] Z Q) : AT 378 2024 (qLoc c x5 x6 x7 x8) [] X Q := by
  obtain ⟨k, hw⟩ := h
  refine AT.aload_n M_378 rfl rfl ?_
  refine AT.aload_n M_378 rfl rfl ?_
  refine AT.iload M_378 rfl rfl ?_
  refine AT.iconst M_378 rfl (v := 1) (by decide) ?_
  refine AT.iadd M_378 rfl (i32_at (5 * c) 1 rfl) ?_
  refine AT.scr M_378 rfl rfl (by omega) (by omega) ?_
  refine AT.aload_n M_378 rfl rfl ?_
  refine AT.iload M_378 rfl rfl ?_
  refine AT.iconst M_378 rfl (v := 2) (by decide) ?_
  refine AT.iadd M_378 rfl (i32_at (5 * c) 2 rfl) ?_
  refine AT.scr M_378 rfl rfl (by omega) (by omega) ?_
  refine AT.aload_n M_378 rfl rfl ?_
  refine AT.cs4u M_378 rfl M_371 rfl (Nat.le_of_ble_eq_true rfl) rfl hw (fun Y hc2036 => ?_) (Nat.le_of_ble_eq_true rfl) rfl
  obtain ⟨hx, b, hm⟩ := hc2036
  refine AT.ist5 M_378 rfl rfl ?_
  refine AT.aload_n M_378 rfl rfl ?_
  refine AT.aload_n M_378 rfl rfl ?_
  refine AT.iload M_378 rfl rfl ?_
  refine AT.iconst M_378 rfl (v := 1) (by decide) ?_
  refine AT.iadd M_378 rfl (i32_at (5 * c) 1 rfl) ?_
  refine AT.scr M_378 rfl rfl (by rw [hx]; omega) (by rw [hx]; omega) ?_
  rw [hx]
  refine AT.aload_n M_378 rfl rfl ?_
  refine AT.iload M_378 rfl rfl ?_
  refine AT.iconst M_378 rfl (v := 2) (by decide) ?_
  refine AT.iadd M_378 rfl (i32_at (5 * c) 2 rfl) ?_
  refine AT.scr M_378 rfl rfl (by rw [hx]; omega) (by rw [hx]; omega) ?_
  rw [hx]
  refine AT.cv3u M_378 rfl M_307 rfl (Nat.le_of_ble_eq_true rfl) (xKd.of sh_mod) (by decide) hm (fun Z hc2049 => ?_) (Nat.le_of_ble_eq_true rfl) rfl
  obtain ⟨hT, hO, hR⟩ := hc2049
  refine AT.ist6 M_378 rfl rfl ?_
  refine AT.aload_n M_378 rfl rfl ?_
  refine AT.cv1i M_378 rfl M_232 rfl (Nat.le_of_ble_eq_true rfl) (xKd.of sh_mod) (by decide) (c_232 (X := Z)) ?_ (Nat.le_of_ble_eq_true rfl) rfl
  refine AT.iload M_378 rfl rfl ?_
  refine AT.icmp_eq M_378 rfl (fun b2054 => ?_) (fun b2054 => absurd hT b2054)
  refine AT.iload M_378 rfl rfl ?_
  refine AT.if_ne M_378 rfl (fun b2058 => ?_) (fun b2058 => ?_)
  · refine AT.goto M_378 rfl ?_
    exact hk _ _ _ _ _ hR
  · refine AT.aload_n M_378 rfl rfl ?_
    refine AT.iconst M_378 rfl (v := 0) (by decide) ?_
    refine AT.out M_378 rfl rfl ?_
    refine AT.iload M_378 rfl rfl ?_
    refine AT.i2l M_378 rfl ?_
    rw [hO (Classical.not_not.mp b2058)]
    refine AT.lcmp M_378 rfl ?_
    refine AT.if_eq M_378 rfl (fun b2065 => ?_) (fun b2065 => absurd (lg_self _) b2065)
    refine AT.goto M_378 rfl ?_
    exact hk _ _ _ _ _ hR
set_option maxRecDepth 100000 in
theorem b_56 {X : XS} {c : Nat} {R : XS → Prop} {Q : PO → XS → Prop} {x5 x6 x7 x8 : Option Value} (hc5 : 5 * c + 5 ≤ (xC X).1) (hL : (xC X).1 ≤ 2560) (h : qPair 372 308 [some (.ref 1), some (.int ((xC X).2 (5 * c + 1))), some (.int ((xC X).2 (5 * c + 2))), some (.ref 511), none] [some (.ref 388), some (.int ((xC X).2 (5 * c + 1))), some (.int ((xC X).2 (5 * c + 2)))] X R) (hk : ∀ Z y5 y6 y7 y8, R Z → AT 378 2335 (qLoc c y5 y6 y7 y8) [] Z Q) : AT 378 2069 (qLoc c x5 x6 x7 x8) [] X Q := by
  obtain ⟨k, hw⟩ := h
  refine AT.aload_n M_378 rfl rfl ?_
  refine AT.aload_n M_378 rfl rfl ?_
  refine AT.iload M_378 rfl rfl ?_
  refine AT.iconst M_378 rfl (v := 1) (by decide) ?_
  refine AT.iadd M_378 rfl (i32_at (5 * c) 1 rfl) ?_
  refine AT.scr M_378 rfl rfl (by omega) (by omega) ?_
  refine AT.aload_n M_378 rfl rfl ?_
  refine AT.iload M_378 rfl rfl ?_
  refine AT.iconst M_378 rfl (v := 2) (by decide) ?_
  refine AT.iadd M_378 rfl (i32_at (5 * c) 2 rfl) ?_
  refine AT.scr M_378 rfl rfl (by omega) (by omega) ?_
  refine AT.aload_n M_378 rfl rfl ?_
  refine AT.cs4u M_378 rfl M_372 rfl (Nat.le_of_ble_eq_true rfl) rfl hw (fun Y hc2081 => ?_) (Nat.le_of_ble_eq_true rfl) rfl
  obtain ⟨hx, b, hm⟩ := hc2081
  refine AT.ist5 M_378 rfl rfl ?_
  refine AT.aload_n M_378 rfl rfl ?_
  refine AT.aload_n M_378 rfl rfl ?_
  refine AT.iload M_378 rfl rfl ?_
  refine AT.iconst M_378 rfl (v := 1) (by decide) ?_
  refine AT.iadd M_378 rfl (i32_at (5 * c) 1 rfl) ?_
  refine AT.scr M_378 rfl rfl (by rw [hx]; omega) (by rw [hx]; omega) ?_
  rw [hx]
  refine AT.aload_n M_378 rfl rfl ?_
  refine AT.iload M_378 rfl rfl ?_
  refine AT.iconst M_378 rfl (v := 2) (by decide) ?_
  refine AT.iadd M_378 rfl (i32_at (5 * c) 2 rfl) ?_
  refine AT.scr M_378 rfl rfl (by rw [hx]; omega) (by rw [hx]; omega) ?_
  rw [hx]
  refine AT.cv3u M_378 rfl M_308 rfl (Nat.le_of_ble_eq_true rfl) (xKd.of sh_mod) (by decide) hm (fun Z hc2094 => ?_) (Nat.le_of_ble_eq_true rfl) rfl
  obtain ⟨hT, hO, hR⟩ := hc2094
  refine AT.ist6 M_378 rfl rfl ?_
  refine AT.aload_n M_378 rfl rfl ?_
  refine AT.cv1i M_378 rfl M_232 rfl (Nat.le_of_ble_eq_true rfl) (xKd.of sh_mod) (by decide) (c_232 (X := Z)) ?_ (Nat.le_of_ble_eq_true rfl) rfl
  refine AT.iload M_378 rfl rfl ?_
  refine AT.icmp_eq M_378 rfl (fun b2099 => ?_) (fun b2099 => absurd hT b2099)
  refine AT.iload M_378 rfl rfl ?_
  refine AT.if_ne M_378 rfl (fun b2103 => ?_) (fun b2103 => ?_)
  · refine AT.goto M_378 rfl ?_
    exact hk _ _ _ _ _ hR
  · refine AT.aload_n M_378 rfl rfl ?_
    refine AT.iconst M_378 rfl (v := 0) (by decide) ?_
    refine AT.out M_378 rfl rfl ?_
    refine AT.iload M_378 rfl rfl ?_
    refine AT.i2l M_378 rfl ?_
    rw [hO (Classical.not_not.mp b2103)]
    refine AT.lcmp M_378 rfl ?_
    refine AT.if_eq M_378 rfl (fun b2110 => ?_) (fun b2110 => absurd (lg_self _) b2110)
    refine AT.goto M_378 rfl ?_
    exact hk _ _ _ _ _ hR
set_option maxRecDepth 100000 in
theorem b_57 {X : XS} {c : Nat} {R : XS → Prop} {Q : PO → XS → Prop} {x5 x6 x7 x8 : Option Value} (hc5 : 5 * c + 5 ≤ (xC X).1) (hL : (xC X).1 ≤ 2560) (h : qPairB 373 309 [some (.ref 1), some (.int ((xC X).2 (5 * c + 1))), some (.ref 511), none] [some (.ref 388), some (.int ((xC X).2 (5 * c + 1)))] X R) (hk : ∀ Z y5 y6 y7 y8, R Z → AT 378 2335 (qLoc c y5 y6 y7 y8) [] Z Q) : AT 378 2114 (qLoc c x5 x6 x7 x8) [] X Q := by
  obtain ⟨k, hw⟩ := h
  refine AT.aload_n M_378 rfl rfl ?_
  refine AT.aload_n M_378 rfl rfl ?_
  refine AT.iload M_378 rfl rfl ?_
  refine AT.iconst M_378 rfl (v := 1) (by decide) ?_
  refine AT.iadd M_378 rfl (i32_at (5 * c) 1 rfl) ?_
  refine AT.scr M_378 rfl rfl (by omega) (by omega) ?_
  refine AT.aload_n M_378 rfl rfl ?_
  refine AT.cs3u M_378 rfl M_373 rfl (Nat.le_of_ble_eq_true rfl) rfl hw (fun Y hc2121 => ?_) (Nat.le_of_ble_eq_true rfl) rfl
  obtain ⟨hx, b, hm⟩ := hc2121
  refine AT.ist5 M_378 rfl rfl ?_
  refine AT.aload_n M_378 rfl rfl ?_
  refine AT.aload_n M_378 rfl rfl ?_
  refine AT.iload M_378 rfl rfl ?_
  refine AT.iconst M_378 rfl (v := 1) (by decide) ?_
  refine AT.iadd M_378 rfl (i32_at (5 * c) 1 rfl) ?_
  refine AT.scr M_378 rfl rfl (by rw [hx]; omega) (by rw [hx]; omega) ?_
  rw [hx]
  refine AT.cv2u M_378 rfl M_309 rfl (Nat.le_of_ble_eq_true rfl) (xKd.of sh_mod) (by decide) hm (fun Z hc2129 => ?_) (Nat.le_of_ble_eq_true rfl) rfl
  obtain ⟨hT, hO, hR⟩ := hc2129
  refine AT.ist6 M_378 rfl rfl ?_
  refine AT.aload_n M_378 rfl rfl ?_
  refine AT.cv1i M_378 rfl M_232 rfl (Nat.le_of_ble_eq_true rfl) (xKd.of sh_mod) (by decide) (c_232 (X := Z)) ?_ (Nat.le_of_ble_eq_true rfl) rfl
  refine AT.iload M_378 rfl rfl ?_
  refine AT.icmp_eq M_378 rfl (fun b2134 => ?_) (fun b2134 => absurd hT b2134)
  refine AT.iload M_378 rfl rfl ?_
  refine AT.if_ne M_378 rfl (fun b2138 => ?_) (fun b2138 => ?_)
  · refine AT.goto M_378 rfl ?_
    exact hk _ _ _ _ _ hR
  · refine AT.aload_n M_378 rfl rfl ?_
    refine AT.iconst M_378 rfl (v := 0) (by decide) ?_
    refine AT.out M_378 rfl rfl ?_
    refine AT.iload M_378 rfl rfl ?_
    refine AT.if_eq M_378 rfl (fun b2143 => ?_) (fun b2143 => ?_)
    · rw [(hO (Classical.not_not.mp b2138)).2, b2143]
      change AT 378 _ _ (.long 0 :: _) _ _
      refine AT.lconst M_378 rfl (v := 0) (by decide) ?_
      refine AT.lcmp M_378 rfl ?_
      refine AT.if_eq M_378 rfl (fun b2148 => ?_) (fun b2148 => absurd (lg_self _) b2148)
      refine AT.goto M_378 rfl ?_
      exact hk _ _ _ _ _ hR
    · rw [(hO (Classical.not_not.mp b2138)).2, (hO (Classical.not_not.mp b2138)).1.resolve_left b2143]
      change AT 378 _ _ (.long 1 :: _) _ _
      refine AT.lconst M_378 rfl (v := 1) (by decide) ?_
      refine AT.goto M_378 rfl ?_
      refine AT.lcmp M_378 rfl ?_
      refine AT.if_eq M_378 rfl (fun b2148 => ?_) (fun b2148 => absurd (lg_self _) b2148)
      refine AT.goto M_378 rfl ?_
      exact hk _ _ _ _ _ hR
set_option maxRecDepth 100000 in
theorem b_58 {X : XS} {c : Nat} {R : XS → Prop} {Q : PO → XS → Prop} {x5 x6 x7 x8 : Option Value} (hc5 : 5 * c + 5 ≤ (xC X).1) (hL : (xC X).1 ≤ 2560) (h : qPair 374 310 [some (.ref 1), some (.int ((xC X).2 (5 * c + 1))), some (.ref 511), none] [some (.ref 388), some (.int ((xC X).2 (5 * c + 1))), none, none, none, none] X R) (hk : ∀ Z y5 y6 y7 y8, R Z → AT 378 2335 (qLoc c y5 y6 y7 y8) [] Z Q) : AT 378 2152 (qLoc c x5 x6 x7 x8) [] X Q := by
  obtain ⟨k, hw⟩ := h
  refine AT.aload_n M_378 rfl rfl ?_
  refine AT.aload_n M_378 rfl rfl ?_
  refine AT.iload M_378 rfl rfl ?_
  refine AT.iconst M_378 rfl (v := 1) (by decide) ?_
  refine AT.iadd M_378 rfl (i32_at (5 * c) 1 rfl) ?_
  refine AT.scr M_378 rfl rfl (by omega) (by omega) ?_
  refine AT.aload_n M_378 rfl rfl ?_
  refine AT.cs3u M_378 rfl M_374 rfl (Nat.le_of_ble_eq_true rfl) rfl hw (fun Y hc2159 => ?_) (Nat.le_of_ble_eq_true rfl) rfl
  obtain ⟨hx, b, hm⟩ := hc2159
  refine AT.ist5 M_378 rfl rfl ?_
  refine AT.aload_n M_378 rfl rfl ?_
  refine AT.aload_n M_378 rfl rfl ?_
  refine AT.iload M_378 rfl rfl ?_
  refine AT.iconst M_378 rfl (v := 1) (by decide) ?_
  refine AT.iadd M_378 rfl (i32_at (5 * c) 1 rfl) ?_
  refine AT.scr M_378 rfl rfl (by rw [hx]; omega) (by rw [hx]; omega) ?_
  rw [hx]
  refine AT.cv2u M_378 rfl M_310 rfl (Nat.le_of_ble_eq_true rfl) (xKd.of sh_mod) (by decide) hm (fun Z hc2167 => ?_) (Nat.le_of_ble_eq_true rfl) rfl
  obtain ⟨hT, hO, hR⟩ := hc2167
  refine AT.ist6 M_378 rfl rfl ?_
  refine AT.aload_n M_378 rfl rfl ?_
  refine AT.cv1i M_378 rfl M_232 rfl (Nat.le_of_ble_eq_true rfl) (xKd.of sh_mod) (by decide) (c_232 (X := Z)) ?_ (Nat.le_of_ble_eq_true rfl) rfl
  refine AT.iload M_378 rfl rfl ?_
  refine AT.icmp_eq M_378 rfl (fun b2172 => ?_) (fun b2172 => absurd hT b2172)
  refine AT.iload M_378 rfl rfl ?_
  refine AT.if_ne M_378 rfl (fun b2176 => ?_) (fun b2176 => ?_)
  · refine AT.goto M_378 rfl ?_
    exact hk _ _ _ _ _ hR
  · refine AT.aload_n M_378 rfl rfl ?_
    refine AT.iconst M_378 rfl (v := 0) (by decide) ?_
    refine AT.out M_378 rfl rfl ?_
    refine AT.iload M_378 rfl rfl ?_
    refine AT.i2l M_378 rfl ?_
    rw [hO (Classical.not_not.mp b2176)]
    refine AT.lcmp M_378 rfl ?_
    refine AT.if_eq M_378 rfl (fun b2183 => ?_) (fun b2183 => absurd (lg_self _) b2183)
    refine AT.goto M_378 rfl ?_
    exact hk _ _ _ _ _ hR
set_option maxRecDepth 100000 in
theorem b_59 {X : XS} {c : Nat} {R : XS → Prop} {Q : PO → XS → Prop} {x5 x6 x7 x8 : Option Value} (hc5 : 5 * c + 5 ≤ (xC X).1) (hL : (xC X).1 ≤ 2560) (h : ∃ v : Int32, RU 154 [some (.ref 1)] X (some (.int v)) (fun Y => RU 313 [some (.ref 388)] Y (some (.int v)) R)) (hk : ∀ Z y5 y6 y7 y8, R Z → AT 378 2335 (qLoc c y5 y6 y7 y8) [] Z Q) : AT 378 2187 (qLoc c x5 x6 x7 x8) [] X Q := by
  obtain ⟨v, hw⟩ := h
  refine AT.aload_n M_378 rfl rfl ?_
  refine AT.cv1u M_378 rfl M_154 rfl (Nat.le_of_ble_eq_true rfl) (xKd.of (Or.inr (Or.inr (Or.inl ⟨rfl, rfl, rfl⟩)))) (by decide) hw (fun Y hc2188 => ?_) (Nat.le_of_ble_eq_true rfl) rfl
  have hm := hc2188
  refine AT.aload_n M_378 rfl rfl ?_
  refine AT.cv1u M_378 rfl M_313 rfl (Nat.le_of_ble_eq_true rfl) (xKd.of sh_mod) (by decide) hm (fun Z hc2190 => ?_) (Nat.le_of_ble_eq_true rfl) rfl
  have hR := hc2190
  refine AT.icmp_eq M_378 rfl (fun b2191 => ?_) (fun b2191 => absurd rfl b2191)
  exact hk _ _ _ _ _ hR
set_option maxRecDepth 100000 in
theorem b_60 {X : XS} {c : Nat} {R : XS → Prop} {Q : PO → XS → Prop} {x5 x6 x7 x8 : Option Value} (hc5 : 5 * c + 5 ≤ (xC X).1) (hL : (xC X).1 ≤ 2560) (h : qPair 375 314 [some (.ref 1), some (.int ((xC X).2 (5 * c + 1))), some (.ref 511), none] [some (.ref 388), some (.int ((xC X).2 (5 * c + 1)))] X R) (hk : ∀ Z y5 y6 y7 y8, R Z → AT 378 2335 (qLoc c y5 y6 y7 y8) [] Z Q) : AT 378 2194 (qLoc c x5 x6 x7 x8) [] X Q := by
  obtain ⟨k, hw⟩ := h
  refine AT.aload_n M_378 rfl rfl ?_
  refine AT.aload_n M_378 rfl rfl ?_
  refine AT.iload M_378 rfl rfl ?_
  refine AT.iconst M_378 rfl (v := 1) (by decide) ?_
  refine AT.iadd M_378 rfl (i32_at (5 * c) 1 rfl) ?_
  refine AT.scr M_378 rfl rfl (by omega) (by omega) ?_
  refine AT.aload_n M_378 rfl rfl ?_
  refine AT.cs3u M_378 rfl M_375 rfl (Nat.le_of_ble_eq_true rfl) rfl hw (fun Y hc2201 => ?_) (Nat.le_of_ble_eq_true rfl) rfl
  obtain ⟨hx, b, hm⟩ := hc2201
  refine AT.ist5 M_378 rfl rfl ?_
  refine AT.aload_n M_378 rfl rfl ?_
  refine AT.aload_n M_378 rfl rfl ?_
  refine AT.iload M_378 rfl rfl ?_
  refine AT.iconst M_378 rfl (v := 1) (by decide) ?_
  refine AT.iadd M_378 rfl (i32_at (5 * c) 1 rfl) ?_
  refine AT.scr M_378 rfl rfl (by rw [hx]; omega) (by rw [hx]; omega) ?_
  rw [hx]
  refine AT.cv2u M_378 rfl M_314 rfl (Nat.le_of_ble_eq_true rfl) (xKd.of sh_mod) (by decide) hm (fun Z hc2209 => ?_) (Nat.le_of_ble_eq_true rfl) rfl
  obtain ⟨hT, hO, hR⟩ := hc2209
  refine AT.ist6 M_378 rfl rfl ?_
  refine AT.aload_n M_378 rfl rfl ?_
  refine AT.cv1i M_378 rfl M_232 rfl (Nat.le_of_ble_eq_true rfl) (xKd.of sh_mod) (by decide) (c_232 (X := Z)) ?_ (Nat.le_of_ble_eq_true rfl) rfl
  refine AT.iload M_378 rfl rfl ?_
  refine AT.icmp_eq M_378 rfl (fun b2214 => ?_) (fun b2214 => absurd hT b2214)
  refine AT.iload M_378 rfl rfl ?_
  refine AT.if_ne M_378 rfl (fun b2218 => ?_) (fun b2218 => ?_)
  · refine AT.goto M_378 rfl ?_
    exact hk _ _ _ _ _ hR
  · refine AT.aload_n M_378 rfl rfl ?_
    refine AT.iconst M_378 rfl (v := 0) (by decide) ?_
    refine AT.out M_378 rfl rfl ?_
    refine AT.iload M_378 rfl rfl ?_
    refine AT.i2l M_378 rfl ?_
    rw [hO (Classical.not_not.mp b2218)]
    refine AT.lcmp M_378 rfl ?_
    refine AT.if_eq M_378 rfl (fun b2225 => ?_) (fun b2225 => absurd (lg_self _) b2225)
    refine AT.goto M_378 rfl ?_
    exact hk _ _ _ _ _ hR
set_option maxRecDepth 100000 in
theorem b_61 {X : XS} {c : Nat} {R : XS → Prop} {Q : PO → XS → Prop} {x5 x6 x7 x8 : Option Value} (hc5 : 5 * c + 5 ≤ (xC X).1) (hL : (xC X).1 ≤ 2560) (h : ∃ v : Int32, RU 156 [some (.ref 1)] X (some (.int v)) (fun Y => RU 315 [some (.ref 388)] Y (some (.int v)) R)) (hk : ∀ Z y5 y6 y7 y8, R Z → AT 378 2335 (qLoc c y5 y6 y7 y8) [] Z Q) : AT 378 2229 (qLoc c x5 x6 x7 x8) [] X Q := by
  obtain ⟨v, hw⟩ := h
  refine AT.aload_n M_378 rfl rfl ?_
  refine AT.cv1u M_378 rfl M_156 rfl (Nat.le_of_ble_eq_true rfl) (xKd.of (Or.inr (Or.inr (Or.inl ⟨rfl, rfl, rfl⟩)))) (by decide) hw (fun Y hc2230 => ?_) (Nat.le_of_ble_eq_true rfl) rfl
  have hm := hc2230
  refine AT.aload_n M_378 rfl rfl ?_
  refine AT.cv1u M_378 rfl M_315 rfl (Nat.le_of_ble_eq_true rfl) (xKd.of sh_mod) (by decide) hm (fun Z hc2232 => ?_) (Nat.le_of_ble_eq_true rfl) rfl
  have hR := hc2232
  refine AT.icmp_eq M_378 rfl (fun b2233 => ?_) (fun b2233 => absurd rfl b2233)
  exact hk _ _ _ _ _ hR
set_option maxRecDepth 100000 in
theorem b_62 {X : XS} {c : Nat} {R : XS → Prop} {Q : PO → XS → Prop} {x5 x6 x7 x8 : Option Value} (hc5 : 5 * c + 5 ≤ (xC X).1) (hL : (xC X).1 ≤ 2560) (h : qPair 376 316 [some (.ref 1), some (.int ((xC X).2 (5 * c + 1))), some (.ref 511), none] [some (.ref 388), some (.int ((xC X).2 (5 * c + 1))), none] X R) (hk : ∀ Z y5 y6 y7 y8, R Z → AT 378 2335 (qLoc c y5 y6 y7 y8) [] Z Q) : AT 378 2236 (qLoc c x5 x6 x7 x8) [] X Q := by
  obtain ⟨k, hw⟩ := h
  refine AT.aload_n M_378 rfl rfl ?_
  refine AT.aload_n M_378 rfl rfl ?_
  refine AT.iload M_378 rfl rfl ?_
  refine AT.iconst M_378 rfl (v := 1) (by decide) ?_
  refine AT.iadd M_378 rfl (i32_at (5 * c) 1 rfl) ?_
  refine AT.scr M_378 rfl rfl (by omega) (by omega) ?_
  refine AT.aload_n M_378 rfl rfl ?_
  refine AT.cs3u M_378 rfl M_376 rfl (Nat.le_of_ble_eq_true rfl) rfl hw (fun Y hc2243 => ?_) (Nat.le_of_ble_eq_true rfl) rfl
  obtain ⟨hx, b, hm⟩ := hc2243
  refine AT.ist5 M_378 rfl rfl ?_
  refine AT.aload_n M_378 rfl rfl ?_
  refine AT.aload_n M_378 rfl rfl ?_
  refine AT.iload M_378 rfl rfl ?_
  refine AT.iconst M_378 rfl (v := 1) (by decide) ?_
  refine AT.iadd M_378 rfl (i32_at (5 * c) 1 rfl) ?_
  refine AT.scr M_378 rfl rfl (by rw [hx]; omega) (by rw [hx]; omega) ?_
  rw [hx]
  refine AT.cv2u M_378 rfl M_316 rfl (Nat.le_of_ble_eq_true rfl) (xKd.of sh_mod) (by decide) hm (fun Z hc2251 => ?_) (Nat.le_of_ble_eq_true rfl) rfl
  obtain ⟨hT, hO, hR⟩ := hc2251
  refine AT.ist6 M_378 rfl rfl ?_
  refine AT.aload_n M_378 rfl rfl ?_
  refine AT.cv1i M_378 rfl M_232 rfl (Nat.le_of_ble_eq_true rfl) (xKd.of sh_mod) (by decide) (c_232 (X := Z)) ?_ (Nat.le_of_ble_eq_true rfl) rfl
  refine AT.iload M_378 rfl rfl ?_
  refine AT.icmp_eq M_378 rfl (fun b2256 => ?_) (fun b2256 => absurd hT b2256)
  refine AT.iload M_378 rfl rfl ?_
  refine AT.if_ne M_378 rfl (fun b2260 => ?_) (fun b2260 => ?_)
  · refine AT.goto M_378 rfl ?_
    exact hk _ _ _ _ _ hR
  · refine AT.aload_n M_378 rfl rfl ?_
    refine AT.iconst M_378 rfl (v := 0) (by decide) ?_
    refine AT.out M_378 rfl rfl ?_
    refine AT.iload M_378 rfl rfl ?_
    refine AT.i2l M_378 rfl ?_
    rw [hO (Classical.not_not.mp b2260)]
    refine AT.lcmp M_378 rfl ?_
    refine AT.if_eq M_378 rfl (fun b2267 => ?_) (fun b2267 => absurd (lg_self _) b2267)
    refine AT.goto M_378 rfl ?_
    exact hk _ _ _ _ _ hR
set_option maxRecDepth 100000 in
theorem b_63 {X : XS} {c : Nat} {R : XS → Prop} {Q : PO → XS → Prop} {x5 x6 x7 x8 : Option Value} (hc5 : 5 * c + 5 ≤ (xC X).1) (hL : (xC X).1 ≤ 2560) (h : qPair 377 317 [some (.ref 1), some (.int ((xC X).2 (5 * c + 1))), some (.ref 511), none] [some (.ref 388), some (.int ((xC X).2 (5 * c + 1)))] X R) (hk : ∀ Z y5 y6 y7 y8, R Z → AT 378 2335 (qLoc c y5 y6 y7 y8) [] Z Q) : AT 378 2271 (qLoc c x5 x6 x7 x8) [] X Q := by
  obtain ⟨k, hw⟩ := h
  refine AT.aload_n M_378 rfl rfl ?_
  refine AT.aload_n M_378 rfl rfl ?_
  refine AT.iload M_378 rfl rfl ?_
  refine AT.iconst M_378 rfl (v := 1) (by decide) ?_
  refine AT.iadd M_378 rfl (i32_at (5 * c) 1 rfl) ?_
  refine AT.scr M_378 rfl rfl (by omega) (by omega) ?_
  refine AT.aload_n M_378 rfl rfl ?_
  refine AT.cs3u M_378 rfl M_377 rfl (Nat.le_of_ble_eq_true rfl) rfl hw (fun Y hc2278 => ?_) (Nat.le_of_ble_eq_true rfl) rfl
  obtain ⟨hx, b, hm⟩ := hc2278
  refine AT.ist5 M_378 rfl rfl ?_
  refine AT.aload_n M_378 rfl rfl ?_
  refine AT.aload_n M_378 rfl rfl ?_
  refine AT.iload M_378 rfl rfl ?_
  refine AT.iconst M_378 rfl (v := 1) (by decide) ?_
  refine AT.iadd M_378 rfl (i32_at (5 * c) 1 rfl) ?_
  refine AT.scr M_378 rfl rfl (by rw [hx]; omega) (by rw [hx]; omega) ?_
  rw [hx]
  refine AT.cv2u M_378 rfl M_317 rfl (Nat.le_of_ble_eq_true rfl) (xKd.of sh_mod) (by decide) hm (fun Z hc2286 => ?_) (Nat.le_of_ble_eq_true rfl) rfl
  obtain ⟨hT, hO, hR⟩ := hc2286
  refine AT.ist6 M_378 rfl rfl ?_
  refine AT.aload_n M_378 rfl rfl ?_
  refine AT.cv1i M_378 rfl M_232 rfl (Nat.le_of_ble_eq_true rfl) (xKd.of sh_mod) (by decide) (c_232 (X := Z)) ?_ (Nat.le_of_ble_eq_true rfl) rfl
  refine AT.iload M_378 rfl rfl ?_
  refine AT.icmp_eq M_378 rfl (fun b2291 => ?_) (fun b2291 => absurd hT b2291)
  refine AT.iload M_378 rfl rfl ?_
  refine AT.if_ne M_378 rfl (fun b2295 => ?_) (fun b2295 => ?_)
  · refine AT.goto M_378 rfl ?_
    exact hk _ _ _ _ _ hR
  · refine AT.aload_n M_378 rfl rfl ?_
    refine AT.iconst M_378 rfl (v := 0) (by decide) ?_
    refine AT.out M_378 rfl rfl ?_
    refine AT.iload M_378 rfl rfl ?_
    refine AT.i2l M_378 rfl ?_
    rw [hO (Classical.not_not.mp b2295)]
    refine AT.lcmp M_378 rfl ?_
    refine AT.if_eq M_378 rfl (fun b2302 => ?_) (fun b2302 => absurd (lg_self _) b2302)
    refine AT.goto M_378 rfl ?_
    exact hk _ _ _ _ _ hR
set_option maxRecDepth 100000 in
theorem b_64 {X : XS} {c : Nat} {R : XS → Prop} {Q : PO → XS → Prop} {x5 x6 x7 x8 : Option Value} (hc5 : 5 * c + 5 ≤ (xC X).1) (hL : (xC X).1 ≤ 2560) (h : ∃ v : UInt64, RU 159 [some (.ref 1), none, none, none, none, none, none, none] X (some (.double v)) (fun Y => RU 318 [some (.ref 388), none, none] Y (some (.double v)) R)) (hk : ∀ Z y5 y6 y7 y8, R Z → AT 378 2335 (qLoc c y5 y6 y7 y8) [] Z Q) : AT 378 2306 (qLoc c x5 x6 x7 x8) [] X Q := by
  obtain ⟨v, hw⟩ := h
  refine AT.aload_n M_378 rfl rfl ?_
  refine AT.cv1u M_378 rfl M_159 rfl (Nat.le_of_ble_eq_true rfl) (xKd.of (Or.inr (Or.inr (Or.inl ⟨rfl, rfl, rfl⟩)))) (by decide) hw (fun Y hc2307 => ?_) (Nat.le_of_ble_eq_true rfl) rfl
  have hm := hc2307
  refine AT.dst5 M_378 rfl rfl ?_
  refine AT.aload_n M_378 rfl rfl ?_
  refine AT.cv1u M_378 rfl M_318 rfl (Nat.le_of_ble_eq_true rfl) (xKd.of sh_mod) (by decide) hm (fun Z hc2310 => ?_) (Nat.le_of_ble_eq_true rfl) rfl
  have hR := hc2310
  refine AT.dst7 M_378 rfl rfl ?_
  refine AT.dload M_378 rfl rfl ?_
  refine AT.dload M_378 rfl rfl ?_
  refine AT.plain M_378 rfl rfl (fun _ => rfl) ?_
  refine AT.if_eq M_378 rfl (fun b2315 => ?_) (fun b2315 => ?_)
  · refine AT.goto M_378 rfl ?_
    exact hk _ _ _ _ _ hR
  · refine AT.dload M_378 rfl rfl ?_
    refine AT.dload M_378 rfl rfl ?_
    refine AT.plain M_378 rfl rfl (fun _ => rfl) ?_
    refine AT.if_eq M_378 rfl (fun b2319 => absurd b2319 b2315) (fun b2319 => ?_)
    refine AT.dload M_378 rfl rfl ?_
    refine AT.dload M_378 rfl rfl ?_
    refine AT.plain M_378 rfl rfl (fun _ => rfl) ?_
    refine AT.if_ne M_378 rfl (fun b2323 => ?_) (fun b2323 => absurd (Classical.not_not.mp b2323) b2315)
    refine AT.goto M_378 rfl ?_
    exact hk _ _ _ _ _ hR
set_option maxRecDepth 100000 in
theorem b_65 {X : XS} {c : Nat} {R : XS → Prop} {Q : PO → XS → Prop} {x5 x6 x7 x8 : Option Value} (hc5 : 5 * c + 5 ≤ (xC X).1) (hL : (xC X).1 ≤ 2560) (h : ∃ v : Int64, RU 160 [some (.ref 1), none, none, none, none, none, none] X (some (.long v)) (fun Y => RU 321 [some (.ref 388), none, none] Y (some (.long v)) R)) (hk : ∀ Z y5 y6 y7 y8, R Z → AT 378 2335 (qLoc c y5 y6 y7 y8) [] Z Q) : AT 378 2327 (qLoc c x5 x6 x7 x8) [] X Q := by
  obtain ⟨v, hw⟩ := h
  refine AT.aload_n M_378 rfl rfl ?_
  refine AT.cv1u M_378 rfl M_160 rfl (Nat.le_of_ble_eq_true rfl) (xKd.of (Or.inr (Or.inr (Or.inl ⟨rfl, rfl, rfl⟩)))) (by decide) hw (fun Y hc2328 => ?_) (Nat.le_of_ble_eq_true rfl) rfl
  have hm := hc2328
  refine AT.aload_n M_378 rfl rfl ?_
  refine AT.cv1u M_378 rfl M_321 rfl (Nat.le_of_ble_eq_true rfl) (xKd.of sh_mod) (by decide) hm (fun Z hc2330 => ?_) (Nat.le_of_ble_eq_true rfl) rfl
  have hR := hc2330
  refine AT.lcmp M_378 rfl ?_
  refine AT.if_eq M_378 rfl (fun b2332 => ?_) (fun b2332 => absurd (lg_self _) b2332)
  exact hk _ _ _ _ _ hR
