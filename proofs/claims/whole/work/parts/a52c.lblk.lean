/-! ===== THE LAW: one call of each, on ===== -/
set_option maxRecDepth 100000 in
theorem b_34 {X : XS} {c : Nat} {R : XS → Prop} {Q : PO → XS → Prop} {x5 x6 x7 x8 : Option Value} (hc5 : 5 * c + 5 ≤ (xC X).1) (hL : (xC X).1 ≤ 2560) (h : qPair 353 283 [some (.ref 1), some (.int ((xC X).2 (5 * c + 1))), some (.ref 511), none] [some (.ref 388), some (.int ((xC X).2 (5 * c + 1)))] X R) (hk : ∀ Z y5 y6 y7 y8, R Z → AT 378 2335 (qLoc c y5 y6 y7 y8) [] Z Q) : AT 378 1270 (qLoc c x5 x6 x7 x8) [] X Q := by
  obtain ⟨k, hw⟩ := h
  refine AT.aload_n M_378 rfl rfl ?_
  refine AT.aload_n M_378 rfl rfl ?_
  refine AT.iload M_378 rfl rfl ?_
  refine AT.iconst M_378 rfl (v := 1) (by decide) ?_
  refine AT.iadd M_378 rfl (i32_at (5 * c) 1 rfl) ?_
  refine AT.scr M_378 rfl rfl (by omega) (by omega) ?_
  refine AT.aload_n M_378 rfl rfl ?_
  refine AT.cs3u M_378 rfl M_353 rfl (Nat.le_of_ble_eq_true rfl) rfl hw (fun Y hc1277 => ?_) (Nat.le_of_ble_eq_true rfl) rfl
  obtain ⟨hx, b, hm⟩ := hc1277
  refine AT.ist5 M_378 rfl rfl ?_
  refine AT.aload_n M_378 rfl rfl ?_
  refine AT.aload_n M_378 rfl rfl ?_
  refine AT.iload M_378 rfl rfl ?_
  refine AT.iconst M_378 rfl (v := 1) (by decide) ?_
  refine AT.iadd M_378 rfl (i32_at (5 * c) 1 rfl) ?_
  refine AT.scr M_378 rfl rfl (by rw [hx]; omega) (by rw [hx]; omega) ?_
  rw [hx]
  refine AT.cv2u M_378 rfl M_283 rfl (Nat.le_of_ble_eq_true rfl) (xKd.of sh_mod) (by decide) hm (fun Z hc1285 => ?_) (Nat.le_of_ble_eq_true rfl) rfl
  obtain ⟨hT, hO, hR⟩ := hc1285
  refine AT.ist6 M_378 rfl rfl ?_
  refine AT.aload_n M_378 rfl rfl ?_
  refine AT.cv1i M_378 rfl M_232 rfl (Nat.le_of_ble_eq_true rfl) (xKd.of sh_mod) (by decide) (c_232 (X := Z)) ?_ (Nat.le_of_ble_eq_true rfl) rfl
  refine AT.iload M_378 rfl rfl ?_
  refine AT.icmp_eq M_378 rfl (fun b1290 => ?_) (fun b1290 => absurd hT b1290)
  refine AT.iload M_378 rfl rfl ?_
  refine AT.if_ne M_378 rfl (fun b1294 => ?_) (fun b1294 => ?_)
  · refine AT.goto M_378 rfl ?_
    exact hk _ _ _ _ _ hR
  · refine AT.aload_n M_378 rfl rfl ?_
    refine AT.iconst M_378 rfl (v := 0) (by decide) ?_
    refine AT.out M_378 rfl rfl ?_
    refine AT.iload M_378 rfl rfl ?_
    refine AT.i2l M_378 rfl ?_
    rw [hO (Classical.not_not.mp b1294)]
    refine AT.lcmp M_378 rfl ?_
    refine AT.if_eq M_378 rfl (fun b1301 => ?_) (fun b1301 => absurd (lg_self _) b1301)
    refine AT.goto M_378 rfl ?_
    exact hk _ _ _ _ _ hR
set_option maxRecDepth 100000 in
theorem b_35 {X : XS} {c : Nat} {R : XS → Prop} {Q : PO → XS → Prop} {x5 x6 x7 x8 : Option Value} (hc5 : 5 * c + 5 ≤ (xC X).1) (hL : (xC X).1 ≤ 2560) (h : qPair 354 284 [some (.ref 1), some (.int ((xC X).2 (5 * c + 1))), some (.ref 511), none] [some (.ref 388), some (.int ((xC X).2 (5 * c + 1)))] X R) (hk : ∀ Z y5 y6 y7 y8, R Z → AT 378 2335 (qLoc c y5 y6 y7 y8) [] Z Q) : AT 378 1305 (qLoc c x5 x6 x7 x8) [] X Q := by
  obtain ⟨k, hw⟩ := h
  refine AT.aload_n M_378 rfl rfl ?_
  refine AT.aload_n M_378 rfl rfl ?_
  refine AT.iload M_378 rfl rfl ?_
  refine AT.iconst M_378 rfl (v := 1) (by decide) ?_
  refine AT.iadd M_378 rfl (i32_at (5 * c) 1 rfl) ?_
  refine AT.scr M_378 rfl rfl (by omega) (by omega) ?_
  refine AT.aload_n M_378 rfl rfl ?_
  refine AT.cs3u M_378 rfl M_354 rfl (Nat.le_of_ble_eq_true rfl) rfl hw (fun Y hc1312 => ?_) (Nat.le_of_ble_eq_true rfl) rfl
  obtain ⟨hx, b, hm⟩ := hc1312
  refine AT.ist5 M_378 rfl rfl ?_
  refine AT.aload_n M_378 rfl rfl ?_
  refine AT.aload_n M_378 rfl rfl ?_
  refine AT.iload M_378 rfl rfl ?_
  refine AT.iconst M_378 rfl (v := 1) (by decide) ?_
  refine AT.iadd M_378 rfl (i32_at (5 * c) 1 rfl) ?_
  refine AT.scr M_378 rfl rfl (by rw [hx]; omega) (by rw [hx]; omega) ?_
  rw [hx]
  refine AT.cv2u M_378 rfl M_284 rfl (Nat.le_of_ble_eq_true rfl) (xKd.of sh_mod) (by decide) hm (fun Z hc1320 => ?_) (Nat.le_of_ble_eq_true rfl) rfl
  obtain ⟨hT, hO, hR⟩ := hc1320
  refine AT.ist6 M_378 rfl rfl ?_
  refine AT.aload_n M_378 rfl rfl ?_
  refine AT.cv1i M_378 rfl M_232 rfl (Nat.le_of_ble_eq_true rfl) (xKd.of sh_mod) (by decide) (c_232 (X := Z)) ?_ (Nat.le_of_ble_eq_true rfl) rfl
  refine AT.iload M_378 rfl rfl ?_
  refine AT.icmp_eq M_378 rfl (fun b1325 => ?_) (fun b1325 => absurd hT b1325)
  refine AT.iload M_378 rfl rfl ?_
  refine AT.if_ne M_378 rfl (fun b1329 => ?_) (fun b1329 => ?_)
  · refine AT.goto M_378 rfl ?_
    exact hk _ _ _ _ _ hR
  · refine AT.aload_n M_378 rfl rfl ?_
    refine AT.iconst M_378 rfl (v := 0) (by decide) ?_
    refine AT.out M_378 rfl rfl ?_
    refine AT.iload M_378 rfl rfl ?_
    refine AT.i2l M_378 rfl ?_
    rw [hO (Classical.not_not.mp b1329)]
    refine AT.lcmp M_378 rfl ?_
    refine AT.if_eq M_378 rfl (fun b1336 => ?_) (fun b1336 => absurd (lg_self _) b1336)
    refine AT.goto M_378 rfl ?_
    exact hk _ _ _ _ _ hR
set_option maxRecDepth 100000 in
theorem b_36 {X : XS} {c : Nat} {R : XS → Prop} {Q : PO → XS → Prop} {x5 x6 x7 x8 : Option Value} (hc5 : 5 * c + 5 ≤ (xC X).1) (hL : (xC X).1 ≤ 2560) (h : qPair 355 285 [some (.ref 1), some (.int ((xC X).2 (5 * c + 1))), some (.ref 511), none] [some (.ref 388), some (.int ((xC X).2 (5 * c + 1)))] X R) (hk : ∀ Z y5 y6 y7 y8, R Z → AT 378 2335 (qLoc c y5 y6 y7 y8) [] Z Q) : AT 378 1340 (qLoc c x5 x6 x7 x8) [] X Q := by
  obtain ⟨k, hw⟩ := h
  refine AT.aload_n M_378 rfl rfl ?_
  refine AT.aload_n M_378 rfl rfl ?_
  refine AT.iload M_378 rfl rfl ?_
  refine AT.iconst M_378 rfl (v := 1) (by decide) ?_
  refine AT.iadd M_378 rfl (i32_at (5 * c) 1 rfl) ?_
  refine AT.scr M_378 rfl rfl (by omega) (by omega) ?_
  refine AT.aload_n M_378 rfl rfl ?_
  refine AT.cs3u M_378 rfl M_355 rfl (Nat.le_of_ble_eq_true rfl) rfl hw (fun Y hc1347 => ?_) (Nat.le_of_ble_eq_true rfl) rfl
  obtain ⟨hx, b, hm⟩ := hc1347
  refine AT.ist5 M_378 rfl rfl ?_
  refine AT.aload_n M_378 rfl rfl ?_
  refine AT.aload_n M_378 rfl rfl ?_
  refine AT.iload M_378 rfl rfl ?_
  refine AT.iconst M_378 rfl (v := 1) (by decide) ?_
  refine AT.iadd M_378 rfl (i32_at (5 * c) 1 rfl) ?_
  refine AT.scr M_378 rfl rfl (by rw [hx]; omega) (by rw [hx]; omega) ?_
  rw [hx]
  refine AT.cv2u M_378 rfl M_285 rfl (Nat.le_of_ble_eq_true rfl) (xKd.of sh_mod) (by decide) hm (fun Z hc1355 => ?_) (Nat.le_of_ble_eq_true rfl) rfl
  obtain ⟨hT, hO, hR⟩ := hc1355
  refine AT.ist6 M_378 rfl rfl ?_
  refine AT.aload_n M_378 rfl rfl ?_
  refine AT.cv1i M_378 rfl M_232 rfl (Nat.le_of_ble_eq_true rfl) (xKd.of sh_mod) (by decide) (c_232 (X := Z)) ?_ (Nat.le_of_ble_eq_true rfl) rfl
  refine AT.iload M_378 rfl rfl ?_
  refine AT.icmp_eq M_378 rfl (fun b1360 => ?_) (fun b1360 => absurd hT b1360)
  refine AT.iload M_378 rfl rfl ?_
  refine AT.if_ne M_378 rfl (fun b1364 => ?_) (fun b1364 => ?_)
  · refine AT.goto M_378 rfl ?_
    exact hk _ _ _ _ _ hR
  · refine AT.aload_n M_378 rfl rfl ?_
    refine AT.iconst M_378 rfl (v := 0) (by decide) ?_
    refine AT.out M_378 rfl rfl ?_
    refine AT.iload M_378 rfl rfl ?_
    refine AT.i2l M_378 rfl ?_
    rw [hO (Classical.not_not.mp b1364)]
    refine AT.lcmp M_378 rfl ?_
    refine AT.if_eq M_378 rfl (fun b1371 => ?_) (fun b1371 => absurd (lg_self _) b1371)
    refine AT.goto M_378 rfl ?_
    exact hk _ _ _ _ _ hR
set_option maxRecDepth 100000 in
theorem b_37 {X : XS} {c : Nat} {R : XS → Prop} {Q : PO → XS → Prop} {x5 x6 x7 x8 : Option Value} (hc5 : 5 * c + 5 ≤ (xC X).1) (hL : (xC X).1 ≤ 2560) (h : qPair 356 286 [some (.ref 1), some (.int ((xC X).2 (5 * c + 1))), some (.ref 511), none] [some (.ref 388), some (.int ((xC X).2 (5 * c + 1)))] X R) (hk : ∀ Z y5 y6 y7 y8, R Z → AT 378 2335 (qLoc c y5 y6 y7 y8) [] Z Q) : AT 378 1375 (qLoc c x5 x6 x7 x8) [] X Q := by
  obtain ⟨k, hw⟩ := h
  refine AT.aload_n M_378 rfl rfl ?_
  refine AT.aload_n M_378 rfl rfl ?_
  refine AT.iload M_378 rfl rfl ?_
  refine AT.iconst M_378 rfl (v := 1) (by decide) ?_
  refine AT.iadd M_378 rfl (i32_at (5 * c) 1 rfl) ?_
  refine AT.scr M_378 rfl rfl (by omega) (by omega) ?_
  refine AT.aload_n M_378 rfl rfl ?_
  refine AT.cs3u M_378 rfl M_356 rfl (Nat.le_of_ble_eq_true rfl) rfl hw (fun Y hc1382 => ?_) (Nat.le_of_ble_eq_true rfl) rfl
  obtain ⟨hx, b, hm⟩ := hc1382
  refine AT.ist5 M_378 rfl rfl ?_
  refine AT.aload_n M_378 rfl rfl ?_
  refine AT.aload_n M_378 rfl rfl ?_
  refine AT.iload M_378 rfl rfl ?_
  refine AT.iconst M_378 rfl (v := 1) (by decide) ?_
  refine AT.iadd M_378 rfl (i32_at (5 * c) 1 rfl) ?_
  refine AT.scr M_378 rfl rfl (by rw [hx]; omega) (by rw [hx]; omega) ?_
  rw [hx]
  refine AT.cv2u M_378 rfl M_286 rfl (Nat.le_of_ble_eq_true rfl) (xKd.of sh_mod) (by decide) hm (fun Z hc1390 => ?_) (Nat.le_of_ble_eq_true rfl) rfl
  obtain ⟨hT, hO, hR⟩ := hc1390
  refine AT.ist6 M_378 rfl rfl ?_
  refine AT.aload_n M_378 rfl rfl ?_
  refine AT.cv1i M_378 rfl M_232 rfl (Nat.le_of_ble_eq_true rfl) (xKd.of sh_mod) (by decide) (c_232 (X := Z)) ?_ (Nat.le_of_ble_eq_true rfl) rfl
  refine AT.iload M_378 rfl rfl ?_
  refine AT.icmp_eq M_378 rfl (fun b1395 => ?_) (fun b1395 => absurd hT b1395)
  refine AT.iload M_378 rfl rfl ?_
  refine AT.if_ne M_378 rfl (fun b1399 => ?_) (fun b1399 => ?_)
  · refine AT.goto M_378 rfl ?_
    exact hk _ _ _ _ _ hR
  · refine AT.aload_n M_378 rfl rfl ?_
    refine AT.iconst M_378 rfl (v := 0) (by decide) ?_
    refine AT.out M_378 rfl rfl ?_
    refine AT.iload M_378 rfl rfl ?_
    refine AT.i2l M_378 rfl ?_
    rw [hO (Classical.not_not.mp b1399)]
    refine AT.lcmp M_378 rfl ?_
    refine AT.if_eq M_378 rfl (fun b1406 => ?_) (fun b1406 => absurd (lg_self _) b1406)
    refine AT.goto M_378 rfl ?_
    exact hk _ _ _ _ _ hR
set_option maxRecDepth 100000 in
theorem b_38 {X : XS} {c : Nat} {R : XS → Prop} {Q : PO → XS → Prop} {x5 x6 x7 x8 : Option Value} (hc5 : 5 * c + 5 ≤ (xC X).1) (hL : (xC X).1 ≤ 2560) (h : qPair 357 287 [some (.ref 1), some (.int ((xC X).2 (5 * c + 1))), some (.ref 511), none] [some (.ref 388), some (.int ((xC X).2 (5 * c + 1)))] X R) (hk : ∀ Z y5 y6 y7 y8, R Z → AT 378 2335 (qLoc c y5 y6 y7 y8) [] Z Q) : AT 378 1410 (qLoc c x5 x6 x7 x8) [] X Q := by
  obtain ⟨k, hw⟩ := h
  refine AT.aload_n M_378 rfl rfl ?_
  refine AT.aload_n M_378 rfl rfl ?_
  refine AT.iload M_378 rfl rfl ?_
  refine AT.iconst M_378 rfl (v := 1) (by decide) ?_
  refine AT.iadd M_378 rfl (i32_at (5 * c) 1 rfl) ?_
  refine AT.scr M_378 rfl rfl (by omega) (by omega) ?_
  refine AT.aload_n M_378 rfl rfl ?_
  refine AT.cs3u M_378 rfl M_357 rfl (Nat.le_of_ble_eq_true rfl) rfl hw (fun Y hc1417 => ?_) (Nat.le_of_ble_eq_true rfl) rfl
  obtain ⟨hx, b, hm⟩ := hc1417
  refine AT.ist5 M_378 rfl rfl ?_
  refine AT.aload_n M_378 rfl rfl ?_
  refine AT.aload_n M_378 rfl rfl ?_
  refine AT.iload M_378 rfl rfl ?_
  refine AT.iconst M_378 rfl (v := 1) (by decide) ?_
  refine AT.iadd M_378 rfl (i32_at (5 * c) 1 rfl) ?_
  refine AT.scr M_378 rfl rfl (by rw [hx]; omega) (by rw [hx]; omega) ?_
  rw [hx]
  refine AT.cv2u M_378 rfl M_287 rfl (Nat.le_of_ble_eq_true rfl) (xKd.of sh_mod) (by decide) hm (fun Z hc1425 => ?_) (Nat.le_of_ble_eq_true rfl) rfl
  obtain ⟨hT, hO, hR⟩ := hc1425
  refine AT.ist6 M_378 rfl rfl ?_
  refine AT.aload_n M_378 rfl rfl ?_
  refine AT.cv1i M_378 rfl M_232 rfl (Nat.le_of_ble_eq_true rfl) (xKd.of sh_mod) (by decide) (c_232 (X := Z)) ?_ (Nat.le_of_ble_eq_true rfl) rfl
  refine AT.iload M_378 rfl rfl ?_
  refine AT.icmp_eq M_378 rfl (fun b1430 => ?_) (fun b1430 => absurd hT b1430)
  refine AT.iload M_378 rfl rfl ?_
  refine AT.if_ne M_378 rfl (fun b1434 => ?_) (fun b1434 => ?_)
  · refine AT.goto M_378 rfl ?_
    exact hk _ _ _ _ _ hR
  · refine AT.aload_n M_378 rfl rfl ?_
    refine AT.iconst M_378 rfl (v := 0) (by decide) ?_
    refine AT.out M_378 rfl rfl ?_
    refine AT.iload M_378 rfl rfl ?_
    refine AT.i2l M_378 rfl ?_
    rw [hO (Classical.not_not.mp b1434)]
    refine AT.lcmp M_378 rfl ?_
    refine AT.if_eq M_378 rfl (fun b1441 => ?_) (fun b1441 => absurd (lg_self _) b1441)
    refine AT.goto M_378 rfl ?_
    exact hk _ _ _ _ _ hR
set_option maxRecDepth 100000 in
theorem b_39 {X : XS} {c : Nat} {R : XS → Prop} {Q : PO → XS → Prop} {x5 x6 x7 x8 : Option Value} (hc5 : 5 * c + 5 ≤ (xC X).1) (hL : (xC X).1 ≤ 2560) (h : qPair 358 288 [some (.ref 1), some (.int ((xC X).2 (5 * c + 1))), some (.ref 511), none] [some (.ref 388), some (.int ((xC X).2 (5 * c + 1)))] X R) (hk : ∀ Z y5 y6 y7 y8, R Z → AT 378 2335 (qLoc c y5 y6 y7 y8) [] Z Q) : AT 378 1445 (qLoc c x5 x6 x7 x8) [] X Q := by
  obtain ⟨k, hw⟩ := h
  refine AT.aload_n M_378 rfl rfl ?_
  refine AT.aload_n M_378 rfl rfl ?_
  refine AT.iload M_378 rfl rfl ?_
  refine AT.iconst M_378 rfl (v := 1) (by decide) ?_
  refine AT.iadd M_378 rfl (i32_at (5 * c) 1 rfl) ?_
  refine AT.scr M_378 rfl rfl (by omega) (by omega) ?_
  refine AT.aload_n M_378 rfl rfl ?_
  refine AT.cs3u M_378 rfl M_358 rfl (Nat.le_of_ble_eq_true rfl) rfl hw (fun Y hc1452 => ?_) (Nat.le_of_ble_eq_true rfl) rfl
  obtain ⟨hx, b, hm⟩ := hc1452
  refine AT.ist5 M_378 rfl rfl ?_
  refine AT.aload_n M_378 rfl rfl ?_
  refine AT.aload_n M_378 rfl rfl ?_
  refine AT.iload M_378 rfl rfl ?_
  refine AT.iconst M_378 rfl (v := 1) (by decide) ?_
  refine AT.iadd M_378 rfl (i32_at (5 * c) 1 rfl) ?_
  refine AT.scr M_378 rfl rfl (by rw [hx]; omega) (by rw [hx]; omega) ?_
  rw [hx]
  refine AT.cv2u M_378 rfl M_288 rfl (Nat.le_of_ble_eq_true rfl) (xKd.of sh_mod) (by decide) hm (fun Z hc1460 => ?_) (Nat.le_of_ble_eq_true rfl) rfl
  obtain ⟨hT, hO, hR⟩ := hc1460
  refine AT.ist6 M_378 rfl rfl ?_
  refine AT.aload_n M_378 rfl rfl ?_
  refine AT.cv1i M_378 rfl M_232 rfl (Nat.le_of_ble_eq_true rfl) (xKd.of sh_mod) (by decide) (c_232 (X := Z)) ?_ (Nat.le_of_ble_eq_true rfl) rfl
  refine AT.iload M_378 rfl rfl ?_
  refine AT.icmp_eq M_378 rfl (fun b1465 => ?_) (fun b1465 => absurd hT b1465)
  refine AT.iload M_378 rfl rfl ?_
  refine AT.if_ne M_378 rfl (fun b1469 => ?_) (fun b1469 => ?_)
  · refine AT.goto M_378 rfl ?_
    exact hk _ _ _ _ _ hR
  · refine AT.aload_n M_378 rfl rfl ?_
    refine AT.iconst M_378 rfl (v := 0) (by decide) ?_
    refine AT.out M_378 rfl rfl ?_
    refine AT.iload M_378 rfl rfl ?_
    refine AT.i2l M_378 rfl ?_
    rw [hO (Classical.not_not.mp b1469)]
    refine AT.lcmp M_378 rfl ?_
    refine AT.if_eq M_378 rfl (fun b1476 => ?_) (fun b1476 => absurd (lg_self _) b1476)
    refine AT.goto M_378 rfl ?_
    exact hk _ _ _ _ _ hR
set_option maxRecDepth 100000 in
theorem b_40 {X : XS} {c : Nat} {R : XS → Prop} {Q : PO → XS → Prop} {x5 x6 x7 x8 : Option Value} (hc5 : 5 * c + 5 ≤ (xC X).1) (hL : (xC X).1 ≤ 2560) (h : qPair 359 289 [some (.ref 1), some (.int ((xC X).2 (5 * c + 1))), some (.ref 511), none] [some (.ref 388), some (.int ((xC X).2 (5 * c + 1)))] X R) (hk : ∀ Z y5 y6 y7 y8, R Z → AT 378 2335 (qLoc c y5 y6 y7 y8) [] Z Q) : AT 378 1480 (qLoc c x5 x6 x7 x8) [] X Q := by
  obtain ⟨k, hw⟩ := h
  refine AT.aload_n M_378 rfl rfl ?_
  refine AT.aload_n M_378 rfl rfl ?_
  refine AT.iload M_378 rfl rfl ?_
  refine AT.iconst M_378 rfl (v := 1) (by decide) ?_
  refine AT.iadd M_378 rfl (i32_at (5 * c) 1 rfl) ?_
  refine AT.scr M_378 rfl rfl (by omega) (by omega) ?_
  refine AT.aload_n M_378 rfl rfl ?_
  refine AT.cs3u M_378 rfl M_359 rfl (Nat.le_of_ble_eq_true rfl) rfl hw (fun Y hc1487 => ?_) (Nat.le_of_ble_eq_true rfl) rfl
  obtain ⟨hx, b, hm⟩ := hc1487
  refine AT.ist5 M_378 rfl rfl ?_
  refine AT.aload_n M_378 rfl rfl ?_
  refine AT.aload_n M_378 rfl rfl ?_
  refine AT.iload M_378 rfl rfl ?_
  refine AT.iconst M_378 rfl (v := 1) (by decide) ?_
  refine AT.iadd M_378 rfl (i32_at (5 * c) 1 rfl) ?_
  refine AT.scr M_378 rfl rfl (by rw [hx]; omega) (by rw [hx]; omega) ?_
  rw [hx]
  refine AT.cv2u M_378 rfl M_289 rfl (Nat.le_of_ble_eq_true rfl) (xKd.of sh_mod) (by decide) hm (fun Z hc1495 => ?_) (Nat.le_of_ble_eq_true rfl) rfl
  obtain ⟨hT, hO, hR⟩ := hc1495
  refine AT.ist6 M_378 rfl rfl ?_
  refine AT.aload_n M_378 rfl rfl ?_
  refine AT.cv1i M_378 rfl M_232 rfl (Nat.le_of_ble_eq_true rfl) (xKd.of sh_mod) (by decide) (c_232 (X := Z)) ?_ (Nat.le_of_ble_eq_true rfl) rfl
  refine AT.iload M_378 rfl rfl ?_
  refine AT.icmp_eq M_378 rfl (fun b1500 => ?_) (fun b1500 => absurd hT b1500)
  refine AT.iload M_378 rfl rfl ?_
  refine AT.if_ne M_378 rfl (fun b1504 => ?_) (fun b1504 => ?_)
  · refine AT.goto M_378 rfl ?_
    exact hk _ _ _ _ _ hR
  · refine AT.aload_n M_378 rfl rfl ?_
    refine AT.iconst M_378 rfl (v := 0) (by decide) ?_
    refine AT.out M_378 rfl rfl ?_
    refine AT.iload M_378 rfl rfl ?_
    refine AT.i2l M_378 rfl ?_
    rw [hO (Classical.not_not.mp b1504)]
    refine AT.lcmp M_378 rfl ?_
    refine AT.if_eq M_378 rfl (fun b1511 => ?_) (fun b1511 => absurd (lg_self _) b1511)
    refine AT.goto M_378 rfl ?_
    exact hk _ _ _ _ _ hR
set_option maxRecDepth 100000 in
theorem b_41 {X : XS} {c : Nat} {R : XS → Prop} {Q : PO → XS → Prop} {x5 x6 x7 x8 : Option Value} (hc5 : 5 * c + 5 ≤ (xC X).1) (hL : (xC X).1 ≤ 2560) (h : qPair 360 290 [some (.ref 1), some (.int ((xC X).2 (5 * c + 1))), some (.ref 511), none] [some (.ref 388), some (.int ((xC X).2 (5 * c + 1)))] X R) (hk : ∀ Z y5 y6 y7 y8, R Z → AT 378 2335 (qLoc c y5 y6 y7 y8) [] Z Q) : AT 378 1515 (qLoc c x5 x6 x7 x8) [] X Q := by
  obtain ⟨k, hw⟩ := h
  refine AT.aload_n M_378 rfl rfl ?_
  refine AT.aload_n M_378 rfl rfl ?_
  refine AT.iload M_378 rfl rfl ?_
  refine AT.iconst M_378 rfl (v := 1) (by decide) ?_
  refine AT.iadd M_378 rfl (i32_at (5 * c) 1 rfl) ?_
  refine AT.scr M_378 rfl rfl (by omega) (by omega) ?_
  refine AT.aload_n M_378 rfl rfl ?_
  refine AT.cs3u M_378 rfl M_360 rfl (Nat.le_of_ble_eq_true rfl) rfl hw (fun Y hc1522 => ?_) (Nat.le_of_ble_eq_true rfl) rfl
  obtain ⟨hx, b, hm⟩ := hc1522
  refine AT.ist5 M_378 rfl rfl ?_
  refine AT.aload_n M_378 rfl rfl ?_
  refine AT.aload_n M_378 rfl rfl ?_
  refine AT.iload M_378 rfl rfl ?_
  refine AT.iconst M_378 rfl (v := 1) (by decide) ?_
  refine AT.iadd M_378 rfl (i32_at (5 * c) 1 rfl) ?_
  refine AT.scr M_378 rfl rfl (by rw [hx]; omega) (by rw [hx]; omega) ?_
  rw [hx]
  refine AT.cv2u M_378 rfl M_290 rfl (Nat.le_of_ble_eq_true rfl) (xKd.of sh_mod) (by decide) hm (fun Z hc1530 => ?_) (Nat.le_of_ble_eq_true rfl) rfl
  obtain ⟨hT, hO, hR⟩ := hc1530
  refine AT.ist6 M_378 rfl rfl ?_
  refine AT.aload_n M_378 rfl rfl ?_
  refine AT.cv1i M_378 rfl M_232 rfl (Nat.le_of_ble_eq_true rfl) (xKd.of sh_mod) (by decide) (c_232 (X := Z)) ?_ (Nat.le_of_ble_eq_true rfl) rfl
  refine AT.iload M_378 rfl rfl ?_
  refine AT.icmp_eq M_378 rfl (fun b1535 => ?_) (fun b1535 => absurd hT b1535)
  refine AT.iload M_378 rfl rfl ?_
  refine AT.if_ne M_378 rfl (fun b1539 => ?_) (fun b1539 => ?_)
  · refine AT.goto M_378 rfl ?_
    exact hk _ _ _ _ _ hR
  · refine AT.aload_n M_378 rfl rfl ?_
    refine AT.iconst M_378 rfl (v := 0) (by decide) ?_
    refine AT.out M_378 rfl rfl ?_
    refine AT.iload M_378 rfl rfl ?_
    refine AT.i2l M_378 rfl ?_
    rw [hO (Classical.not_not.mp b1539)]
    refine AT.lcmp M_378 rfl ?_
    refine AT.if_eq M_378 rfl (fun b1546 => ?_) (fun b1546 => absurd (lg_self _) b1546)
    refine AT.goto M_378 rfl ?_
    exact hk _ _ _ _ _ hR
set_option maxRecDepth 100000 in
theorem b_42 {X : XS} {c : Nat} {R : XS → Prop} {Q : PO → XS → Prop} {x5 x6 x7 x8 : Option Value} (hc5 : 5 * c + 5 ≤ (xC X).1) (hL : (xC X).1 ≤ 2560) (h : qPairB 361 291 [some (.ref 1), some (.int ((xC X).2 (5 * c + 1))), some (.int ((xC X).2 (5 * c + 2))), some (.ref 511), none] [some (.ref 388), some (.int ((xC X).2 (5 * c + 1))), some (.int ((xC X).2 (5 * c + 2)))] X R) (hk : ∀ Z y5 y6 y7 y8, R Z → AT 378 2335 (qLoc c y5 y6 y7 y8) [] Z Q) : AT 378 1550 (qLoc c x5 x6 x7 x8) [] X Q := by
  obtain ⟨k, hw⟩ := h
  refine AT.aload_n M_378 rfl rfl ?_
  refine AT.aload_n M_378 rfl rfl ?_
  refine AT.iload M_378 rfl rfl ?_
  refine AT.iconst M_378 rfl (v := 1) (by decide) ?_
  refine AT.iadd M_378 rfl (i32_at (5 * c) 1 rfl) ?_
  refine AT.scr M_378 rfl rfl (by omega) (by omega) ?_
  refine AT.aload_n M_378 rfl rfl ?_
  refine AT.iload M_378 rfl rfl ?_
  refine AT.iconst M_378 rfl (v := 2) (by decide) ?_
  refine AT.iadd M_378 rfl (i32_at (5 * c) 2 rfl) ?_
  refine AT.scr M_378 rfl rfl (by omega) (by omega) ?_
  refine AT.aload_n M_378 rfl rfl ?_
  refine AT.cs4u M_378 rfl M_361 rfl (Nat.le_of_ble_eq_true rfl) rfl hw (fun Y hc1562 => ?_) (Nat.le_of_ble_eq_true rfl) rfl
  obtain ⟨hx, b, hm⟩ := hc1562
  refine AT.ist5 M_378 rfl rfl ?_
  refine AT.aload_n M_378 rfl rfl ?_
  refine AT.aload_n M_378 rfl rfl ?_
  refine AT.iload M_378 rfl rfl ?_
  refine AT.iconst M_378 rfl (v := 1) (by decide) ?_
  refine AT.iadd M_378 rfl (i32_at (5 * c) 1 rfl) ?_
  refine AT.scr M_378 rfl rfl (by rw [hx]; omega) (by rw [hx]; omega) ?_
  rw [hx]
  refine AT.aload_n M_378 rfl rfl ?_
  refine AT.iload M_378 rfl rfl ?_
  refine AT.iconst M_378 rfl (v := 2) (by decide) ?_
  refine AT.iadd M_378 rfl (i32_at (5 * c) 2 rfl) ?_
  refine AT.scr M_378 rfl rfl (by rw [hx]; omega) (by rw [hx]; omega) ?_
  rw [hx]
  refine AT.cv3u M_378 rfl M_291 rfl (Nat.le_of_ble_eq_true rfl) (xKd.of sh_mod) (by decide) hm (fun Z hc1575 => ?_) (Nat.le_of_ble_eq_true rfl) rfl
  obtain ⟨hT, hO, hR⟩ := hc1575
  refine AT.ist6 M_378 rfl rfl ?_
  refine AT.aload_n M_378 rfl rfl ?_
  refine AT.cv1i M_378 rfl M_232 rfl (Nat.le_of_ble_eq_true rfl) (xKd.of sh_mod) (by decide) (c_232 (X := Z)) ?_ (Nat.le_of_ble_eq_true rfl) rfl
  refine AT.iload M_378 rfl rfl ?_
  refine AT.icmp_eq M_378 rfl (fun b1580 => ?_) (fun b1580 => absurd hT b1580)
  refine AT.iload M_378 rfl rfl ?_
  refine AT.if_ne M_378 rfl (fun b1584 => ?_) (fun b1584 => ?_)
  · refine AT.goto M_378 rfl ?_
    exact hk _ _ _ _ _ hR
  · refine AT.aload_n M_378 rfl rfl ?_
    refine AT.iconst M_378 rfl (v := 0) (by decide) ?_
    refine AT.out M_378 rfl rfl ?_
    refine AT.iload M_378 rfl rfl ?_
    refine AT.if_eq M_378 rfl (fun b1589 => ?_) (fun b1589 => ?_)
    · rw [(hO (Classical.not_not.mp b1584)).2, b1589]
      change AT 378 _ _ (.long 0 :: _) _ _
      refine AT.lconst M_378 rfl (v := 0) (by decide) ?_
      refine AT.lcmp M_378 rfl ?_
      refine AT.if_eq M_378 rfl (fun b1594 => ?_) (fun b1594 => absurd (lg_self _) b1594)
      refine AT.goto M_378 rfl ?_
      exact hk _ _ _ _ _ hR
    · rw [(hO (Classical.not_not.mp b1584)).2, (hO (Classical.not_not.mp b1584)).1.resolve_left b1589]
      change AT 378 _ _ (.long 1 :: _) _ _
      refine AT.lconst M_378 rfl (v := 1) (by decide) ?_
      refine AT.goto M_378 rfl ?_
      refine AT.lcmp M_378 rfl ?_
      refine AT.if_eq M_378 rfl (fun b1594 => ?_) (fun b1594 => absurd (lg_self _) b1594)
      refine AT.goto M_378 rfl ?_
      exact hk _ _ _ _ _ hR
set_option maxRecDepth 100000 in
theorem b_43 {X : XS} {c : Nat} {R : XS → Prop} {Q : PO → XS → Prop} {x5 x6 x7 x8 : Option Value} (hc5 : 5 * c + 5 ≤ (xC X).1) (hL : (xC X).1 ≤ 2560) (h : qPair 362 292 [some (.ref 1), some (.int ((xC X).2 (5 * c + 1))), some (.int ((xC X).2 (5 * c + 2))), some (.ref 511), none] [some (.ref 388), some (.int ((xC X).2 (5 * c + 1))), some (.int ((xC X).2 (5 * c + 2)))] X R) (hk : ∀ Z y5 y6 y7 y8, R Z → AT 378 2335 (qLoc c y5 y6 y7 y8) [] Z Q) : AT 378 1598 (qLoc c x5 x6 x7 x8) [] X Q := by
  obtain ⟨k, hw⟩ := h
  refine AT.aload_n M_378 rfl rfl ?_
  refine AT.aload_n M_378 rfl rfl ?_
  refine AT.iload M_378 rfl rfl ?_
  refine AT.iconst M_378 rfl (v := 1) (by decide) ?_
  refine AT.iadd M_378 rfl (i32_at (5 * c) 1 rfl) ?_
  refine AT.scr M_378 rfl rfl (by omega) (by omega) ?_
  refine AT.aload_n M_378 rfl rfl ?_
  refine AT.iload M_378 rfl rfl ?_
  refine AT.iconst M_378 rfl (v := 2) (by decide) ?_
  refine AT.iadd M_378 rfl (i32_at (5 * c) 2 rfl) ?_
  refine AT.scr M_378 rfl rfl (by omega) (by omega) ?_
  refine AT.aload_n M_378 rfl rfl ?_
  refine AT.cs4u M_378 rfl M_362 rfl (Nat.le_of_ble_eq_true rfl) rfl hw (fun Y hc1610 => ?_) (Nat.le_of_ble_eq_true rfl) rfl
  obtain ⟨hx, b, hm⟩ := hc1610
  refine AT.ist5 M_378 rfl rfl ?_
  refine AT.aload_n M_378 rfl rfl ?_
  refine AT.aload_n M_378 rfl rfl ?_
  refine AT.iload M_378 rfl rfl ?_
  refine AT.iconst M_378 rfl (v := 1) (by decide) ?_
  refine AT.iadd M_378 rfl (i32_at (5 * c) 1 rfl) ?_
  refine AT.scr M_378 rfl rfl (by rw [hx]; omega) (by rw [hx]; omega) ?_
  rw [hx]
  refine AT.aload_n M_378 rfl rfl ?_
  refine AT.iload M_378 rfl rfl ?_
  refine AT.iconst M_378 rfl (v := 2) (by decide) ?_
  refine AT.iadd M_378 rfl (i32_at (5 * c) 2 rfl) ?_
  refine AT.scr M_378 rfl rfl (by rw [hx]; omega) (by rw [hx]; omega) ?_
  rw [hx]
  refine AT.cv3u M_378 rfl M_292 rfl (Nat.le_of_ble_eq_true rfl) (xKd.of sh_mod) (by decide) hm (fun Z hc1623 => ?_) (Nat.le_of_ble_eq_true rfl) rfl
  obtain ⟨hT, hO, hR⟩ := hc1623
  refine AT.ist6 M_378 rfl rfl ?_
  refine AT.aload_n M_378 rfl rfl ?_
  refine AT.cv1i M_378 rfl M_232 rfl (Nat.le_of_ble_eq_true rfl) (xKd.of sh_mod) (by decide) (c_232 (X := Z)) ?_ (Nat.le_of_ble_eq_true rfl) rfl
  refine AT.iload M_378 rfl rfl ?_
  refine AT.icmp_eq M_378 rfl (fun b1628 => ?_) (fun b1628 => absurd hT b1628)
  refine AT.iload M_378 rfl rfl ?_
  refine AT.if_ne M_378 rfl (fun b1632 => ?_) (fun b1632 => ?_)
  · refine AT.goto M_378 rfl ?_
    exact hk _ _ _ _ _ hR
  · refine AT.aload_n M_378 rfl rfl ?_
    refine AT.iconst M_378 rfl (v := 0) (by decide) ?_
    refine AT.out M_378 rfl rfl ?_
    refine AT.iload M_378 rfl rfl ?_
    refine AT.i2l M_378 rfl ?_
    rw [hO (Classical.not_not.mp b1632)]
    refine AT.lcmp M_378 rfl ?_
    refine AT.if_eq M_378 rfl (fun b1639 => ?_) (fun b1639 => absurd (lg_self _) b1639)
    refine AT.goto M_378 rfl ?_
    exact hk _ _ _ _ _ hR
set_option maxRecDepth 100000 in
theorem b_44 {X : XS} {c : Nat} {R : XS → Prop} {Q : PO → XS → Prop} {x5 x6 x7 x8 : Option Value} (hc5 : 5 * c + 5 ≤ (xC X).1) (hL : (xC X).1 ≤ 2560) (h : qPair 363 294 [some (.ref 1), some (.int ((xC X).2 (5 * c + 1))), some (.int ((xC X).2 (5 * c + 2))), some (.ref 511), none] [some (.ref 388), some (.int ((xC X).2 (5 * c + 1))), some (.int ((xC X).2 (5 * c + 2)))] X R) (hk : ∀ Z y5 y6 y7 y8, R Z → AT 378 2335 (qLoc c y5 y6 y7 y8) [] Z Q) : AT 378 1643 (qLoc c x5 x6 x7 x8) [] X Q := by
  obtain ⟨k, hw⟩ := h
  refine AT.aload_n M_378 rfl rfl ?_
  refine AT.aload_n M_378 rfl rfl ?_
  refine AT.iload M_378 rfl rfl ?_
  refine AT.iconst M_378 rfl (v := 1) (by decide) ?_
  refine AT.iadd M_378 rfl (i32_at (5 * c) 1 rfl) ?_
  refine AT.scr M_378 rfl rfl (by omega) (by omega) ?_
  refine AT.aload_n M_378 rfl rfl ?_
  refine AT.iload M_378 rfl rfl ?_
  refine AT.iconst M_378 rfl (v := 2) (by decide) ?_
  refine AT.iadd M_378 rfl (i32_at (5 * c) 2 rfl) ?_
  refine AT.scr M_378 rfl rfl (by omega) (by omega) ?_
  refine AT.aload_n M_378 rfl rfl ?_
  refine AT.cs4u M_378 rfl M_363 rfl (Nat.le_of_ble_eq_true rfl) rfl hw (fun Y hc1655 => ?_) (Nat.le_of_ble_eq_true rfl) rfl
  obtain ⟨hx, b, hm⟩ := hc1655
  refine AT.ist5 M_378 rfl rfl ?_
  refine AT.aload_n M_378 rfl rfl ?_
  refine AT.aload_n M_378 rfl rfl ?_
  refine AT.iload M_378 rfl rfl ?_
  refine AT.iconst M_378 rfl (v := 1) (by decide) ?_
  refine AT.iadd M_378 rfl (i32_at (5 * c) 1 rfl) ?_
  refine AT.scr M_378 rfl rfl (by rw [hx]; omega) (by rw [hx]; omega) ?_
  rw [hx]
  refine AT.aload_n M_378 rfl rfl ?_
  refine AT.iload M_378 rfl rfl ?_
  refine AT.iconst M_378 rfl (v := 2) (by decide) ?_
  refine AT.iadd M_378 rfl (i32_at (5 * c) 2 rfl) ?_
  refine AT.scr M_378 rfl rfl (by rw [hx]; omega) (by rw [hx]; omega) ?_
  rw [hx]
  refine AT.cv3u M_378 rfl M_294 rfl (Nat.le_of_ble_eq_true rfl) (xKd.of sh_mod) (by decide) hm (fun Z hc1668 => ?_) (Nat.le_of_ble_eq_true rfl) rfl
  obtain ⟨hT, hO, hR⟩ := hc1668
  refine AT.ist6 M_378 rfl rfl ?_
  refine AT.aload_n M_378 rfl rfl ?_
  refine AT.cv1i M_378 rfl M_232 rfl (Nat.le_of_ble_eq_true rfl) (xKd.of sh_mod) (by decide) (c_232 (X := Z)) ?_ (Nat.le_of_ble_eq_true rfl) rfl
  refine AT.iload M_378 rfl rfl ?_
  refine AT.icmp_eq M_378 rfl (fun b1673 => ?_) (fun b1673 => absurd hT b1673)
  refine AT.iload M_378 rfl rfl ?_
  refine AT.if_ne M_378 rfl (fun b1677 => ?_) (fun b1677 => ?_)
  · refine AT.goto M_378 rfl ?_
    exact hk _ _ _ _ _ hR
  · refine AT.aload_n M_378 rfl rfl ?_
    refine AT.iconst M_378 rfl (v := 0) (by decide) ?_
    refine AT.out M_378 rfl rfl ?_
    refine AT.iload M_378 rfl rfl ?_
    refine AT.i2l M_378 rfl ?_
    rw [hO (Classical.not_not.mp b1677)]
    refine AT.lcmp M_378 rfl ?_
    refine AT.if_eq M_378 rfl (fun b1684 => ?_) (fun b1684 => absurd (lg_self _) b1684)
    refine AT.goto M_378 rfl ?_
    exact hk _ _ _ _ _ hR
set_option maxRecDepth 100000 in
theorem b_45 {X : XS} {c : Nat} {R : XS → Prop} {Q : PO → XS → Prop} {x5 x6 x7 x8 : Option Value} (hc5 : 5 * c + 5 ≤ (xC X).1) (hL : (xC X).1 ≤ 2560) (h : qPair 364 295 [some (.ref 1), some (.int ((xC X).2 (5 * c + 1))), some (.int ((xC X).2 (5 * c + 2))), some (.ref 511), none] [some (.ref 388), some (.int ((xC X).2 (5 * c + 1))), some (.int ((xC X).2 (5 * c + 2)))] X R) (hk : ∀ Z y5 y6 y7 y8, R Z → AT 378 2335 (qLoc c y5 y6 y7 y8) [] Z Q) : AT 378 1688 (qLoc c x5 x6 x7 x8) [] X Q := by
  obtain ⟨k, hw⟩ := h
  refine AT.aload_n M_378 rfl rfl ?_
  refine AT.aload_n M_378 rfl rfl ?_
  refine AT.iload M_378 rfl rfl ?_
  refine AT.iconst M_378 rfl (v := 1) (by decide) ?_
  refine AT.iadd M_378 rfl (i32_at (5 * c) 1 rfl) ?_
  refine AT.scr M_378 rfl rfl (by omega) (by omega) ?_
  refine AT.aload_n M_378 rfl rfl ?_
  refine AT.iload M_378 rfl rfl ?_
  refine AT.iconst M_378 rfl (v := 2) (by decide) ?_
  refine AT.iadd M_378 rfl (i32_at (5 * c) 2 rfl) ?_
  refine AT.scr M_378 rfl rfl (by omega) (by omega) ?_
  refine AT.aload_n M_378 rfl rfl ?_
  refine AT.cs4u M_378 rfl M_364 rfl (Nat.le_of_ble_eq_true rfl) rfl hw (fun Y hc1700 => ?_) (Nat.le_of_ble_eq_true rfl) rfl
  obtain ⟨hx, b, hm⟩ := hc1700
  refine AT.ist5 M_378 rfl rfl ?_
  refine AT.aload_n M_378 rfl rfl ?_
  refine AT.aload_n M_378 rfl rfl ?_
  refine AT.iload M_378 rfl rfl ?_
  refine AT.iconst M_378 rfl (v := 1) (by decide) ?_
  refine AT.iadd M_378 rfl (i32_at (5 * c) 1 rfl) ?_
  refine AT.scr M_378 rfl rfl (by rw [hx]; omega) (by rw [hx]; omega) ?_
  rw [hx]
  refine AT.aload_n M_378 rfl rfl ?_
  refine AT.iload M_378 rfl rfl ?_
  refine AT.iconst M_378 rfl (v := 2) (by decide) ?_
  refine AT.iadd M_378 rfl (i32_at (5 * c) 2 rfl) ?_
  refine AT.scr M_378 rfl rfl (by rw [hx]; omega) (by rw [hx]; omega) ?_
  rw [hx]
  refine AT.cv3u M_378 rfl M_295 rfl (Nat.le_of_ble_eq_true rfl) (xKd.of sh_mod) (by decide) hm (fun Z hc1713 => ?_) (Nat.le_of_ble_eq_true rfl) rfl
  obtain ⟨hT, hO, hR⟩ := hc1713
  refine AT.ist6 M_378 rfl rfl ?_
  refine AT.aload_n M_378 rfl rfl ?_
  refine AT.cv1i M_378 rfl M_232 rfl (Nat.le_of_ble_eq_true rfl) (xKd.of sh_mod) (by decide) (c_232 (X := Z)) ?_ (Nat.le_of_ble_eq_true rfl) rfl
  refine AT.iload M_378 rfl rfl ?_
  refine AT.icmp_eq M_378 rfl (fun b1718 => ?_) (fun b1718 => absurd hT b1718)
  refine AT.iload M_378 rfl rfl ?_
  refine AT.if_ne M_378 rfl (fun b1722 => ?_) (fun b1722 => ?_)
  · refine AT.goto M_378 rfl ?_
    exact hk _ _ _ _ _ hR
  · refine AT.aload_n M_378 rfl rfl ?_
    refine AT.iconst M_378 rfl (v := 0) (by decide) ?_
    refine AT.out M_378 rfl rfl ?_
    refine AT.iload M_378 rfl rfl ?_
    refine AT.i2l M_378 rfl ?_
    rw [hO (Classical.not_not.mp b1722)]
    refine AT.lcmp M_378 rfl ?_
    refine AT.if_eq M_378 rfl (fun b1729 => ?_) (fun b1729 => absurd (lg_self _) b1729)
    refine AT.goto M_378 rfl ?_
    exact hk _ _ _ _ _ hR
set_option maxRecDepth 100000 in
theorem b_46 {X : XS} {c : Nat} {R : XS → Prop} {Q : PO → XS → Prop} {x5 x6 x7 x8 : Option Value} (hc5 : 5 * c + 5 ≤ (xC X).1) (hL : (xC X).1 ≤ 2560) (h : qPair 365 296 [some (.ref 1), some (.int ((xC X).2 (5 * c + 1))), some (.int ((xC X).2 (5 * c + 2))), some (.ref 511), none] [some (.ref 388), some (.int ((xC X).2 (5 * c + 1))), some (.int ((xC X).2 (5 * c + 2)))] X R) (hk : ∀ Z y5 y6 y7 y8, R Z → AT 378 2335 (qLoc c y5 y6 y7 y8) [] Z Q) : AT 378 1733 (qLoc c x5 x6 x7 x8) [] X Q := by
  obtain ⟨k, hw⟩ := h
  refine AT.aload_n M_378 rfl rfl ?_
  refine AT.aload_n M_378 rfl rfl ?_
  refine AT.iload M_378 rfl rfl ?_
  refine AT.iconst M_378 rfl (v := 1) (by decide) ?_
  refine AT.iadd M_378 rfl (i32_at (5 * c) 1 rfl) ?_
  refine AT.scr M_378 rfl rfl (by omega) (by omega) ?_
  refine AT.aload_n M_378 rfl rfl ?_
  refine AT.iload M_378 rfl rfl ?_
  refine AT.iconst M_378 rfl (v := 2) (by decide) ?_
  refine AT.iadd M_378 rfl (i32_at (5 * c) 2 rfl) ?_
  refine AT.scr M_378 rfl rfl (by omega) (by omega) ?_
  refine AT.aload_n M_378 rfl rfl ?_
  refine AT.cs4u M_378 rfl M_365 rfl (Nat.le_of_ble_eq_true rfl) rfl hw (fun Y hc1745 => ?_) (Nat.le_of_ble_eq_true rfl) rfl
  obtain ⟨hx, b, hm⟩ := hc1745
  refine AT.ist5 M_378 rfl rfl ?_
  refine AT.aload_n M_378 rfl rfl ?_
  refine AT.aload_n M_378 rfl rfl ?_
  refine AT.iload M_378 rfl rfl ?_
  refine AT.iconst M_378 rfl (v := 1) (by decide) ?_
  refine AT.iadd M_378 rfl (i32_at (5 * c) 1 rfl) ?_
  refine AT.scr M_378 rfl rfl (by rw [hx]; omega) (by rw [hx]; omega) ?_
  rw [hx]
  refine AT.aload_n M_378 rfl rfl ?_
  refine AT.iload M_378 rfl rfl ?_
  refine AT.iconst M_378 rfl (v := 2) (by decide) ?_
  refine AT.iadd M_378 rfl (i32_at (5 * c) 2 rfl) ?_
  refine AT.scr M_378 rfl rfl (by rw [hx]; omega) (by rw [hx]; omega) ?_
  rw [hx]
  refine AT.cv3u M_378 rfl M_296 rfl (Nat.le_of_ble_eq_true rfl) (xKd.of sh_mod) (by decide) hm (fun Z hc1758 => ?_) (Nat.le_of_ble_eq_true rfl) rfl
  obtain ⟨hT, hO, hR⟩ := hc1758
  refine AT.ist6 M_378 rfl rfl ?_
  refine AT.aload_n M_378 rfl rfl ?_
  refine AT.cv1i M_378 rfl M_232 rfl (Nat.le_of_ble_eq_true rfl) (xKd.of sh_mod) (by decide) (c_232 (X := Z)) ?_ (Nat.le_of_ble_eq_true rfl) rfl
  refine AT.iload M_378 rfl rfl ?_
  refine AT.icmp_eq M_378 rfl (fun b1763 => ?_) (fun b1763 => absurd hT b1763)
  refine AT.iload M_378 rfl rfl ?_
  refine AT.if_ne M_378 rfl (fun b1767 => ?_) (fun b1767 => ?_)
  · refine AT.goto M_378 rfl ?_
    exact hk _ _ _ _ _ hR
  · refine AT.aload_n M_378 rfl rfl ?_
    refine AT.iconst M_378 rfl (v := 0) (by decide) ?_
    refine AT.out M_378 rfl rfl ?_
    refine AT.iload M_378 rfl rfl ?_
    refine AT.i2l M_378 rfl ?_
    rw [hO (Classical.not_not.mp b1767)]
    refine AT.lcmp M_378 rfl ?_
    refine AT.if_eq M_378 rfl (fun b1774 => ?_) (fun b1774 => absurd (lg_self _) b1774)
    refine AT.goto M_378 rfl ?_
    exact hk _ _ _ _ _ hR
set_option maxRecDepth 100000 in
theorem b_47 {X : XS} {c : Nat} {R : XS → Prop} {Q : PO → XS → Prop} {x5 x6 x7 x8 : Option Value} (hc5 : 5 * c + 5 ≤ (xC X).1) (hL : (xC X).1 ≤ 2560) (h : qPair 366 297 [some (.ref 1), some (.int ((xC X).2 (5 * c + 1))), some (.int ((xC X).2 (5 * c + 2))), some (.ref 511), none] [some (.ref 388), some (.int ((xC X).2 (5 * c + 1))), some (.int ((xC X).2 (5 * c + 2)))] X R) (hk : ∀ Z y5 y6 y7 y8, R Z → AT 378 2335 (qLoc c y5 y6 y7 y8) [] Z Q) : AT 378 1778 (qLoc c x5 x6 x7 x8) [] X Q := by
  obtain ⟨k, hw⟩ := h
  refine AT.aload_n M_378 rfl rfl ?_
  refine AT.aload_n M_378 rfl rfl ?_
  refine AT.iload M_378 rfl rfl ?_
  refine AT.iconst M_378 rfl (v := 1) (by decide) ?_
  refine AT.iadd M_378 rfl (i32_at (5 * c) 1 rfl) ?_
  refine AT.scr M_378 rfl rfl (by omega) (by omega) ?_
  refine AT.aload_n M_378 rfl rfl ?_
  refine AT.iload M_378 rfl rfl ?_
  refine AT.iconst M_378 rfl (v := 2) (by decide) ?_
  refine AT.iadd M_378 rfl (i32_at (5 * c) 2 rfl) ?_
  refine AT.scr M_378 rfl rfl (by omega) (by omega) ?_
  refine AT.aload_n M_378 rfl rfl ?_
  refine AT.cs4u M_378 rfl M_366 rfl (Nat.le_of_ble_eq_true rfl) rfl hw (fun Y hc1790 => ?_) (Nat.le_of_ble_eq_true rfl) rfl
  obtain ⟨hx, b, hm⟩ := hc1790
  refine AT.ist5 M_378 rfl rfl ?_
  refine AT.aload_n M_378 rfl rfl ?_
  refine AT.aload_n M_378 rfl rfl ?_
  refine AT.iload M_378 rfl rfl ?_
  refine AT.iconst M_378 rfl (v := 1) (by decide) ?_
  refine AT.iadd M_378 rfl (i32_at (5 * c) 1 rfl) ?_
  refine AT.scr M_378 rfl rfl (by rw [hx]; omega) (by rw [hx]; omega) ?_
  rw [hx]
  refine AT.aload_n M_378 rfl rfl ?_
  refine AT.iload M_378 rfl rfl ?_
  refine AT.iconst M_378 rfl (v := 2) (by decide) ?_
  refine AT.iadd M_378 rfl (i32_at (5 * c) 2 rfl) ?_
  refine AT.scr M_378 rfl rfl (by rw [hx]; omega) (by rw [hx]; omega) ?_
  rw [hx]
  refine AT.cv3u M_378 rfl M_297 rfl (Nat.le_of_ble_eq_true rfl) (xKd.of sh_mod) (by decide) hm (fun Z hc1803 => ?_) (Nat.le_of_ble_eq_true rfl) rfl
  obtain ⟨hT, hO, hR⟩ := hc1803
  refine AT.ist6 M_378 rfl rfl ?_
  refine AT.aload_n M_378 rfl rfl ?_
  refine AT.cv1i M_378 rfl M_232 rfl (Nat.le_of_ble_eq_true rfl) (xKd.of sh_mod) (by decide) (c_232 (X := Z)) ?_ (Nat.le_of_ble_eq_true rfl) rfl
  refine AT.iload M_378 rfl rfl ?_
  refine AT.icmp_eq M_378 rfl (fun b1808 => ?_) (fun b1808 => absurd hT b1808)
  refine AT.iload M_378 rfl rfl ?_
  refine AT.if_ne M_378 rfl (fun b1812 => ?_) (fun b1812 => ?_)
  · refine AT.goto M_378 rfl ?_
    exact hk _ _ _ _ _ hR
  · refine AT.aload_n M_378 rfl rfl ?_
    refine AT.iconst M_378 rfl (v := 0) (by decide) ?_
    refine AT.out M_378 rfl rfl ?_
    refine AT.iload M_378 rfl rfl ?_
    refine AT.i2l M_378 rfl ?_
    rw [hO (Classical.not_not.mp b1812)]
    refine AT.lcmp M_378 rfl ?_
    refine AT.if_eq M_378 rfl (fun b1819 => ?_) (fun b1819 => absurd (lg_self _) b1819)
    refine AT.goto M_378 rfl ?_
    exact hk _ _ _ _ _ hR
set_option maxRecDepth 100000 in
theorem b_48 {X : XS} {c : Nat} {R : XS → Prop} {Q : PO → XS → Prop} {x5 x6 x7 x8 : Option Value} (hc5 : 5 * c + 5 ≤ (xC X).1) (hL : (xC X).1 ≤ 2560) (h : qPair 367 298 [some (.ref 1), some (.int ((xC X).2 (5 * c + 1))), some (.int ((xC X).2 (5 * c + 2))), some (.ref 511), none] [some (.ref 388), some (.int ((xC X).2 (5 * c + 1))), some (.int ((xC X).2 (5 * c + 2)))] X R) (hk : ∀ Z y5 y6 y7 y8, R Z → AT 378 2335 (qLoc c y5 y6 y7 y8) [] Z Q) : AT 378 1823 (qLoc c x5 x6 x7 x8) [] X Q := by
  obtain ⟨k, hw⟩ := h
  refine AT.aload_n M_378 rfl rfl ?_
  refine AT.aload_n M_378 rfl rfl ?_
  refine AT.iload M_378 rfl rfl ?_
  refine AT.iconst M_378 rfl (v := 1) (by decide) ?_
  refine AT.iadd M_378 rfl (i32_at (5 * c) 1 rfl) ?_
  refine AT.scr M_378 rfl rfl (by omega) (by omega) ?_
  refine AT.aload_n M_378 rfl rfl ?_
  refine AT.iload M_378 rfl rfl ?_
  refine AT.iconst M_378 rfl (v := 2) (by decide) ?_
  refine AT.iadd M_378 rfl (i32_at (5 * c) 2 rfl) ?_
  refine AT.scr M_378 rfl rfl (by omega) (by omega) ?_
  refine AT.aload_n M_378 rfl rfl ?_
  refine AT.cs4u M_378 rfl M_367 rfl (Nat.le_of_ble_eq_true rfl) rfl hw (fun Y hc1835 => ?_) (Nat.le_of_ble_eq_true rfl) rfl
  obtain ⟨hx, b, hm⟩ := hc1835
  refine AT.ist5 M_378 rfl rfl ?_
  refine AT.aload_n M_378 rfl rfl ?_
  refine AT.aload_n M_378 rfl rfl ?_
  refine AT.iload M_378 rfl rfl ?_
  refine AT.iconst M_378 rfl (v := 1) (by decide) ?_
  refine AT.iadd M_378 rfl (i32_at (5 * c) 1 rfl) ?_
  refine AT.scr M_378 rfl rfl (by rw [hx]; omega) (by rw [hx]; omega) ?_
  rw [hx]
  refine AT.aload_n M_378 rfl rfl ?_
  refine AT.iload M_378 rfl rfl ?_
  refine AT.iconst M_378 rfl (v := 2) (by decide) ?_
  refine AT.iadd M_378 rfl (i32_at (5 * c) 2 rfl) ?_
  refine AT.scr M_378 rfl rfl (by rw [hx]; omega) (by rw [hx]; omega) ?_
  rw [hx]
  refine AT.cv3u M_378 rfl M_298 rfl (Nat.le_of_ble_eq_true rfl) (xKd.of sh_mod) (by decide) hm (fun Z hc1848 => ?_) (Nat.le_of_ble_eq_true rfl) rfl
  obtain ⟨hT, hO, hR⟩ := hc1848
  refine AT.ist6 M_378 rfl rfl ?_
  refine AT.aload_n M_378 rfl rfl ?_
  refine AT.cv1i M_378 rfl M_232 rfl (Nat.le_of_ble_eq_true rfl) (xKd.of sh_mod) (by decide) (c_232 (X := Z)) ?_ (Nat.le_of_ble_eq_true rfl) rfl
  refine AT.iload M_378 rfl rfl ?_
  refine AT.icmp_eq M_378 rfl (fun b1853 => ?_) (fun b1853 => absurd hT b1853)
  refine AT.iload M_378 rfl rfl ?_
  refine AT.if_ne M_378 rfl (fun b1857 => ?_) (fun b1857 => ?_)
  · refine AT.goto M_378 rfl ?_
    exact hk _ _ _ _ _ hR
  · refine AT.aload_n M_378 rfl rfl ?_
    refine AT.iconst M_378 rfl (v := 0) (by decide) ?_
    refine AT.out M_378 rfl rfl ?_
    refine AT.iload M_378 rfl rfl ?_
    refine AT.i2l M_378 rfl ?_
    rw [hO (Classical.not_not.mp b1857)]
    refine AT.lcmp M_378 rfl ?_
    refine AT.if_eq M_378 rfl (fun b1864 => ?_) (fun b1864 => absurd (lg_self _) b1864)
    refine AT.goto M_378 rfl ?_
    exact hk _ _ _ _ _ hR
set_option maxRecDepth 100000 in
theorem b_49 {X : XS} {c : Nat} {R : XS → Prop} {Q : PO → XS → Prop} {x5 x6 x7 x8 : Option Value} (hc5 : 5 * c + 5 ≤ (xC X).1) (hL : (xC X).1 ≤ 2560) (h : qPair 368 299 [some (.ref 1), some (.int ((xC X).2 (5 * c + 1))), some (.int ((xC X).2 (5 * c + 2))), some (.ref 511), none] [some (.ref 388), some (.int ((xC X).2 (5 * c + 1))), some (.int ((xC X).2 (5 * c + 2)))] X R) (hk : ∀ Z y5 y6 y7 y8, R Z → AT 378 2335 (qLoc c y5 y6 y7 y8) [] Z Q) : AT 378 1868 (qLoc c x5 x6 x7 x8) [] X Q := by
  obtain ⟨k, hw⟩ := h
  refine AT.aload_n M_378 rfl rfl ?_
  refine AT.aload_n M_378 rfl rfl ?_
  refine AT.iload M_378 rfl rfl ?_
  refine AT.iconst M_378 rfl (v := 1) (by decide) ?_
  refine AT.iadd M_378 rfl (i32_at (5 * c) 1 rfl) ?_
  refine AT.scr M_378 rfl rfl (by omega) (by omega) ?_
  refine AT.aload_n M_378 rfl rfl ?_
  refine AT.iload M_378 rfl rfl ?_
  refine AT.iconst M_378 rfl (v := 2) (by decide) ?_
  refine AT.iadd M_378 rfl (i32_at (5 * c) 2 rfl) ?_
  refine AT.scr M_378 rfl rfl (by omega) (by omega) ?_
  refine AT.aload_n M_378 rfl rfl ?_
  refine AT.cs4u M_378 rfl M_368 rfl (Nat.le_of_ble_eq_true rfl) rfl hw (fun Y hc1880 => ?_) (Nat.le_of_ble_eq_true rfl) rfl
  obtain ⟨hx, b, hm⟩ := hc1880
  refine AT.ist5 M_378 rfl rfl ?_
  refine AT.aload_n M_378 rfl rfl ?_
  refine AT.aload_n M_378 rfl rfl ?_
  refine AT.iload M_378 rfl rfl ?_
  refine AT.iconst M_378 rfl (v := 1) (by decide) ?_
  refine AT.iadd M_378 rfl (i32_at (5 * c) 1 rfl) ?_
  refine AT.scr M_378 rfl rfl (by rw [hx]; omega) (by rw [hx]; omega) ?_
  rw [hx]
  refine AT.aload_n M_378 rfl rfl ?_
  refine AT.iload M_378 rfl rfl ?_
  refine AT.iconst M_378 rfl (v := 2) (by decide) ?_
  refine AT.iadd M_378 rfl (i32_at (5 * c) 2 rfl) ?_
  refine AT.scr M_378 rfl rfl (by rw [hx]; omega) (by rw [hx]; omega) ?_
  rw [hx]
  refine AT.cv3u M_378 rfl M_299 rfl (Nat.le_of_ble_eq_true rfl) (xKd.of sh_mod) (by decide) hm (fun Z hc1893 => ?_) (Nat.le_of_ble_eq_true rfl) rfl
  obtain ⟨hT, hO, hR⟩ := hc1893
  refine AT.ist6 M_378 rfl rfl ?_
  refine AT.aload_n M_378 rfl rfl ?_
  refine AT.cv1i M_378 rfl M_232 rfl (Nat.le_of_ble_eq_true rfl) (xKd.of sh_mod) (by decide) (c_232 (X := Z)) ?_ (Nat.le_of_ble_eq_true rfl) rfl
  refine AT.iload M_378 rfl rfl ?_
  refine AT.icmp_eq M_378 rfl (fun b1898 => ?_) (fun b1898 => absurd hT b1898)
  refine AT.iload M_378 rfl rfl ?_
  refine AT.if_ne M_378 rfl (fun b1902 => ?_) (fun b1902 => ?_)
  · refine AT.goto M_378 rfl ?_
    exact hk _ _ _ _ _ hR
  · refine AT.aload_n M_378 rfl rfl ?_
    refine AT.iconst M_378 rfl (v := 0) (by decide) ?_
    refine AT.out M_378 rfl rfl ?_
    refine AT.iload M_378 rfl rfl ?_
    refine AT.i2l M_378 rfl ?_
    rw [hO (Classical.not_not.mp b1902)]
    refine AT.lcmp M_378 rfl ?_
    refine AT.if_eq M_378 rfl (fun b1909 => ?_) (fun b1909 => absurd (lg_self _) b1909)
    refine AT.goto M_378 rfl ?_
    exact hk _ _ _ _ _ hR
set_option maxRecDepth 100000 in
theorem b_50 {X : XS} {c : Nat} {R : XS → Prop} {Q : PO → XS → Prop} {x5 x6 x7 x8 : Option Value} (hc5 : 5 * c + 5 ≤ (xC X).1) (hL : (xC X).1 ≤ 2560) (h : qPair 369 301 [some (.ref 1), some (.int ((xC X).2 (5 * c + 1))), some (.int ((xC X).2 (5 * c + 2))), some (.ref 511), none] [some (.ref 388), some (.int ((xC X).2 (5 * c + 1))), some (.int ((xC X).2 (5 * c + 2)))] X R) (hk : ∀ Z y5 y6 y7 y8, R Z → AT 378 2335 (qLoc c y5 y6 y7 y8) [] Z Q) : AT 378 1913 (qLoc c x5 x6 x7 x8) [] X Q := by
  obtain ⟨k, hw⟩ := h
  refine AT.aload_n M_378 rfl rfl ?_
  refine AT.aload_n M_378 rfl rfl ?_
  refine AT.iload M_378 rfl rfl ?_
  refine AT.iconst M_378 rfl (v := 1) (by decide) ?_
  refine AT.iadd M_378 rfl (i32_at (5 * c) 1 rfl) ?_
  refine AT.scr M_378 rfl rfl (by omega) (by omega) ?_
  refine AT.aload_n M_378 rfl rfl ?_
  refine AT.iload M_378 rfl rfl ?_
  refine AT.iconst M_378 rfl (v := 2) (by decide) ?_
  refine AT.iadd M_378 rfl (i32_at (5 * c) 2 rfl) ?_
  refine AT.scr M_378 rfl rfl (by omega) (by omega) ?_
  refine AT.aload_n M_378 rfl rfl ?_
  refine AT.cs4u M_378 rfl M_369 rfl (Nat.le_of_ble_eq_true rfl) rfl hw (fun Y hc1925 => ?_) (Nat.le_of_ble_eq_true rfl) rfl
  obtain ⟨hx, b, hm⟩ := hc1925
  refine AT.ist5 M_378 rfl rfl ?_
  refine AT.aload_n M_378 rfl rfl ?_
  refine AT.aload_n M_378 rfl rfl ?_
  refine AT.iload M_378 rfl rfl ?_
  refine AT.iconst M_378 rfl (v := 1) (by decide) ?_
  refine AT.iadd M_378 rfl (i32_at (5 * c) 1 rfl) ?_
  refine AT.scr M_378 rfl rfl (by rw [hx]; omega) (by rw [hx]; omega) ?_
  rw [hx]
  refine AT.aload_n M_378 rfl rfl ?_
  refine AT.iload M_378 rfl rfl ?_
  refine AT.iconst M_378 rfl (v := 2) (by decide) ?_
  refine AT.iadd M_378 rfl (i32_at (5 * c) 2 rfl) ?_
  refine AT.scr M_378 rfl rfl (by rw [hx]; omega) (by rw [hx]; omega) ?_
  rw [hx]
  refine AT.cv3u M_378 rfl M_301 rfl (Nat.le_of_ble_eq_true rfl) (xKd.of sh_mod) (by decide) hm (fun Z hc1938 => ?_) (Nat.le_of_ble_eq_true rfl) rfl
  obtain ⟨hT, hO, hR⟩ := hc1938
  refine AT.ist6 M_378 rfl rfl ?_
  refine AT.aload_n M_378 rfl rfl ?_
  refine AT.cv1i M_378 rfl M_232 rfl (Nat.le_of_ble_eq_true rfl) (xKd.of sh_mod) (by decide) (c_232 (X := Z)) ?_ (Nat.le_of_ble_eq_true rfl) rfl
  refine AT.iload M_378 rfl rfl ?_
  refine AT.icmp_eq M_378 rfl (fun b1943 => ?_) (fun b1943 => absurd hT b1943)
  refine AT.iload M_378 rfl rfl ?_
  refine AT.if_ne M_378 rfl (fun b1947 => ?_) (fun b1947 => ?_)
  · refine AT.goto M_378 rfl ?_
    exact hk _ _ _ _ _ hR
  · refine AT.aload_n M_378 rfl rfl ?_
    refine AT.iconst M_378 rfl (v := 0) (by decide) ?_
    refine AT.out M_378 rfl rfl ?_
    refine AT.iload M_378 rfl rfl ?_
    refine AT.i2l M_378 rfl ?_
    rw [hO (Classical.not_not.mp b1947)]
    refine AT.lcmp M_378 rfl ?_
    refine AT.if_eq M_378 rfl (fun b1954 => ?_) (fun b1954 => absurd (lg_self _) b1954)
    refine AT.goto M_378 rfl ?_
    exact hk _ _ _ _ _ hR
