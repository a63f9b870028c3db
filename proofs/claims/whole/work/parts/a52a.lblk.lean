/-! ===== THE LAW: one call of each ===== -/
theorem i32_at (n k : Nat) {y : Int32} (hy : y = Int32.ofNat k) : Int32.ofNat n + y = Int32.ofNat (n + k) := by rw [hy, Int32.ofNat_add]
theorem lg_self (x : Int64) : lg_cmp x x = 0 := by
  unfold lg_cmp
  rw [if_neg Int64.lt_irrefl, if_pos rfl]
/-- the class's wrapper w and the twin's method m, one behind the other, come to the same -/
def qPair (w m : Nat) (ew em : PV) (X : XS) (R : XS → Prop) : Prop := ∃ k : Int32, RU w ew X (some (.int k)) (fun Y => xC Y = xC X ∧ ∃ b : Int32, RU m em Y (some (.int b)) (fun Z => xT Z = k ∧ (k = 0 → xO Z = b.toInt64) ∧ R Z))
def qPairB (w m : Nat) (ew em : PV) (X : XS) (R : XS → Prop) : Prop := ∃ k : Int32, RU w ew X (some (.int k)) (fun Y => xC Y = xC X ∧ ∃ b : Int32, RU m em Y (some (.int b)) (fun Z => xT Z = k ∧ (k = 0 → (b = 0 ∨ b = 1) ∧ xO Z = b.toInt64) ∧ R Z))
/-- methods that throw nothing -/
def qSame (w m : Nat) (ew em : PV) (X : XS) (R : XS → Prop) : Prop := ∃ v : Value, RU w ew X (some v) (fun Y => RU m em Y (some v) R)
def qLoc (c : Nat) (x5 x6 x7 x8 : Option Value) : PV := [some (.ref 0), some (.ref 1), some (.ref 388), some (.ref 511), some (.int (Int32.ofNat (5 * c))), x5, x6, x7, x8]
set_option maxRecDepth 100000 in
theorem b_0 {X : XS} {c : Nat} {R : XS → Prop} {Q : PO → XS → Prop} {x5 x6 x7 x8 : Option Value} (hc5 : 5 * c + 5 ≤ (xC X).1) (hL : (xC X).1 ≤ 2560) (h : qPair 322 242 [some (.ref 1), some (.int ((xC X).2 (5 * c + 1))), some (.ref 511), none] [some (.ref 388), some (.int ((xC X).2 (5 * c + 1)))] X R) (hk : ∀ Z y5 y6 y7 y8, R Z → AT 378 2335 (qLoc c y5 y6 y7 y8) [] Z Q) : AT 378 25 (qLoc c x5 x6 x7 x8) [] X Q := by
  obtain ⟨k, hw⟩ := h
  refine AT.aload_n M_378 rfl rfl ?_
  refine AT.aload_n M_378 rfl rfl ?_
  refine AT.iload M_378 rfl rfl ?_
  refine AT.iconst M_378 rfl (v := 1) (by decide) ?_
  refine AT.iadd M_378 rfl (i32_at (5 * c) 1 rfl) ?_
  refine AT.scr M_378 rfl rfl (by omega) (by omega) ?_
  refine AT.aload_n M_378 rfl rfl ?_
  refine AT.cs3u M_378 rfl M_322 rfl (Nat.le_of_ble_eq_true rfl) rfl hw (fun Y hc32 => ?_) (Nat.le_of_ble_eq_true rfl) rfl
  obtain ⟨hx, b, hm⟩ := hc32
  refine AT.ist5 M_378 rfl rfl ?_
  refine AT.aload_n M_378 rfl rfl ?_
  refine AT.aload_n M_378 rfl rfl ?_
  refine AT.iload M_378 rfl rfl ?_
  refine AT.iconst M_378 rfl (v := 1) (by decide) ?_
  refine AT.iadd M_378 rfl (i32_at (5 * c) 1 rfl) ?_
  refine AT.scr M_378 rfl rfl (by rw [hx]; omega) (by rw [hx]; omega) ?_
  rw [hx]
  refine AT.cv2u M_378 rfl M_242 rfl (Nat.le_of_ble_eq_true rfl) (xKd.of sh_mod) (by decide) hm (fun Z hc40 => ?_) (Nat.le_of_ble_eq_true rfl) rfl
  obtain ⟨hT, hO, hR⟩ := hc40
  refine AT.ist6 M_378 rfl rfl ?_
  refine AT.aload_n M_378 rfl rfl ?_
  refine AT.cv1i M_378 rfl M_232 rfl (Nat.le_of_ble_eq_true rfl) (xKd.of sh_mod) (by decide) (c_232 (X := Z)) ?_ (Nat.le_of_ble_eq_true rfl) rfl
  refine AT.iload M_378 rfl rfl ?_
  refine AT.icmp_eq M_378 rfl (fun b45 => ?_) (fun b45 => absurd hT b45)
  refine AT.iload M_378 rfl rfl ?_
  refine AT.if_ne M_378 rfl (fun b49 => ?_) (fun b49 => ?_)
  · refine AT.goto M_378 rfl ?_
    exact hk _ _ _ _ _ hR
  · refine AT.aload_n M_378 rfl rfl ?_
    refine AT.iconst M_378 rfl (v := 0) (by decide) ?_
    refine AT.out M_378 rfl rfl ?_
    refine AT.iload M_378 rfl rfl ?_
    refine AT.i2l M_378 rfl ?_
    rw [hO (Classical.not_not.mp b49)]
    refine AT.lcmp M_378 rfl ?_
    refine AT.if_eq M_378 rfl (fun b56 => ?_) (fun b56 => absurd (lg_self _) b56)
    refine AT.goto M_378 rfl ?_
    exact hk _ _ _ _ _ hR
set_option maxRecDepth 100000 in
theorem b_1 {X : XS} {c : Nat} {R : XS → Prop} {Q : PO → XS → Prop} {x5 x6 x7 x8 : Option Value} (hc5 : 5 * c + 5 ≤ (xC X).1) (hL : (xC X).1 ≤ 2560) (h : qPair 323 243 [some (.ref 1), some (.int ((xC X).2 (5 * c + 1))), some (.ref 511), none] [some (.ref 388), some (.int ((xC X).2 (5 * c + 1)))] X R) (hk : ∀ Z y5 y6 y7 y8, R Z → AT 378 2335 (qLoc c y5 y6 y7 y8) [] Z Q) : AT 378 60 (qLoc c x5 x6 x7 x8) [] X Q := by
  obtain ⟨k, hw⟩ := h
  refine AT.aload_n M_378 rfl rfl ?_
  refine AT.aload_n M_378 rfl rfl ?_
  refine AT.iload M_378 rfl rfl ?_
  refine AT.iconst M_378 rfl (v := 1) (by decide) ?_
  refine AT.iadd M_378 rfl (i32_at (5 * c) 1 rfl) ?_
  refine AT.scr M_378 rfl rfl (by omega) (by omega) ?_
  refine AT.aload_n M_378 rfl rfl ?_
  refine AT.cs3u M_378 rfl M_323 rfl (Nat.le_of_ble_eq_true rfl) rfl hw (fun Y hc67 => ?_) (Nat.le_of_ble_eq_true rfl) rfl
  obtain ⟨hx, b, hm⟩ := hc67
  refine AT.ist5 M_378 rfl rfl ?_
  refine AT.aload_n M_378 rfl rfl ?_
  refine AT.aload_n M_378 rfl rfl ?_
  refine AT.iload M_378 rfl rfl ?_
  refine AT.iconst M_378 rfl (v := 1) (by decide) ?_
  refine AT.iadd M_378 rfl (i32_at (5 * c) 1 rfl) ?_
  refine AT.scr M_378 rfl rfl (by rw [hx]; omega) (by rw [hx]; omega) ?_
  rw [hx]
  refine AT.cv2u M_378 rfl M_243 rfl (Nat.le_of_ble_eq_true rfl) (xKd.of sh_mod) (by decide) hm (fun Z hc75 => ?_) (Nat.le_of_ble_eq_true rfl) rfl
  obtain ⟨hT, hO, hR⟩ := hc75
  refine AT.ist6 M_378 rfl rfl ?_
  refine AT.aload_n M_378 rfl rfl ?_
  refine AT.cv1i M_378 rfl M_232 rfl (Nat.le_of_ble_eq_true rfl) (xKd.of sh_mod) (by decide) (c_232 (X := Z)) ?_ (Nat.le_of_ble_eq_true rfl) rfl
  refine AT.iload M_378 rfl rfl ?_
  refine AT.icmp_eq M_378 rfl (fun b80 => ?_) (fun b80 => absurd hT b80)
  refine AT.iload M_378 rfl rfl ?_
  refine AT.if_ne M_378 rfl (fun b84 => ?_) (fun b84 => ?_)
  · refine AT.goto M_378 rfl ?_
    exact hk _ _ _ _ _ hR
  · refine AT.aload_n M_378 rfl rfl ?_
    refine AT.iconst M_378 rfl (v := 0) (by decide) ?_
    refine AT.out M_378 rfl rfl ?_
    refine AT.iload M_378 rfl rfl ?_
    refine AT.i2l M_378 rfl ?_
    rw [hO (Classical.not_not.mp b84)]
    refine AT.lcmp M_378 rfl ?_
    refine AT.if_eq M_378 rfl (fun b91 => ?_) (fun b91 => absurd (lg_self _) b91)
    refine AT.goto M_378 rfl ?_
    exact hk _ _ _ _ _ hR
set_option maxRecDepth 100000 in
theorem b_2 {X : XS} {c : Nat} {R : XS → Prop} {Q : PO → XS → Prop} {x5 x6 x7 x8 : Option Value} (hc5 : 5 * c + 5 ≤ (xC X).1) (hL : (xC X).1 ≤ 2560) (h : qPair 324 244 [some (.ref 1), some (.int ((xC X).2 (5 * c + 1))), some (.ref 511), none] [some (.ref 388), some (.int ((xC X).2 (5 * c + 1)))] X R) (hk : ∀ Z y5 y6 y7 y8, R Z → AT 378 2335 (qLoc c y5 y6 y7 y8) [] Z Q) : AT 378 95 (qLoc c x5 x6 x7 x8) [] X Q := by
  obtain ⟨k, hw⟩ := h
  refine AT.aload_n M_378 rfl rfl ?_
  refine AT.aload_n M_378 rfl rfl ?_
  refine AT.iload M_378 rfl rfl ?_
  refine AT.iconst M_378 rfl (v := 1) (by decide) ?_
  refine AT.iadd M_378 rfl (i32_at (5 * c) 1 rfl) ?_
  refine AT.scr M_378 rfl rfl (by omega) (by omega) ?_
  refine AT.aload_n M_378 rfl rfl ?_
  refine AT.cs3u M_378 rfl M_324 rfl (Nat.le_of_ble_eq_true rfl) rfl hw (fun Y hc102 => ?_) (Nat.le_of_ble_eq_true rfl) rfl
  obtain ⟨hx, b, hm⟩ := hc102
  refine AT.ist5 M_378 rfl rfl ?_
  refine AT.aload_n M_378 rfl rfl ?_
  refine AT.aload_n M_378 rfl rfl ?_
  refine AT.iload M_378 rfl rfl ?_
  refine AT.iconst M_378 rfl (v := 1) (by decide) ?_
  refine AT.iadd M_378 rfl (i32_at (5 * c) 1 rfl) ?_
  refine AT.scr M_378 rfl rfl (by rw [hx]; omega) (by rw [hx]; omega) ?_
  rw [hx]
  refine AT.cv2u M_378 rfl M_244 rfl (Nat.le_of_ble_eq_true rfl) (xKd.of sh_mod) (by decide) hm (fun Z hc110 => ?_) (Nat.le_of_ble_eq_true rfl) rfl
  obtain ⟨hT, hO, hR⟩ := hc110
  refine AT.ist6 M_378 rfl rfl ?_
  refine AT.aload_n M_378 rfl rfl ?_
  refine AT.cv1i M_378 rfl M_232 rfl (Nat.le_of_ble_eq_true rfl) (xKd.of sh_mod) (by decide) (c_232 (X := Z)) ?_ (Nat.le_of_ble_eq_true rfl) rfl
  refine AT.iload M_378 rfl rfl ?_
  refine AT.icmp_eq M_378 rfl (fun b115 => ?_) (fun b115 => absurd hT b115)
  refine AT.iload M_378 rfl rfl ?_
  refine AT.if_ne M_378 rfl (fun b119 => ?_) (fun b119 => ?_)
  · refine AT.goto M_378 rfl ?_
    exact hk _ _ _ _ _ hR
  · refine AT.aload_n M_378 rfl rfl ?_
    refine AT.iconst M_378 rfl (v := 0) (by decide) ?_
    refine AT.out M_378 rfl rfl ?_
    refine AT.iload M_378 rfl rfl ?_
    refine AT.i2l M_378 rfl ?_
    rw [hO (Classical.not_not.mp b119)]
    refine AT.lcmp M_378 rfl ?_
    refine AT.if_eq M_378 rfl (fun b126 => ?_) (fun b126 => absurd (lg_self _) b126)
    refine AT.goto M_378 rfl ?_
    exact hk _ _ _ _ _ hR
set_option maxRecDepth 100000 in
theorem b_3 {X : XS} {c : Nat} {R : XS → Prop} {Q : PO → XS → Prop} {x5 x6 x7 x8 : Option Value} (hc5 : 5 * c + 5 ≤ (xC X).1) (hL : (xC X).1 ≤ 2560) (h : qPair 325 246 [some (.ref 1), some (.int ((xC X).2 (5 * c + 1))), some (.int ((xC X).2 (5 * c + 2))), some (.ref 511), none] [some (.ref 388), some (.int ((xC X).2 (5 * c + 1))), some (.int ((xC X).2 (5 * c + 2)))] X R) (hk : ∀ Z y5 y6 y7 y8, R Z → AT 378 2335 (qLoc c y5 y6 y7 y8) [] Z Q) : AT 378 130 (qLoc c x5 x6 x7 x8) [] X Q := by
  obtain ⟨k, hw⟩ := h
  refine AT.aload_n M_378 rfl rfl ?_
  refine AT.aload_n M_378 rfl rfl ?_
  refine AT.iload M_378 rfl rfl ?_
  refine AT.iconst M_378 rfl (v := 1) (by decide) ?_
  refine AT.iadd M_378 rfl (i32_at (5 * c) 1 rfl) ?_
  refine AT.scr M_378 rfl rfl (by omega) (by omega) ?_
  refine AT.aload_n M_378 rfl rfl ?_
  refine AT.iload M_378 rfl rfl ?_
  refine AT.iconst M_378 rfl (v := 2) (by decide) ?_
  refine AT.iadd M_378 rfl (i32_at (5 * c) 2 rfl) ?_
  refine AT.scr M_378 rfl rfl (by omega) (by omega) ?_
  refine AT.aload_n M_378 rfl rfl ?_
  refine AT.cs4u M_378 rfl M_325 rfl (Nat.le_of_ble_eq_true rfl) rfl hw (fun Y hc142 => ?_) (Nat.le_of_ble_eq_true rfl) rfl
  obtain ⟨hx, b, hm⟩ := hc142
  refine AT.ist5 M_378 rfl rfl ?_
  refine AT.aload_n M_378 rfl rfl ?_
  refine AT.aload_n M_378 rfl rfl ?_
  refine AT.iload M_378 rfl rfl ?_
  refine AT.iconst M_378 rfl (v := 1) (by decide) ?_
  refine AT.iadd M_378 rfl (i32_at (5 * c) 1 rfl) ?_
  refine AT.scr M_378 rfl rfl (by rw [hx]; omega) (by rw [hx]; omega) ?_
  rw [hx]
  refine AT.aload_n M_378 rfl rfl ?_
  refine AT.iload M_378 rfl rfl ?_
  refine AT.iconst M_378 rfl (v := 2) (by decide) ?_
  refine AT.iadd M_378 rfl (i32_at (5 * c) 2 rfl) ?_
  refine AT.scr M_378 rfl rfl (by rw [hx]; omega) (by rw [hx]; omega) ?_
  rw [hx]
  refine AT.cv3u M_378 rfl M_246 rfl (Nat.le_of_ble_eq_true rfl) (xKd.of sh_mod) (by decide) hm (fun Z hc155 => ?_) (Nat.le_of_ble_eq_true rfl) rfl
  obtain ⟨hT, hO, hR⟩ := hc155
  refine AT.ist6 M_378 rfl rfl ?_
  refine AT.aload_n M_378 rfl rfl ?_
  refine AT.cv1i M_378 rfl M_232 rfl (Nat.le_of_ble_eq_true rfl) (xKd.of sh_mod) (by decide) (c_232 (X := Z)) ?_ (Nat.le_of_ble_eq_true rfl) rfl
  refine AT.iload M_378 rfl rfl ?_
  refine AT.icmp_eq M_378 rfl (fun b160 => ?_) (fun b160 => absurd hT b160)
  refine AT.iload M_378 rfl rfl ?_
  refine AT.if_ne M_378 rfl (fun b164 => ?_) (fun b164 => ?_)
  · refine AT.goto M_378 rfl ?_
    exact hk _ _ _ _ _ hR
  · refine AT.aload_n M_378 rfl rfl ?_
    refine AT.iconst M_378 rfl (v := 0) (by decide) ?_
    refine AT.out M_378 rfl rfl ?_
    refine AT.iload M_378 rfl rfl ?_
    refine AT.i2l M_378 rfl ?_
    rw [hO (Classical.not_not.mp b164)]
    refine AT.lcmp M_378 rfl ?_
    refine AT.if_eq M_378 rfl (fun b171 => ?_) (fun b171 => absurd (lg_self _) b171)
    refine AT.goto M_378 rfl ?_
    exact hk _ _ _ _ _ hR
set_option maxRecDepth 100000 in
theorem b_4 {X : XS} {c : Nat} {R : XS → Prop} {Q : PO → XS → Prop} {x5 x6 x7 x8 : Option Value} (hc5 : 5 * c + 5 ≤ (xC X).1) (hL : (xC X).1 ≤ 2560) (h : qPair 326 247 [some (.ref 1), some (.int ((xC X).2 (5 * c + 1))), some (.int ((xC X).2 (5 * c + 2))), some (.ref 511), none] [some (.ref 388), some (.int ((xC X).2 (5 * c + 1))), some (.int ((xC X).2 (5 * c + 2)))] X R) (hk : ∀ Z y5 y6 y7 y8, R Z → AT 378 2335 (qLoc c y5 y6 y7 y8) [] Z Q) : AT 378 175 (qLoc c x5 x6 x7 x8) [] X Q := by
  obtain ⟨k, hw⟩ := h
  refine AT.aload_n M_378 rfl rfl ?_
  refine AT.aload_n M_378 rfl rfl ?_
  refine AT.iload M_378 rfl rfl ?_
  refine AT.iconst M_378 rfl (v := 1) (by decide) ?_
  refine AT.iadd M_378 rfl (i32_at (5 * c) 1 rfl) ?_
  refine AT.scr M_378 rfl rfl (by omega) (by omega) ?_
  refine AT.aload_n M_378 rfl rfl ?_
  refine AT.iload M_378 rfl rfl ?_
  refine AT.iconst M_378 rfl (v := 2) (by decide) ?_
  refine AT.iadd M_378 rfl (i32_at (5 * c) 2 rfl) ?_
  refine AT.scr M_378 rfl rfl (by omega) (by omega) ?_
  refine AT.aload_n M_378 rfl rfl ?_
  refine AT.cs4u M_378 rfl M_326 rfl (Nat.le_of_ble_eq_true rfl) rfl hw (fun Y hc187 => ?_) (Nat.le_of_ble_eq_true rfl) rfl
  obtain ⟨hx, b, hm⟩ := hc187
  refine AT.ist5 M_378 rfl rfl ?_
  refine AT.aload_n M_378 rfl rfl ?_
  refine AT.aload_n M_378 rfl rfl ?_
  refine AT.iload M_378 rfl rfl ?_
  refine AT.iconst M_378 rfl (v := 1) (by decide) ?_
  refine AT.iadd M_378 rfl (i32_at (5 * c) 1 rfl) ?_
  refine AT.scr M_378 rfl rfl (by rw [hx]; omega) (by rw [hx]; omega) ?_
  rw [hx]
  refine AT.aload_n M_378 rfl rfl ?_
  refine AT.iload M_378 rfl rfl ?_
  refine AT.iconst M_378 rfl (v := 2) (by decide) ?_
  refine AT.iadd M_378 rfl (i32_at (5 * c) 2 rfl) ?_
  refine AT.scr M_378 rfl rfl (by rw [hx]; omega) (by rw [hx]; omega) ?_
  rw [hx]
  refine AT.cv3u M_378 rfl M_247 rfl (Nat.le_of_ble_eq_true rfl) (xKd.of sh_mod) (by decide) hm (fun Z hc200 => ?_) (Nat.le_of_ble_eq_true rfl) rfl
  obtain ⟨hT, hO, hR⟩ := hc200
  refine AT.ist6 M_378 rfl rfl ?_
  refine AT.aload_n M_378 rfl rfl ?_
  refine AT.cv1i M_378 rfl M_232 rfl (Nat.le_of_ble_eq_true rfl) (xKd.of sh_mod) (by decide) (c_232 (X := Z)) ?_ (Nat.le_of_ble_eq_true rfl) rfl
  refine AT.iload M_378 rfl rfl ?_
  refine AT.icmp_eq M_378 rfl (fun b205 => ?_) (fun b205 => absurd hT b205)
  refine AT.iload M_378 rfl rfl ?_
  refine AT.if_ne M_378 rfl (fun b209 => ?_) (fun b209 => ?_)
  · refine AT.goto M_378 rfl ?_
    exact hk _ _ _ _ _ hR
  · refine AT.aload_n M_378 rfl rfl ?_
    refine AT.iconst M_378 rfl (v := 0) (by decide) ?_
    refine AT.out M_378 rfl rfl ?_
    refine AT.iload M_378 rfl rfl ?_
    refine AT.i2l M_378 rfl ?_
    rw [hO (Classical.not_not.mp b209)]
    refine AT.lcmp M_378 rfl ?_
    refine AT.if_eq M_378 rfl (fun b216 => ?_) (fun b216 => absurd (lg_self _) b216)
    refine AT.goto M_378 rfl ?_
    exact hk _ _ _ _ _ hR
set_option maxRecDepth 100000 in
theorem b_5 {X : XS} {c : Nat} {R : XS → Prop} {Q : PO → XS → Prop} {x5 x6 x7 x8 : Option Value} (hc5 : 5 * c + 5 ≤ (xC X).1) (hL : (xC X).1 ≤ 2560) (h : qPair 327 248 [some (.ref 1), some (.int ((xC X).2 (5 * c + 1))), some (.ref 511), none] [some (.ref 388), some (.int ((xC X).2 (5 * c + 1))), none, none] X R) (hk : ∀ Z y5 y6 y7 y8, R Z → AT 378 2335 (qLoc c y5 y6 y7 y8) [] Z Q) : AT 378 220 (qLoc c x5 x6 x7 x8) [] X Q := by
  obtain ⟨k, hw⟩ := h
  refine AT.aload_n M_378 rfl rfl ?_
  refine AT.aload_n M_378 rfl rfl ?_
  refine AT.iload M_378 rfl rfl ?_
  refine AT.iconst M_378 rfl (v := 1) (by decide) ?_
  refine AT.iadd M_378 rfl (i32_at (5 * c) 1 rfl) ?_
  refine AT.scr M_378 rfl rfl (by omega) (by omega) ?_
  refine AT.aload_n M_378 rfl rfl ?_
  refine AT.cs3u M_378 rfl M_327 rfl (Nat.le_of_ble_eq_true rfl) rfl hw (fun Y hc227 => ?_) (Nat.le_of_ble_eq_true rfl) rfl
  obtain ⟨hx, b, hm⟩ := hc227
  refine AT.ist5 M_378 rfl rfl ?_
  refine AT.aload_n M_378 rfl rfl ?_
  refine AT.aload_n M_378 rfl rfl ?_
  refine AT.iload M_378 rfl rfl ?_
  refine AT.iconst M_378 rfl (v := 1) (by decide) ?_
  refine AT.iadd M_378 rfl (i32_at (5 * c) 1 rfl) ?_
  refine AT.scr M_378 rfl rfl (by rw [hx]; omega) (by rw [hx]; omega) ?_
  rw [hx]
  refine AT.cv2u M_378 rfl M_248 rfl (Nat.le_of_ble_eq_true rfl) (xKd.of sh_mod) (by decide) hm (fun Z hc235 => ?_) (Nat.le_of_ble_eq_true rfl) rfl
  obtain ⟨hT, hO, hR⟩ := hc235
  refine AT.ist6 M_378 rfl rfl ?_
  refine AT.aload_n M_378 rfl rfl ?_
  refine AT.cv1i M_378 rfl M_232 rfl (Nat.le_of_ble_eq_true rfl) (xKd.of sh_mod) (by decide) (c_232 (X := Z)) ?_ (Nat.le_of_ble_eq_true rfl) rfl
  refine AT.iload M_378 rfl rfl ?_
  refine AT.icmp_eq M_378 rfl (fun b240 => ?_) (fun b240 => absurd hT b240)
  refine AT.iload M_378 rfl rfl ?_
  refine AT.if_ne M_378 rfl (fun b244 => ?_) (fun b244 => ?_)
  · refine AT.goto M_378 rfl ?_
    exact hk _ _ _ _ _ hR
  · refine AT.aload_n M_378 rfl rfl ?_
    refine AT.iconst M_378 rfl (v := 0) (by decide) ?_
    refine AT.out M_378 rfl rfl ?_
    refine AT.iload M_378 rfl rfl ?_
    refine AT.i2l M_378 rfl ?_
    rw [hO (Classical.not_not.mp b244)]
    refine AT.lcmp M_378 rfl ?_
    refine AT.if_eq M_378 rfl (fun b251 => ?_) (fun b251 => absurd (lg_self _) b251)
    refine AT.goto M_378 rfl ?_
    exact hk _ _ _ _ _ hR
set_option maxRecDepth 100000 in
theorem b_6 {X : XS} {c : Nat} {R : XS → Prop} {Q : PO → XS → Prop} {x5 x6 x7 x8 : Option Value} (hc5 : 5 * c + 5 ≤ (xC X).1) (hL : (xC X).1 ≤ 2560) (h : qPair 328 249 [some (.ref 1), some (.int ((xC X).2 (5 * c + 1))), some (.ref 511), none] [some (.ref 388), some (.int ((xC X).2 (5 * c + 1)))] X R) (hk : ∀ Z y5 y6 y7 y8, R Z → AT 378 2335 (qLoc c y5 y6 y7 y8) [] Z Q) : AT 378 255 (qLoc c x5 x6 x7 x8) [] X Q := by
  obtain ⟨k, hw⟩ := h
  refine AT.aload_n M_378 rfl rfl ?_
  refine AT.aload_n M_378 rfl rfl ?_
  refine AT.iload M_378 rfl rfl ?_
  refine AT.iconst M_378 rfl (v := 1) (by decide) ?_
  refine AT.iadd M_378 rfl (i32_at (5 * c) 1 rfl) ?_
  refine AT.scr M_378 rfl rfl (by omega) (by omega) ?_
  refine AT.aload_n M_378 rfl rfl ?_
  refine AT.cs3u M_378 rfl M_328 rfl (Nat.le_of_ble_eq_true rfl) rfl hw (fun Y hc262 => ?_) (Nat.le_of_ble_eq_true rfl) rfl
  obtain ⟨hx, b, hm⟩ := hc262
  refine AT.ist5 M_378 rfl rfl ?_
  refine AT.aload_n M_378 rfl rfl ?_
  refine AT.aload_n M_378 rfl rfl ?_
  refine AT.iload M_378 rfl rfl ?_
  refine AT.iconst M_378 rfl (v := 1) (by decide) ?_
  refine AT.iadd M_378 rfl (i32_at (5 * c) 1 rfl) ?_
  refine AT.scr M_378 rfl rfl (by rw [hx]; omega) (by rw [hx]; omega) ?_
  rw [hx]
  refine AT.cv2u M_378 rfl M_249 rfl (Nat.le_of_ble_eq_true rfl) (xKd.of sh_mod) (by decide) hm (fun Z hc270 => ?_) (Nat.le_of_ble_eq_true rfl) rfl
  obtain ⟨hT, hO, hR⟩ := hc270
  refine AT.ist6 M_378 rfl rfl ?_
  refine AT.aload_n M_378 rfl rfl ?_
  refine AT.cv1i M_378 rfl M_232 rfl (Nat.le_of_ble_eq_true rfl) (xKd.of sh_mod) (by decide) (c_232 (X := Z)) ?_ (Nat.le_of_ble_eq_true rfl) rfl
  refine AT.iload M_378 rfl rfl ?_
  refine AT.icmp_eq M_378 rfl (fun b275 => ?_) (fun b275 => absurd hT b275)
  refine AT.iload M_378 rfl rfl ?_
  refine AT.if_ne M_378 rfl (fun b279 => ?_) (fun b279 => ?_)
  · refine AT.goto M_378 rfl ?_
    exact hk _ _ _ _ _ hR
  · refine AT.aload_n M_378 rfl rfl ?_
    refine AT.iconst M_378 rfl (v := 0) (by decide) ?_
    refine AT.out M_378 rfl rfl ?_
    refine AT.iload M_378 rfl rfl ?_
    refine AT.i2l M_378 rfl ?_
    rw [hO (Classical.not_not.mp b279)]
    refine AT.lcmp M_378 rfl ?_
    refine AT.if_eq M_378 rfl (fun b286 => ?_) (fun b286 => absurd (lg_self _) b286)
    refine AT.goto M_378 rfl ?_
    exact hk _ _ _ _ _ hR
set_option maxRecDepth 100000 in
theorem b_7 {X : XS} {c : Nat} {R : XS → Prop} {Q : PO → XS → Prop} {x5 x6 x7 x8 : Option Value} (hc5 : 5 * c + 5 ≤ (xC X).1) (hL : (xC X).1 ≤ 2560) (h : qPair 329 250 [some (.ref 1), some (.int ((xC X).2 (5 * c + 1))), some (.ref 511), none] [some (.ref 388), some (.int ((xC X).2 (5 * c + 1)))] X R) (hk : ∀ Z y5 y6 y7 y8, R Z → AT 378 2335 (qLoc c y5 y6 y7 y8) [] Z Q) : AT 378 290 (qLoc c x5 x6 x7 x8) [] X Q := by
  obtain ⟨k, hw⟩ := h
  refine AT.aload_n M_378 rfl rfl ?_
  refine AT.aload_n M_378 rfl rfl ?_
  refine AT.iload M_378 rfl rfl ?_
  refine AT.iconst M_378 rfl (v := 1) (by decide) ?_
  refine AT.iadd M_378 rfl (i32_at (5 * c) 1 rfl) ?_
  refine AT.scr M_378 rfl rfl (by omega) (by omega) ?_
  refine AT.aload_n M_378 rfl rfl ?_
  refine AT.cs3u M_378 rfl M_329 rfl (Nat.le_of_ble_eq_true rfl) rfl hw (fun Y hc297 => ?_) (Nat.le_of_ble_eq_true rfl) rfl
  obtain ⟨hx, b, hm⟩ := hc297
  refine AT.ist5 M_378 rfl rfl ?_
  refine AT.aload_n M_378 rfl rfl ?_
  refine AT.aload_n M_378 rfl rfl ?_
  refine AT.iload M_378 rfl rfl ?_
  refine AT.iconst M_378 rfl (v := 1) (by decide) ?_
  refine AT.iadd M_378 rfl (i32_at (5 * c) 1 rfl) ?_
  refine AT.scr M_378 rfl rfl (by rw [hx]; omega) (by rw [hx]; omega) ?_
  rw [hx]
  refine AT.cv2u M_378 rfl M_250 rfl (Nat.le_of_ble_eq_true rfl) (xKd.of sh_mod) (by decide) hm (fun Z hc305 => ?_) (Nat.le_of_ble_eq_true rfl) rfl
  obtain ⟨hT, hO, hR⟩ := hc305
  refine AT.ist6 M_378 rfl rfl ?_
  refine AT.aload_n M_378 rfl rfl ?_
  refine AT.cv1i M_378 rfl M_232 rfl (Nat.le_of_ble_eq_true rfl) (xKd.of sh_mod) (by decide) (c_232 (X := Z)) ?_ (Nat.le_of_ble_eq_true rfl) rfl
  refine AT.iload M_378 rfl rfl ?_
  refine AT.icmp_eq M_378 rfl (fun b310 => ?_) (fun b310 => absurd hT b310)
  refine AT.iload M_378 rfl rfl ?_
  refine AT.if_ne M_378 rfl (fun b314 => ?_) (fun b314 => ?_)
  · refine AT.goto M_378 rfl ?_
    exact hk _ _ _ _ _ hR
  · refine AT.aload_n M_378 rfl rfl ?_
    refine AT.iconst M_378 rfl (v := 0) (by decide) ?_
    refine AT.out M_378 rfl rfl ?_
    refine AT.iload M_378 rfl rfl ?_
    refine AT.i2l M_378 rfl ?_
    rw [hO (Classical.not_not.mp b314)]
    refine AT.lcmp M_378 rfl ?_
    refine AT.if_eq M_378 rfl (fun b321 => ?_) (fun b321 => absurd (lg_self _) b321)
    refine AT.goto M_378 rfl ?_
    exact hk _ _ _ _ _ hR
set_option maxRecDepth 100000 in
theorem b_8 {X : XS} {c : Nat} {R : XS → Prop} {Q : PO → XS → Prop} {x5 x6 x7 x8 : Option Value} (hc5 : 5 * c + 5 ≤ (xC X).1) (hL : (xC X).1 ≤ 2560) (h : qPair 330 251 [some (.ref 1), some (.int ((xC X).2 (5 * c + 1))), some (.ref 511), none] [some (.ref 388), some (.int ((xC X).2 (5 * c + 1))), none, none, none, none] X R) (hk : ∀ Z y5 y6 y7 y8, R Z → AT 378 2335 (qLoc c y5 y6 y7 y8) [] Z Q) : AT 378 325 (qLoc c x5 x6 x7 x8) [] X Q := by
  obtain ⟨k, hw⟩ := h
  refine AT.aload_n M_378 rfl rfl ?_
  refine AT.aload_n M_378 rfl rfl ?_
  refine AT.iload M_378 rfl rfl ?_
  refine AT.iconst M_378 rfl (v := 1) (by decide) ?_
  refine AT.iadd M_378 rfl (i32_at (5 * c) 1 rfl) ?_
  refine AT.scr M_378 rfl rfl (by omega) (by omega) ?_
  refine AT.aload_n M_378 rfl rfl ?_
  refine AT.cs3u M_378 rfl M_330 rfl (Nat.le_of_ble_eq_true rfl) rfl hw (fun Y hc332 => ?_) (Nat.le_of_ble_eq_true rfl) rfl
  obtain ⟨hx, b, hm⟩ := hc332
  refine AT.ist5 M_378 rfl rfl ?_
  refine AT.aload_n M_378 rfl rfl ?_
  refine AT.aload_n M_378 rfl rfl ?_
  refine AT.iload M_378 rfl rfl ?_
  refine AT.iconst M_378 rfl (v := 1) (by decide) ?_
  refine AT.iadd M_378 rfl (i32_at (5 * c) 1 rfl) ?_
  refine AT.scr M_378 rfl rfl (by rw [hx]; omega) (by rw [hx]; omega) ?_
  rw [hx]
  refine AT.cv2u M_378 rfl M_251 rfl (Nat.le_of_ble_eq_true rfl) (xKd.of sh_mod) (by decide) hm (fun Z hc340 => ?_) (Nat.le_of_ble_eq_true rfl) rfl
  obtain ⟨hT, hO, hR⟩ := hc340
  refine AT.ist6 M_378 rfl rfl ?_
  refine AT.aload_n M_378 rfl rfl ?_
  refine AT.cv1i M_378 rfl M_232 rfl (Nat.le_of_ble_eq_true rfl) (xKd.of sh_mod) (by decide) (c_232 (X := Z)) ?_ (Nat.le_of_ble_eq_true rfl) rfl
  refine AT.iload M_378 rfl rfl ?_
  refine AT.icmp_eq M_378 rfl (fun b345 => ?_) (fun b345 => absurd hT b345)
  refine AT.iload M_378 rfl rfl ?_
  refine AT.if_ne M_378 rfl (fun b349 => ?_) (fun b349 => ?_)
  · refine AT.goto M_378 rfl ?_
    exact hk _ _ _ _ _ hR
  · refine AT.aload_n M_378 rfl rfl ?_
    refine AT.iconst M_378 rfl (v := 0) (by decide) ?_
    refine AT.out M_378 rfl rfl ?_
    refine AT.iload M_378 rfl rfl ?_
    refine AT.i2l M_378 rfl ?_
    rw [hO (Classical.not_not.mp b349)]
    refine AT.lcmp M_378 rfl ?_
    refine AT.if_eq M_378 rfl (fun b356 => ?_) (fun b356 => absurd (lg_self _) b356)
    refine AT.goto M_378 rfl ?_
    exact hk _ _ _ _ _ hR
set_option maxRecDepth 100000 in
theorem b_9 {X : XS} {c : Nat} {R : XS → Prop} {Q : PO → XS → Prop} {x5 x6 x7 x8 : Option Value} (hc5 : 5 * c + 5 ≤ (xC X).1) (hL : (xC X).1 ≤ 2560) (h : qPair 331 252 [some (.ref 1), some (.int ((xC X).2 (5 * c + 1))), some (.int ((xC X).2 (5 * c + 2))), some (.ref 511), none] [some (.ref 388), some (.int ((xC X).2 (5 * c + 1))), some (.int ((xC X).2 (5 * c + 2)))] X R) (hk : ∀ Z y5 y6 y7 y8, R Z → AT 378 2335 (qLoc c y5 y6 y7 y8) [] Z Q) : AT 378 360 (qLoc c x5 x6 x7 x8) [] X Q := by
  obtain ⟨k, hw⟩ := h
  refine AT.aload_n M_378 rfl rfl ?_
  refine AT.aload_n M_378 rfl rfl ?_
  refine AT.iload M_378 rfl rfl ?_
  refine AT.iconst M_378 rfl (v := 1) (by decide) ?_
  refine AT.iadd M_378 rfl (i32_at (5 * c) 1 rfl) ?_
  refine AT.scr M_378 rfl rfl (by omega) (by omega) ?_
  refine AT.aload_n M_378 rfl rfl ?_
  refine AT.iload M_378 rfl rfl ?_
  refine AT.iconst M_378 rfl (v := 2) (by decide) ?_
  refine AT.iadd M_378 rfl (i32_at (5 * c) 2 rfl) ?_
  refine AT.scr M_378 rfl rfl (by omega) (by omega) ?_
  refine AT.aload_n M_378 rfl rfl ?_
  refine AT.cs4u M_378 rfl M_331 rfl (Nat.le_of_ble_eq_true rfl) rfl hw (fun Y hc372 => ?_) (Nat.le_of_ble_eq_true rfl) rfl
  obtain ⟨hx, b, hm⟩ := hc372
  refine AT.ist5 M_378 rfl rfl ?_
  refine AT.aload_n M_378 rfl rfl ?_
  refine AT.aload_n M_378 rfl rfl ?_
  refine AT.iload M_378 rfl rfl ?_
  refine AT.iconst M_378 rfl (v := 1) (by decide) ?_
  refine AT.iadd M_378 rfl (i32_at (5 * c) 1 rfl) ?_
  refine AT.scr M_378 rfl rfl (by rw [hx]; omega) (by rw [hx]; omega) ?_
  rw [hx]
  refine AT.aload_n M_378 rfl rfl ?_
  refine AT.iload M_378 rfl rfl ?_
  refine AT.iconst M_378 rfl (v := 2) (by decide) ?_
  refine AT.iadd M_378 rfl (i32_at (5 * c) 2 rfl) ?_
  refine AT.scr M_378 rfl rfl (by rw [hx]; omega) (by rw [hx]; omega) ?_
  rw [hx]
  refine AT.cv3u M_378 rfl M_252 rfl (Nat.le_of_ble_eq_true rfl) (xKd.of sh_mod) (by decide) hm (fun Z hc385 => ?_) (Nat.le_of_ble_eq_true rfl) rfl
  obtain ⟨hT, hO, hR⟩ := hc385
  refine AT.ist6 M_378 rfl rfl ?_
  refine AT.aload_n M_378 rfl rfl ?_
  refine AT.cv1i M_378 rfl M_232 rfl (Nat.le_of_ble_eq_true rfl) (xKd.of sh_mod) (by decide) (c_232 (X := Z)) ?_ (Nat.le_of_ble_eq_true rfl) rfl
  refine AT.iload M_378 rfl rfl ?_
  refine AT.icmp_eq M_378 rfl (fun b390 => ?_) (fun b390 => absurd hT b390)
  refine AT.iload M_378 rfl rfl ?_
  refine AT.if_ne M_378 rfl (fun b394 => ?_) (fun b394 => ?_)
  · refine AT.goto M_378 rfl ?_
    exact hk _ _ _ _ _ hR
  · refine AT.aload_n M_378 rfl rfl ?_
    refine AT.iconst M_378 rfl (v := 0) (by decide) ?_
    refine AT.out M_378 rfl rfl ?_
    refine AT.iload M_378 rfl rfl ?_
    refine AT.i2l M_378 rfl ?_
    rw [hO (Classical.not_not.mp b394)]
    refine AT.lcmp M_378 rfl ?_
    refine AT.if_eq M_378 rfl (fun b401 => ?_) (fun b401 => absurd (lg_self _) b401)
    refine AT.goto M_378 rfl ?_
    exact hk _ _ _ _ _ hR
set_option maxRecDepth 100000 in
theorem b_10 {X : XS} {c : Nat} {R : XS → Prop} {Q : PO → XS → Prop} {x5 x6 x7 x8 : Option Value} (hc5 : 5 * c + 5 ≤ (xC X).1) (hL : (xC X).1 ≤ 2560) (h : qPair 332 255 [some (.ref 1), some (.int ((xC X).2 (5 * c + 1))), some (.int ((xC X).2 (5 * c + 2))), some (.ref 511), none] [some (.ref 388), some (.int ((xC X).2 (5 * c + 1))), some (.int ((xC X).2 (5 * c + 2)))] X R) (hk : ∀ Z y5 y6 y7 y8, R Z → AT 378 2335 (qLoc c y5 y6 y7 y8) [] Z Q) : AT 378 405 (qLoc c x5 x6 x7 x8) [] X Q := by
  obtain ⟨k, hw⟩ := h
  refine AT.aload_n M_378 rfl rfl ?_
  refine AT.aload_n M_378 rfl rfl ?_
  refine AT.iload M_378 rfl rfl ?_
  refine AT.iconst M_378 rfl (v := 1) (by decide) ?_
  refine AT.iadd M_378 rfl (i32_at (5 * c) 1 rfl) ?_
  refine AT.scr M_378 rfl rfl (by omega) (by omega) ?_
  refine AT.aload_n M_378 rfl rfl ?_
  refine AT.iload M_378 rfl rfl ?_
  refine AT.iconst M_378 rfl (v := 2) (by decide) ?_
  refine AT.iadd M_378 rfl (i32_at (5 * c) 2 rfl) ?_
  refine AT.scr M_378 rfl rfl (by omega) (by omega) ?_
  refine AT.aload_n M_378 rfl rfl ?_
  refine AT.cs4u M_378 rfl M_332 rfl (Nat.le_of_ble_eq_true rfl) rfl hw (fun Y hc417 => ?_) (Nat.le_of_ble_eq_true rfl) rfl
  obtain ⟨hx, b, hm⟩ := hc417
  refine AT.ist5 M_378 rfl rfl ?_
  refine AT.aload_n M_378 rfl rfl ?_
  refine AT.aload_n M_378 rfl rfl ?_
  refine AT.iload M_378 rfl rfl ?_
  refine AT.iconst M_378 rfl (v := 1) (by decide) ?_
  refine AT.iadd M_378 rfl (i32_at (5 * c) 1 rfl) ?_
  refine AT.scr M_378 rfl rfl (by rw [hx]; omega) (by rw [hx]; omega) ?_
  rw [hx]
  refine AT.aload_n M_378 rfl rfl ?_
  refine AT.iload M_378 rfl rfl ?_
  refine AT.iconst M_378 rfl (v := 2) (by decide) ?_
  refine AT.iadd M_378 rfl (i32_at (5 * c) 2 rfl) ?_
  refine AT.scr M_378 rfl rfl (by rw [hx]; omega) (by rw [hx]; omega) ?_
  rw [hx]
  refine AT.cv3u M_378 rfl M_255 rfl (Nat.le_of_ble_eq_true rfl) (xKd.of sh_mod) (by decide) hm (fun Z hc430 => ?_) (Nat.le_of_ble_eq_true rfl) rfl
  obtain ⟨hT, hO, hR⟩ := hc430
  refine AT.ist6 M_378 rfl rfl ?_
  refine AT.aload_n M_378 rfl rfl ?_
  refine AT.cv1i M_378 rfl M_232 rfl (Nat.le_of_ble_eq_true rfl) (xKd.of sh_mod) (by decide) (c_232 (X := Z)) ?_ (Nat.le_of_ble_eq_true rfl) rfl
  refine AT.iload M_378 rfl rfl ?_
  refine AT.icmp_eq M_378 rfl (fun b435 => ?_) (fun b435 => absurd hT b435)
  refine AT.iload M_378 rfl rfl ?_
  refine AT.if_ne M_378 rfl (fun b439 => ?_) (fun b439 => ?_)
  · refine AT.goto M_378 rfl ?_
    exact hk _ _ _ _ _ hR
  · refine AT.aload_n M_378 rfl rfl ?_
    refine AT.iconst M_378 rfl (v := 0) (by decide) ?_
    refine AT.out M_378 rfl rfl ?_
    refine AT.iload M_378 rfl rfl ?_
    refine AT.i2l M_378 rfl ?_
    rw [hO (Classical.not_not.mp b439)]
    refine AT.lcmp M_378 rfl ?_
    refine AT.if_eq M_378 rfl (fun b446 => ?_) (fun b446 => absurd (lg_self _) b446)
    refine AT.goto M_378 rfl ?_
    exact hk _ _ _ _ _ hR
set_option maxRecDepth 100000 in
theorem b_11 {X : XS} {c : Nat} {R : XS → Prop} {Q : PO → XS → Prop} {x5 x6 x7 x8 : Option Value} (hc5 : 5 * c + 5 ≤ (xC X).1) (hL : (xC X).1 ≤ 2560) (h : qPair 333 256 [some (.ref 1), some (.int ((xC X).2 (5 * c + 1))), some (.int ((xC X).2 (5 * c + 2))), some (.ref 511), none] [some (.ref 388), some (.int ((xC X).2 (5 * c + 1))), some (.int ((xC X).2 (5 * c + 2)))] X R) (hk : ∀ Z y5 y6 y7 y8, R Z → AT 378 2335 (qLoc c y5 y6 y7 y8) [] Z Q) : AT 378 450 (qLoc c x5 x6 x7 x8) [] X Q := by
  obtain ⟨k, hw⟩ := h
  refine AT.aload_n M_378 rfl rfl ?_
  refine AT.aload_n M_378 rfl rfl ?_
  refine AT.iload M_378 rfl rfl ?_
  refine AT.iconst M_378 rfl (v := 1) (by decide) ?_
  refine AT.iadd M_378 rfl (i32_at (5 * c) 1 rfl) ?_
  refine AT.scr M_378 rfl rfl (by omega) (by omega) ?_
  refine AT.aload_n M_378 rfl rfl ?_
  refine AT.iload M_378 rfl rfl ?_
  refine AT.iconst M_378 rfl (v := 2) (by decide) ?_
  refine AT.iadd M_378 rfl (i32_at (5 * c) 2 rfl) ?_
  refine AT.scr M_378 rfl rfl (by omega) (by omega) ?_
  refine AT.aload_n M_378 rfl rfl ?_
  refine AT.cs4u M_378 rfl M_333 rfl (Nat.le_of_ble_eq_true rfl) rfl hw (fun Y hc462 => ?_) (Nat.le_of_ble_eq_true rfl) rfl
  obtain ⟨hx, b, hm⟩ := hc462
  refine AT.ist5 M_378 rfl rfl ?_
  refine AT.aload_n M_378 rfl rfl ?_
  refine AT.aload_n M_378 rfl rfl ?_
  refine AT.iload M_378 rfl rfl ?_
  refine AT.iconst M_378 rfl (v := 1) (by decide) ?_
  refine AT.iadd M_378 rfl (i32_at (5 * c) 1 rfl) ?_
  refine AT.scr M_378 rfl rfl (by rw [hx]; omega) (by rw [hx]; omega) ?_
  rw [hx]
  refine AT.aload_n M_378 rfl rfl ?_
  refine AT.iload M_378 rfl rfl ?_
  refine AT.iconst M_378 rfl (v := 2) (by decide) ?_
  refine AT.iadd M_378 rfl (i32_at (5 * c) 2 rfl) ?_
  refine AT.scr M_378 rfl rfl (by rw [hx]; omega) (by rw [hx]; omega) ?_
  rw [hx]
  refine AT.cv3u M_378 rfl M_256 rfl (Nat.le_of_ble_eq_true rfl) (xKd.of sh_mod) (by decide) hm (fun Z hc475 => ?_) (Nat.le_of_ble_eq_true rfl) rfl
  obtain ⟨hT, hO, hR⟩ := hc475
  refine AT.ist6 M_378 rfl rfl ?_
  refine AT.aload_n M_378 rfl rfl ?_
  refine AT.cv1i M_378 rfl M_232 rfl (Nat.le_of_ble_eq_true rfl) (xKd.of sh_mod) (by decide) (c_232 (X := Z)) ?_ (Nat.le_of_ble_eq_true rfl) rfl
  refine AT.iload M_378 rfl rfl ?_
  refine AT.icmp_eq M_378 rfl (fun b480 => ?_) (fun b480 => absurd hT b480)
  refine AT.iload M_378 rfl rfl ?_
  refine AT.if_ne M_378 rfl (fun b484 => ?_) (fun b484 => ?_)
  · refine AT.goto M_378 rfl ?_
    exact hk _ _ _ _ _ hR
  · refine AT.aload_n M_378 rfl rfl ?_
    refine AT.iconst M_378 rfl (v := 0) (by decide) ?_
    refine AT.out M_378 rfl rfl ?_
    refine AT.iload M_378 rfl rfl ?_
    refine AT.i2l M_378 rfl ?_
    rw [hO (Classical.not_not.mp b484)]
    refine AT.lcmp M_378 rfl ?_
    refine AT.if_eq M_378 rfl (fun b491 => ?_) (fun b491 => absurd (lg_self _) b491)
    refine AT.goto M_378 rfl ?_
    exact hk _ _ _ _ _ hR
set_option maxRecDepth 100000 in
theorem b_12 {X : XS} {c : Nat} {R : XS → Prop} {Q : PO → XS → Prop} {x5 x6 x7 x8 : Option Value} (hc5 : 5 * c + 5 ≤ (xC X).1) (hL : (xC X).1 ≤ 2560) (h : ∃ v : Int32, RU 107 [some (.ref 1)] X (some (.int v)) (fun Y => RU 257 [some (.ref 388)] Y (some (.int v)) R)) (hk : ∀ Z y5 y6 y7 y8, R Z → AT 378 2335 (qLoc c y5 y6 y7 y8) [] Z Q) : AT 378 495 (qLoc c x5 x6 x7 x8) [] X Q := by
  obtain ⟨v, hw⟩ := h
  refine AT.aload_n M_378 rfl rfl ?_
  refine AT.cv1u M_378 rfl M_107 rfl (Nat.le_of_ble_eq_true rfl) (xKd.of (Or.inr (Or.inr (Or.inl ⟨rfl, rfl, rfl⟩)))) (by decide) hw (fun Y hc496 => ?_) (Nat.le_of_ble_eq_true rfl) rfl
  have hm := hc496
  refine AT.aload_n M_378 rfl rfl ?_
  refine AT.cv1u M_378 rfl M_257 rfl (Nat.le_of_ble_eq_true rfl) (xKd.of sh_mod) (by decide) hm (fun Z hc498 => ?_) (Nat.le_of_ble_eq_true rfl) rfl
  have hR := hc498
  refine AT.icmp_eq M_378 rfl (fun b499 => ?_) (fun b499 => absurd rfl b499)
  exact hk _ _ _ _ _ hR
set_option maxRecDepth 100000 in
theorem b_13 {X : XS} {c : Nat} {R : XS → Prop} {Q : PO → XS → Prop} {x5 x6 x7 x8 : Option Value} (hc5 : 5 * c + 5 ≤ (xC X).1) (hL : (xC X).1 ≤ 2560) (h : qPairB 334 258 [some (.ref 1), some (.int ((xC X).2 (5 * c + 1))), some (.ref 511), none] [some (.ref 388), some (.int ((xC X).2 (5 * c + 1)))] X R) (hk : ∀ Z y5 y6 y7 y8, R Z → AT 378 2335 (qLoc c y5 y6 y7 y8) [] Z Q) : AT 378 502 (qLoc c x5 x6 x7 x8) [] X Q := by
  obtain ⟨k, hw⟩ := h
  refine AT.aload_n M_378 rfl rfl ?_
  refine AT.aload_n M_378 rfl rfl ?_
  refine AT.iload M_378 rfl rfl ?_
  refine AT.iconst M_378 rfl (v := 1) (by decide) ?_
  refine AT.iadd M_378 rfl (i32_at (5 * c) 1 rfl) ?_
  refine AT.scr M_378 rfl rfl (by omega) (by omega) ?_
  refine AT.aload_n M_378 rfl rfl ?_
  refine AT.cs3u M_378 rfl M_334 rfl (Nat.le_of_ble_eq_true rfl) rfl hw (fun Y hc509 => ?_) (Nat.le_of_ble_eq_true rfl) rfl
  obtain ⟨hx, b, hm⟩ := hc509
  refine AT.ist5 M_378 rfl rfl ?_
  refine AT.aload_n M_378 rfl rfl ?_
  refine AT.aload_n M_378 rfl rfl ?_
  refine AT.iload M_378 rfl rfl ?_
  refine AT.iconst M_378 rfl (v := 1) (by decide) ?_
  refine AT.iadd M_378 rfl (i32_at (5 * c) 1 rfl) ?_
  refine AT.scr M_378 rfl rfl (by rw [hx]; omega) (by rw [hx]; omega) ?_
  rw [hx]
  refine AT.cv2u M_378 rfl M_258 rfl (Nat.le_of_ble_eq_true rfl) (xKd.of sh_mod) (by decide) hm (fun Z hc517 => ?_) (Nat.le_of_ble_eq_true rfl) rfl
  obtain ⟨hT, hO, hR⟩ := hc517
  refine AT.ist6 M_378 rfl rfl ?_
  refine AT.aload_n M_378 rfl rfl ?_
  refine AT.cv1i M_378 rfl M_232 rfl (Nat.le_of_ble_eq_true rfl) (xKd.of sh_mod) (by decide) (c_232 (X := Z)) ?_ (Nat.le_of_ble_eq_true rfl) rfl
  refine AT.iload M_378 rfl rfl ?_
  refine AT.icmp_eq M_378 rfl (fun b522 => ?_) (fun b522 => absurd hT b522)
  refine AT.iload M_378 rfl rfl ?_
  refine AT.if_ne M_378 rfl (fun b526 => ?_) (fun b526 => ?_)
  · refine AT.goto M_378 rfl ?_
    exact hk _ _ _ _ _ hR
  · refine AT.aload_n M_378 rfl rfl ?_
    refine AT.iconst M_378 rfl (v := 0) (by decide) ?_
    refine AT.out M_378 rfl rfl ?_
    refine AT.iload M_378 rfl rfl ?_
    refine AT.if_eq M_378 rfl (fun b531 => ?_) (fun b531 => ?_)
    · rw [(hO (Classical.not_not.mp b526)).2, b531]
      change AT 378 _ _ (.long 0 :: _) _ _
      refine AT.lconst M_378 rfl (v := 0) (by decide) ?_
      refine AT.lcmp M_378 rfl ?_
      refine AT.if_eq M_378 rfl (fun b536 => ?_) (fun b536 => absurd (lg_self _) b536)
      refine AT.goto M_378 rfl ?_
      exact hk _ _ _ _ _ hR
    · rw [(hO (Classical.not_not.mp b526)).2, (hO (Classical.not_not.mp b526)).1.resolve_left b531]
      change AT 378 _ _ (.long 1 :: _) _ _
      refine AT.lconst M_378 rfl (v := 1) (by decide) ?_
      refine AT.goto M_378 rfl ?_
      refine AT.lcmp M_378 rfl ?_
      refine AT.if_eq M_378 rfl (fun b536 => ?_) (fun b536 => absurd (lg_self _) b536)
      refine AT.goto M_378 rfl ?_
      exact hk _ _ _ _ _ hR
set_option maxRecDepth 100000 in
theorem b_14 {X : XS} {c : Nat} {R : XS → Prop} {Q : PO → XS → Prop} {x5 x6 x7 x8 : Option Value} (hc5 : 5 * c + 5 ≤ (xC X).1) (hL : (xC X).1 ≤ 2560) (h : qPair 335 259 [some (.ref 1), some (.int ((xC X).2 (5 * c + 1))), some (.ref 511), none] [some (.ref 388), some (.int ((xC X).2 (5 * c + 1)))] X R) (hk : ∀ Z y5 y6 y7 y8, R Z → AT 378 2335 (qLoc c y5 y6 y7 y8) [] Z Q) : AT 378 540 (qLoc c x5 x6 x7 x8) [] X Q := by
  obtain ⟨k, hw⟩ := h
  refine AT.aload_n M_378 rfl rfl ?_
  refine AT.aload_n M_378 rfl rfl ?_
  refine AT.iload M_378 rfl rfl ?_
  refine AT.iconst M_378 rfl (v := 1) (by decide) ?_
  refine AT.iadd M_378 rfl (i32_at (5 * c) 1 rfl) ?_
  refine AT.scr M_378 rfl rfl (by omega) (by omega) ?_
  refine AT.aload_n M_378 rfl rfl ?_
  refine AT.cs3u M_378 rfl M_335 rfl (Nat.le_of_ble_eq_true rfl) rfl hw (fun Y hc547 => ?_) (Nat.le_of_ble_eq_true rfl) rfl
  obtain ⟨hx, b, hm⟩ := hc547
  refine AT.ist5 M_378 rfl rfl ?_
  refine AT.aload_n M_378 rfl rfl ?_
  refine AT.aload_n M_378 rfl rfl ?_
  refine AT.iload M_378 rfl rfl ?_
  refine AT.iconst M_378 rfl (v := 1) (by decide) ?_
  refine AT.iadd M_378 rfl (i32_at (5 * c) 1 rfl) ?_
  refine AT.scr M_378 rfl rfl (by rw [hx]; omega) (by rw [hx]; omega) ?_
  rw [hx]
  refine AT.cv2u M_378 rfl M_259 rfl (Nat.le_of_ble_eq_true rfl) (xKd.of sh_mod) (by decide) hm (fun Z hc555 => ?_) (Nat.le_of_ble_eq_true rfl) rfl
  obtain ⟨hT, hO, hR⟩ := hc555
  refine AT.ist6 M_378 rfl rfl ?_
  refine AT.aload_n M_378 rfl rfl ?_
  refine AT.cv1i M_378 rfl M_232 rfl (Nat.le_of_ble_eq_true rfl) (xKd.of sh_mod) (by decide) (c_232 (X := Z)) ?_ (Nat.le_of_ble_eq_true rfl) rfl
  refine AT.iload M_378 rfl rfl ?_
  refine AT.icmp_eq M_378 rfl (fun b560 => ?_) (fun b560 => absurd hT b560)
  refine AT.iload M_378 rfl rfl ?_
  refine AT.if_ne M_378 rfl (fun b564 => ?_) (fun b564 => ?_)
  · refine AT.goto M_378 rfl ?_
    exact hk _ _ _ _ _ hR
  · refine AT.aload_n M_378 rfl rfl ?_
    refine AT.iconst M_378 rfl (v := 0) (by decide) ?_
    refine AT.out M_378 rfl rfl ?_
    refine AT.iload M_378 rfl rfl ?_
    refine AT.i2l M_378 rfl ?_
    rw [hO (Classical.not_not.mp b564)]
    refine AT.lcmp M_378 rfl ?_
    refine AT.if_eq M_378 rfl (fun b571 => ?_) (fun b571 => absurd (lg_self _) b571)
    refine AT.goto M_378 rfl ?_
    exact hk _ _ _ _ _ hR
set_option maxRecDepth 100000 in
theorem b_15 {X : XS} {c : Nat} {R : XS → Prop} {Q : PO → XS → Prop} {x5 x6 x7 x8 : Option Value} (hc5 : 5 * c + 5 ≤ (xC X).1) (hL : (xC X).1 ≤ 2560) (h : qPair 336 260 [some (.ref 1), some (.int ((xC X).2 (5 * c + 1))), some (.ref 511), none] [some (.ref 388), some (.int ((xC X).2 (5 * c + 1)))] X R) (hk : ∀ Z y5 y6 y7 y8, R Z → AT 378 2335 (qLoc c y5 y6 y7 y8) [] Z Q) : AT 378 575 (qLoc c x5 x6 x7 x8) [] X Q := by
  obtain ⟨k, hw⟩ := h
  refine AT.aload_n M_378 rfl rfl ?_
  refine AT.aload_n M_378 rfl rfl ?_
  refine AT.iload M_378 rfl rfl ?_
  refine AT.iconst M_378 rfl (v := 1) (by decide) ?_
  refine AT.iadd M_378 rfl (i32_at (5 * c) 1 rfl) ?_
  refine AT.scr M_378 rfl rfl (by omega) (by omega) ?_
  refine AT.aload_n M_378 rfl rfl ?_
  refine AT.cs3u M_378 rfl M_336 rfl (Nat.le_of_ble_eq_true rfl) rfl hw (fun Y hc582 => ?_) (Nat.le_of_ble_eq_true rfl) rfl
  obtain ⟨hx, b, hm⟩ := hc582
  refine AT.ist5 M_378 rfl rfl ?_
  refine AT.aload_n M_378 rfl rfl ?_
  refine AT.aload_n M_378 rfl rfl ?_
  refine AT.iload M_378 rfl rfl ?_
  refine AT.iconst M_378 rfl (v := 1) (by decide) ?_
  refine AT.iadd M_378 rfl (i32_at (5 * c) 1 rfl) ?_
  refine AT.scr M_378 rfl rfl (by rw [hx]; omega) (by rw [hx]; omega) ?_
  rw [hx]
  refine AT.cv2u M_378 rfl M_260 rfl (Nat.le_of_ble_eq_true rfl) (xKd.of sh_mod) (by decide) hm (fun Z hc590 => ?_) (Nat.le_of_ble_eq_true rfl) rfl
  obtain ⟨hT, hO, hR⟩ := hc590
  refine AT.ist6 M_378 rfl rfl ?_
  refine AT.aload_n M_378 rfl rfl ?_
  refine AT.cv1i M_378 rfl M_232 rfl (Nat.le_of_ble_eq_true rfl) (xKd.of sh_mod) (by decide) (c_232 (X := Z)) ?_ (Nat.le_of_ble_eq_true rfl) rfl
  refine AT.iload M_378 rfl rfl ?_
  refine AT.icmp_eq M_378 rfl (fun b595 => ?_) (fun b595 => absurd hT b595)
  refine AT.iload M_378 rfl rfl ?_
  refine AT.if_ne M_378 rfl (fun b599 => ?_) (fun b599 => ?_)
  · refine AT.goto M_378 rfl ?_
    exact hk _ _ _ _ _ hR
  · refine AT.aload_n M_378 rfl rfl ?_
    refine AT.iconst M_378 rfl (v := 0) (by decide) ?_
    refine AT.out M_378 rfl rfl ?_
    refine AT.iload M_378 rfl rfl ?_
    refine AT.i2l M_378 rfl ?_
    rw [hO (Classical.not_not.mp b599)]
    refine AT.lcmp M_378 rfl ?_
    refine AT.if_eq M_378 rfl (fun b606 => ?_) (fun b606 => absurd (lg_self _) b606)
    refine AT.goto M_378 rfl ?_
    exact hk _ _ _ _ _ hR
set_option maxRecDepth 100000 in
theorem b_16 {X : XS} {c : Nat} {R : XS → Prop} {Q : PO → XS → Prop} {x5 x6 x7 x8 : Option Value} (hc5 : 5 * c + 5 ≤ (xC X).1) (hL : (xC X).1 ≤ 2560) (h : qPair 337 262 [some (.ref 1), some (.int ((xC X).2 (5 * c + 1))), some (.ref 511), none] [some (.ref 388), some (.int ((xC X).2 (5 * c + 1)))] X R) (hk : ∀ Z y5 y6 y7 y8, R Z → AT 378 2335 (qLoc c y5 y6 y7 y8) [] Z Q) : AT 378 610 (qLoc c x5 x6 x7 x8) [] X Q := by
  obtain ⟨k, hw⟩ := h
  refine AT.aload_n M_378 rfl rfl ?_
  refine AT.aload_n M_378 rfl rfl ?_
  refine AT.iload M_378 rfl rfl ?_
  refine AT.iconst M_378 rfl (v := 1) (by decide) ?_
  refine AT.iadd M_378 rfl (i32_at (5 * c) 1 rfl) ?_
  refine AT.scr M_378 rfl rfl (by omega) (by omega) ?_
  refine AT.aload_n M_378 rfl rfl ?_
  refine AT.cs3u M_378 rfl M_337 rfl (Nat.le_of_ble_eq_true rfl) rfl hw (fun Y hc617 => ?_) (Nat.le_of_ble_eq_true rfl) rfl
  obtain ⟨hx, b, hm⟩ := hc617
  refine AT.ist5 M_378 rfl rfl ?_
  refine AT.aload_n M_378 rfl rfl ?_
  refine AT.aload_n M_378 rfl rfl ?_
  refine AT.iload M_378 rfl rfl ?_
  refine AT.iconst M_378 rfl (v := 1) (by decide) ?_
  refine AT.iadd M_378 rfl (i32_at (5 * c) 1 rfl) ?_
  refine AT.scr M_378 rfl rfl (by rw [hx]; omega) (by rw [hx]; omega) ?_
  rw [hx]
  refine AT.cv2u M_378 rfl M_262 rfl (Nat.le_of_ble_eq_true rfl) (xKd.of sh_mod) (by decide) hm (fun Z hc625 => ?_) (Nat.le_of_ble_eq_true rfl) rfl
  obtain ⟨hT, hO, hR⟩ := hc625
  refine AT.ist6 M_378 rfl rfl ?_
  refine AT.aload_n M_378 rfl rfl ?_
  refine AT.cv1i M_378 rfl M_232 rfl (Nat.le_of_ble_eq_true rfl) (xKd.of sh_mod) (by decide) (c_232 (X := Z)) ?_ (Nat.le_of_ble_eq_true rfl) rfl
  refine AT.iload M_378 rfl rfl ?_
  refine AT.icmp_eq M_378 rfl (fun b630 => ?_) (fun b630 => absurd hT b630)
  refine AT.iload M_378 rfl rfl ?_
  refine AT.if_ne M_378 rfl (fun b634 => ?_) (fun b634 => ?_)
  · refine AT.goto M_378 rfl ?_
    exact hk _ _ _ _ _ hR
  · refine AT.aload_n M_378 rfl rfl ?_
    refine AT.iconst M_378 rfl (v := 0) (by decide) ?_
    refine AT.out M_378 rfl rfl ?_
    refine AT.iload M_378 rfl rfl ?_
    refine AT.i2l M_378 rfl ?_
    rw [hO (Classical.not_not.mp b634)]
    refine AT.lcmp M_378 rfl ?_
    refine AT.if_eq M_378 rfl (fun b641 => ?_) (fun b641 => absurd (lg_self _) b641)
    refine AT.goto M_378 rfl ?_
    exact hk _ _ _ _ _ hR
