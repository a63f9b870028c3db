/-! ===== THE TWIN: hand over ===== -/
theorem c_252x1 {X : XS} {p q : Int32} (hp : p < 0 ∨ ¬ p < 7) : RT 252 [some (.ref 388), some (.int p), some (.int q)] X (some (.int 0)) (xSetT X 1) := by
  refine AT.aload_n M_252 rfl rfl ?_
  refine AT.iconst M_252 rfl (v := 0) (by decide) ?_
  refine AT.w11_2 M_252 rfl ?_
  refine AT.iload_n M_252 rfl rfl ?_
  refine AT.cs1i M_252 rfl M_234 rfl (Nat.le_of_ble_eq_true rfl) rfl (c_234x hp) ?_ (Nat.le_of_ble_eq_true rfl) rfl
  refine AT.if_eq M_252 rfl (fun b5 => ?_) (fun b5 => absurd rfl b5)
  refine AT.aload_n M_252 rfl rfl ?_
  refine AT.iconst M_252 rfl (v := 1) (by decide) ?_
  refine AT.cv2i M_252 rfl M_233 rfl (Nat.le_of_ble_eq_true rfl) (xKd.of sh_mod) (by decide) c_233 ?_ (Nat.le_of_ble_eq_true rfl) rfl
  refine AT.iret M_252 rfl rfl ?_
  exact ⟨rfl, rfl⟩
theorem c_252x2 {X : XS} {s : Nat} (hs : s < 7) {q : Int32} (hp : q < 0 ∨ ¬ q < 7) : RT 252 [some (.ref 388), some (.int (Int32.ofNat s)), some (.int q)] X (some (.int 0)) (xSetT X 1) := by
  refine AT.aload_n M_252 rfl rfl ?_
  refine AT.iconst M_252 rfl (v := 0) (by decide) ?_
  refine AT.w11_2 M_252 rfl ?_
  refine AT.iload_n M_252 rfl rfl ?_
  refine AT.cs1i M_252 rfl M_234 rfl (Nat.le_of_ble_eq_true rfl) rfl (c_234 hs) ?_ (Nat.le_of_ble_eq_true rfl) rfl
  refine AT.if_eq M_252 rfl (fun b5 => absurd b5 (by decide)) (fun b5 => ?_)
  refine AT.iload_n M_252 rfl rfl ?_
  refine AT.cs1i M_252 rfl M_234 rfl (Nat.le_of_ble_eq_true rfl) rfl (c_234x hp) ?_ (Nat.le_of_ble_eq_true rfl) rfl
  refine AT.if_ne M_252 rfl (fun b8 => absurd rfl b8) (fun b8 => ?_)
  refine AT.aload_n M_252 rfl rfl ?_
  refine AT.iconst M_252 rfl (v := 1) (by decide) ?_
  refine AT.cv2i M_252 rfl M_233 rfl (Nat.le_of_ble_eq_true rfl) (xKd.of sh_mod) (by decide) c_233 ?_ (Nat.le_of_ble_eq_true rfl) rfl
  refine AT.iret M_252 rfl rfl ?_
  exact ⟨rfl, rfl⟩
theorem c_252x3 {X : XS} {s : Nat} (hs : s < 7) : RT 252 [some (.ref 388), some (.int (Int32.ofNat s)), some (.int (Int32.ofNat s))] X (some (.int 0)) (xSetT X 2) := by
  refine AT.aload_n M_252 rfl rfl ?_
  refine AT.iconst M_252 rfl (v := 0) (by decide) ?_
  refine AT.w11_2 M_252 rfl ?_
  refine AT.iload_n M_252 rfl rfl ?_
  refine AT.cs1i M_252 rfl M_234 rfl (Nat.le_of_ble_eq_true rfl) rfl (c_234 hs) ?_ (Nat.le_of_ble_eq_true rfl) rfl
  refine AT.if_eq M_252 rfl (fun b5 => absurd b5 (by decide)) (fun b5 => ?_)
  refine AT.iload_n M_252 rfl rfl ?_
  refine AT.cs1i M_252 rfl M_234 rfl (Nat.le_of_ble_eq_true rfl) rfl (c_234 hs) ?_ (Nat.le_of_ble_eq_true rfl) rfl
  refine AT.if_ne M_252 rfl (fun b8 => ?_) (fun b8 => absurd b8 (by decide))
  refine AT.iload_n M_252 rfl rfl ?_
  refine AT.iload_n M_252 rfl rfl ?_
  refine AT.icmp_ne M_252 rfl (fun b15 => absurd rfl b15) (fun b15 => ?_)
  refine AT.aload_n M_252 rfl rfl ?_
  refine AT.iconst M_252 rfl (v := 2) (by decide) ?_
  refine AT.cv2i M_252 rfl M_233 rfl (Nat.le_of_ble_eq_true rfl) (xKd.of sh_mod) (by decide) c_233 ?_ (Nat.le_of_ble_eq_true rfl) rfl
  refine AT.iret M_252 rfl rfl ?_
  exact ⟨rfl, rfl⟩
theorem c_252x4 {X : XS} {s j : Nat} (hs : s < 7) (hj : j < 7) (hne : ¬ s = j) (hr : ¬ (xK X 2).1 12 s 0 = 3) : RT 252 [some (.ref 388), some (.int (Int32.ofNat s)), some (.int (Int32.ofNat j))] X (some (.int 0)) (xSetT X 3) := by
  refine AT.aload_n M_252 rfl rfl ?_
  refine AT.iconst M_252 rfl (v := 0) (by decide) ?_
  refine AT.w11_2 M_252 rfl ?_
  refine AT.iload_n M_252 rfl rfl ?_
  refine AT.cs1i M_252 rfl M_234 rfl (Nat.le_of_ble_eq_true rfl) rfl (c_234 hs) ?_ (Nat.le_of_ble_eq_true rfl) rfl
  refine AT.if_eq M_252 rfl (fun b5 => absurd b5 (by decide)) (fun b5 => ?_)
  refine AT.iload_n M_252 rfl rfl ?_
  refine AT.cs1i M_252 rfl M_234 rfl (Nat.le_of_ble_eq_true rfl) rfl (c_234 hj) ?_ (Nat.le_of_ble_eq_true rfl) rfl
  refine AT.if_ne M_252 rfl (fun b8 => ?_) (fun b8 => absurd b8 (by decide))
  refine AT.iload_n M_252 rfl rfl ?_
  refine AT.iload_n M_252 rfl rfl ?_
  refine AT.icmp_ne M_252 rfl (fun b15 => ?_) (fun b15 => absurd (i32_nat (by omega) (by omega) (Classical.not_not.mp b15)) hne)
  refine AT.aload_n M_252 rfl rfl ?_
  refine AT.iload_n M_252 rfl rfl ?_
  refine AT.cv2i M_252 rfl M_241 rfl (Nat.le_of_ble_eq_true rfl) (xKd.of sh_mod) (by decide) (c_241 (X := (xSetT X 0)) hs) ?_ (Nat.le_of_ble_eq_true rfl) rfl
  refine AT.if_eq M_252 rfl (fun b23 => ?_) (fun b23 => absurd (by rw [show decide ((xK (xSetT X 0) 2).1 12 s 0 = 3) = false from decide_eq_false hr]; rfl) b23)
  refine AT.aload_n M_252 rfl rfl ?_
  refine AT.iconst M_252 rfl (v := 3) (by decide) ?_
  refine AT.cv2i M_252 rfl M_233 rfl (Nat.le_of_ble_eq_true rfl) (xKd.of sh_mod) (by decide) c_233 ?_ (Nat.le_of_ble_eq_true rfl) rfl
  refine AT.iret M_252 rfl rfl ?_
  exact ⟨rfl, rfl⟩
theorem c_252x5 {X : XS} {s j : Nat} (hs : s < 7) (hj : j < 7) (hne : ¬ s = j) (hk : sOk (xK X 2) s) (hr : (xK X 2).1 12 s 0 = 3) (hb : sBit (sMem (xK X 2) s) j = false) : RT 252 [some (.ref 388), some (.int (Int32.ofNat s)), some (.int (Int32.ofNat j))] X (some (.int 0)) (xSetT X 3) := by
  refine AT.aload_n M_252 rfl rfl ?_
  refine AT.iconst M_252 rfl (v := 0) (by decide) ?_
  refine AT.w11_2 M_252 rfl ?_
  refine AT.iload_n M_252 rfl rfl ?_
  refine AT.cs1i M_252 rfl M_234 rfl (Nat.le_of_ble_eq_true rfl) rfl (c_234 hs) ?_ (Nat.le_of_ble_eq_true rfl) rfl
  refine AT.if_eq M_252 rfl (fun b5 => absurd b5 (by decide)) (fun b5 => ?_)
  refine AT.iload_n M_252 rfl rfl ?_
  refine AT.cs1i M_252 rfl M_234 rfl (Nat.le_of_ble_eq_true rfl) rfl (c_234 hj) ?_ (Nat.le_of_ble_eq_true rfl) rfl
  refine AT.if_ne M_252 rfl (fun b8 => ?_) (fun b8 => absurd b8 (by decide))
  refine AT.iload_n M_252 rfl rfl ?_
  refine AT.iload_n M_252 rfl rfl ?_
  refine AT.icmp_ne M_252 rfl (fun b15 => ?_) (fun b15 => absurd (i32_nat (by omega) (by omega) (Classical.not_not.mp b15)) hne)
  refine AT.aload_n M_252 rfl rfl ?_
  refine AT.iload_n M_252 rfl rfl ?_
  refine AT.cv2i M_252 rfl M_241 rfl (Nat.le_of_ble_eq_true rfl) (xKd.of sh_mod) (by decide) (c_241 (X := (xSetT X 0)) hs) ?_ (Nat.le_of_ble_eq_true rfl) rfl
  refine AT.if_eq M_252 rfl (fun b23 => absurd b23 (by rw [show decide ((xK (xSetT X 0) 2).1 12 s 0 = 3) = true from decide_eq_true hr]; decide)) (fun b23 => ?_)
  refine AT.aload_n M_252 rfl rfl ?_
  refine AT.r11_0 M_252 rfl ?_
  refine AT.iload_n M_252 rfl rfl ?_
  refine AT.iload_n M_252 rfl rfl ?_
  refine AT.cv3i M_252 rfl M_196 rfl (Nat.le_of_ble_eq_true rfl) (xKd.of (sh_st (o := 2) (by omega) (by omega))) (by decide) (c_196 (X := (xSetT X 0)) (o := 2) (by omega) (by omega) hs hj hk.wf hk.m128) ?_ (Nat.le_of_ble_eq_true rfl) rfl
  refine AT.if_eq M_252 rfl (fun b29 => ?_) (fun b29 => absurd (by rw [show sBit (sMem (xK (xSetT X 0) 2) s) j = false from hb]; rfl) b29)
  refine AT.aload_n M_252 rfl rfl ?_
  refine AT.iconst M_252 rfl (v := 3) (by decide) ?_
  refine AT.cv2i M_252 rfl M_233 rfl (Nat.le_of_ble_eq_true rfl) (xKd.of sh_mod) (by decide) c_233 ?_ (Nat.le_of_ble_eq_true rfl) rfl
  refine AT.iret M_252 rfl rfl ?_
  exact ⟨rfl, rfl⟩
theorem c_252x6 {X : XS} {s j : Nat} (hs : s < 7) (hj : j < 7) (hne : ¬ s = j) (hk : sOk (xK X 2) s) (hr : (xK X 2).1 12 s 0 = 3) (hb : sBit (sMem (xK X 2) s) j = true) (hl : ¬ sLast (xK X 2) s ≤ (xK X 2).1 3 s j) : RT 252 [some (.ref 388), some (.int (Int32.ofNat s)), some (.int (Int32.ofNat j))] X (some (.int 0)) (xSetT X 3) := by
  refine AT.aload_n M_252 rfl rfl ?_
  refine AT.iconst M_252 rfl (v := 0) (by decide) ?_
  refine AT.w11_2 M_252 rfl ?_
  refine AT.iload_n M_252 rfl rfl ?_
  refine AT.cs1i M_252 rfl M_234 rfl (Nat.le_of_ble_eq_true rfl) rfl (c_234 hs) ?_ (Nat.le_of_ble_eq_true rfl) rfl
  refine AT.if_eq M_252 rfl (fun b5 => absurd b5 (by decide)) (fun b5 => ?_)
  refine AT.iload_n M_252 rfl rfl ?_
  refine AT.cs1i M_252 rfl M_234 rfl (Nat.le_of_ble_eq_true rfl) rfl (c_234 hj) ?_ (Nat.le_of_ble_eq_true rfl) rfl
  refine AT.if_ne M_252 rfl (fun b8 => ?_) (fun b8 => absurd b8 (by decide))
  refine AT.iload_n M_252 rfl rfl ?_
  refine AT.iload_n M_252 rfl rfl ?_
  refine AT.icmp_ne M_252 rfl (fun b15 => ?_) (fun b15 => absurd (i32_nat (by omega) (by omega) (Classical.not_not.mp b15)) hne)
  refine AT.aload_n M_252 rfl rfl ?_
  refine AT.iload_n M_252 rfl rfl ?_
  refine AT.cv2i M_252 rfl M_241 rfl (Nat.le_of_ble_eq_true rfl) (xKd.of sh_mod) (by decide) (c_241 (X := (xSetT X 0)) hs) ?_ (Nat.le_of_ble_eq_true rfl) rfl
  refine AT.if_eq M_252 rfl (fun b23 => absurd b23 (by rw [show decide ((xK (xSetT X 0) 2).1 12 s 0 = 3) = true from decide_eq_true hr]; decide)) (fun b23 => ?_)
  refine AT.aload_n M_252 rfl rfl ?_
  refine AT.r11_0 M_252 rfl ?_
  refine AT.iload_n M_252 rfl rfl ?_
  refine AT.iload_n M_252 rfl rfl ?_
  refine AT.cv3i M_252 rfl M_196 rfl (Nat.le_of_ble_eq_true rfl) (xKd.of (sh_st (o := 2) (by omega) (by omega))) (by decide) (c_196 (X := (xSetT X 0)) (o := 2) (by omega) (by omega) hs hj hk.wf hk.m128) ?_ (Nat.le_of_ble_eq_true rfl) rfl
  refine AT.if_eq M_252 rfl (fun b29 => absurd b29 (by rw [show sBit (sMem (xK (xSetT X 0) 2) s) j = true from hb]; decide)) (fun b29 => ?_)
  refine AT.aload_n M_252 rfl rfl ?_
  refine AT.r11_0 M_252 rfl ?_
  refine AT.r10_21 M_252 rfl (show 2 ≤ 2 by omega) (show 2 < 4 by omega) ?_
  refine AT.iload_n M_252 rfl rfl ?_
  refine AT.rr_mat M_252 rfl rfl (show 2 ≤ 2 by omega) (show 2 < 4 by omega) (by assumption) ?_
  refine AT.iload_n M_252 rfl rfl ?_
  refine AT.ra_mat M_252 rfl rfl (show 2 ≤ 2 by omega) (show 2 < 4 by omega) (by assumption) (by omega) ?_
  refine AT.aload_n M_252 rfl rfl ?_
  refine AT.r11_0 M_252 rfl ?_
  refine AT.iload_n M_252 rfl rfl ?_
  refine AT.cv2i M_252 rfl M_187 rfl (Nat.le_of_ble_eq_true rfl) (xKd.of (sh_st (o := 2) (by omega) (by omega))) (by decide) (c_187 (X := (xSetT X 0)) (o := 2) (by omega) (by omega) hs) ?_ (Nat.le_of_ble_eq_true rfl) rfl
  refine AT.icmp_ge M_252 rfl (fun b41 => absurd b41 hl) (fun b41 => ?_)
  refine AT.aload_n M_252 rfl rfl ?_
  refine AT.iconst M_252 rfl (v := 3) (by decide) ?_
  refine AT.cv2i M_252 rfl M_233 rfl (Nat.le_of_ble_eq_true rfl) (xKd.of sh_mod) (by decide) c_233 ?_ (Nat.le_of_ble_eq_true rfl) rfl
  refine AT.iret M_252 rfl rfl ?_
  exact ⟨rfl, rfl⟩
theorem c_252 {X : XS} {s j : Nat} (hs : s < 7) (hj : j < 7) {m : Nat} (hap : aPr X 2) (hne : ¬ s = j) (hk : sOk (xK X 2) s) (hr : (xK X 2).1 12 s 0 = 3) (hb : sBit (sMem (xK X 2) s) j = true) (hl : sLast (xK X 2) s ≤ (xK X 2).1 3 s j) : RU 252 [some (.ref 388), some (.int (Int32.ofNat s)), some (.int (Int32.ofNat j))] X (some (.int (Int32.ofNat (kSend (xK X 2) (mHur (xK X 2) s j)).2.2.length))) (fun Z => rRel0 2 m 0 0 (xSetT X 0) Z (kSend (xK X 2) (mHur (xK X 2) s j)) ∧ aPr Z 2) := by
  refine AT.aload_n M_252 rfl rfl ?_
  refine AT.iconst M_252 rfl (v := 0) (by decide) ?_
  refine AT.w11_2 M_252 rfl ?_
  refine AT.iload_n M_252 rfl rfl ?_
  refine AT.cs1i M_252 rfl M_234 rfl (Nat.le_of_ble_eq_true rfl) rfl (c_234 hs) ?_ (Nat.le_of_ble_eq_true rfl) rfl
  refine AT.if_eq M_252 rfl (fun b5 => absurd b5 (by decide)) (fun b5 => ?_)
  refine AT.iload_n M_252 rfl rfl ?_
  refine AT.cs1i M_252 rfl M_234 rfl (Nat.le_of_ble_eq_true rfl) rfl (c_234 hj) ?_ (Nat.le_of_ble_eq_true rfl) rfl
  refine AT.if_ne M_252 rfl (fun b8 => ?_) (fun b8 => absurd b8 (by decide))
  refine AT.iload_n M_252 rfl rfl ?_
  refine AT.iload_n M_252 rfl rfl ?_
  refine AT.icmp_ne M_252 rfl (fun b15 => ?_) (fun b15 => absurd (i32_nat (by omega) (by omega) (Classical.not_not.mp b15)) hne)
  refine AT.aload_n M_252 rfl rfl ?_
  refine AT.iload_n M_252 rfl rfl ?_
  refine AT.cv2i M_252 rfl M_241 rfl (Nat.le_of_ble_eq_true rfl) (xKd.of sh_mod) (by decide) (c_241 (X := (xSetT X 0)) hs) ?_ (Nat.le_of_ble_eq_true rfl) rfl
  refine AT.if_eq M_252 rfl (fun b23 => absurd b23 (by rw [show decide ((xK (xSetT X 0) 2).1 12 s 0 = 3) = true from decide_eq_true hr]; decide)) (fun b23 => ?_)
  refine AT.aload_n M_252 rfl rfl ?_
  refine AT.r11_0 M_252 rfl ?_
  refine AT.iload_n M_252 rfl rfl ?_
  refine AT.iload_n M_252 rfl rfl ?_
  refine AT.cv3i M_252 rfl M_196 rfl (Nat.le_of_ble_eq_true rfl) (xKd.of (sh_st (o := 2) (by omega) (by omega))) (by decide) (c_196 (X := (xSetT X 0)) (o := 2) (by omega) (by omega) hs hj hk.wf hk.m128) ?_ (Nat.le_of_ble_eq_true rfl) rfl
  refine AT.if_eq M_252 rfl (fun b29 => absurd b29 (by rw [show sBit (sMem (xK (xSetT X 0) 2) s) j = true from hb]; decide)) (fun b29 => ?_)
  refine AT.aload_n M_252 rfl rfl ?_
  refine AT.r11_0 M_252 rfl ?_
  refine AT.r10_21 M_252 rfl (show 2 ≤ 2 by omega) (show 2 < 4 by omega) ?_
  refine AT.iload_n M_252 rfl rfl ?_
  refine AT.rr_mat M_252 rfl rfl (show 2 ≤ 2 by omega) (show 2 < 4 by omega) (by assumption) ?_
  refine AT.iload_n M_252 rfl rfl ?_
  refine AT.ra_mat M_252 rfl rfl (show 2 ≤ 2 by omega) (show 2 < 4 by omega) (by assumption) (by omega) ?_
  refine AT.aload_n M_252 rfl rfl ?_
  refine AT.r11_0 M_252 rfl ?_
  refine AT.iload_n M_252 rfl rfl ?_
  refine AT.cv2i M_252 rfl M_187 rfl (Nat.le_of_ble_eq_true rfl) (xKd.of (sh_st (o := 2) (by omega) (by omega))) (by decide) (c_187 (X := (xSetT X 0)) (o := 2) (by omega) (by omega) hs) ?_ (Nat.le_of_ble_eq_true rfl) rfl
  refine AT.icmp_ge M_252 rfl (fun b41 => ?_) (fun b41 => absurd hl b41)
  refine AT.aload_n M_252 rfl rfl ?_
  refine AT.r11_0 M_252 rfl ?_
  refine AT.bipush M_252 rfl (v := 8) (by decide) ?_
  refine AT.iload_n M_252 rfl rfl ?_
  refine AT.iload_n M_252 rfl rfl ?_
  refine AT.aload_n M_252 rfl rfl ?_
  refine AT.r11_0 M_252 rfl ?_
  refine AT.r10_3 M_252 rfl (show 2 ≤ 2 by omega) (show 2 < 4 by omega) ?_
  refine AT.iload_n M_252 rfl rfl ?_
  refine AT.ra_5 M_252 rfl rfl (show 2 ≤ 2 by omega) (show 2 < 4 by omega) (by assumption) ?_
  refine AT.iconst M_252 rfl (v := 0) (by decide) ?_
  refine AT.iconst M_252 rfl (v := 0) (by decide) ?_
  refine AT.cv7u M_252 rfl M_200 rfl (Nat.le_of_ble_eq_true rfl) (xKd.of (sh_st (o := 2) (by omega) (by omega))) (by decide) (c_200 (X := (xSetT X 0)) (o := 2) (n := m) (u := mHur (xK X 2) s j) (by omega) (by omega) (fun k hk => mHur_row hk)) (fun Y hc58 => ?_) (Nat.le_of_ble_eq_true rfl) rfl
  obtain ⟨r1, k1⟩ := hc58
  have r2 := r1.sm k1 hap (fun i hi => kSend_1 _ _ (by omega))
  refine AT.popi M_252 rfl ?_
  refine AT.aload_n M_252 rfl rfl ?_
  refine AT.r11_0 M_252 rfl ?_
  refine AT.r10_22 M_252 rfl (show 2 ≤ 2 by omega) (show 2 < 4 by omega) ?_
  refine AT.iret M_252 rfl rfl ?_
  rw [r1.k]
  exact ⟨rfl, r2.1, r2.2.2⟩
