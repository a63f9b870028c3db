/-! ===== THE TWIN: links ===== -/
theorem c_245x1 {X : XS} {p q b : Int32} (hp : p < 0 ∨ ¬ p < 7) : RT 245 [some (.ref 388), some (.int p), some (.int q), some (.int b)] X (some (.int 0)) (xSetT X 1) := by
  refine AT.aload_n M_245 rfl rfl ?_
  refine AT.iconst M_245 rfl (v := 0) (by decide) ?_
  refine AT.w11_2 M_245 rfl ?_
  refine AT.iload_n M_245 rfl rfl ?_
  refine AT.cs1i M_245 rfl M_234 rfl (Nat.le_of_ble_eq_true rfl) rfl (c_234x hp) ?_ (Nat.le_of_ble_eq_true rfl) rfl
  refine AT.if_eq M_245 rfl (fun b5 => ?_) (fun b5 => absurd rfl b5)
  refine AT.aload_n M_245 rfl rfl ?_
  refine AT.iconst M_245 rfl (v := 1) (by decide) ?_
  refine AT.cv2i M_245 rfl M_233 rfl (Nat.le_of_ble_eq_true rfl) (xKd.of sh_mod) (by decide) c_233 ?_ (Nat.le_of_ble_eq_true rfl) rfl
  refine AT.iret M_245 rfl rfl ?_
  exact ⟨rfl, rfl⟩
theorem c_245x2 {X : XS} {s : Nat} (hs : s < 7) {q b : Int32} (hp : q < 0 ∨ ¬ q < 7) : RT 245 [some (.ref 388), some (.int (Int32.ofNat s)), some (.int q), some (.int b)] X (some (.int 0)) (xSetT X 1) := by
  refine AT.aload_n M_245 rfl rfl ?_
  refine AT.iconst M_245 rfl (v := 0) (by decide) ?_
  refine AT.w11_2 M_245 rfl ?_
  refine AT.iload_n M_245 rfl rfl ?_
  refine AT.cs1i M_245 rfl M_234 rfl (Nat.le_of_ble_eq_true rfl) rfl (c_234 hs) ?_ (Nat.le_of_ble_eq_true rfl) rfl
  refine AT.if_eq M_245 rfl (fun b5 => absurd b5 (by decide)) (fun b5 => ?_)
  refine AT.iload_n M_245 rfl rfl ?_
  refine AT.cs1i M_245 rfl M_234 rfl (Nat.le_of_ble_eq_true rfl) rfl (c_234x hp) ?_ (Nat.le_of_ble_eq_true rfl) rfl
  refine AT.if_ne M_245 rfl (fun b8 => absurd rfl b8) (fun b8 => ?_)
  refine AT.aload_n M_245 rfl rfl ?_
  refine AT.iconst M_245 rfl (v := 1) (by decide) ?_
  refine AT.cv2i M_245 rfl M_233 rfl (Nat.le_of_ble_eq_true rfl) (xKd.of sh_mod) (by decide) c_233 ?_ (Nat.le_of_ble_eq_true rfl) rfl
  refine AT.iret M_245 rfl rfl ?_
  exact ⟨rfl, rfl⟩
theorem c_245x3 {X : XS} {s : Nat} (hs : s < 7) {b : Int32} : RT 245 [some (.ref 388), some (.int (Int32.ofNat s)), some (.int (Int32.ofNat s)), some (.int b)] X (some (.int 0)) (xSetT X 2) := by
  refine AT.aload_n M_245 rfl rfl ?_
  refine AT.iconst M_245 rfl (v := 0) (by decide) ?_
  refine AT.w11_2 M_245 rfl ?_
  refine AT.iload_n M_245 rfl rfl ?_
  refine AT.cs1i M_245 rfl M_234 rfl (Nat.le_of_ble_eq_true rfl) rfl (c_234 hs) ?_ (Nat.le_of_ble_eq_true rfl) rfl
  refine AT.if_eq M_245 rfl (fun b5 => absurd b5 (by decide)) (fun b5 => ?_)
  refine AT.iload_n M_245 rfl rfl ?_
  refine AT.cs1i M_245 rfl M_234 rfl (Nat.le_of_ble_eq_true rfl) rfl (c_234 hs) ?_ (Nat.le_of_ble_eq_true rfl) rfl
  refine AT.if_ne M_245 rfl (fun b8 => ?_) (fun b8 => absurd b8 (by decide))
  refine AT.iload_n M_245 rfl rfl ?_
  refine AT.iload_n M_245 rfl rfl ?_
  refine AT.icmp_ne M_245 rfl (fun b15 => absurd rfl b15) (fun b15 => ?_)
  refine AT.aload_n M_245 rfl rfl ?_
  refine AT.iconst M_245 rfl (v := 2) (by decide) ?_
  refine AT.cv2i M_245 rfl M_233 rfl (Nat.le_of_ble_eq_true rfl) (xKd.of sh_mod) (by decide) c_233 ?_ (Nat.le_of_ble_eq_true rfl) rfl
  refine AT.iret M_245 rfl rfl ?_
  exact ⟨rfl, rfl⟩
theorem c_245x4 {X : XS} {s j : Nat} (hs : s < 7) (hj : j < 7) {b : Int32} (hne : ¬ s = j) (hb : bI (sBit ((xK X 2).1 30 s 0) j) = b) : RT 245 [some (.ref 388), some (.int (Int32.ofNat s)), some (.int (Int32.ofNat j)), some (.int b)] X (some (.int 0)) (xSetT X 3) := by
  refine AT.aload_n M_245 rfl rfl ?_
  refine AT.iconst M_245 rfl (v := 0) (by decide) ?_
  refine AT.w11_2 M_245 rfl ?_
  refine AT.iload_n M_245 rfl rfl ?_
  refine AT.cs1i M_245 rfl M_234 rfl (Nat.le_of_ble_eq_true rfl) rfl (c_234 hs) ?_ (Nat.le_of_ble_eq_true rfl) rfl
  refine AT.if_eq M_245 rfl (fun b5 => absurd b5 (by decide)) (fun b5 => ?_)
  refine AT.iload_n M_245 rfl rfl ?_
  refine AT.cs1i M_245 rfl M_234 rfl (Nat.le_of_ble_eq_true rfl) rfl (c_234 hj) ?_ (Nat.le_of_ble_eq_true rfl) rfl
  refine AT.if_ne M_245 rfl (fun b8 => ?_) (fun b8 => absurd b8 (by decide))
  refine AT.iload_n M_245 rfl rfl ?_
  refine AT.iload_n M_245 rfl rfl ?_
  refine AT.icmp_ne M_245 rfl (fun b15 => ?_) (fun b15 => absurd (i32_nat (by omega) (by omega) (Classical.not_not.mp b15)) hne)
  refine AT.aload_n M_245 rfl rfl ?_
  refine AT.r11_0 M_245 rfl ?_
  refine AT.r10_12 M_245 rfl (show 2 ≤ 2 by omega) (show 2 < 4 by omega) ?_
  refine AT.iload_n M_245 rfl rfl ?_
  refine AT.ra_30 M_245 rfl rfl (show 2 ≤ 2 by omega) (show 2 < 4 by omega) (by assumption) ?_
  refine AT.iload_n M_245 rfl rfl ?_
  refine AT.ishr M_245 rfl rfl ?_
  refine AT.iconst M_245 rfl (v := 1) (by decide) ?_
  refine AT.iand M_245 rfl rfl ?_
  rw [i32_bit hj]
  refine AT.iload_n M_245 rfl rfl ?_
  refine AT.icmp_ne M_245 rfl (fun b30 => absurd hb b30) (fun b30 => ?_)
  refine AT.aload_n M_245 rfl rfl ?_
  refine AT.iconst M_245 rfl (v := 3) (by decide) ?_
  refine AT.cv2i M_245 rfl M_233 rfl (Nat.le_of_ble_eq_true rfl) (xKd.of sh_mod) (by decide) c_233 ?_ (Nat.le_of_ble_eq_true rfl) rfl
  refine AT.iret M_245 rfl rfl ?_
  exact ⟨rfl, rfl⟩
theorem c_245 {X : XS} {s j : Nat} (hs : s < 7) (hj : j < 7) {m : Nat} {b : Int32} (hap : aPr X 2) (hne : ¬ s = j) (hb : ¬ bI (sBit ((xK X 2).1 30 s 0) j) = b) (h7 : ∀ i, i < 7 → ∃ n : Nat, n < 128 ∧ (kTurn (xK X 2) s j).1 30 i 0 = Int32.ofNat n) : RU 245 [some (.ref 388), some (.int (Int32.ofNat s)), some (.int (Int32.ofNat j)), some (.int b)] X (some (.int (sSum (fun i => sCnt ((kTurn (xK X 2) s j).1 30 i 0)) 7 / 2))) (fun Z => rRel0 2 m 0 0 (xSetT X 0) Z (kTurn (xK X 2) s j) ∧ aPr Z 2) := by
  refine AT.aload_n M_245 rfl rfl ?_
  refine AT.iconst M_245 rfl (v := 0) (by decide) ?_
  refine AT.w11_2 M_245 rfl ?_
  try simp only [xK_same, xSetK_idem, xD_setK]
  refine AT.iload_n M_245 rfl rfl ?_
  refine AT.cs1i M_245 rfl M_234 rfl (Nat.le_of_ble_eq_true rfl) rfl (c_234 hs) ?_ (Nat.le_of_ble_eq_true rfl) rfl
  try simp only [xK_same, xSetK_idem, xD_setK]
  refine AT.if_eq M_245 rfl (fun b5 => absurd b5 (by decide)) (fun b5 => ?_)
  refine AT.iload_n M_245 rfl rfl ?_
  refine AT.cs1i M_245 rfl M_234 rfl (Nat.le_of_ble_eq_true rfl) rfl (c_234 hj) ?_ (Nat.le_of_ble_eq_true rfl) rfl
  try simp only [xK_same, xSetK_idem, xD_setK]
  refine AT.if_ne M_245 rfl (fun b8 => ?_) (fun b8 => absurd b8 (by decide))
  refine AT.iload_n M_245 rfl rfl ?_
  refine AT.iload_n M_245 rfl rfl ?_
  refine AT.icmp_ne M_245 rfl (fun b15 => ?_) (fun b15 => absurd (i32_nat (by omega) (by omega) (Classical.not_not.mp b15)) hne)
  refine AT.aload_n M_245 rfl rfl ?_
  refine AT.r11_0 M_245 rfl ?_
  refine AT.r10_12 M_245 rfl (show 2 ≤ 2 by omega) (show 2 < 4 by omega) ?_
  refine AT.iload_n M_245 rfl rfl ?_
  refine AT.ra_30 M_245 rfl rfl (show 2 ≤ 2 by omega) (show 2 < 4 by omega) (by assumption) ?_
  refine AT.iload_n M_245 rfl rfl ?_
  refine AT.ishr M_245 rfl rfl ?_
  refine AT.iconst M_245 rfl (v := 1) (by decide) ?_
  refine AT.iand M_245 rfl rfl ?_
  rw [i32_bit hj]
  refine AT.iload_n M_245 rfl rfl ?_
  refine AT.icmp_ne M_245 rfl (fun b30 => ?_) (fun b30 => absurd (Classical.not_not.mp b30) hb)
  refine AT.aload_n M_245 rfl rfl ?_
  refine AT.r11_0 M_245 rfl ?_
  refine AT.r10_12 M_245 rfl (show 2 ≤ 2 by omega) (show 2 < 4 by omega) ?_
  refine AT.iload_n M_245 rfl rfl ?_
  refine AT.dup2 M_245 rfl ?_
  refine AT.ra_30 M_245 rfl rfl (show 2 ≤ 2 by omega) (show 2 < 4 by omega) (by assumption) ?_
  refine AT.iconst M_245 rfl (v := 1) (by decide) ?_
  refine AT.iload_n M_245 rfl rfl ?_
  refine AT.ishl M_245 rfl rfl ?_
  refine AT.ixor M_245 rfl rfl ?_
  refine AT.rs_30 M_245 rfl rfl (show 2 ≤ 2 by omega) (show 2 < 4 by omega) (by assumption) ?_
  try simp only [xK_same, xSetK_idem, xD_setK]
  refine AT.aload_n M_245 rfl rfl ?_
  refine AT.r11_0 M_245 rfl ?_
  refine AT.r10_12 M_245 rfl (show 2 ≤ 2 by omega) (show 2 < 4 by omega) ?_
  refine AT.iload_n M_245 rfl rfl ?_
  refine AT.dup2 M_245 rfl ?_
  refine AT.ra_30 M_245 rfl rfl (show 2 ≤ 2 by omega) (show 2 < 4 by omega) (by assumption) ?_
  refine AT.iconst M_245 rfl (v := 1) (by decide) ?_
  refine AT.iload_n M_245 rfl rfl ?_
  refine AT.ishl M_245 rfl rfl ?_
  refine AT.ixor M_245 rfl rfl ?_
  refine AT.rs_30 M_245 rfl rfl (show 2 ≤ 2 by omega) (show 2 < 4 by omega) (by assumption) ?_
  try simp only [xK_same, xSetK_idem, xD_setK]
  rw [show kSet (kSet (xK (xSetT X 0) 2) 30 s 0 ((xK (xSetT X 0) 2).1 30 s 0 ^^^ ((1 : Int32) <<< (Int32.ofNat j &&& 31)))) 30 j 0 ((kSet (xK (xSetT X 0) 2) 30 s 0 ((xK (xSetT X 0) 2).1 30 s 0 ^^^ ((1 : Int32) <<< (Int32.ofNat j &&& 31)))).1 30 j 0 ^^^ ((1 : Int32) <<< (Int32.ofNat s &&& 31))) = kTurn (xK X 2) s j from rfl]
  refine AT.aload_n M_245 rfl rfl ?_
  refine AT.cv1i M_245 rfl M_240 rfl (Nat.le_of_ble_eq_true rfl) (xKd.of sh_mod) (by decide) (c_240 (X := xSetK (xSetT X 0) 2 (kTurn (xK X 2) s j)) (by rw [xK_same]; exact h7)) ?_ (Nat.le_of_ble_eq_true rfl) rfl
  try simp only [xK_same, xSetK_idem, xD_setK]
  refine AT.iret M_245 rfl rfl ?_
  refine ⟨rfl, rRel0.set 2 m (xSetT X 0) _, fun i hi => ?_⟩
  rw [xK_same]
  exact (hap i hi).trans (by unfold kTurn; rw [kSet_ne (by omega), kSet_ne (by omega)])
