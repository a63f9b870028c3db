/-! ===== THE TWIN: clients, rounds ===== -/
theorem c_276 {X : XS} : RT 276 [some (.ref 388)] X (some (.int ((xK X 2).1 33 0 0))) (xSetT X 0) := by
  refine AT.aload_n M_276 rfl rfl ?_
  refine AT.iconst M_276 rfl (v := 0) (by decide) ?_
  refine AT.w11_2 M_276 rfl ?_
  refine AT.aload_n M_276 rfl rfl ?_
  refine AT.r11_0 M_276 rfl ?_
  refine AT.r10_0 M_276 rfl (show 2 ≤ 2 by omega) (show 2 < 4 by omega) ?_
  refine AT.iret M_276 rfl rfl ?_
  exact ⟨rfl, rfl⟩
theorem c_277 {X : XS} : RT 277 [some (.ref 388)] X (some (.int ((xK X 2).1 32 0 0))) (xSetT X 0) := by
  refine AT.aload_n M_277 rfl rfl ?_
  refine AT.iconst M_277 rfl (v := 0) (by decide) ?_
  refine AT.w11_2 M_277 rfl ?_
  refine AT.aload_n M_277 rfl rfl ?_
  refine AT.r11_0 M_277 rfl ?_
  refine AT.r10_1 M_277 rfl (show 2 ≤ 2 by omega) (show 2 < 4 by omega) ?_
  refine AT.iret M_277 rfl rfl ?_
  exact ⟨rfl, rfl⟩
theorem c_273x {X : XS} {p : Int32} (hp : p < 0 ∨ ¬ p < 4) : RT 273 [some (.ref 388), some (.int p)] X (some (.int 0)) (xSetT X 1) := by
  refine AT.aload_n M_273 rfl rfl ?_
  refine AT.iconst M_273 rfl (v := 0) (by decide) ?_
  refine AT.w11_2 M_273 rfl ?_
  refine AT.iload_n M_273 rfl rfl ?_
  refine AT.cs1i M_273 rfl M_235 rfl (Nat.le_of_ble_eq_true rfl) rfl (c_235x hp) ?_ (Nat.le_of_ble_eq_true rfl) rfl
  refine AT.if_eq M_273 rfl (fun b5 => ?_) (fun b5 => absurd rfl b5)
  refine AT.aload_n M_273 rfl rfl ?_
  refine AT.iconst M_273 rfl (v := 1) (by decide) ?_
  refine AT.cv2i M_273 rfl M_233 rfl (Nat.le_of_ble_eq_true rfl) (xKd.of sh_mod) (by decide) c_233 ?_ (Nat.le_of_ble_eq_true rfl) rfl
  refine AT.iret M_273 rfl rfl ?_
  exact ⟨rfl, rfl⟩
theorem c_273 {X : XS} {c : Nat} (hc : c < 4) : RT 273 [some (.ref 388), some (.int (Int32.ofNat c))] X (some (.int ((xK X 2).1 34 c 3))) (xSetT X 0) := by
  refine AT.aload_n M_273 rfl rfl ?_
  refine AT.iconst M_273 rfl (v := 0) (by decide) ?_
  refine AT.w11_2 M_273 rfl ?_
  refine AT.iload_n M_273 rfl rfl ?_
  refine AT.cs1i M_273 rfl M_235 rfl (Nat.le_of_ble_eq_true rfl) rfl (c_235 hc) ?_ (Nat.le_of_ble_eq_true rfl) rfl
  refine AT.if_eq M_273 rfl (fun b5 => absurd b5 (by decide)) (fun b5 => ?_)
  refine AT.aload_n M_273 rfl rfl ?_
  refine AT.r11_0 M_273 rfl ?_
  refine AT.r10_25 M_273 rfl (show 2 ≤ 2 by omega) (show 2 < 4 by omega) ?_
  refine AT.iload_n M_273 rfl rfl ?_
  refine AT.bipush M_273 rfl (v := 7) (by decide) ?_
  refine AT.imul M_273 rfl rfl ?_
  refine AT.iconst M_273 rfl (v := 3) (by decide) ?_
  refine AT.iadd M_273 rfl rfl ?_
  refine AT.ra_req M_273 rfl (c := c) (j := 3) hc (by omega) (by rw [Int32.ofNat_add, Nat.mul_comm, Int32.ofNat_mul]; rfl) (show 2 ≤ 2 by omega) (show 2 < 4 by omega) ?_
  refine AT.goto M_273 rfl ?_
  refine AT.iret M_273 rfl rfl ?_
  exact ⟨rfl, rfl⟩
theorem c_274x {X : XS} {p : Int32} (hp : p < 0 ∨ ¬ p < 4) : RT 274 [some (.ref 388), some (.int p)] X (some (.int 0)) (xSetT X 1) := by
  refine AT.aload_n M_274 rfl rfl ?_
  refine AT.iconst M_274 rfl (v := 0) (by decide) ?_
  refine AT.w11_2 M_274 rfl ?_
  refine AT.iload_n M_274 rfl rfl ?_
  refine AT.cs1i M_274 rfl M_235 rfl (Nat.le_of_ble_eq_true rfl) rfl (c_235x hp) ?_ (Nat.le_of_ble_eq_true rfl) rfl
  refine AT.if_eq M_274 rfl (fun b5 => ?_) (fun b5 => absurd rfl b5)
  refine AT.aload_n M_274 rfl rfl ?_
  refine AT.iconst M_274 rfl (v := 1) (by decide) ?_
  refine AT.w11_2 M_274 rfl ?_
  refine AT.iconst M_274 rfl (v := 0) (by decide) ?_
  refine AT.zret M_274 rfl rfl (by first | exact Or.inl rfl | exact Or.inr rfl | assumption) ?_
  exact ⟨rfl, rfl⟩
theorem c_274 {X : XS} {c : Nat} (hc : c < 4) : RT 274 [some (.ref 388), some (.int (Int32.ofNat c))] X (some (.int ((xK X 2).1 35 c 0))) (xSetT X 0) := by
  refine AT.rep (fun hr => ?_)
  have h01 := (hr.choose_spec.2.2.2.2.2.2.1 2 (by omega)).2.2 c hc
  refine AT.aload_n M_274 rfl rfl ?_
  refine AT.iconst M_274 rfl (v := 0) (by decide) ?_
  refine AT.w11_2 M_274 rfl ?_
  refine AT.iload_n M_274 rfl rfl ?_
  refine AT.cs1i M_274 rfl M_235 rfl (Nat.le_of_ble_eq_true rfl) rfl (c_235 hc) ?_ (Nat.le_of_ble_eq_true rfl) rfl
  refine AT.if_eq M_274 rfl (fun b5 => absurd b5 (by decide)) (fun b5 => ?_)
  refine AT.aload_n M_274 rfl rfl ?_
  refine AT.r11_0 M_274 rfl ?_
  refine AT.r10_26 M_274 rfl (show 2 ≤ 2 by omega) (show 2 < 4 by omega) ?_
  refine AT.iload_n M_274 rfl rfl ?_
  refine AT.ra_35 M_274 rfl rfl (show 2 ≤ 2 by omega) (show 2 < 4 by omega) hc ?_
  refine AT.iconst M_274 rfl (v := 1) (by decide) ?_
  refine AT.icmp_ne M_274 rfl (fun b12 => ?_) (fun b12 => ?_)
  · refine AT.iconst M_274 rfl (v := 0) (by decide) ?_
    refine AT.zret M_274 rfl rfl (by first | exact Or.inl rfl | exact Or.inr rfl | assumption) ?_
    rw [show (xK X 2).1 35 c 0 = 0 from h01.resolve_right b12]
    exact ⟨rfl, rfl⟩
  · refine AT.iconst M_274 rfl (v := 1) (by decide) ?_
    refine AT.goto M_274 rfl ?_
    refine AT.zret M_274 rfl rfl (by first | exact Or.inl rfl | exact Or.inr rfl | assumption) ?_
    rw [show (xK X 2).1 35 c 0 = 1 from Classical.not_not.mp b12]
    exact ⟨rfl, rfl⟩
theorem c_275x1 {X : XS} {p : Int32} (hp : p < 0 ∨ ¬ p < 4) : RT 275 [some (.ref 388), some (.int p)] X (some (.int 0)) (xSetT X 1) := by
  refine AT.aload_n M_275 rfl rfl ?_
  refine AT.iconst M_275 rfl (v := 0) (by decide) ?_
  refine AT.w11_2 M_275 rfl ?_
  refine AT.iload_n M_275 rfl rfl ?_
  refine AT.cs1i M_275 rfl M_235 rfl (Nat.le_of_ble_eq_true rfl) rfl (c_235x hp) ?_ (Nat.le_of_ble_eq_true rfl) rfl
  refine AT.if_ne M_275 rfl (fun b5 => absurd rfl b5) (fun b5 => ?_)
  refine AT.aload_n M_275 rfl rfl ?_
  refine AT.iconst M_275 rfl (v := 1) (by decide) ?_
  refine AT.cv2i M_275 rfl M_233 rfl (Nat.le_of_ble_eq_true rfl) (xKd.of sh_mod) (by decide) c_233 ?_ (Nat.le_of_ble_eq_true rfl) rfl
  refine AT.iret M_275 rfl rfl ?_
  exact ⟨rfl, rfl⟩
theorem c_275 {X : XS} {c : Nat} (hc : c < 4) (ha : (xK X 2).1 35 c 0 = 1) : RT 275 [some (.ref 388), some (.int (Int32.ofNat c))] X (some (.int ((xK X 2).1 36 c 0))) (xSetT X 0) := by
  refine AT.aload_n M_275 rfl rfl ?_
  refine AT.iconst M_275 rfl (v := 0) (by decide) ?_
  refine AT.w11_2 M_275 rfl ?_
  refine AT.iload_n M_275 rfl rfl ?_
  refine AT.cs1i M_275 rfl M_235 rfl (Nat.le_of_ble_eq_true rfl) rfl (c_235 hc) ?_ (Nat.le_of_ble_eq_true rfl) rfl
  refine AT.if_ne M_275 rfl (fun b5 => ?_) (fun b5 => absurd b5 (by decide))
  refine AT.aload_n M_275 rfl rfl ?_
  refine AT.r11_0 M_275 rfl ?_
  refine AT.r10_26 M_275 rfl (show 2 ≤ 2 by omega) (show 2 < 4 by omega) ?_
  refine AT.iload_n M_275 rfl rfl ?_
  refine AT.ra_35 M_275 rfl rfl (show 2 ≤ 2 by omega) (show 2 < 4 by omega) hc ?_
  refine AT.iconst M_275 rfl (v := 1) (by decide) ?_
  refine AT.icmp_ne M_275 rfl (fun b16 => absurd (show (xK (xSetT X 0) 2).1 35 c 0 = 1 from ha) b16) (fun b16 => ?_)
  refine AT.aload_n M_275 rfl rfl ?_
  refine AT.r11_0 M_275 rfl ?_
  refine AT.r10_27 M_275 rfl (show 2 ≤ 2 by omega) (show 2 < 4 by omega) ?_
  refine AT.iload_n M_275 rfl rfl ?_
  refine AT.ra_36 M_275 rfl rfl (show 2 ≤ 2 by omega) (show 2 < 4 by omega) hc ?_
  refine AT.goto M_275 rfl ?_
  refine AT.iret M_275 rfl rfl ?_
  exact ⟨rfl, rfl⟩
theorem c_275x2 {X : XS} {c : Nat} (hc : c < 4) (ha : (xK X 2).1 35 c 0 = 0) : RT 275 [some (.ref 388), some (.int (Int32.ofNat c))] X (some (.int 0)) (xSetT X 2) := by
  refine AT.aload_n M_275 rfl rfl ?_
  refine AT.iconst M_275 rfl (v := 0) (by decide) ?_
  refine AT.w11_2 M_275 rfl ?_
  refine AT.iload_n M_275 rfl rfl ?_
  refine AT.cs1i M_275 rfl M_235 rfl (Nat.le_of_ble_eq_true rfl) rfl (c_235 hc) ?_ (Nat.le_of_ble_eq_true rfl) rfl
  refine AT.if_ne M_275 rfl (fun b5 => ?_) (fun b5 => absurd b5 (by decide))
  refine AT.aload_n M_275 rfl rfl ?_
  refine AT.r11_0 M_275 rfl ?_
  refine AT.r10_26 M_275 rfl (show 2 ≤ 2 by omega) (show 2 < 4 by omega) ?_
  refine AT.iload_n M_275 rfl rfl ?_
  refine AT.ra_35 M_275 rfl rfl (show 2 ≤ 2 by omega) (show 2 < 4 by omega) hc ?_
  refine AT.iconst M_275 rfl (v := 1) (by decide) ?_
  refine AT.icmp_ne M_275 rfl (fun b16 => ?_) (fun b16 => absurd (Classical.not_not.mp b16) (show ¬ (xK X 2).1 35 c 0 = 1 from by rw [ha]; decide))
  refine AT.aload_n M_275 rfl rfl ?_
  refine AT.iconst M_275 rfl (v := 2) (by decide) ?_
  refine AT.cv2i M_275 rfl M_233 rfl (Nat.le_of_ble_eq_true rfl) (xKd.of sh_mod) (by decide) c_233 ?_ (Nat.le_of_ble_eq_true rfl) rfl
  refine AT.iret M_275 rfl rfl ?_
  exact ⟨rfl, rfl⟩
