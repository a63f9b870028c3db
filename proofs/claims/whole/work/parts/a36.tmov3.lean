/-! ===== THE TWIN: twice, hand over ===== -/
theorem mHur_row {K : KK} {s j : Nat} {k : Nat} (hk : k < 36) : mRow (mHur K s j) k = rw6 8 (Int32.ofNat s) (Int32.ofNat j) (K.1 5 s 0) 0 0 k := by
  rcases (by omega : k = 0 ∨ k = 1 ∨ k = 2 ∨ k = 3 ∨ k = 4 ∨ k = 5 ∨ k = 6 ∨ k = 7 ∨ 8 ≤ k) with rfl | rfl | rfl | rfl | rfl | rfl | rfl | rfl | z
  iterate 8 rfl
  unfold mRow rw6
  rw [if_neg (by omega), if_neg (by omega), if_neg (by omega), if_neg (by omega), if_neg (by omega), if_neg (show ¬ (mHur K s j).1 1 = 7 by show ¬ (8 : Int32) = 7; decide),
    if_neg (by omega), if_neg (by omega), if_neg (by omega), if_neg (by omega), if_neg (by omega), if_neg (by omega)]
  rfl
theorem c_260x2 {X : XS} {j : Nat} (hj : j < (xK X 2).2.2.length) (hn : ¬ (xK X 2).2.2.length < 60) : RT 260 [some (.ref 388), some (.int (Int32.ofNat j))] X (some (.int 0)) (xSetT X 2) := by
  refine AT.rep (fun hr => ?_)
  have h60 := (hr.choose_spec.2.2.2.2.2.2.1 2 (by omega)).1
  have hpo := hr.choose_spec.2.2.2.2.2.2.2.2.2.2.2.2.2.1
  refine AT.aload_n M_260 rfl rfl ?_
  refine AT.iconst M_260 rfl (v := 0) (by decide) ?_
  refine AT.w11_2 M_260 rfl ?_
  refine AT.aload_n M_260 rfl rfl ?_
  refine AT.iload_n M_260 rfl rfl ?_
  refine AT.cv2i M_260 rfl M_238 rfl (Nat.le_of_ble_eq_true rfl) (xKd.of sh_mod) (by decide) (c_238 (X := (xSetT X 0))) ?_ (Nat.le_of_ble_eq_true rfl) rfl
  rw [i32_msg (n := (xK (xSetT X 0) 2).2.2.length) hj h60]
  refine AT.if_ne M_260 rfl (fun b6 => ?_) (fun b6 => absurd b6 (by decide))
  refine AT.aload_n M_260 rfl rfl ?_
  refine AT.r11_0 M_260 rfl ?_
  refine AT.r10_22 M_260 rfl (show 2 ≤ 2 by omega) (show 2 < 4 by omega) ?_
  refine AT.bipush M_260 rfl (v := 60) (by decide) ?_
  refine AT.icmp_ne M_260 rfl (fun b15 => absurd (show Int32.ofNat (xK X 2).2.2.length = Int32.ofNat 60 from congrArg _ (by omega)) b15) (fun b15 => ?_)
  refine AT.aload_n M_260 rfl rfl ?_
  refine AT.iconst M_260 rfl (v := 2) (by decide) ?_
  refine AT.cv2i M_260 rfl M_233 rfl (Nat.le_of_ble_eq_true rfl) (xKd.of sh_mod) (by decide) c_233 ?_ (Nat.le_of_ble_eq_true rfl) rfl
  refine AT.iret M_260 rfl rfl ?_
  exact ⟨rfl, rfl⟩
theorem c_260 {X : XS} {m j : Nat} {u : MSG} (hap : aPr X 2) (hu : (xK X 2).2.2[j]? = some u) (hn : (xK X 2).2.2.length < 60) : RU 260 [some (.ref 388), some (.int (Int32.ofNat j))] X (some (.int (Int32.ofNat (kSend (xK X 2) u).2.2.length))) (fun Z => rRel0 2 m 0 0 (xSetT X 0) Z (kSend (xK X 2) u) ∧ aPr Z 2) := by
  refine AT.rep (fun hr => ?_)
  have h60 := (hr.choose_spec.2.2.2.2.2.2.1 2 (by omega)).1
  have hpo := hr.choose_spec.2.2.2.2.2.2.2.2.2.2.2.2.2.1
  have hj := (List.getElem?_eq_some_iff.mp hu).1
  refine AT.aload_n M_260 rfl rfl ?_
  refine AT.iconst M_260 rfl (v := 0) (by decide) ?_
  refine AT.w11_2 M_260 rfl ?_
  refine AT.aload_n M_260 rfl rfl ?_
  refine AT.iload_n M_260 rfl rfl ?_
  refine AT.cv2i M_260 rfl M_238 rfl (Nat.le_of_ble_eq_true rfl) (xKd.of sh_mod) (by decide) (c_238 (X := (xSetT X 0))) ?_ (Nat.le_of_ble_eq_true rfl) rfl
  rw [i32_msg (n := (xK (xSetT X 0) 2).2.2.length) hj h60]
  refine AT.if_ne M_260 rfl (fun b6 => ?_) (fun b6 => absurd b6 (by decide))
  refine AT.aload_n M_260 rfl rfl ?_
  refine AT.r11_0 M_260 rfl ?_
  refine AT.r10_22 M_260 rfl (show 2 ≤ 2 by omega) (show 2 < 4 by omega) ?_
  refine AT.bipush M_260 rfl (v := 60) (by decide) ?_
  refine AT.icmp_ne M_260 rfl (fun b15 => ?_) (fun b15 => absurd (i32_nat (b := 60) (by show (xK X 2).2.2.length < _; omega) (by omega) (Classical.not_not.mp b15)) (by show ¬ (xK X 2).2.2.length = 60; omega))
  refine AT.aload_n M_260 rfl rfl ?_
  refine AT.r11_0 M_260 rfl ?_
  refine AT.r10_23 M_260 rfl (show 2 ≤ 2 by omega) (show 2 < 4 by omega) ?_
  refine AT.iload_n M_260 rfl rfl ?_
  refine AT.bipush M_260 rfl (v := 36) (by decide) ?_
  refine AT.imul M_260 rfl rfl ?_
  refine AT.aload_n M_260 rfl rfl ?_
  refine AT.r11_0 M_260 rfl ?_
  refine AT.r10_23 M_260 rfl (show 2 ≤ 2 by omega) (show 2 < 4 by omega) ?_
  refine AT.aload_n M_260 rfl rfl ?_
  refine AT.r11_0 M_260 rfl ?_
  refine AT.r10_22 M_260 rfl (show 2 ≤ 2 by omega) (show 2 < 4 by omega) ?_
  refine AT.bipush M_260 rfl (v := 36) (by decide) ?_
  refine AT.imul M_260 rfl rfl ?_
  refine AT.bipush M_260 rfl (v := 36) (by decide) ?_
  refine AT.acp M_260 rfl rfl (Nat.le_of_ble_eq_true rfl) (n := 36) (p := 36 * j) (q := 36 * (xK X 2).2.2.length) rfl (by rw [i32_36]) (by rw [i32_36]; rfl) ⟨by omega, by omega, by omega⟩ (Or.inl rfl) (src.loc (X := (xSetT X 0)) (o := 2) (f := 41) (fi := fun _ => 0) (fj := fun q => 36 * j + q) (v := fun q => dV (xD X) 2 41 0 (36 * j + q)) (sh_post (by omega) (by omega)) (by omega) (by omega) (fun q hq => lo_post (by omega) (by omega) (by omega)) (fun q hq => rfl)) (dst.post (X := (xSetT X 0)) (o := 2) (by omega) (by omega) (by omega) (fun j' u' hu' k hk => ?_)) ?_
  · have hj' := (List.getElem?_eq_some_iff.mp hu').1
    have hj2 : j' < (xK X 2).2.2.length := hj'
    unfold vPut
    rw [if_neg (by omega)]
    exact hpo 2 (by omega) (by omega) j' u' hu' k hk
  skip
  refine AT.aload_n M_260 rfl rfl ?_
  refine AT.r11_0 M_260 rfl ?_
  refine AT.dup M_260 rfl ?_
  refine AT.r10_22 M_260 rfl (show 2 ≤ 2 by omega) (show 2 < 4 by omega) ?_
  refine AT.iconst M_260 rfl (v := 1) (by decide) ?_
  refine AT.iadd M_260 rfl rfl ?_
  refine AT.w10_22 (o := 2) (l' := (xK X 2).2.2 ++ [u]) M_260 rfl (show 2 ≤ 2 by omega) (show 2 < 4 by omega) (by rw [List.length_append, List.length_singleton]; exact i32_suc1 _) (by rw [List.length_append, List.length_singleton]; omega) (fun j' u' hu' k hk => ?_) ?_
  · show (vPut (dV (xD X) 2 41 0) (36 * (xK X 2).2.2.length) 36 (fun q => dV (xD X) 2 41 0 (36 * j + q))) (36 * j' + k) = _
    unfold vPut
    rcases Nat.lt_or_ge j' (xK X 2).2.2.length with z | z
    · rw [List.getElem?_append_left z] at hu'
      rw [if_neg (by omega)]
      exact hpo 2 (by omega) (by omega) j' u' hu' k hk
    · have hz : j' = (xK X 2).2.2.length := by
        have := (List.getElem?_eq_some_iff.mp hu').1
        rw [List.length_append, List.length_singleton] at this
        omega
      subst hz
      rw [List.getElem?_append_right (Nat.le_refl _), Nat.sub_self] at hu'
      have hu2 : u = u' := Option.some.inj hu'
      subst hu2
      rw [if_pos (by omega)]
      show dV (xD X) 2 41 0 (36 * j + (36 * (xK X 2).2.2.length + k - 36 * (xK X 2).2.2.length)) = _
      rw [show 36 * j + (36 * (xK X 2).2.2.length + k - 36 * (xK X 2).2.2.length) = 36 * j + k by omega]
      exact hpo 2 (by omega) (by omega) j u hu k hk
  skip
  refine AT.aload_n M_260 rfl rfl ?_
  refine AT.r11_0 M_260 rfl ?_
  refine AT.r10_22 M_260 rfl (show 2 ≤ 2 by omega) (show 2 < 4 by omega) ?_
  refine AT.iret M_260 rfl rfl ?_
  rw [xK_same, show kSend (xK X 2) u = kNet (xK X 2) ((xK X 2).2.2 ++ [u]) from if_pos hn]
  refine ⟨rfl, ((rRel0.rf 2 m (xSetT X 0)).row 41 0 _).net _, fun i hi => ?_⟩
  rw [xK_same]
  exact hap i hi
