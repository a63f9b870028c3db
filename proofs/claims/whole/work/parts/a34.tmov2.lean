/-! ===== THE TWIN: found, pass, messages ===== -/
theorem c_242 {X : XS} {n : Nat} {m : Int32} (hm : (1 : Int32) ≤ m ∧ m ≤ 7) : RU 242 [some (.ref 388), some (.int m)] X (some (.int (m / 2 + 1))) (fun Y => rRel0 2 n 0 0 (xSetT X 0) Y (kBegin (xK X 2) (sFirst m)) ∧ aPr Y 2) := by
  refine AT.aload_n M_242 rfl rfl ?_
  refine AT.iconst M_242 rfl (v := 0) (by decide) ?_
  refine AT.w11_2 M_242 rfl ?_
  refine AT.iload_n M_242 rfl rfl ?_
  refine AT.iconst M_242 rfl (v := 1) (by decide) ?_
  refine AT.icmp_lt M_242 rfl (fun b5 => absurd b5 (Int32.not_lt.mpr hm.1)) (fun b5 => ?_)
  refine AT.iload_n M_242 rfl rfl ?_
  refine AT.bipush M_242 rfl (v := 7) (by decide) ?_
  refine AT.icmp_le M_242 rfl (fun b8 => ?_) (fun b8 => absurd (Int32.not_le.mp b8) (Int32.not_lt.mpr hm.2))
  refine AT.aload_n M_242 rfl rfl ?_
  refine AT.r11_0 M_242 rfl ?_
  refine AT.iload_n M_242 rfl rfl ?_
  refine AT.cv2w M_242 rfl M_182 rfl (Nat.le_of_ble_eq_true rfl) (xKd.of (sh_st (o := 2) (by omega) (by omega))) (by decide) (c_182 (X := (xSetT X 0)) (o := 2) (m := n) (by omega) (by omega)) (fun Y hc16 => ?_) (Nat.le_of_ble_eq_true rfl) rfl
  obtain ⟨r1, a1⟩ := hc16
  refine AT.iload_n M_242 rfl rfl ?_
  refine AT.iconst M_242 rfl (v := 2) (by decide) ?_
  refine AT.idiv M_242 rfl (by decide) rfl ?_
  refine AT.iconst M_242 rfl (v := 1) (by decide) ?_
  refine AT.iadd M_242 rfl rfl ?_
  refine AT.iret M_242 rfl rfl ?_
  exact ⟨rfl, r1, a1⟩
theorem c_242x {X : XS} {m : Int32} (hm : ¬ ((1 : Int32) ≤ m ∧ m ≤ 7)) : RT 242 [some (.ref 388), some (.int m)] X (some (.int 0)) (xSetT X 1) := by
  refine AT.aload_n M_242 rfl rfl ?_
  refine AT.iconst M_242 rfl (v := 0) (by decide) ?_
  refine AT.w11_2 M_242 rfl ?_
  refine AT.iload_n M_242 rfl rfl ?_
  refine AT.iconst M_242 rfl (v := 1) (by decide) ?_
  refine AT.icmp_lt M_242 rfl (fun b5 => ?_) (fun b5 => ?_)
  · refine AT.aload_n M_242 rfl rfl ?_
    refine AT.iconst M_242 rfl (v := 1) (by decide) ?_
    refine AT.cv2i M_242 rfl M_233 rfl (Nat.le_of_ble_eq_true rfl) (xKd.of sh_mod) (by decide) c_233 ?_ (Nat.le_of_ble_eq_true rfl) rfl
    refine AT.iret M_242 rfl rfl ?_
    exact ⟨rfl, rfl⟩
  · refine AT.iload_n M_242 rfl rfl ?_
    refine AT.bipush M_242 rfl (v := 7) (by decide) ?_
    refine AT.icmp_le M_242 rfl (fun b8 => ?_) (fun b8 => ?_)
    · exact absurd ⟨Int32.not_lt.mp b5, b8⟩ hm
    · refine AT.aload_n M_242 rfl rfl ?_
      refine AT.iconst M_242 rfl (v := 1) (by decide) ?_
      refine AT.cv2i M_242 rfl M_233 rfl (Nat.le_of_ble_eq_true rfl) (xKd.of sh_mod) (by decide) c_233 ?_ (Nat.le_of_ble_eq_true rfl) rfl
      refine AT.iret M_242 rfl rfl ?_
      exact ⟨rfl, rfl⟩
theorem l_248 {n m : Nat} {J : Nat → KK → Prop} (hJ : kInv n J) (hJ2 : ∀ k K, J k K → kRf K) (hnm : n + 1 ≤ m) (hM : m ≤ 399980) {N : Nat} (hN : N < 2147483648) (x2 : Int32) : ∀ d q : Nat, q + d = N → ∀ X : XS, J (68 * d) (xK X 2) → aPr X 2 → rOkR X 2 → AT 248 19 [some (.ref 388), some (.int (Int32.ofNat N)), some (.int x2), some (.int (Int32.ofNat q))] [] X (fun o' Z => o' = .inl (some (.int ((kRnds d (xK X 2)).1 32 0 0 - x2))) ∧ rRel0 2 m (kRndsN d (xK X 2)) (kRndsN d (xK X 2) * 7) X Z (kRnds d (xK X 2)) ∧ aPr Z 2 ∧ J 0 (xK Z 2))
  | 0, q, hq, X, hX, hap, hR => by
    show AT 248 19 _ [] X (fun o' Z => o' = .inl (some (.int ((xK X 2).1 32 0 0 - x2))) ∧ rRel0 2 m (kRndsN 0 (xK X 2)) (kRndsN 0 (xK X 2) * 7) X Z (xK X 2) ∧ aPr Z 2 ∧ J 0 (xK Z 2))
    refine AT.iload_n M_248 rfl rfl ?_
    refine AT.iload_n M_248 rfl rfl ?_
    refine AT.icmp_ge M_248 rfl (fun b21 => ?_) (fun b21 => absurd (by rw [show q = N by omega]; exact Int32.le_refl _) b21)
    refine AT.aload_n M_248 rfl rfl ?_
    refine AT.r11_0 M_248 rfl ?_
    refine AT.r10_1 M_248 rfl (show 2 ≤ 2 by omega) (show 2 < 4 by omega) ?_
    refine AT.iload_n M_248 rfl rfl ?_
    refine AT.isub M_248 rfl rfl ?_
    refine AT.iret M_248 rfl rfl ?_
    exact ⟨rfl, (rRel0.rf 2 m X).up (by omega) (by omega), hap, hX⟩
  | d + 1, q, hq, X, hX, hap, hR => by
    show AT 248 19 _ [] X (fun o' Z => o' = .inl (some (.int ((kRnds d (kRound (xK X 2))).1 32 0 0 - x2))) ∧ rRel0 2 m (kRndsN (d + 1) (xK X 2)) (kRndsN (d + 1) (xK X 2) * 7) X Z (kRnds d (kRound (xK X 2))) ∧ aPr Z 2 ∧ J 0 (xK Z 2))
    refine AT.iload_n M_248 rfl rfl ?_
    refine AT.iload_n M_248 rfl rfl ?_
    refine AT.icmp_ge M_248 rfl (fun b21 => absurd ((i32_le (a := N) (b := q) (by omega) (by omega)).mp b21) (by omega)) (fun b21 => ?_)
    refine AT.aload_n M_248 rfl rfl ?_
    refine AT.r11_0 M_248 rfl ?_
    refine AT.cv1w M_248 rfl M_220 rfl (Nat.le_of_ble_eq_true rfl) (xKd.of (sh_st (o := 2) (by omega) (by omega))) (by decide) (c_220 (o := 2) (n := n) (m := m) (J := J) (k := 68 * d) (by omega) (by omega) hJ hJ2 hnm hM (by rw [Nat.mul_add] at hX; exact hX) hap hR) (fun Y hc24 => ?_) (Nat.le_of_ble_eq_true rfl) rfl
    obtain ⟨r1, a1, j1⟩ := hc24
    refine AT.iinc3 M_248 rfl rfl (i32_succ _) ?_
    refine AT.goto M_248 rfl ?_
    refine AT.mono (l_248 (m := m) hJ hJ2 hnm hM hN x2 d (q + 1) (by omega) Y j1 a1 (r1.ok (by omega) hR)) ?_
    rintro o' Z ⟨z1, z2, z3, z4⟩
    rw [r1.k] at z1 z2
    exact ⟨z1, (r1.tr z2).up (by show _ ≤ kRoundN (xK X 2) + kRndsN d (kRound (xK X 2)); omega) (by show _ ≤ (kRoundN (xK X 2) + kRndsN d (kRound (xK X 2))) * 7; omega), z3, z4⟩
theorem c_248 {X : XS} {n m : Nat} {J : Nat → KK → Prop} (hJ : kInv n J) (hJ2 : ∀ k K, J k K → kRf K) (hnm : n + 1 ≤ m) (hM : m ≤ 399980) {N : Nat} {mm : Int32} (hN : mm = Int32.ofNat N) (hN9 : N < 2147483648) (hm : (1 : Int32) ≤ mm ∧ mm ≤ 30) (hX : J 2040 (xK X 2)) (hap : aPr X 2) (hR : rOkR X 2) : RU 248 [some (.ref 388), some (.int mm), none, none] X (some (.int ((kRnds N (xK X 2)).1 32 0 0 - (xK X 2).1 32 0 0))) (fun Z => rRel0 2 m (kRndsN N (xK X 2)) (kRndsN N (xK X 2) * 7) (xSetT X 0) Z (kRnds N (xK X 2)) ∧ aPr Z 2 ∧ J 0 (xK Z 2)) := by
  refine AT.aload_n M_248 rfl rfl ?_
  refine AT.iconst M_248 rfl (v := 0) (by decide) ?_
  refine AT.w11_2 M_248 rfl ?_
  refine AT.iload_n M_248 rfl rfl ?_
  refine AT.iconst M_248 rfl (v := 1) (by decide) ?_
  refine AT.icmp_lt M_248 rfl (fun b5 => absurd b5 (Int32.not_lt.mpr hm.1)) (fun b5 => ?_)
  refine AT.iload_n M_248 rfl rfl ?_
  refine AT.bipush M_248 rfl (v := 30) (by decide) ?_
  refine AT.icmp_le M_248 rfl (fun b8 => ?_) (fun b8 => absurd (Int32.not_le.mp b8) (Int32.not_lt.mpr hm.2))
  refine AT.aload_n M_248 rfl rfl ?_
  refine AT.r11_0 M_248 rfl ?_
  refine AT.r10_1 M_248 rfl (show 2 ≤ 2 by omega) (show 2 < 4 by omega) ?_
  refine AT.ist2 M_248 rfl rfl ?_
  refine AT.iconst M_248 rfl (v := 0) (by decide) ?_
  refine AT.ist3 M_248 rfl rfl ?_
  subst hN
  have hN30 : N ≤ 30 := (i32_le (b := 30) (by omega) (by omega)).mp hm.2
  exact l_248 (m := m) hJ hJ2 hnm hM hN9 _ N 0 (by omega) (xSetT X 0) (hJ.le hX (by omega)) hap hR
theorem c_248x {X : XS} {m : Int32} (hm : ¬ ((1 : Int32) ≤ m ∧ m ≤ 30)) : RT 248 [some (.ref 388), some (.int m), none, none] X (some (.int 0)) (xSetT X 1) := by
  refine AT.aload_n M_248 rfl rfl ?_
  refine AT.iconst M_248 rfl (v := 0) (by decide) ?_
  refine AT.w11_2 M_248 rfl ?_
  refine AT.iload_n M_248 rfl rfl ?_
  refine AT.iconst M_248 rfl (v := 1) (by decide) ?_
  refine AT.icmp_lt M_248 rfl (fun b5 => ?_) (fun b5 => ?_)
  · refine AT.aload_n M_248 rfl rfl ?_
    refine AT.iconst M_248 rfl (v := 1) (by decide) ?_
    refine AT.cv2i M_248 rfl M_233 rfl (Nat.le_of_ble_eq_true rfl) (xKd.of sh_mod) (by decide) c_233 ?_ (Nat.le_of_ble_eq_true rfl) rfl
    refine AT.iret M_248 rfl rfl ?_
    exact ⟨rfl, rfl⟩
  · refine AT.iload_n M_248 rfl rfl ?_
    refine AT.bipush M_248 rfl (v := 30) (by decide) ?_
    refine AT.icmp_le M_248 rfl (fun b8 => ?_) (fun b8 => ?_)
    · exact absurd ⟨Int32.not_lt.mp b5, b8⟩ hm
    · refine AT.aload_n M_248 rfl rfl ?_
      refine AT.iconst M_248 rfl (v := 1) (by decide) ?_
      refine AT.cv2i M_248 rfl M_233 rfl (Nat.le_of_ble_eq_true rfl) (xKd.of sh_mod) (by decide) c_233 ?_ (Nat.le_of_ble_eq_true rfl) rfl
      refine AT.iret M_248 rfl rfl ?_
      exact ⟨rfl, rfl⟩
theorem c_257 {X : XS} : RT 257 [some (.ref 388)] X (some (.int (Int32.ofNat (xK X 2).2.2.length))) (xSetT X 0) := by
  refine AT.aload_n M_257 rfl rfl ?_
  refine AT.iconst M_257 rfl (v := 0) (by decide) ?_
  refine AT.w11_2 M_257 rfl ?_
  refine AT.aload_n M_257 rfl rfl ?_
  refine AT.r11_0 M_257 rfl ?_
  refine AT.r10_22 M_257 rfl (show 2 ≤ 2 by omega) (show 2 < 4 by omega) ?_
  refine AT.iret M_257 rfl rfl ?_
  exact ⟨rfl, rfl⟩
