/-! ===== THE TWIN: what would be ===== -/
theorem sRch_0 (c : Nat) (K : KK) : sRch 0 c K = !sAllF (fun i => !sLedP K (fun i => sMem K i) i) 7 := by
  unfold sRch sReach; exact if_pos rfl
theorem sRch_1 (c : Nat) (K : KK) : sRch 1 c K = !(decide (¬ K.1 34 c 3 = 0) && decide (K.1 35 c 0 = 0)) := by
  unfold sRch sReach; rw [if_neg (by decide), if_pos rfl]
theorem sRch_2 (c : Nat) (K : KK) : sRch 2 c K = sAgreed K (fun i => sMem K i) := by
  unfold sRch sReach; rw [if_neg (by decide), if_neg (by decide), if_pos rfl]
theorem sRch_3 (c : Nat) (K : KK) : sRch 3 c K = decide (¬ sCntF (fun i => decide (K.1 12 i 0 = 3)) 7 ≤ 0) := by
  unfold sRch sReach; rw [if_neg (by decide), if_neg (by decide), if_neg (by decide)]
theorem sNew_cnt {ok : Nat → Bool} {nw : Nat → Nat → Bool} : ∀ n, ∃ k, k ≤ n ∧ sCntF ok n = Int32.ofNat k ∧ (k = 0 ↔ sNew ok nw n = none)
  | 0 => ⟨0, Nat.le_refl _, rfl, ⟨fun _ => rfl, fun _ => rfl⟩⟩
  | n + 1 => by
    obtain ⟨k, h1, h2, h3⟩ := sNew_cnt (ok := ok) (nw := nw) n
    unfold sCntF sNew
    cases e : ok n with
    | true =>
      refine ⟨k + 1, by omega, by rw [h2, Int32.ofNat_add]; rfl, ⟨fun z => by omega, fun z => ?_⟩⟩
      rw [if_pos rfl] at z
      cases e2 : sNew ok nw n with
      | none => rw [e2] at z; cases z
      | some b =>
        rw [e2] at z
        dsimp only at z
        split at z <;> cases z
    | false =>
      refine ⟨k, by omega, by rw [h2]; show Int32.ofNat k + 0 = _; rw [Int32.add_zero], ?_⟩
      rw [if_neg (by decide)]
      exact h3
theorem sLdr_cnt (K : KK) : decide (¬ sLdr K = -1) = decide (¬ sCntF (fun i => decide (K.1 12 i 0 = 3)) 7 ≤ 0) := by
  obtain ⟨k, h1, h2, h3⟩ := sNew_cnt (ok := fun i => decide (K.1 12 i 0 = 3)) (nw := fun b i => decide (¬ K.1 5 i 0 ≤ K.1 5 b 0)) 7
  rw [sLdr_oI, h2]
  unfold sNewL
  rcases Nat.eq_zero_or_pos k with e | e
  · rw [h3.mp e, e]; rfl
  · cases e2 : sNew (fun i => decide (K.1 12 i 0 = 3)) (fun b i => decide (¬ K.1 5 i 0 ≤ K.1 5 b 0)) 7 with
    | none => exact absurd (h3.mpr e2) (by omega)
    | some b =>
      have hb := sNew_lt e2
      rw [decide_eq_true (show ¬ Int32.ofNat k ≤ 0 from by rw [show (0 : Int32) = Int32.ofNat 0 from rfl, i32_le (by omega) (by omega)]; omega)]
      refine decide_eq_true (fun z => ?_)
      have z2 : Int32.ofNat b = -1 := z
      rcases (by omega : b = 0 ∨ b = 1 ∨ b = 2 ∨ b = 3 ∨ b = 4 ∨ b = 5 ∨ b = 6) with rfl | rfl | rfl | rfl | rfl | rfl | rfl <;> exact absurd z2 (by decide)
theorem c_311_0 {X : XS} {c : Nat} (hk : ∀ i, i < 7 → sOk (xK X 3) i) : RT 311 [some (.ref 388), some (.int 0), some (.int (Int32.ofNat c))] X (some (.int (bI (sRch 0 c (xK X 3))))) X := by
  refine AT.iload_n M_311 rfl rfl ?_
  refine AT.if_ne M_311 rfl (fun b1 => absurd rfl b1) (fun b1 => ?_)
  refine AT.aload_n M_311 rfl rfl ?_
  refine AT.r11_1 M_311 rfl ?_
  refine AT.cv1i M_311 rfl M_224 rfl (Nat.le_of_ble_eq_true rfl) (xKd.of (sh_st (o := 3) (by omega) (by omega))) (by decide) (c_224 (o := 3) (by omega) (by omega) hk) ?_ (Nat.le_of_ble_eq_true rfl) rfl
  rw [sRch_0]
  refine AT.zret M_311 rfl rfl (bI_01 _) ?_
  exact ⟨rfl, rfl⟩
theorem c_311_1 {X : XS} {c : Nat} (hc : c < 4) (h34 : ¬ (xK X 3).1 34 c 3 = 0) : RT 311 [some (.ref 388), some (.int 1), some (.int (Int32.ofNat c))] X (some (.int (bI (sRch 1 c (xK X 3))))) X := by
  refine AT.rep (fun hr => ?_)
  have h01 := (hr.choose_spec.2.2.2.2.2.2.1 3 (by omega)).2.2
  refine AT.iload_n M_311 rfl rfl ?_
  refine AT.if_ne M_311 rfl (fun b1 => ?_) (fun b1 => absurd b1 (by decide))
  refine AT.iload_n M_311 rfl rfl ?_
  refine AT.iconst M_311 rfl (v := 1) (by decide) ?_
  refine AT.icmp_ne M_311 rfl (fun b8 => absurd rfl b8) (fun b8 => ?_)
  refine AT.aload_n M_311 rfl rfl ?_
  refine AT.r11_1 M_311 rfl ?_
  refine AT.r10_26 M_311 rfl (show 2 ≤ 3 by omega) (show 3 < 4 by omega) ?_
  refine AT.iload_n M_311 rfl rfl ?_
  refine AT.ra_35 M_311 rfl rfl (show 2 ≤ 3 by omega) (show 3 < 4 by omega) hc ?_
  refine AT.iconst M_311 rfl (v := 1) (by decide) ?_
  refine AT.icmp_ne M_311 rfl (fun b15 => ?_) (fun b15 => ?_)
  · refine AT.iconst M_311 rfl (v := 0) (by decide) ?_
    refine AT.zret M_311 rfl rfl (by first | exact Or.inl rfl | exact Or.inr rfl | assumption) ?_
    rw [show sRch 1 c (xK X 3) = false from (sRch_1 _ _).trans (by rw [decide_eq_true h34, decide_eq_true ((h01 c hc).resolve_right b15)]; rfl)]
    exact ⟨rfl, rfl⟩
  · refine AT.iconst M_311 rfl (v := 1) (by decide) ?_
    refine AT.goto M_311 rfl ?_
    refine AT.zret M_311 rfl rfl (by first | exact Or.inl rfl | exact Or.inr rfl | assumption) ?_
    rw [show sRch 1 c (xK X 3) = true from (sRch_1 _ _).trans (by rw [decide_eq_true h34, decide_eq_false (show ¬ (xK X 3).1 35 c 0 = 0 from by rw [Classical.not_not.mp b15]; decide)]; rfl)]
    exact ⟨rfl, rfl⟩
theorem c_311_2 {X : XS} {c : Nat} (hk : ∀ i, i < 7 → sOk (xK X 3) i) : RT 311 [some (.ref 388), some (.int 2), some (.int (Int32.ofNat c))] X (some (.int (bI (sRch 2 c (xK X 3))))) X := by
  refine AT.iload_n M_311 rfl rfl ?_
  refine AT.if_ne M_311 rfl (fun b1 => ?_) (fun b1 => absurd b1 (by decide))
  refine AT.iload_n M_311 rfl rfl ?_
  refine AT.iconst M_311 rfl (v := 1) (by decide) ?_
  refine AT.icmp_ne M_311 rfl (fun b8 => ?_) (fun b8 => absurd b8 (by decide))
  refine AT.iload_n M_311 rfl rfl ?_
  refine AT.iconst M_311 rfl (v := 2) (by decide) ?_
  refine AT.icmp_ne M_311 rfl (fun b22 => absurd rfl b22) (fun b22 => ?_)
  refine AT.aload_n M_311 rfl rfl ?_
  refine AT.r11_1 M_311 rfl ?_
  refine AT.cv1i M_311 rfl M_225 rfl (Nat.le_of_ble_eq_true rfl) (xKd.of (sh_st (o := 3) (by omega) (by omega))) (by decide) (c_225 (o := 3) (by omega) (by omega) hk) ?_ (Nat.le_of_ble_eq_true rfl) rfl
  refine AT.goto M_311 rfl ?_
  rw [sRch_2]
  refine AT.zret M_311 rfl rfl (bI_01 _) ?_
  exact ⟨rfl, rfl⟩
theorem c_311_3 {X : XS} {c : Nat} : RT 311 [some (.ref 388), some (.int 3), some (.int (Int32.ofNat c))] X (some (.int (bI (sRch 3 c (xK X 3))))) X := by
  refine AT.iload_n M_311 rfl rfl ?_
  refine AT.if_ne M_311 rfl (fun b1 => ?_) (fun b1 => absurd b1 (by decide))
  refine AT.iload_n M_311 rfl rfl ?_
  refine AT.iconst M_311 rfl (v := 1) (by decide) ?_
  refine AT.icmp_ne M_311 rfl (fun b8 => ?_) (fun b8 => absurd b8 (by decide))
  refine AT.iload_n M_311 rfl rfl ?_
  refine AT.iconst M_311 rfl (v := 2) (by decide) ?_
  refine AT.icmp_ne M_311 rfl (fun b22 => ?_) (fun b22 => absurd b22 (by decide))
  refine AT.aload_n M_311 rfl rfl ?_
  refine AT.r11_1 M_311 rfl ?_
  refine AT.cv1i M_311 rfl M_222 rfl (Nat.le_of_ble_eq_true rfl) (xKd.of (sh_st (o := 3) (by omega) (by omega))) (by decide) (c_222 (o := 3) (by omega) (by omega)) ?_ (Nat.le_of_ble_eq_true rfl) rfl
  refine AT.iconst M_311 rfl (v := (-1)) (by decide) ?_
  refine AT.icmp_eq M_311 rfl (fun b31 => ?_) (fun b31 => ?_)
  · refine AT.iconst M_311 rfl (v := 0) (by decide) ?_
    refine AT.zret M_311 rfl rfl (by first | exact Or.inl rfl | exact Or.inr rfl | assumption) ?_
    rw [show sRch 3 c (xK X 3) = false from (sRch_3 _ _).trans ((sLdr_cnt _).symm.trans (decide_eq_false (fun z => z b31)))]
    exact ⟨rfl, rfl⟩
  · refine AT.iconst M_311 rfl (v := 1) (by decide) ?_
    refine AT.goto M_311 rfl ?_
    refine AT.zret M_311 rfl rfl (by first | exact Or.inl rfl | exact Or.inr rfl | assumption) ?_
    rw [show sRch 3 c (xK X 3) = true from (sRch_3 _ _).trans ((sLdr_cnt _).symm.trans (decide_eq_true b31))]
    exact ⟨rfl, rfl⟩
theorem l_312 {n m : Nat} {J : Nat → KK → Prop} (hJ : kInv n J) (hJ2 : ∀ k K, J k K → kRf K) (hnm : n + 1 ≤ m) (hM : m ≤ 399980) {p : KK → Bool} {x y : Int32} (hp : ∀ (k : Nat) (X : XS), J k (xK X 3) → RT 311 [some (.ref 388), some (.int x), some (.int y)] X (some (.int (bI (p (xK X 3))))) X) : ∀ k r : Nat, r + k = 30 → ∀ X : XS, J (68 * k) (xK X 3) → aPr X 3 → rOkR X 3 → AT 312 2 [some (.ref 388), some (.int x), some (.int y), some (.int (Int32.ofNat r))] [] X (fun o' Z => o' = .inl (some (.int (kUntV p k r (xK X 3)))) ∧ rRel0 3 m (kUntN p k (xK X 3)) (kUntN p k (xK X 3) * 7) X Z (kUntK p k (xK X 3)))
  | 0, r, hr, X, hX, ha, hR => by
    refine AT.aload_n M_312 rfl rfl ?_
    refine AT.iload_n M_312 rfl rfl ?_
    refine AT.iload_n M_312 rfl rfl ?_
    refine AT.cv3i M_312 rfl M_311 rfl (Nat.le_of_ble_eq_true rfl) (xKd.of sh_mod) (by decide) (hp _ X hX) ?_ (Nat.le_of_ble_eq_true rfl) rfl
    refine AT.if_ne M_312 rfl (fun b6 => ?_) (fun b6 => ?_)
    · refine AT.iload_n M_312 rfl rfl ?_
      refine AT.iret M_312 rfl rfl ?_
      rw [show kUntV p 0 r (xK X 3) = Int32.ofNat r from if_pos (bI_ne0.mp b6)]
      exact ⟨rfl, rRel0.rf 3 m X |>.up (Nat.zero_le _) (Nat.zero_le _)⟩
    · refine AT.iload_n M_312 rfl rfl ?_
      refine AT.bipush M_312 rfl (v := 30) (by decide) ?_
      refine AT.icmp_ne M_312 rfl (fun b9 => absurd (by rw [show r = 30 by omega]; rfl) b9) (fun b9 => ?_)
      refine AT.iconst M_312 rfl (v := (-1)) (by decide) ?_
      refine AT.iret M_312 rfl rfl ?_
      rw [show kUntV p 0 r (xK X 3) = -1 from if_neg (fun z => b6 (bI_ne0.mpr z))]
      exact ⟨rfl, rRel0.rf 3 m X |>.up (Nat.zero_le _) (Nat.zero_le _)⟩
  | k + 1, r, hr, X, hX, ha, hR => by
    refine AT.aload_n M_312 rfl rfl ?_
    refine AT.iload_n M_312 rfl rfl ?_
    refine AT.iload_n M_312 rfl rfl ?_
    refine AT.cv3i M_312 rfl M_311 rfl (Nat.le_of_ble_eq_true rfl) (xKd.of sh_mod) (by decide) (hp _ X hX) ?_ (Nat.le_of_ble_eq_true rfl) rfl
    refine AT.if_ne M_312 rfl (fun b6 => ?_) (fun b6 => ?_)
    · refine AT.iload_n M_312 rfl rfl ?_
      refine AT.iret M_312 rfl rfl ?_
      rw [show kUntV p (k + 1) r (xK X 3) = Int32.ofNat r from if_pos (bI_ne0.mp b6), show kUntN p (k + 1) (xK X 3) = 0 from if_pos (bI_ne0.mp b6), show kUntK p (k + 1) (xK X 3) = xK X 3 from if_pos (bI_ne0.mp b6)]
      exact ⟨rfl, rRel0.rf 3 m X |>.up (Nat.zero_le _) (Nat.zero_le _)⟩
    · refine AT.iload_n M_312 rfl rfl ?_
      refine AT.bipush M_312 rfl (v := 30) (by decide) ?_
      refine AT.icmp_ne M_312 rfl (fun b9 => ?_) (fun b9 => absurd (i32_nat (a := r) (b := 30) (by omega) (by omega) (Classical.not_not.mp b9)) (by omega))
      refine AT.aload_n M_312 rfl rfl ?_
      refine AT.r11_1 M_312 rfl ?_
      refine AT.cv1w M_312 rfl M_220 rfl (Nat.le_of_ble_eq_true rfl) (xKd.of (sh_st (o := 3) (by omega) (by omega))) (by decide) (c_220 (o := 3) (k := 68 * k) (by omega) (by omega) hJ hJ2 hnm hM (by rw [Nat.mul_add] at hX; exact hX) ha hR) (fun Y hc14 => ?_) (Nat.le_of_ble_eq_true rfl) rfl
      obtain ⟨r1, a1, j1⟩ := hc14
      refine AT.iinc3 M_312 rfl rfl (i32_succ _) ?_
      refine AT.goto M_312 rfl ?_
      have ih := l_312 hJ hJ2 hnm hM hp k (r + 1) (by omega) Y j1 a1 (r1.ok (by omega) hR)
      rw [r1.k] at ih
      rw [show kUntV p (k + 1) r (xK X 3) = kUntV p k (r + 1) (kRound (xK X 3)) from if_neg (fun z => b6 (bI_ne0.mpr z)), show kUntN p (k + 1) (xK X 3) = kRoundN (xK X 3) + kUntN p k (kRound (xK X 3)) from if_neg (fun z => b6 (bI_ne0.mpr z)), show kUntK p (k + 1) (xK X 3) = kUntK p k (kRound (xK X 3)) from if_neg (fun z => b6 (bI_ne0.mpr z))]
      exact AT.mono ih (fun o' Z hz => ⟨hz.1, (r1.tr hz.2).up (Nat.le_refl _) (by omega)⟩)
theorem c_312 {X : XS} {n m : Nat} {J : Nat → KK → Prop} (hJ : kInv n J) (hJ2 : ∀ k K, J k K → kRf K) (hnm : n + 1 ≤ m) (hM : m ≤ 399980) {p : KK → Bool} {x y : Int32} (hp : ∀ (k : Nat) (X : XS), J k (xK X 3) → RT 311 [some (.ref 388), some (.int x), some (.int y)] X (some (.int (bI (p (xK X 3))))) X) (hX : J 2040 (xK X 3)) (ha : aPr X 3) (hR : rOkR X 3) : RU 312 [some (.ref 388), some (.int x), some (.int y), none] X (some (.int (kUntV p 30 0 (xK X 3)))) (fun Z => rRel0 3 m (kUntN p 30 (xK X 3)) (kUntN p 30 (xK X 3) * 7) X Z (kUntK p 30 (xK X 3))) := by
  refine AT.iconst M_312 rfl (v := 0) (by decide) ?_
  refine AT.ist3 M_312 rfl rfl ?_
  exact l_312 hJ hJ2 hnm hM hp 30 0 rfl X hX ha hR
theorem c_313 {X : XS} {n m : Nat} {J : Nat → KK → Prop} (hJ : kInv n J) (hJ2 : ∀ k K, J k K → kRf K) (hnm : n + 1 ≤ m) (hM : m ≤ 399980) (hX2 : J 2040 (xK X 2)) (hap : aPr X 2) (hR3 : rOkR X 3) : RU 313 [some (.ref 388)] X (some (.int (kUntV (sRch 0 0) 30 0 (xK X 2)))) (fun Z => rRel0 3 m (kUntN (sRch 0 0) 30 (xK X 2)) (kUntN (sRch 0 0) 30 (xK X 2) * 7) (xSetT X 0) Z (kUntK (sRch 0 0) 30 (xK X 2))) := by
  have hL : ∀ i, i < 7 → ((xK (xSetT X 0) 2).2.1 i).length < 400000 := fun i hi => by have := ((hJ.1 _ _ hX2).1 i hi).2.1; show ((xK X 2).2.1 i).length < _; omega
  refine AT.aload_n M_313 rfl rfl ?_
  refine AT.iconst M_313 rfl (v := 0) (by decide) ?_
  refine AT.w11_2 M_313 rfl ?_
  refine AT.aload_n M_313 rfl rfl ?_
  refine AT.r11_1 M_313 rfl ?_
  refine AT.aload_n M_313 rfl rfl ?_
  refine AT.r11_0 M_313 rfl ?_
  refine AT.cv2w M_313 rfl M_181 rfl (Nat.le_of_ble_eq_true rfl) (xKd.of (sh_st (o := 3) (by omega) (by omega))) (by decide) (c_181 (X := (xSetT X 0)) (o := 3) (p := 2) (m := m) (by omega) (by omega) (by omega) (by omega) (by omega) hL (fun i hi => by have := ((hJ.1 _ _ hX2).1 i hi).2.2.1; show ((xK X 2).2.1 i).length ≤ m; omega) (by omega) hR3 hap) (fun Y hc7 => ?_) (Nat.le_of_ble_eq_true rfl) rfl
  obtain ⟨r1, a1⟩ := hc7
  have eY : xK Y 3 = xK X 2 := r1.k
  have hX3 : J 2040 (xK Y 3) := by rw [eY]; exact hX2
  refine AT.aload_n M_313 rfl rfl ?_
  refine AT.iconst M_313 rfl (v := 0) (by decide) ?_
  refine AT.iconst M_313 rfl (v := 0) (by decide) ?_
  refine AT.cv3u M_313 rfl M_312 rfl (Nat.le_of_ble_eq_true rfl) (xKd.of sh_mod) (by decide) (c_312 (X := Y) (p := sRch 0 0) hJ hJ2 hnm hM (fun _ X h => c_311_0 (c := 0) (fun i hi => ((hJ.1 _ _ h).1 i hi).1)) hX3 a1 (r1.ok (by omega) hR3)) (fun W hc11 => ?_) (Nat.le_of_ble_eq_true rfl) rfl
  have r3 := hc11
  refine AT.iret M_313 rfl rfl ?_
  rw [eY] at r3 ⊢
  exact ⟨rfl, (r1.tr r3).up (by omega) (by omega)⟩
theorem c_315 {X : XS} {n m : Nat} {J : Nat → KK → Prop} (hJ : kInv n J) (hJ2 : ∀ k K, J k K → kRf K) (hnm : n + 1 ≤ m) (hM : m ≤ 399980) (hX2 : J 2040 (xK X 2)) (hap : aPr X 2) (hR3 : rOkR X 3) : RU 315 [some (.ref 388)] X (some (.int (kUntV (sRch 2 0) 30 0 (xK X 2)))) (fun Z => rRel0 3 m (kUntN (sRch 2 0) 30 (xK X 2)) (kUntN (sRch 2 0) 30 (xK X 2) * 7) (xSetT X 0) Z (kUntK (sRch 2 0) 30 (xK X 2))) := by
  have hL : ∀ i, i < 7 → ((xK (xSetT X 0) 2).2.1 i).length < 400000 := fun i hi => by have := ((hJ.1 _ _ hX2).1 i hi).2.1; show ((xK X 2).2.1 i).length < _; omega
  refine AT.aload_n M_315 rfl rfl ?_
  refine AT.iconst M_315 rfl (v := 0) (by decide) ?_
  refine AT.w11_2 M_315 rfl ?_
  refine AT.aload_n M_315 rfl rfl ?_
  refine AT.r11_1 M_315 rfl ?_
  refine AT.aload_n M_315 rfl rfl ?_
  refine AT.r11_0 M_315 rfl ?_
  refine AT.cv2w M_315 rfl M_181 rfl (Nat.le_of_ble_eq_true rfl) (xKd.of (sh_st (o := 3) (by omega) (by omega))) (by decide) (c_181 (X := (xSetT X 0)) (o := 3) (p := 2) (m := m) (by omega) (by omega) (by omega) (by omega) (by omega) hL (fun i hi => by have := ((hJ.1 _ _ hX2).1 i hi).2.2.1; show ((xK X 2).2.1 i).length ≤ m; omega) (by omega) hR3 hap) (fun Y hc7 => ?_) (Nat.le_of_ble_eq_true rfl) rfl
  obtain ⟨r1, a1⟩ := hc7
  have eY : xK Y 3 = xK X 2 := r1.k
  have hX3 : J 2040 (xK Y 3) := by rw [eY]; exact hX2
  refine AT.aload_n M_315 rfl rfl ?_
  refine AT.iconst M_315 rfl (v := 2) (by decide) ?_
  refine AT.iconst M_315 rfl (v := 0) (by decide) ?_
  refine AT.cv3u M_315 rfl M_312 rfl (Nat.le_of_ble_eq_true rfl) (xKd.of sh_mod) (by decide) (c_312 (X := Y) (p := sRch 2 0) hJ hJ2 hnm hM (fun _ X h => c_311_2 (c := 0) (fun i hi => ((hJ.1 _ _ h).1 i hi).1)) hX3 a1 (r1.ok (by omega) hR3)) (fun W hc11 => ?_) (Nat.le_of_ble_eq_true rfl) rfl
  have r3 := hc11
  refine AT.iret M_315 rfl rfl ?_
  rw [eY] at r3 ⊢
  exact ⟨rfl, (r1.tr r3).up (by omega) (by omega)⟩
theorem c_314x {X : XS} {p : Int32} (hp : p < 0 ∨ ¬ p < 4) : RT 314 [some (.ref 388), some (.int p)] X (some (.int 0)) (xSetT X 1) := by
  refine AT.aload_n M_314 rfl rfl ?_
  refine AT.iconst M_314 rfl (v := 0) (by decide) ?_
  refine AT.w11_2 M_314 rfl ?_
  refine AT.iload_n M_314 rfl rfl ?_
  refine AT.cs1i M_314 rfl M_235 rfl (Nat.le_of_ble_eq_true rfl) rfl (c_235x hp) ?_ (Nat.le_of_ble_eq_true rfl) rfl
  refine AT.if_ne M_314 rfl (fun b5 => absurd rfl b5) (fun b5 => ?_)
  refine AT.aload_n M_314 rfl rfl ?_
  refine AT.iconst M_314 rfl (v := 1) (by decide) ?_
  refine AT.cv2i M_314 rfl M_233 rfl (Nat.le_of_ble_eq_true rfl) (xKd.of sh_mod) (by decide) c_233 ?_ (Nat.le_of_ble_eq_true rfl) rfl
  refine AT.iret M_314 rfl rfl ?_
  exact ⟨rfl, rfl⟩
theorem c_314n {X : XS} {c : Nat} (hc : c < 4) (ho : sOpen (xK X 2) c = false) : RT 314 [some (.ref 388), some (.int (Int32.ofNat c))] X (some (.int 0)) (xSetT X 0) := by
  refine AT.aload_n M_314 rfl rfl ?_
  refine AT.iconst M_314 rfl (v := 0) (by decide) ?_
  refine AT.w11_2 M_314 rfl ?_
  refine AT.iload_n M_314 rfl rfl ?_
  refine AT.cs1i M_314 rfl M_235 rfl (Nat.le_of_ble_eq_true rfl) rfl (c_235 hc) ?_ (Nat.le_of_ble_eq_true rfl) rfl
  refine AT.if_ne M_314 rfl (fun b5 => ?_) (fun b5 => absurd b5 (by decide))
  refine AT.aload_n M_314 rfl rfl ?_
  refine AT.iload_n M_314 rfl rfl ?_
  refine AT.cv2i M_314 rfl M_271 rfl (Nat.le_of_ble_eq_true rfl) (xKd.of sh_mod) (by decide) (c_271 (X := (xSetT X 0)) hc) ?_ (Nat.le_of_ble_eq_true rfl) rfl
  refine AT.if_ne M_314 rfl (fun b13 => absurd (by rw [show sOpen (xK (xSetT X 0) 2) c = false from ho]; rfl) b13) (fun b13 => ?_)
  refine AT.iconst M_314 rfl (v := 0) (by decide) ?_
  refine AT.iret M_314 rfl rfl ?_
  exact ⟨rfl, rfl⟩
theorem c_314 {X : XS} {c : Nat} (hc : c < 4) {n m : Nat} {J : Nat → KK → Prop} (hJ : kInv n J) (hJ2 : ∀ k K, J k K → kRf K) (hnm : n + 1 ≤ m) (hM : m ≤ 399980) (hX2 : J 2040 (xK X 2)) (hap : aPr X 2) (hR3 : rOkR X 3) (h34 : ∀ k K, J k K → ¬ K.1 34 c 3 = 0) (ho : sOpen (xK X 2) c = true) : RU 314 [some (.ref 388), some (.int (Int32.ofNat c))] X (some (.int (kUntV (sRch 1 c) 30 0 (xK X 2)))) (fun Z => rRel0 3 m (kUntN (sRch 1 c) 30 (xK X 2)) (kUntN (sRch 1 c) 30 (xK X 2) * 7) (xSetT X 0) Z (kUntK (sRch 1 c) 30 (xK X 2))) := by
  have hL : ∀ i, i < 7 → ((xK (xSetT X 0) 2).2.1 i).length < 400000 := fun i hi => by have := ((hJ.1 _ _ hX2).1 i hi).2.1; show ((xK X 2).2.1 i).length < _; omega
  refine AT.aload_n M_314 rfl rfl ?_
  refine AT.iconst M_314 rfl (v := 0) (by decide) ?_
  refine AT.w11_2 M_314 rfl ?_
  refine AT.iload_n M_314 rfl rfl ?_
  refine AT.cs1i M_314 rfl M_235 rfl (Nat.le_of_ble_eq_true rfl) rfl (c_235 hc) ?_ (Nat.le_of_ble_eq_true rfl) rfl
  refine AT.if_ne M_314 rfl (fun b5 => ?_) (fun b5 => absurd b5 (by decide))
  refine AT.aload_n M_314 rfl rfl ?_
  refine AT.iload_n M_314 rfl rfl ?_
  refine AT.cv2i M_314 rfl M_271 rfl (Nat.le_of_ble_eq_true rfl) (xKd.of sh_mod) (by decide) (c_271 (X := (xSetT X 0)) hc) ?_ (Nat.le_of_ble_eq_true rfl) rfl
  refine AT.if_ne M_314 rfl (fun b13 => ?_) (fun b13 => absurd (Classical.not_not.mp b13) (by rw [show sOpen (xK (xSetT X 0) 2) c = true from ho]; decide))
  refine AT.aload_n M_314 rfl rfl ?_
  refine AT.r11_1 M_314 rfl ?_
  refine AT.aload_n M_314 rfl rfl ?_
  refine AT.r11_0 M_314 rfl ?_
  refine AT.cv2w M_314 rfl M_181 rfl (Nat.le_of_ble_eq_true rfl) (xKd.of (sh_st (o := 3) (by omega) (by omega))) (by decide) (c_181 (X := (xSetT X 0)) (o := 3) (p := 2) (m := m) (by omega) (by omega) (by omega) (by omega) (by omega) hL (fun i hi => by have := ((hJ.1 _ _ hX2).1 i hi).2.2.1; show ((xK X 2).2.1 i).length ≤ m; omega) (by omega) hR3 hap) (fun Y hc20 => ?_) (Nat.le_of_ble_eq_true rfl) rfl
  obtain ⟨r1, a1⟩ := hc20
  have eY : xK Y 3 = xK X 2 := r1.k
  have hX3 : J 2040 (xK Y 3) := by rw [eY]; exact hX2
  refine AT.aload_n M_314 rfl rfl ?_
  refine AT.iconst M_314 rfl (v := 1) (by decide) ?_
  refine AT.iload_n M_314 rfl rfl ?_
  refine AT.cv3u M_314 rfl M_312 rfl (Nat.le_of_ble_eq_true rfl) (xKd.of sh_mod) (by decide) (c_312 (X := Y) (p := sRch 1 c) hJ hJ2 hnm hM (fun _ X h => c_311_1 hc (h34 _ _ h)) hX3 a1 (r1.ok (by omega) hR3)) (fun W hc24 => ?_) (Nat.le_of_ble_eq_true rfl) rfl
  have r3 := hc24
  refine AT.iret M_314 rfl rfl ?_
  rw [eY] at r3 ⊢
  exact ⟨rfl, (r1.tr r3).up (by omega) (by omega)⟩
theorem c_316x {X : XS} {p : Int32} (hp : p < 0 ∨ ¬ p < 7) : RT 316 [some (.ref 388), some (.int p), none] X (some (.int 0)) (xSetT X 1) := by
  refine AT.aload_n M_316 rfl rfl ?_
  refine AT.iconst M_316 rfl (v := 0) (by decide) ?_
  refine AT.w11_2 M_316 rfl ?_
  refine AT.iload_n M_316 rfl rfl ?_
  refine AT.cs1i M_316 rfl M_234 rfl (Nat.le_of_ble_eq_true rfl) rfl (c_234x hp) ?_ (Nat.le_of_ble_eq_true rfl) rfl
  refine AT.if_ne M_316 rfl (fun b5 => absurd rfl b5) (fun b5 => ?_)
  refine AT.aload_n M_316 rfl rfl ?_
  refine AT.iconst M_316 rfl (v := 1) (by decide) ?_
  refine AT.cv2i M_316 rfl M_233 rfl (Nat.le_of_ble_eq_true rfl) (xKd.of sh_mod) (by decide) c_233 ?_ (Nat.le_of_ble_eq_true rfl) rfl
  refine AT.iret M_316 rfl rfl ?_
  exact ⟨rfl, rfl⟩
theorem c_316n {X : XS} {s : Nat} (hs : s < 7) (hk : sOk (xK X 2) s) (hb : sMayS (xK X 2) s = false) : RT 316 [some (.ref 388), some (.int (Int32.ofNat s)), none] X (some (.int (-1))) (xSetT X 0) := by
  refine AT.aload_n M_316 rfl rfl ?_
  refine AT.iconst M_316 rfl (v := 0) (by decide) ?_
  refine AT.w11_2 M_316 rfl ?_
  refine AT.iload_n M_316 rfl rfl ?_
  refine AT.cs1i M_316 rfl M_234 rfl (Nat.le_of_ble_eq_true rfl) rfl (c_234 hs) ?_ (Nat.le_of_ble_eq_true rfl) rfl
  refine AT.if_ne M_316 rfl (fun b5 => ?_) (fun b5 => absurd b5 (by decide))
  refine AT.aload_n M_316 rfl rfl ?_
  refine AT.r11_0 M_316 rfl ?_
  refine AT.iload_n M_316 rfl rfl ?_
  refine AT.cv2i M_316 rfl M_226 rfl (Nat.le_of_ble_eq_true rfl) (xKd.of (sh_st (o := 2) (by omega) (by omega))) (by decide) (c_226 (X := (xSetT X 0)) (o := 2) (by omega) (by omega) hs hk) ?_ (Nat.le_of_ble_eq_true rfl) rfl
  refine AT.if_ne M_316 rfl (fun b14 => absurd (by rw [show sMayS (xK (xSetT X 0) 2) s = false from hb]; rfl) b14) (fun b14 => ?_)
  refine AT.iconst M_316 rfl (v := (-1)) (by decide) ?_
  refine AT.iret M_316 rfl rfl ?_
  exact ⟨rfl, rfl⟩
theorem l_316 {s : Nat} (hs : s < 7) {n m : Nat} {J : Nat → KK → Prop} (hJ : kInv n J) (hJ2 : ∀ k K, J k K → kRf K) (hnm : n + 1 ≤ m) (hM : m ≤ 399980) : ∀ d q : Nat, q + d = 3 → ∀ X : XS, J (68 * d) (xK X 3) → aPr X 3 → rOkR X 3 → AT 316 28 [some (.ref 388), some (.int (Int32.ofNat s)), some (.int (Int32.ofNat q))] [] X (fun o' Z => o' = .inl (some (.int ((kRnds d (xK X 3)).1 12 s 0))) ∧ rRel0 3 m (kRndsN d (xK X 3)) (kRndsN d (xK X 3) * 7) X Z (kRnds d (xK X 3)))
  | 0, q, hq, X, hX, ha, hR => by
    refine AT.iload_n M_316 rfl rfl ?_
    refine AT.iconst M_316 rfl (v := 3) (by decide) ?_
    refine AT.icmp_ge M_316 rfl (fun b30 => ?_) (fun b30 => absurd (by rw [show q = 3 by omega]; exact Int32.le_refl _) b30)
    refine AT.aload_n M_316 rfl rfl ?_
    refine AT.r11_1 M_316 rfl ?_
    refine AT.r10_5 M_316 rfl (show 2 ≤ 3 by omega) (show 3 < 4 by omega) ?_
    refine AT.iload_n M_316 rfl rfl ?_
    refine AT.ra_12 M_316 rfl rfl (show 2 ≤ 3 by omega) (show 3 < 4 by omega) hs ?_
    refine AT.iret M_316 rfl rfl ?_
    exact ⟨rfl, rRel0.rf 3 m X |>.up (Nat.zero_le _) (Nat.zero_le _)⟩
  | d + 1, q, hq, X, hX, ha, hR => by
    refine AT.iload_n M_316 rfl rfl ?_
    refine AT.iconst M_316 rfl (v := 3) (by decide) ?_
    refine AT.icmp_ge M_316 rfl (fun b30 => absurd ((i32_le (a := 3) (b := q) (by omega) (by omega)).mp b30) (by omega)) (fun b30 => ?_)
    refine AT.aload_n M_316 rfl rfl ?_
    refine AT.r11_1 M_316 rfl ?_
    refine AT.cv1w M_316 rfl M_220 rfl (Nat.le_of_ble_eq_true rfl) (xKd.of (sh_st (o := 3) (by omega) (by omega))) (by decide) (c_220 (o := 3) (k := 68 * d) (by omega) (by omega) hJ hJ2 hnm hM (by rw [Nat.mul_add] at hX; exact hX) ha hR) (fun Y hc33 => ?_) (Nat.le_of_ble_eq_true rfl) rfl
    obtain ⟨r1, a1, j1⟩ := hc33
    refine AT.iinc2 M_316 rfl rfl (i32_succ _) ?_
    refine AT.goto M_316 rfl ?_
    have ih := l_316 hs hJ hJ2 hnm hM d (q + 1) (by omega) Y j1 a1 (r1.ok (by omega) hR)
    rw [r1.k] at ih
    exact AT.mono ih (fun o' Z hz => ⟨hz.1, (r1.tr hz.2).up (Nat.le_refl _) (by show _ + _ ≤ (kRoundN (xK X 3) + kRndsN d (kRound (xK X 3))) * 7; omega)⟩)
theorem c_316 {X : XS} {s : Nat} (hs : s < 7) {n m : Nat} {J : Nat → KK → Prop} (hJ : kInv n J) (hJ2 : ∀ k K, J k K → kRf K) (hnm : n + 1 ≤ m) (hM : m ≤ 399980) (hX2 : J 2040 (xK X 2)) (hap : aPr X 2) (hR3 : rOkR X 3) (hb : sMayS (xK X 2) s = true) (hXs : J 2040 (kSoundA (xK X 2) s)) : RU 316 [some (.ref 388), some (.int (Int32.ofNat s)), none] X (some (.int ((kRnds 3 (kSoundA (xK X 2) s)).1 12 s 0))) (fun Z => rRel0 3 m (kSoundN (xK X 2) s + kRndsN 3 (kSoundA (xK X 2) s)) ((kSoundN (xK X 2) s + kRndsN 3 (kSoundA (xK X 2) s)) * 7) (xSetT X 0) Z (kRnds 3 (kSoundA (xK X 2) s))) := by
  have hL : ∀ i, i < 7 → ((xK (xSetT X 0) 2).2.1 i).length < 400000 := fun i hi => by have := ((hJ.1 _ _ hX2).1 i hi).2.1; show ((xK X 2).2.1 i).length < _; omega
  have hk := ((hJ.1 _ _ hX2).1 s hs).1
  refine AT.aload_n M_316 rfl rfl ?_
  refine AT.iconst M_316 rfl (v := 0) (by decide) ?_
  refine AT.w11_2 M_316 rfl ?_
  refine AT.iload_n M_316 rfl rfl ?_
  refine AT.cs1i M_316 rfl M_234 rfl (Nat.le_of_ble_eq_true rfl) rfl (c_234 hs) ?_ (Nat.le_of_ble_eq_true rfl) rfl
  refine AT.if_ne M_316 rfl (fun b5 => ?_) (fun b5 => absurd b5 (by decide))
  refine AT.aload_n M_316 rfl rfl ?_
  refine AT.r11_0 M_316 rfl ?_
  refine AT.iload_n M_316 rfl rfl ?_
  refine AT.cv2i M_316 rfl M_226 rfl (Nat.le_of_ble_eq_true rfl) (xKd.of (sh_st (o := 2) (by omega) (by omega))) (by decide) (c_226 (X := (xSetT X 0)) (o := 2) (by omega) (by omega) hs hk) ?_ (Nat.le_of_ble_eq_true rfl) rfl
  refine AT.if_ne M_316 rfl (fun b14 => ?_) (fun b14 => absurd (Classical.not_not.mp b14) (by rw [show sMayS (xK (xSetT X 0) 2) s = true from hb]; decide))
  refine AT.aload_n M_316 rfl rfl ?_
  refine AT.r11_1 M_316 rfl ?_
  refine AT.aload_n M_316 rfl rfl ?_
  refine AT.r11_0 M_316 rfl ?_
  refine AT.cv2w M_316 rfl M_181 rfl (Nat.le_of_ble_eq_true rfl) (xKd.of (sh_st (o := 3) (by omega) (by omega))) (by decide) (c_181 (X := (xSetT X 0)) (o := 3) (p := 2) (m := m) (by omega) (by omega) (by omega) (by omega) (by omega) hL (fun i hi => by have := ((hJ.1 _ _ hX2).1 i hi).2.2.1; show ((xK X 2).2.1 i).length ≤ m; omega) (by omega) hR3 hap) (fun Y hc21 => ?_) (Nat.le_of_ble_eq_true rfl) rfl
  obtain ⟨r1, a1⟩ := hc21
  have eY : xK Y 3 = xK X 2 := r1.k
  have hX3 : J 2040 (xK Y 3) := by rw [eY]; exact hX2
  have hf := (hJ.1 _ _ hX3).1 s hs
  refine AT.aload_n M_316 rfl rfl ?_
  refine AT.r11_1 M_316 rfl ?_
  refine AT.iload_n M_316 rfl rfl ?_
  refine AT.cv2w M_316 rfl M_204 rfl (Nat.le_of_ble_eq_true rfl) (xKd.of (sh_st (o := 3) (by omega) (by omega))) (by decide) (c_204 (X := Y) (o := 3) (n := m) (by omega) (by omega) hs hf.1 hf.2.1 (r1.ok (by omega) hR3) a1 (by have := hf.2.2.1; omega)) (fun W hc25 => ?_) (Nat.le_of_ble_eq_true rfl) rfl
  have r3 := hc25
  have eW : xK W 3 = kSoundA (xK X 2) s := r3.k.trans (by rw [eY])
  refine AT.iconst M_316 rfl (v := 0) (by decide) ?_
  refine AT.ist2 M_316 rfl rfl ?_
  have ih := l_316 hs hJ hJ2 hnm hM 3 0 rfl W (by rw [eW]; exact hJ.le hXs (by omega)) r3.2.2 (r3.1.ok (by omega) (r1.ok (by omega) hR3))
  rw [eW] at ih
  have r4 := r3.1
  rw [eY] at r4
  exact AT.mono ih (fun o' Z hz => ⟨hz.1, ((r1.tr r4).tr hz.2).up (by omega) (by omega)⟩)
theorem c_317x1 {X : XS} {p : Int32} (hp : p < 0 ∨ ¬ p < 7) : RT 317 [some (.ref 388), some (.int p)] X (some (.int 0)) (xSetT X 1) := by
  refine AT.aload_n M_317 rfl rfl ?_
  refine AT.iconst M_317 rfl (v := 0) (by decide) ?_
  refine AT.w11_2 M_317 rfl ?_
  refine AT.iload_n M_317 rfl rfl ?_
  refine AT.cs1i M_317 rfl M_234 rfl (Nat.le_of_ble_eq_true rfl) rfl (c_234x hp) ?_ (Nat.le_of_ble_eq_true rfl) rfl
  refine AT.if_ne M_317 rfl (fun b5 => absurd rfl b5) (fun b5 => ?_)
  refine AT.aload_n M_317 rfl rfl ?_
  refine AT.iconst M_317 rfl (v := 1) (by decide) ?_
  refine AT.cv2i M_317 rfl M_233 rfl (Nat.le_of_ble_eq_true rfl) (xKd.of sh_mod) (by decide) c_233 ?_ (Nat.le_of_ble_eq_true rfl) rfl
  refine AT.iret M_317 rfl rfl ?_
  exact ⟨rfl, rfl⟩
theorem c_317x2 {X : XS} {s : Nat} (hs : s < 7) (hup : (xK X 2).1 4 s 0 = 0) : RT 317 [some (.ref 388), some (.int (Int32.ofNat s))] X (some (.int 0)) (xSetT X 2) := by
  refine AT.aload_n M_317 rfl rfl ?_
  refine AT.iconst M_317 rfl (v := 0) (by decide) ?_
  refine AT.w11_2 M_317 rfl ?_
  refine AT.iload_n M_317 rfl rfl ?_
  refine AT.cs1i M_317 rfl M_234 rfl (Nat.le_of_ble_eq_true rfl) rfl (c_234 hs) ?_ (Nat.le_of_ble_eq_true rfl) rfl
  refine AT.if_ne M_317 rfl (fun b5 => ?_) (fun b5 => absurd b5 (by decide))
  refine AT.aload_n M_317 rfl rfl ?_
  refine AT.r11_0 M_317 rfl ?_
  refine AT.r10_2 M_317 rfl (show 2 ≤ 2 by omega) (show 2 < 4 by omega) ?_
  refine AT.iload_n M_317 rfl rfl ?_
  refine AT.ra_4 M_317 rfl rfl (show 2 ≤ 2 by omega) (show 2 < 4 by omega) (by assumption) ?_
  refine AT.if_ne M_317 rfl (fun b15 => absurd hup b15) (fun b15 => ?_)
  refine AT.aload_n M_317 rfl rfl ?_
  refine AT.iconst M_317 rfl (v := 2) (by decide) ?_
  refine AT.cv2i M_317 rfl M_233 rfl (Nat.le_of_ble_eq_true rfl) (xKd.of sh_mod) (by decide) c_233 ?_ (Nat.le_of_ble_eq_true rfl) rfl
  refine AT.iret M_317 rfl rfl ?_
  exact ⟨rfl, rfl⟩
theorem c_317 {X : XS} {s : Nat} (hs : s < 7) {n m : Nat} {J : Nat → KK → Prop} (hJ : kInv n J) (hJ2 : ∀ k K, J k K → kRf K) (hnm : n + 1 ≤ m) (hM : m ≤ 399980) (hX2 : J 2040 (xK X 2)) (hap : aPr X 2) (hR3 : rOkR X 3) (hup : ¬ (xK X 2).1 4 s 0 = 0) (hXd : J 2040 (kDown (xK X 2) s)) : RU 317 [some (.ref 388), some (.int (Int32.ofNat s))] X (some (.int (kUntV (sRch 3 0) 30 0 (kDown (xK X 2) s)))) (fun Z => rRel0 3 m (kUntN (sRch 3 0) 30 (kDown (xK X 2) s)) (kUntN (sRch 3 0) 30 (kDown (xK X 2) s) * 7) (xSetT X 0) Z (kUntK (sRch 3 0) 30 (kDown (xK X 2) s))) := by
  have hL : ∀ i, i < 7 → ((xK (xSetT X 0) 2).2.1 i).length < 400000 := fun i hi => by have := ((hJ.1 _ _ hX2).1 i hi).2.1; show ((xK X 2).2.1 i).length < _; omega
  refine AT.aload_n M_317 rfl rfl ?_
  refine AT.iconst M_317 rfl (v := 0) (by decide) ?_
  refine AT.w11_2 M_317 rfl ?_
  try simp only [xK_same, xSetK_idem, xD_setK, xSetD_setK]
  refine AT.iload_n M_317 rfl rfl ?_
  refine AT.cs1i M_317 rfl M_234 rfl (Nat.le_of_ble_eq_true rfl) rfl (c_234 hs) ?_ (Nat.le_of_ble_eq_true rfl) rfl
  try simp only [xK_same, xSetK_idem, xD_setK, xSetD_setK]
  refine AT.if_ne M_317 rfl (fun b5 => ?_) (fun b5 => absurd b5 (by decide))
  refine AT.aload_n M_317 rfl rfl ?_
  refine AT.r11_0 M_317 rfl ?_
  refine AT.r10_2 M_317 rfl (show 2 ≤ 2 by omega) (show 2 < 4 by omega) ?_
  refine AT.iload_n M_317 rfl rfl ?_
  refine AT.ra_4 M_317 rfl rfl (show 2 ≤ 2 by omega) (show 2 < 4 by omega) (by assumption) ?_
  refine AT.if_ne M_317 rfl (fun b15 => ?_) (fun b15 => absurd (Classical.not_not.mp b15) hup)
  refine AT.aload_n M_317 rfl rfl ?_
  refine AT.r11_1 M_317 rfl ?_
  refine AT.aload_n M_317 rfl rfl ?_
  refine AT.r11_0 M_317 rfl ?_
  refine AT.cv2w M_317 rfl M_181 rfl (Nat.le_of_ble_eq_true rfl) (xKd.of (sh_st (o := 3) (by omega) (by omega))) (by decide) (c_181 (X := (xSetT X 0)) (o := 3) (p := 2) (m := m) (by omega) (by omega) (by omega) (by omega) (by omega) hL (fun i hi => by have := ((hJ.1 _ _ hX2).1 i hi).2.2.1; show ((xK X 2).2.1 i).length ≤ m; omega) (by omega) hR3 hap) (fun Y hc24 => ?_) (Nat.le_of_ble_eq_true rfl) rfl
  obtain ⟨r1, a1⟩ := hc24
  have eY : xK Y 3 = xK X 2 := r1.k
  try simp only [xK_same, xSetK_idem, xD_setK, xSetD_setK]
  refine AT.aload_n M_317 rfl rfl ?_
  refine AT.r11_1 M_317 rfl ?_
  refine AT.r10_2 M_317 rfl (show 2 ≤ 3 by omega) (show 3 < 4 by omega) ?_
  refine AT.iload_n M_317 rfl rfl ?_
  refine AT.iconst M_317 rfl (v := 0) (by decide) ?_
  refine AT.rs_4 M_317 rfl rfl (Or.inl rfl) (show 2 ≤ 3 by omega) (show 3 < 4 by omega) hs ?_
  refine AT.aload_n M_317 rfl rfl ?_
  refine AT.r11_1 M_317 rfl ?_
  refine AT.iload_n M_317 rfl rfl ?_
  refine AT.cv20 M_317 rfl M_183 rfl (Nat.le_of_ble_eq_true rfl) (xKd.of (sh_st (o := 3) (by omega) (by omega))) (by decide) (c_183 (o := 3) (by omega) (by omega) hs) ?_ (Nat.le_of_ble_eq_true rfl) rfl
  try simp only [xK_same, xSetK_idem, xD_setK, xSetD_setK]
  try simp only [xK_same, xSetK_idem, xD_setK, xSetD_setK]
  have r2 : rRel0 3 m 0 0 (xSetT X 0) (xSetK (xSetD Y (dSetV (xD Y) 3 20 s 0 ((kSet (xK Y 3) 4 s 0 0).1 18 s 0))) 3 (kRest (kSet (xK Y 3) 4 s 0 0) s)) (kRest (kSet (xK Y 3) 4 s 0 0) s) := (r1.priv 20 s 0 _).net _
  have eD : kRest (kSet (xK Y 3) 4 s 0 0) s = (kDown (xK X 2) s) := by rw [eY]; rfl
  have hX3 : J 2040 (xK (xSetK (xSetD Y (dSetV (xD Y) 3 20 s 0 ((kSet (xK Y 3) 4 s 0 0).1 18 s 0))) 3 (kRest (kSet (xK Y 3) 4 s 0 0) s)) 3) := by rw [xK_same, eD]; exact hXd
  have a2 : aPr (xSetK (xSetD Y (dSetV (xD Y) 3 20 s 0 ((kSet (xK Y 3) 4 s 0 0).1 18 s 0))) 3 (kRest (kSet (xK Y 3) 4 s 0 0) s)) 3 := fun i hi => by
    rw [xK_same]
    show (if 3 = 3 ∧ 20 = 20 ∧ i = s ∧ 0 = 0 then _ else dV (xD Y) 3 20 i 0) = _
    rw [kRest_v, if_neg (show ¬ (15 = 19 ∧ i = s) by omega)]
    by_cases e : i = s
    · rw [if_pos ⟨rfl, rfl, e, rfl⟩, if_pos ⟨rfl, e, rfl⟩]
    · rw [if_neg (fun z => e z.2.2.1), if_neg (fun z => e z.2.1), if_neg (show ¬ (15 = 14 ∧ i = s ∧ 0 = 0) by omega), if_neg (show ¬ (15 = 13 ∧ i = s ∧ 0 = 0) by omega), if_neg (show ¬ (15 = 12 ∧ i = s ∧ 0 = 0) by omega), kSet_ne (by omega)]
      exact a1 i hi
  refine AT.aload_n M_317 rfl rfl ?_
  refine AT.iconst M_317 rfl (v := 3) (by decide) ?_
  refine AT.iconst M_317 rfl (v := 0) (by decide) ?_
  refine AT.cv3u M_317 rfl M_312 rfl (Nat.le_of_ble_eq_true rfl) (xKd.of sh_mod) (by decide) (c_312 (X := (xSetK (xSetD Y (dSetV (xD Y) 3 20 s 0 ((kSet (xK Y 3) 4 s 0 0).1 18 s 0))) 3 (kRest (kSet (xK Y 3) 4 s 0 0) s))) (p := sRch 3 0) hJ hJ2 hnm hM (fun _ X h => c_311_3) hX3 a2 (r2.ok (by omega) hR3)) (fun W hc38 => ?_) (Nat.le_of_ble_eq_true rfl) rfl
  have r3 := hc38
  try simp only [xK_same, xSetK_idem, xD_setK, xSetD_setK]
  refine AT.iret M_317 rfl rfl ?_
  have r4 := r2.tr r3
  rw [xK_same, eD, Nat.zero_add, Nat.zero_add] at r4
  rw [eD]
  exact ⟨rfl, r4⟩
