/-! ===== THE REFERENCE: sends to all, asks, plain entries, cuts ===== -/
theorem i32_and1 (x : Int32) : x &&& (1 : Int32) = bI (decide (x &&& (1 : Int32) = 1)) := by
  have e : (x &&& (1 : Int32)).toBitVec.toNat ≤ 1 := by
    rw [Int32.toBitVec_and, BitVec.toNat_and]
    exact Nat.and_le_right
  have h : x &&& (1 : Int32) = Int32.ofNat (x &&& (1 : Int32)).toBitVec.toNat := by
    rw [← Int32.toBitVec_inj]
    show _ = BitVec.ofNat 32 _
    rw [BitVec.ofNat_toNat, BitVec.setWidth_eq]
  rcases (by omega : (x &&& (1 : Int32)).toBitVec.toNat = 0 ∨ (x &&& (1 : Int32)).toBitVec.toNat = 1) with z | z <;> rw [z] at h
  · rw [h]; decide
  · rw [h]; decide
theorem i32_bit {x : Int32} {j : Nat} (h : j < 7) : (x >>> (Int32.ofNat j &&& 31)) &&& (1 : Int32) = bI (sBit x j) := by
  rw [i32_and31 h]; exact i32_and1 _
theorem mAsk_row {K : KK} {s q : Nat} {kd tm : Int32} (h : kd = 1 ∨ kd = 3) {k : Nat} (hk : k < 36) : mRow (mAsk K s q kd tm) k = rw6 kd (Int32.ofNat s) (Int32.ofNat q) tm (sLast K s) (sLastT K s) k := by
  rcases (by omega : k = 0 ∨ k = 1 ∨ k = 2 ∨ k = 3 ∨ k = 4 ∨ k = 5 ∨ k = 6 ∨ k = 7 ∨ 8 ≤ k) with z | z | z | z | z | z | z | z | z
  all_goals first | subst z | skip
  iterate 8 (rcases h with rfl | rfl <;> rfl)
  unfold mRow rw6
  rw [if_neg (by omega), if_neg (by omega), if_neg (by omega), if_neg (by omega), if_neg (by omega), if_neg (show ¬ (mAsk K s q kd tm).1 1 = 7 by show ¬ kd = 7; rcases h with rfl | rfl <;> decide),
    if_neg (by omega), if_neg (by omega), if_neg (by omega), if_neg (by omega), if_neg (by omega), if_neg (by omega)]
  rfl
theorem rRel0.send {o n c z : Nat} {X Y : XS} {K K' : KK} (h : rRel0 o n c z X Y K) (e : K = K') : rRel0 o n c z X Y K' := e ▸ h
theorem l_202 {o s m : Nat} (h2 : 2 ≤ o) (h4 : o < 4) (hs : s < 7) {mm : Int32} : ∀ n q : Nat, q + n = 7 → ∀ X : XS, kWf (xK X o) s → (∀ q, q < 7 → kNx (xK X o) s q) → AT 202 8 [some (.ref (bB o)), some (.int (Int32.ofNat s)), some (.int mm), some (.int (sCntF (sToP s mm) q)), some (.int (Int32.ofNat q))] [] X (fun o' Z => o' = .inl (some (.int (sCntF (sToP s mm) 7))) ∧ rRel0 o m 0 0 X Z (kAllF s mm n q (xK X o)) ∧ rSm o X Z)
  | 0, q, hq, X, hw, hN => by
    refine AT.iload M_202 rfl rfl ?_
    refine AT.bipush M_202 rfl (v := 7) (by decide) ?_
    refine AT.icmp_ge M_202 rfl (fun b10 => ?_) (fun b10 => absurd (by rw [show q = 7 by omega]; exact Int32.le_refl _) b10)
    refine AT.iload_n M_202 rfl rfl ?_
    refine AT.iret M_202 rfl rfl ?_
    rw [show q = 7 by omega]
    exact ⟨rfl, rRel0.rf o m X, rSm.rf o X⟩
  | n + 1, q, hq, X, hw, hN => by
    have hq7 : q < 7 := by omega
    unfold kAllF
    refine AT.iload M_202 rfl rfl ?_
    refine AT.bipush M_202 rfl (v := 7) (by decide) ?_
    refine AT.icmp_ge M_202 rfl (fun b10 => absurd ((i32_le (b := q) (a := 7) (by omega) (by omega)).mp b10) (by omega)) (fun b10 => ?_)
    refine AT.iload M_202 rfl rfl ?_
    refine AT.iload_n M_202 rfl rfl ?_
    refine AT.icmp_eq M_202 rfl (fun b13 => ?_) (fun b13 => ?_)
    · refine AT.iinc4 M_202 rfl rfl (i32_succ _) ?_
      refine AT.goto M_202 rfl ?_
      have e : sCntF (sToP s mm) (q + 1) = sCntF (sToP s mm) q := sCntF_f (by simp [sToP, show q = s from (i32_nat (by omega) (by omega) b13)])
      rw [if_neg (show ¬ (¬ q = s ∧ sBit mm q = true) from fun z => z.1 (i32_nat (by omega) (by omega) b13)), ← e]
      exact l_202 h2 h4 hs n (q + 1) (by omega) X hw hN
    · refine AT.iload_n M_202 rfl rfl ?_
      refine AT.iload M_202 rfl rfl ?_
      refine AT.ishr M_202 rfl rfl ?_
      refine AT.iconst M_202 rfl (v := 1) (by decide) ?_
      refine AT.iand M_202 rfl rfl ?_
      refine AT.if_ne M_202 rfl (fun b19 => ?_) (fun b19 => ?_)
      · refine AT.aload_n M_202 rfl rfl ?_
        refine AT.iload_n M_202 rfl rfl ?_
        refine AT.iload M_202 rfl rfl ?_
        refine AT.cv3w M_202 rfl M_201 rfl (Nat.le_of_ble_eq_true rfl) (xKd.of (sh_st h2 h4)) (by decide) (c_201 (n := m) h2 h4 hs hq7 hw (hN q hq7)) (fun Y hc24 => ?_) (Nat.le_of_ble_eq_true rfl) rfl
        obtain ⟨r1, k1⟩ := hc24
        refine AT.iinc3 M_202 rfl rfl rfl ?_
        refine AT.iinc4 M_202 rfl rfl (i32_succ _) ?_
        refine AT.goto M_202 rfl ?_
        have hb : sBit mm q = true := bI_ne0.mp (by rw [← i32_bit hq7]; exact b19)
        have hne : ¬ q = s := fun z => b13 (by rw [z])
        have e : sCntF (sToP s mm) (q + 1) = sCntF (sToP s mm) q + Int32.ofInt 1 := sCntF_t (by simp [sToP, hne, hb])
        rw [if_pos (show (¬ q = s ∧ sBit mm q = true) from ⟨hne, hb⟩), ← e]
        refine AT.mono (l_202 (m := m) h2 h4 hs n (q + 1) (by omega) Y (by rw [r1.k]; exact kSend_wf hw) (fun q hq => by rw [r1.k]; exact kSend_nx (hN q hq))) ?_
        rintro o' Z ⟨z1, z2, z3⟩
        rw [r1.k] at z2
        exact ⟨z1, r1.tr z2, k1.tr z3⟩
      · refine AT.goto M_202 rfl ?_
        refine AT.iinc4 M_202 rfl rfl (i32_succ _) ?_
        refine AT.goto M_202 rfl ?_
        have hb : sBit mm q = false := bI_eq0.mp (by rw [← i32_bit hq7]; exact Classical.not_not.mp b19)
        have e : sCntF (sToP s mm) (q + 1) = sCntF (sToP s mm) q := sCntF_f (by simp [sToP, hb])
        rw [if_neg (show ¬ (¬ q = s ∧ sBit mm q = true) from fun z => by rw [hb] at z; exact absurd z.2 (by decide)), ← e]
        exact l_202 h2 h4 hs n (q + 1) (by omega) X hw hN
theorem c_202 {X : XS} {o s m : Nat} (h2 : 2 ≤ o) (h4 : o < 4) (hs : s < 7) (hw : kWf (xK X o) s) (hN : ∀ q, q < 7 → kNx (xK X o) s q) : RU 202 [some (.ref (bB o)), some (.int (Int32.ofNat s)), none, none, none] X (some (.int (sCntF (sToP s (sMem (xK X o) s)) 7))) (fun Z => rRel0 o m 0 0 X Z (kSnd (xK X o) s) ∧ rSm o X Z) := by
  refine AT.aload_n M_202 rfl rfl ?_
  refine AT.iload_n M_202 rfl rfl ?_
  refine AT.cv2i M_202 rfl M_195 rfl (Nat.le_of_ble_eq_true rfl) (xKd.of (sh_st h2 h4)) (by decide) (c_195 h2 h4 hs hw) ?_ (Nat.le_of_ble_eq_true rfl) rfl
  refine AT.ist2 M_202 rfl rfl ?_
  refine AT.iconst M_202 rfl (v := 0) (by decide) ?_
  refine AT.ist3 M_202 rfl rfl ?_
  refine AT.iconst M_202 rfl (v := 0) (by decide) ?_
  refine AT.ist4 M_202 rfl rfl ?_
  exact l_202 h2 h4 hs 7 0 rfl X hw hN
theorem l_203 {o s m : Nat} (h2 : 2 ≤ o) (h4 : o < 4) (hs : s < 7) {mm kd tm : Int32} (hkd : kd = 1 ∨ kd = 3) : ∀ n q : Nat, q + n = 7 → ∀ X : XS, kWf (xK X o) s → AT 203 6 [some (.ref (bB o)), some (.int (Int32.ofNat s)), some (.int kd), some (.int tm), some (.int mm), some (.int (Int32.ofNat q))] [] X (fun o' Z => o' = .inl none ∧ rRel0 o m 0 0 X Z (kAskF s mm kd tm n q (xK X o)) ∧ rSm o X Z)
  | 0, q, hq, X, hw => by
    refine AT.iload M_203 rfl rfl ?_
    refine AT.bipush M_203 rfl (v := 7) (by decide) ?_
    refine AT.icmp_ge M_203 rfl (fun b8 => ?_) (fun b8 => absurd (by rw [show q = 7 by omega]; exact Int32.le_refl _) b8)
    refine AT.vret M_203 rfl rfl ?_
    exact ⟨rfl, rRel0.rf o m X, rSm.rf o X⟩
  | n + 1, q, hq, X, hw => by
    have hq7 : q < 7 := by omega
    unfold kAskF
    refine AT.iload M_203 rfl rfl ?_
    refine AT.bipush M_203 rfl (v := 7) (by decide) ?_
    refine AT.icmp_ge M_203 rfl (fun b8 => absurd ((i32_le (b := q) (a := 7) (by omega) (by omega)).mp b8) (by omega)) (fun b8 => ?_)
    refine AT.iload M_203 rfl rfl ?_
    refine AT.iload_n M_203 rfl rfl ?_
    refine AT.icmp_eq M_203 rfl (fun b11 => ?_) (fun b11 => ?_)
    · refine AT.iinc5 M_203 rfl rfl (i32_succ _) ?_
      refine AT.goto M_203 rfl ?_
      rw [if_neg (show ¬ (¬ q = s ∧ sBit mm q = true) from fun z => z.1 (i32_nat (by omega) (by omega) b11))]
      exact l_203 h2 h4 hs hkd n (q + 1) (by omega) X hw
    · refine AT.iload M_203 rfl rfl ?_
      refine AT.iload M_203 rfl rfl ?_
      refine AT.ishr M_203 rfl rfl ?_
      refine AT.iconst M_203 rfl (v := 1) (by decide) ?_
      refine AT.iand M_203 rfl rfl ?_
      refine AT.if_eq M_203 rfl (fun b17 => ?_) (fun b17 => ?_)
      · refine AT.iinc5 M_203 rfl rfl (i32_succ _) ?_
        refine AT.goto M_203 rfl ?_
        have hb : sBit mm q = false := bI_eq0.mp (by rw [← i32_bit hq7]; exact b17)
        rw [if_neg (show ¬ (¬ q = s ∧ sBit mm q = true) from fun z => by rw [hb] at z; exact absurd z.2 (by decide))]
        exact l_203 h2 h4 hs hkd n (q + 1) (by omega) X hw
      · refine AT.aload_n M_203 rfl rfl ?_
        refine AT.iload_n M_203 rfl rfl ?_
        refine AT.iload_n M_203 rfl rfl ?_
        refine AT.iload M_203 rfl rfl ?_
        refine AT.iload_n M_203 rfl rfl ?_
        refine AT.aload_n M_203 rfl rfl ?_
        refine AT.iload_n M_203 rfl rfl ?_
        refine AT.cv2i8 M_203 rfl M_187 rfl (show (5 : Nat) ≤ 8 by omega) (xKd.of (sh_st h2 h4)) (by decide) (c_187 h2 h4 hs) ?_ (Nat.le_of_ble_eq_true rfl) rfl
        refine AT.aload_n M_203 rfl rfl ?_
        refine AT.iload_n M_203 rfl rfl ?_
        refine AT.cv2i8 M_203 rfl M_192 rfl (show (6 : Nat) ≤ 8 by omega) (xKd.of (sh_st h2 h4)) (by decide) (c_192 h2 h4 hs hw) ?_ (Nat.le_of_ble_eq_true rfl) rfl
        refine AT.cv7u M_203 rfl M_200 rfl (Nat.le_of_ble_eq_true rfl) (xKd.of (sh_st h2 h4)) (by decide) (c_200 (n := m) h2 h4 (fun k hk => mAsk_row (K := xK X o) (s := s) (q := q) (kd := kd) (tm := tm) hkd hk)) (fun Y hc29 => ?_) (Nat.le_of_ble_eq_true rfl) rfl
        obtain ⟨r1, k1⟩ := hc29
        refine AT.popi M_203 rfl ?_
        refine AT.iinc5 M_203 rfl rfl (i32_succ _) ?_
        refine AT.goto M_203 rfl ?_
        have hb : sBit mm q = true := bI_ne0.mp (by rw [← i32_bit hq7]; exact b17)
        have hne : ¬ q = s := fun z => b11 (by rw [z])
        rw [if_pos (show (¬ q = s ∧ sBit mm q = true) from ⟨hne, hb⟩)]
        refine AT.mono (l_203 (m := m) h2 h4 hs hkd n (q + 1) (by omega) Y (by rw [r1.k]; exact kSend_wf hw)) ?_
        rintro o' Z ⟨z1, z2, z3⟩
        rw [r1.k] at z2
        exact ⟨z1, r1.tr z2, k1.tr z3⟩
theorem c_203 {X : XS} {o s m : Nat} {kd tm : Int32} (h2 : 2 ≤ o) (h4 : o < 4) (hs : s < 7) (hkd : kd = 1 ∨ kd = 3) (hw : kWf (xK X o) s) : RU 203 [some (.ref (bB o)), some (.int (Int32.ofNat s)), some (.int kd), some (.int tm), none, none] X none (fun Z => rRel0 o m 0 0 X Z (kAskF s (sMem (xK X o) s) kd tm 7 0 (xK X o)) ∧ rSm o X Z) := by
  refine AT.aload_n M_203 rfl rfl ?_
  refine AT.iload_n M_203 rfl rfl ?_
  refine AT.cv2i M_203 rfl M_195 rfl (Nat.le_of_ble_eq_true rfl) (xKd.of (sh_st h2 h4)) (by decide) (c_195 h2 h4 hs hw) ?_ (Nat.le_of_ble_eq_true rfl) rfl
  refine AT.ist4 M_203 rfl rfl ?_
  refine AT.iconst M_203 rfl (v := 0) (by decide) ?_
  refine AT.ist5 M_203 rfl rfl ?_
  exact l_203 h2 h4 hs hkd 7 0 rfl X hw
