/-! ===== THE REFERENCE: what comes with messages ===== -/
theorem mRep_row6 (w : MSG) (tm y ix : Int32) {k : Nat} (hk : k < 36) : mRow (mRep w 6 tm y ix) k = rw6 6 (w.1 3) (w.1 2) tm ix y k := by
  rcases (by omega : k = 0 ∨ k = 1 ∨ k = 2 ∨ k = 3 ∨ k = 4 ∨ k = 5 ∨ k = 6 ∨ k = 7 ∨ 8 ≤ k) with rfl | rfl | rfl | rfl | rfl | rfl | rfl | rfl | z
  iterate 8 rfl
  unfold mRow rw6
  rw [if_neg (by omega), if_neg (by omega), if_neg (by omega), if_neg (by omega), if_neg (by omega), if_neg (show ¬ (mRep w 6 tm y ix).1 1 = 7 by show ¬ (6 : Int32) = 7; decide),
    if_neg (by omega), if_neg (by omega), if_neg (by omega), if_neg (by omega), if_neg (by omega), if_neg (by omega)]
  rfl
theorem mRep_row2 (w : MSG) {kd : Int32} (h : kd = 2 ∨ kd = 4) (tm y : Int32) {k : Nat} (hk : k < 36) : mRow (mRep w kd tm y 0) k = rw6 kd (w.1 3) (w.1 2) tm y 0 k := by
  rcases (by omega : k = 0 ∨ k = 1 ∨ k = 2 ∨ k = 3 ∨ k = 4 ∨ k = 5 ∨ k = 6 ∨ k = 7 ∨ 8 ≤ k) with z | z | z | z | z | z | z | z | z
  all_goals first | subst z | skip
  iterate 8 (rcases h with rfl | rfl <;> rfl)
  unfold mRow rw6
  rw [if_neg (by omega), if_neg (by omega), if_neg (by omega), if_neg (by omega), if_neg (by omega), if_neg (show ¬ (mRep w kd tm y 0).1 1 = 7 by show ¬ kd = 7; rcases h with rfl | rfl <;> decide),
    if_neg (by omega), if_neg (by omega), if_neg (by omega), if_neg (by omega), if_neg (by omega), if_neg (by omega)]
  rfl
/-- the message that was told -/
def uTold (X : XS) (o : Nat) (w : MSG) : Prop := ∀ j, j < 36 → dV (xD X) o 40 0 j = mRow w j
/-- entries are four at most, a snapshot has its index -/
def mRk (w : MSG) : Prop := (w.1 1 = 5 → w.2.2.length ≤ 4) ∧ (w.1 1 = 7 → ∃ r, w.2.1 = some r ∧ r 0 = w.1 6)
theorem kMax_com (x y : Int32) : kMax x y = if y < x then x else y := by
  unfold kMax
  by_cases h : x < y
  · rw [if_pos h, if_neg (fun z => by rw [Int32.lt_iff_toInt_lt] at h z; omega)]
  · rw [if_neg h]
    by_cases h2 : y < x
    · rw [if_pos h2]
    · rw [if_neg h2]
      rw [Int32.lt_iff_toInt_lt] at h h2
      exact Int32.toInt_inj.mp (by omega)
theorem c_208k {X : XS} {o s m n : Nat} (h2 : 2 ≤ o) (h4 : o < 4) (hs : s < 7) (hk : sOk (xK X o) s) (hap : aPr X o) (hn : kC (xK X o) s + n ≤ kA (xK X o) s + ((xK X o).2.1 s).length) :
    RU 208 [some (.ref (bB o)), some (.int (Int32.ofNat s)), none, none] (xSetK X o (kSet (xK X o) 15 s 0 (Int32.ofNat (kC (xK X o) s + n)))) none (fun Z => rRel o m 0 0 X Z (kComm (xK X o) s (kC (xK X o) s) n)) := by
  have h := l_208 (m := m) h2 h4 hs n (kC (xK X o) s) (xSetK X o (kSet (xK X o) 15 s 0 (Int32.ofNat (kC (xK X o) s + n)))) none none ((hap s hs).trans hk.2.1) (by rw [xK_same]; exact kSet_at _ _ _ _ _) (a := kA (xK X o) s) (by rw [xK_same]; exact (kSet_ne (by omega)).trans hk.1) hk.2.2.1 (by rw [xK_same]; exact hn) (by rw [xK_same]; have := hk.2.2.2.2.1; show _ + ((xK X o).2.1 s).length < _; omega) (by rw [xK_same]; exact hk.2.2.2.2.2.1)
  refine AT.mono h ?_
  rintro o' Z ⟨z1, z2, z3⟩
  rw [xK_same, kApF_set, kApF_eq] at z2
  have z4 : rAp o s (Int32.ofNat (kC (xK X o) s + n)) X Z := z3
  exact ⟨z1, z4.apr rfl ((rRel0.set o m X _).tr z2) hap (kSet_at _ _ _ _ _) (fun i hi e => kComm_1 (by omega) (by omega) (fun z => e z.2.1))⟩
theorem c_219 {X : XS} {s : Nat} {t : Int32} : RT 219 [some (.int (Int32.ofNat s)), some (.int t)] X (some (.int (sPat s t))) X := by
  refine AT.bipush M_219 rfl (v := 6) (by decide) ?_
  refine AT.iconst M_219 rfl (v := 3) (by decide) ?_
  refine AT.iload_n M_219 rfl rfl ?_
  refine AT.imul M_219 rfl rfl ?_
  refine AT.iconst M_219 rfl (v := 5) (by decide) ?_
  refine AT.iload_n M_219 rfl rfl ?_
  refine AT.imul M_219 rfl rfl ?_
  refine AT.iadd M_219 rfl rfl ?_
  refine AT.bipush M_219 rfl (v := 7) (by decide) ?_
  refine AT.irem M_219 rfl (by decide) rfl ?_
  refine AT.iadd M_219 rfl rfl ?_
  refine AT.iret M_219 rfl rfl ?_
  exact ⟨rfl, rfl⟩
theorem c_213a {X : XS} {o s : Nat} (h2 : 2 ≤ o) (h4 : o < 4) (hs : s < 7) {m : Nat} {w : MSG} (w3 : w.1 3 = Int32.ofNat s) (h : w.1 4 < (xK X o).1 5 s 0) : RU 213 [some (.ref (bB o)), some (.int (Int32.ofNat s)), some (.int (w.1 2)), some (.int (w.1 4))] X (some (.int 1)) (fun Y => rRel0 o m 0 0 X Y (kSend (xK X o) (mRep w 6 ((xK X o).1 5 s 0) 0 0)) ∧ rSm o X Y) := by
  refine AT.iload_n M_213 rfl rfl ?_
  refine AT.aload_n M_213 rfl rfl ?_
  refine AT.r10_3 M_213 rfl h2 h4 ?_
  refine AT.iload_n M_213 rfl rfl ?_
  refine AT.ra_5 M_213 rfl rfl h2 h4 (by assumption) ?_
  refine AT.icmp_ge M_213 rfl (fun b5 => absurd h (Int32.not_lt.mpr b5)) (fun b5 => ?_)
  refine AT.aload_n M_213 rfl rfl ?_
  refine AT.bipush M_213 rfl (v := 6) (by decide) ?_
  refine AT.iload_n M_213 rfl rfl ?_
  refine AT.iload_n M_213 rfl rfl ?_
  refine AT.aload_n M_213 rfl rfl ?_
  refine AT.r10_3 M_213 rfl h2 h4 ?_
  refine AT.iload_n M_213 rfl rfl ?_
  refine AT.ra_5 M_213 rfl rfl h2 h4 (by assumption) ?_
  refine AT.iconst M_213 rfl (v := 0) (by decide) ?_
  refine AT.iconst M_213 rfl (v := 0) (by decide) ?_
  refine AT.cv7u M_213 rfl M_200 rfl (Nat.le_of_ble_eq_true rfl) (xKd.of (sh_st h2 h4)) (by decide) (c_200 (n := m) h2 h4 (fun k hk => by rw [mRep_row6 w ((xK X o).1 5 s 0) 0 0 hk, w3])) (fun Y hc16 => ?_) (Nat.le_of_ble_eq_true rfl) rfl
  refine AT.popi M_213 rfl ?_
  refine AT.iconst M_213 rfl (v := 1) (by decide) ?_
  refine AT.zret M_213 rfl rfl (by first | exact Or.inl rfl | exact Or.inr rfl | assumption) ?_
  exact ⟨rfl, hc16⟩
theorem c_213b {X : XS} {o s : Nat} (h2 : 2 ≤ o) (h4 : o < 4) (hs : s < 7) {w : MSG} (h : ¬ w.1 4 < (xK X o).1 5 s 0) : RT 213 [some (.ref (bB o)), some (.int (Int32.ofNat s)), some (.int (w.1 2)), some (.int (w.1 4))] X (some (.int 0)) (xSetK X o (kObey (xK X o) s (w.1 2))) := by
  refine AT.iload_n M_213 rfl rfl ?_
  refine AT.aload_n M_213 rfl rfl ?_
  refine AT.r10_3 M_213 rfl h2 h4 ?_
  refine AT.iload_n M_213 rfl rfl ?_
  refine AT.ra_5 M_213 rfl rfl h2 h4 (by assumption) ?_
  refine AT.icmp_ge M_213 rfl (fun b5 => ?_) (fun b5 => absurd (Int32.not_le.mp b5) h)
  refine AT.aload_n M_213 rfl rfl ?_
  refine AT.r10_5 M_213 rfl h2 h4 ?_
  refine AT.iload_n M_213 rfl rfl ?_
  refine AT.iconst M_213 rfl (v := 0) (by decide) ?_
  refine AT.rs_12 M_213 rfl rfl h2 h4 (by assumption) ?_
  try simp only [xK_same, xSetK_idem, xD_setK, xK_setD, xD_setD, xSetD_setK, xSetD_idem, kSet_1, kSet_2, kRow_1, kRow_2, kLog_1, kLog_2, kLog_l, kLog_idem, List.take_zero, if_true]
  refine AT.aload_n M_213 rfl rfl ?_
  refine AT.r10_6 M_213 rfl h2 h4 ?_
  refine AT.iload_n M_213 rfl rfl ?_
  refine AT.iload_n M_213 rfl rfl ?_
  refine AT.rs_13 M_213 rfl rfl h2 h4 (by assumption) ?_
  try simp only [xK_same, xSetK_idem, xD_setK, xK_setD, xD_setD, xSetD_setK, xSetD_idem, kSet_1, kSet_2, kRow_1, kRow_2, kLog_1, kLog_2, kLog_l, kLog_idem, List.take_zero, if_true]
  refine AT.aload_n M_213 rfl rfl ?_
  refine AT.r10_7 M_213 rfl h2 h4 ?_
  refine AT.iload_n M_213 rfl rfl ?_
  refine AT.iconst M_213 rfl (v := 0) (by decide) ?_
  refine AT.rs_14 M_213 rfl rfl h2 h4 (by assumption) ?_
  try simp only [xK_same, xSetK_idem, xD_setK, xK_setD, xD_setD, xSetD_setK, xSetD_idem, kSet_1, kSet_2, kRow_1, kRow_2, kLog_1, kLog_2, kLog_l, kLog_idem, List.take_zero, if_true]
  refine AT.iconst M_213 rfl (v := 0) (by decide) ?_
  refine AT.zret M_213 rfl rfl (by first | exact Or.inl rfl | exact Or.inr rfl | assumption) ?_
  exact ⟨rfl, rfl⟩
theorem l_215 {X : XS} {o s : Nat} (h2 : 2 ≤ o) (h4 : o < 4) (hs : s < 7) {a j : Nat} (ha : (xK X o).1 18 s 0 = Int32.ofNat a) (hl : a + ((xK X o).2.1 s).length < 16777216) (hj : j < ((xK X o).2.1 s).length) : ∀ k : Nat, k ≤ j → AT 215 2 [some (.ref (bB o)), some (.int (Int32.ofNat s)), some (.int (Int32.ofNat (a + 1 + j))), some (.int (Int32.ofNat (a + 1 + k)))] [] X (fun o' Y => o' = .inl (some (.int (Int32.ofNat (a + sRun ((xK X o).2.1 s) ((((xK X o).2.1 s)[j]'hj) 0) k)))) ∧ Y = X)
  | 0, hk => by
    refine AT.aload_n M_215 rfl rfl ?_
    refine AT.iload_n M_215 rfl rfl ?_
    refine AT.iload_n M_215 rfl rfl ?_
    refine AT.iconst M_215 rfl (v := 1) (by decide) ?_
    refine AT.isub M_215 rfl rfl ?_
    rw [show Int32.ofNat (a + 1 + 0) - 1 = Int32.ofNat (a + 0) from by rw [show a + 1 + 0 = a + 0 + 1 by omega]; exact i32_sc _]
    refine AT.cv3i M_215 rfl M_188 rfl (Nat.le_of_ble_eq_true rfl) (xKd.of (sh_st h2 h4)) (by decide) (c_188 h2 h4 hs) ?_ (Nat.le_of_ble_eq_true rfl) rfl
    refine AT.if_eq M_215 rfl (fun b8 => ?_) (fun b8 => absurd ((sHasE_some ⟨a, ha, hl⟩).mp (bI_ne0.mp b8)) (fun ⟨e, he⟩ => by have := (sEnt_some he ⟨a, ha, hl⟩).1; rw [ha, i32_le (by omega) (by omega)] at this; omega))
    refine AT.iload_n M_215 rfl rfl ?_
    refine AT.iconst M_215 rfl (v := 1) (by decide) ?_
    refine AT.isub M_215 rfl rfl ?_
    refine AT.iret M_215 rfl rfl ?_
    rw [show Int32.ofNat (a + 1 + 0) - 1 = Int32.ofNat (a + 0) from by rw [show a + 1 + 0 = a + 0 + 1 by omega]; exact i32_sc _]
    exact ⟨rfl, rfl⟩
  | k + 1, hkj => by
    have hk : sEnt (xK X o) s (Int32.ofNat (a + 1 + k)) = some (((xK X o).2.1 s)[k]'(by omega)) := by
      rw [sEnt_at ha hl (by omega), List.getElem?_eq_getElem (by omega)]
    have hx : sEnt (xK X o) s (Int32.ofNat (a + 1 + j)) = some (((xK X o).2.1 s)[j]'hj) := by
      rw [sEnt_at ha hl hj, List.getElem?_eq_getElem hj]
    refine AT.aload_n M_215 rfl rfl ?_
    refine AT.iload_n M_215 rfl rfl ?_
    refine AT.iload_n M_215 rfl rfl ?_
    refine AT.iconst M_215 rfl (v := 1) (by decide) ?_
    refine AT.isub M_215 rfl rfl ?_
    rw [show Int32.ofNat (a + 1 + (k + 1)) - 1 = Int32.ofNat (a + 1 + k) from i32_sc _]
    refine AT.cv3i M_215 rfl M_188 rfl (Nat.le_of_ble_eq_true rfl) (xKd.of (sh_st h2 h4)) (by decide) (c_188 h2 h4 hs) ?_ (Nat.le_of_ble_eq_true rfl) rfl
    refine AT.if_eq M_215 rfl (fun b8 => absurd b8 (bI_ne0.mpr ((sHasE_some ⟨a, ha, hl⟩).mpr ⟨_, hk⟩))) (fun b8 => ?_)
    refine AT.aload_n M_215 rfl rfl ?_
    refine AT.iload_n M_215 rfl rfl ?_
    refine AT.iload_n M_215 rfl rfl ?_
    refine AT.iconst M_215 rfl (v := 1) (by decide) ?_
    refine AT.isub M_215 rfl rfl ?_
    rw [show Int32.ofNat (a + 1 + (k + 1)) - 1 = Int32.ofNat (a + 1 + k) from i32_sc _]
    refine AT.iconst M_215 rfl (v := 0) (by decide) ?_
    refine AT.cv4i M_215 rfl M_190 rfl (Nat.le_of_ble_eq_true rfl) (xKd.of (sh_st h2 h4)) (by decide) (c_190 h2 h4 hs hk ⟨a, ha, hl⟩ (c := 0) (by omega) rfl) ?_ (Nat.le_of_ble_eq_true rfl) rfl
    refine AT.aload_n M_215 rfl rfl ?_
    refine AT.iload_n M_215 rfl rfl ?_
    refine AT.iload_n M_215 rfl rfl ?_
    refine AT.iconst M_215 rfl (v := 0) (by decide) ?_
    refine AT.cv4i M_215 rfl M_190 rfl (Nat.le_of_ble_eq_true rfl) (xKd.of (sh_st h2 h4)) (by decide) (c_190 h2 h4 hs hx ⟨a, ha, hl⟩ (c := 0) (by omega) rfl) ?_ (Nat.le_of_ble_eq_true rfl) rfl
    refine AT.icmp_ne M_215 rfl (fun b21 => ?_) (fun b21 => ?_)
    · refine AT.iload_n M_215 rfl rfl ?_
      refine AT.iconst M_215 rfl (v := 1) (by decide) ?_
      refine AT.isub M_215 rfl rfl ?_
      refine AT.iret M_215 rfl rfl ?_
      rw [show sRun ((xK X o).2.1 s) ((((xK X o).2.1 s)[j]'hj) 0) (k + 1) = k + 1 from if_neg (by rw [List.getElem?_eq_getElem (by omega : k < ((xK X o).2.1 s).length)]; exact fun z => b21 (of_decide_eq_true z))]
      rw [show Int32.ofNat (a + 1 + (k + 1)) - 1 = Int32.ofNat (a + (k + 1)) from by rw [show a + 1 + (k + 1) = a + (k + 1) + 1 by omega]; exact i32_sc _]
      exact ⟨rfl, rfl⟩
    · refine AT.iinc3 M_215 rfl rfl (show Int32.ofNat (a + 1 + (k + 1)) + Int32.ofInt (-1) = Int32.ofNat (a + 1 + k) from i32_dec _) ?_
      refine AT.goto M_215 rfl ?_
      rw [show sRun ((xK X o).2.1 s) ((((xK X o).2.1 s)[j]'hj) 0) (k + 1) = sRun ((xK X o).2.1 s) ((((xK X o).2.1 s)[j]'hj) 0) k from if_pos (by rw [List.getElem?_eq_getElem (by omega : k < ((xK X o).2.1 s).length)]; exact decide_eq_true (Classical.not_not.mp b21))]
      exact l_215 h2 h4 hs ha hl hj k (by omega)
theorem c_215 {X : XS} {o s : Nat} (h2 : 2 ≤ o) (h4 : o < 4) (hs : s < 7) {a j : Nat} (ha : (xK X o).1 18 s 0 = Int32.ofNat a) (hl : a + ((xK X o).2.1 s).length < 16777216) (hj : j < ((xK X o).2.1 s).length) : RT 215 [some (.ref (bB o)), some (.int (Int32.ofNat s)), some (.int (Int32.ofNat (a + 1 + j))), none] X (some (.int (Int32.ofNat (a + sRun ((xK X o).2.1 s) ((((xK X o).2.1 s)[j]'hj) 0) j)))) X := by
  refine AT.iload_n M_215 rfl rfl ?_
  refine AT.ist3 M_215 rfl rfl ?_
  exact l_215 h2 h4 hs ha hl hj j (Nat.le_refl _)
