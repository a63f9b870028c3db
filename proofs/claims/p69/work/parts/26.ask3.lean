theorem l_69 {X : XS} {o s : Nat} (ho : o < 2) (hs : s < 7) {x mm : Int32} (hm : dV (xD X) o 10 s 0 = mm) : ∀ n j : Nat, j + n = 7 → AT 69 6 [some (.ref (aS o s)), some (.int x), some (.int (sSum (fun j => bI (sBit mm j)) j)), some (.int (sSum (fun j => bI (sBit mm j && (decide (j = s) || decide (x ≤ (xK X o).1 3 s j)))) j)), some (.int (Int32.ofNat j))] [] X (fun o' Y => o' = .inl (some (.int (bI (decide (sSum (fun j => bI (sBit mm j)) 7 < 2 * sSum (fun j => bI (sBit mm j && (decide (j = s) || decide (x ≤ (xK X o).1 3 s j)))) 7))))) ∧ Y = X)
  | 0, j, hj => by
    have e : j = 7 := by omega
    subst e
    subst hm
    refine AT.iload M_69 rfl rfl ?_
    refine AT.bipush M_69 rfl (v := 7) (by decide) ?_
    refine AT.icmp_ge M_69 rfl (fun b8 => ?_) (fun b8 => ?_)
    · refine AT.iconst M_69 rfl (v := 2) (by decide) ?_
      refine AT.iload_n M_69 rfl rfl ?_
      refine AT.imul M_69 rfl rfl ?_
      refine AT.iload_n M_69 rfl rfl ?_
      refine AT.icmp_le M_69 rfl (fun b40 => ?_) (fun b40 => ?_)
      · refine AT.iconst M_69 rfl (v := 0) (by decide) ?_
        refine AT.zret M_69 rfl rfl (by first | exact Or.inl rfl | exact Or.inr rfl | assumption) ?_
        exact ⟨congrArg (fun z => (Sum.inl (some (Value.int z)) : PO)) (by rw [decide_eq_false (Int32.not_lt.mpr b40)]; rfl), rfl⟩
      · refine AT.iconst M_69 rfl (v := 1) (by decide) ?_
        refine AT.goto M_69 rfl ?_
        refine AT.zret M_69 rfl rfl (by first | exact Or.inl rfl | exact Or.inr rfl | assumption) ?_
        exact ⟨congrArg (fun z => (Sum.inl (some (Value.int z)) : PO)) (by rw [decide_eq_true (Int32.not_le.mp b40)]; rfl), rfl⟩
    · exact absurd (by decide) b8
  | n + 1, j, hj => by
    have hj7 : j < 7 := by omega
    have ih := l_69 (x := x) ho hs hm n (j + 1) (by omega)
    subst hm
    refine AT.iload M_69 rfl rfl ?_
    refine AT.bipush M_69 rfl (v := 7) (by decide) ?_
    refine AT.icmp_ge M_69 rfl (fun b8 => ?_) (fun b8 => ?_)
    · exact absurd b8 (i32_ge7 hj7)
    · refine AT.aload_n M_69 rfl rfl ?_
      refine AT.f_6_10 M_69 rfl (by assumption) (by assumption) ?_
      refine AT.iload M_69 rfl rfl ?_
      refine AT.ishr M_69 rfl (i32_shr hj7) ?_
      refine AT.iconst M_69 rfl (v := 1) (by decide) ?_
      refine AT.iand M_69 rfl rfl ?_
      refine AT.iconst M_69 rfl (v := 1) (by decide) ?_
      refine AT.icmp_ne M_69 rfl (fun b16 => ?_) (fun b16 => ?_)
      · refine AT.iinc4 M_69 rfl rfl (i32_succ j) ?_
        refine AT.goto M_69 rfl ?_
        have c16 : sBit (dV (xD X) o 10 s 0) j = false := decide_eq_false b16
        refine AT.cong ?_ ih
        simp [sSum, c16, bI]
      · refine AT.iinc2 M_69 rfl rfl rfl ?_
        refine AT.iload_n M_69 rfl rfl ?_
        refine AT.iload M_69 rfl rfl ?_
        refine AT.aload_n M_69 rfl rfl ?_
        refine AT.f_6_0 M_69 rfl (by assumption) (by assumption) ?_
        refine AT.icmp_eq M_69 rfl (fun b22 => ?_) (fun b22 => ?_)
        · refine AT.iconst M_69 rfl (v := 1) (by decide) ?_
          refine AT.goto M_69 rfl ?_
          refine AT.iadd M_69 rfl rfl ?_
          refine AT.ist3 M_69 rfl rfl ?_
          refine AT.iinc4 M_69 rfl rfl (i32_succ j) ?_
          refine AT.goto M_69 rfl ?_
          have c16 : sBit (dV (xD X) o 10 s 0) j = true := decide_eq_true (Classical.not_not.mp b16)
          have c22 : j = s := (i32_eq (by omega) (by omega)).mp b22
          refine AT.cong ?_ ih
          simp [sSum, c16, bI, c22]
          exact c22 ▸ c16
        · refine AT.aload_n M_69 rfl rfl ?_
          refine AT.f_6_3 M_69 rfl (by assumption) (by assumption) ?_
          refine AT.iload M_69 rfl rfl ?_
          refine AT.a_mat M_69 rfl rfl (by assumption) (by assumption) (by assumption) ?_
          refine AT.iload_n M_69 rfl rfl ?_
          refine AT.icmp_lt M_69 rfl (fun b28 => ?_) (fun b28 => ?_)
          · refine AT.iconst M_69 rfl (v := 0) (by decide) ?_
            refine AT.iadd M_69 rfl rfl ?_
            refine AT.ist3 M_69 rfl rfl ?_
            refine AT.iinc4 M_69 rfl rfl (i32_succ j) ?_
            refine AT.goto M_69 rfl ?_
            have c16 : sBit (dV (xD X) o 10 s 0) j = true := decide_eq_true (Classical.not_not.mp b16)
            have c22 : ¬ j = s := fun z => b22 (congrArg Int32.ofNat z)
            have c28 : decide (x ≤ (xK X o).1 3 s j) = false := decide_eq_false (Int32.not_le.mpr b28)
            refine AT.cong ?_ ih
            simp [sSum, c16, bI, c22, c28]
          · refine AT.iconst M_69 rfl (v := 1) (by decide) ?_
            refine AT.goto M_69 rfl ?_
            refine AT.iadd M_69 rfl rfl ?_
            refine AT.ist3 M_69 rfl rfl ?_
            refine AT.iinc4 M_69 rfl rfl (i32_succ j) ?_
            refine AT.goto M_69 rfl ?_
            have c16 : sBit (dV (xD X) o 10 s 0) j = true := decide_eq_true (Classical.not_not.mp b16)
            have c22 : ¬ j = s := fun z => b22 (congrArg Int32.ofNat z)
            have c28 : decide (x ≤ (xK X o).1 3 s j) = true := decide_eq_true (Int32.not_lt.mp b28)
            refine AT.cong ?_ ih
            simp [sSum, c16, bI, c22, c28]
theorem c_69 {X : XS} {o s : Nat} (ho : o < 2) (hs : s < 7) {x mm : Int32} (hm : dV (xD X) o 10 s 0 = mm) : RT 69 [some (.ref (aS o s)), some (.int x), none, none, none] X (some (.int (bI (decide (sSum (fun j => bI (sBit mm j)) 7 < 2 * sSum (fun j => bI (sBit mm j && (decide (j = s) || decide (x ≤ (xK X o).1 3 s j)))) 7))))) X := by
  refine AT.iconst M_69 rfl (v := 0) (by decide) ?_
  refine AT.ist2 M_69 rfl rfl ?_
  refine AT.iconst M_69 rfl (v := 0) (by decide) ?_
  refine AT.ist3 M_69 rfl rfl ?_
  refine AT.iconst M_69 rfl (v := 0) (by decide) ?_
  refine AT.ist4 M_69 rfl rfl ?_
  exact l_69 ho hs hm 7 0 (by omega)
theorem c_70 {X : XS} {o s : Nat} (ho : o < 2) (hs : s < 7) : RT 70 [some (.ref (aS o s))] X (some (.int (bI (decide (¬ (xK X o).1 4 s 0 = 0) && (decide (¬ (xK X o).1 12 s 0 = 3) && sBit (dV (xD X) o 10 s 0) s))))) X := by
  refine AT.aload_n M_70 rfl rfl ?_
  refine AT.f_6_4 M_70 rfl (by assumption) (by assumption) ?_
  refine AT.if_eq M_70 rfl (fun b2 => ?_) (fun b2 => ?_)
  · refine AT.iconst M_70 rfl (v := 0) (by decide) ?_
    refine AT.zret M_70 rfl rfl (by first | exact Or.inl rfl | exact Or.inr rfl | assumption) ?_
    exact ⟨congrArg (fun z => (Sum.inl (some (Value.int z)) : PO)) (by rw [show (xK X o).1 4 s 0 = 0 from b2]; rfl), rfl⟩
  · refine AT.aload_n M_70 rfl rfl ?_
    refine AT.f_6_12 M_70 rfl (by assumption) (by assumption) ?_
    refine AT.iconst M_70 rfl (v := 3) (by decide) ?_
    refine AT.icmp_eq M_70 rfl (fun b6 => ?_) (fun b6 => ?_)
    · refine AT.iconst M_70 rfl (v := 0) (by decide) ?_
      refine AT.zret M_70 rfl rfl (by first | exact Or.inl rfl | exact Or.inr rfl | assumption) ?_
      exact ⟨congrArg (fun z => (Sum.inl (some (Value.int z)) : PO)) (by rw [show (xK X o).1 12 s 0 = 3 from b6]; simp [bI]), rfl⟩
    · refine AT.aload_n M_70 rfl rfl ?_
      refine AT.cv1i M_70 rfl M_67 rfl (Nat.le_of_ble_eq_true rfl) (xKd.of (shp_sv (by assumption) (by assumption))) (by decide) (c_67 (by assumption) (by assumption) rfl) ?_ (Nat.le_of_ble_eq_true rfl) rfl
      refine AT.if_eq M_70 rfl (fun b9 => ?_) (fun b9 => ?_)
      · refine AT.iconst M_70 rfl (v := 0) (by decide) ?_
        refine AT.zret M_70 rfl rfl (by first | exact Or.inl rfl | exact Or.inr rfl | assumption) ?_
        exact ⟨congrArg (fun z => (Sum.inl (some (Value.int z)) : PO)) (by rw [bI_eq0.mp b9]; simp [bI]), rfl⟩
      · refine AT.iconst M_70 rfl (v := 1) (by decide) ?_
        refine AT.goto M_70 rfl ?_
        refine AT.zret M_70 rfl rfl (by first | exact Or.inl rfl | exact Or.inr rfl | assumption) ?_
        exact ⟨congrArg (fun z => (Sum.inl (some (Value.int z)) : PO)) (by rw [bI_ne0.mp b9]; simp [bI, b2, b6]), rfl⟩
theorem c_71 {X : XS} {o s : Nat} (ho : o < 2) (hs : s < 7) (hw : kWf (xK X o) s) : RT 71 [some (.ref (aS o s))] X (some (.int (bI (decide ((xK X o).1 12 s 0 = 3) && (decide (sTix (xK X o) s ((xK X o).1 15 s 0) = (xK X o).1 5 s 0) && (decide (¬ (xK X o).1 15 s 0 < dV (xD X) o 11 s 0) && decide (¬ (40 : Int32) ≤ Int32.ofNat ((xK X o).2.1 s).length))))))) X := by
  refine AT.aload_n M_71 rfl rfl ?_
  refine AT.f_6_12 M_71 rfl (by assumption) (by assumption) ?_
  refine AT.iconst M_71 rfl (v := 3) (by decide) ?_
  refine AT.icmp_ne M_71 rfl (fun b3 => ?_) (fun b3 => ?_)
  · refine AT.iconst M_71 rfl (v := 0) (by decide) ?_
    refine AT.zret M_71 rfl rfl (by first | exact Or.inl rfl | exact Or.inr rfl | assumption) ?_
    exact ⟨congrArg (fun z => (Sum.inl (some (Value.int z)) : PO)) (by simp [bI, b3]), rfl⟩
  · refine AT.aload_n M_71 rfl rfl ?_
    refine AT.aload_n M_71 rfl rfl ?_
    refine AT.f_6_15 M_71 rfl (by assumption) (by assumption) ?_
    refine AT.cv2i M_71 rfl M_65 rfl (Nat.le_of_ble_eq_true rfl) (xKd.of (shp_sv (by assumption) (by assumption))) (by decide) (c_65 (by assumption) (by assumption) (by assumption)) ?_ (Nat.le_of_ble_eq_true rfl) rfl
    refine AT.aload_n M_71 rfl rfl ?_
    refine AT.f_6_5 M_71 rfl (by assumption) (by assumption) ?_
    refine AT.icmp_ne M_71 rfl (fun b10 => ?_) (fun b10 => ?_)
    · refine AT.iconst M_71 rfl (v := 0) (by decide) ?_
      refine AT.zret M_71 rfl rfl (by first | exact Or.inl rfl | exact Or.inr rfl | assumption) ?_
      exact ⟨congrArg (fun z => (Sum.inl (some (Value.int z)) : PO)) (by simp [bI, b3, b10]), rfl⟩
    · refine AT.aload_n M_71 rfl rfl ?_
      refine AT.f_6_11 M_71 rfl (by assumption) (by assumption) ?_
      refine AT.aload_n M_71 rfl rfl ?_
      refine AT.f_6_15 M_71 rfl (by assumption) (by assumption) ?_
      refine AT.icmp_gt M_71 rfl (fun b15 => ?_) (fun b15 => ?_)
      · refine AT.iconst M_71 rfl (v := 0) (by decide) ?_
        refine AT.zret M_71 rfl rfl (by first | exact Or.inl rfl | exact Or.inr rfl | assumption) ?_
        exact ⟨congrArg (fun z => (Sum.inl (some (Value.int z)) : PO)) (by simp [bI, b3, b10, b15]), rfl⟩
      · refine AT.aload_n M_71 rfl rfl ?_
        refine AT.f_6_8 M_71 rfl (by assumption) (by assumption) ?_
        refine AT.bipush M_71 rfl (v := 40) (by decide) ?_
        refine AT.icmp_ge M_71 rfl (fun b19 => ?_) (fun b19 => ?_)
        · refine AT.iconst M_71 rfl (v := 0) (by decide) ?_
          refine AT.zret M_71 rfl rfl (by first | exact Or.inl rfl | exact Or.inr rfl | assumption) ?_
          exact ⟨congrArg (fun z => (Sum.inl (some (Value.int z)) : PO)) (by simp [bI, b3, b10, b15, b19]), rfl⟩
        · refine AT.iconst M_71 rfl (v := 1) (by decide) ?_
          refine AT.goto M_71 rfl ?_
          refine AT.zret M_71 rfl rfl (by first | exact Or.inl rfl | exact Or.inr rfl | assumption) ?_
          exact ⟨congrArg (fun z => (Sum.inl (some (Value.int z)) : PO)) (by simp [bI, b3, b10, b15, b19]), rfl⟩
theorem c_72 {X : XS} {o s : Nat} (ho : o < 2) (hs : s < 7) {t x : Int32} : RT 72 [some (.ref (aS o s)), some (.int t), some (.int x), none] X (some (.int (bI (sGood (xK X o) s t x)))) X := by
  refine AT.aload_n M_72 rfl rfl ?_
  refine AT.cv1i M_72 rfl M_63 rfl (Nat.le_of_ble_eq_true rfl) (xKd.of (shp_sv (by assumption) (by assumption))) (by decide) (c_63 (by assumption) (by assumption)) ?_ (Nat.le_of_ble_eq_true rfl) rfl
  refine AT.ist3 M_72 rfl rfl ?_
  refine AT.iload_n M_72 rfl rfl ?_
  refine AT.iload_n M_72 rfl rfl ?_
  refine AT.icmp_gt M_72 rfl (fun b5 => ?_) (fun b5 => ?_)
  · refine AT.iconst M_72 rfl (v := 1) (by decide) ?_
    refine AT.goto M_72 rfl ?_
    refine AT.zret M_72 rfl rfl (by first | exact Or.inl rfl | exact Or.inr rfl | assumption) ?_
    exact ⟨congrArg (fun z => (Sum.inl (some (Value.int z)) : PO)) (by simp [bI, sGood, b5]), rfl⟩
  · refine AT.iload_n M_72 rfl rfl ?_
    refine AT.iload_n M_72 rfl rfl ?_
    refine AT.icmp_ne M_72 rfl (fun b8 => ?_) (fun b8 => ?_)
    · refine AT.iconst M_72 rfl (v := 0) (by decide) ?_
      refine AT.zret M_72 rfl rfl (by first | exact Or.inl rfl | exact Or.inr rfl | assumption) ?_
      exact ⟨congrArg (fun z => (Sum.inl (some (Value.int z)) : PO)) (by simp [bI, sGood, b5, b8]), rfl⟩
    · refine AT.iload_n M_72 rfl rfl ?_
      refine AT.aload_n M_72 rfl rfl ?_
      refine AT.cv1i M_72 rfl M_62 rfl (Nat.le_of_ble_eq_true rfl) (xKd.of (shp_sv (by assumption) (by assumption))) (by decide) (c_62 (by assumption) (by assumption)) ?_ (Nat.le_of_ble_eq_true rfl) rfl
      refine AT.icmp_lt M_72 rfl (fun b12 => ?_) (fun b12 => ?_)
      · refine AT.iconst M_72 rfl (v := 0) (by decide) ?_
        refine AT.zret M_72 rfl rfl (by first | exact Or.inl rfl | exact Or.inr rfl | assumption) ?_
        exact ⟨congrArg (fun z => (Sum.inl (some (Value.int z)) : PO)) (by simp [bI, sGood, b5, b8, b12]), rfl⟩
      · refine AT.iconst M_72 rfl (v := 1) (by decide) ?_
        refine AT.goto M_72 rfl ?_
        refine AT.zret M_72 rfl rfl (by first | exact Or.inl rfl | exact Or.inr rfl | assumption) ?_
        exact ⟨congrArg (fun z => (Sum.inl (some (Value.int z)) : PO)) (by simp [bI, sGood, b5, b8, b12]), rfl⟩
/-- the cell a holds the message u -/
def xMs (X : XS) (a : Nat) (u : MSG) : Prop := ∀ g, Rep X g → pK g a = 3 ∧ mAt (xD X) g a u
theorem xMs.row {X : XS} {o j : Nat} {u : MSG} (ho : o < 2) (hj : (xK X o).2.2[j]? = some u) : xMs X (aM o (dP (xD X) o j)) u := fun g hg => by
  obtain ⟨h1, h2, h3, h4, h5, h6⟩ := hg.2.2.2.2.2.2.2.2.2.2.2.2.1 o ho
  have z1 := (hg.2.2.2.2.2.2.1 o (by omega)).1
  have z2 := (List.getElem?_eq_some_iff.mp hj).1
  have z3 := h5 _ (h3 j (by omega))
  rw [h6 j u hj] at z3
  exact ⟨(hg.2.1 _ _ _ (shp_msg ho (h3 j (by omega)))).1, z3⟩
theorem xMs.hand {X : XS} {o : Nat} (ho : o < 2) : xMs X (aM o (dP (xD X) o 60)) (dH (xD X) o (dP (xD X) o 60)) := fun g hg => by
  obtain ⟨h1, h2, h3, h4, h5, h6⟩ := hg.2.2.2.2.2.2.2.2.2.2.2.2.1 o ho
  exact ⟨(hg.2.1 _ _ _ (shp_msg ho (h3 60 (by omega)))).1, h5 _ (h3 60 (by omega))⟩
section ATM
variable {m i pc ln r1 r2 r3 : Nat} {ls : PV} {st : List Value} {X : XS} {Q : PO → XS → Prop} {M : PMet} {a : Nat} {u : MSG}
theorem AT.f_3_1 {n : Nat} (hM : qPT m = M) (hr : M.1[i]? = some (pc, .getfield n, ln, 3, 1, r3)) (hm : xMs X a u) (k : AT m (i + 1) ls (.int (u.1 1) :: st) X Q) : AT m i ls (.ref a :: st) X Q := AT.gf hM hr (fun g hg => (hm g hg).1) (by decide) (fun g hg => (hm g hg).2.1 1 (by omega) (by omega)) k
theorem AT.f_3_2 {n : Nat} (hM : qPT m = M) (hr : M.1[i]? = some (pc, .getfield n, ln, 3, 2, r3)) (hm : xMs X a u) (k : AT m (i + 1) ls (.int (u.1 2) :: st) X Q) : AT m i ls (.ref a :: st) X Q := AT.gf hM hr (fun g hg => (hm g hg).1) (by decide) (fun g hg => (hm g hg).2.1 2 (by omega) (by omega)) k
theorem AT.f_3_3 {n : Nat} (hM : qPT m = M) (hr : M.1[i]? = some (pc, .getfield n, ln, 3, 3, r3)) (hm : xMs X a u) (k : AT m (i + 1) ls (.int (u.1 3) :: st) X Q) : AT m i ls (.ref a :: st) X Q := AT.gf hM hr (fun g hg => (hm g hg).1) (by decide) (fun g hg => (hm g hg).2.1 3 (by omega) (by omega)) k
theorem AT.f_3_4 {n : Nat} (hM : qPT m = M) (hr : M.1[i]? = some (pc, .getfield n, ln, 3, 4, r3)) (hm : xMs X a u) (k : AT m (i + 1) ls (.int (u.1 4) :: st) X Q) : AT m i ls (.ref a :: st) X Q := AT.gf hM hr (fun g hg => (hm g hg).1) (by decide) (fun g hg => (hm g hg).2.1 4 (by omega) (by omega)) k
theorem AT.f_3_5 {n : Nat} (hM : qPT m = M) (hr : M.1[i]? = some (pc, .getfield n, ln, 3, 5, r3)) (hm : xMs X a u) (k : AT m (i + 1) ls (.int (u.1 5) :: st) X Q) : AT m i ls (.ref a :: st) X Q := AT.gf hM hr (fun g hg => (hm g hg).1) (by decide) (fun g hg => (hm g hg).2.1 5 (by omega) (by omega)) k
theorem AT.f_3_6 {n : Nat} (hM : qPT m = M) (hr : M.1[i]? = some (pc, .getfield n, ln, 3, 6, r3)) (hm : xMs X a u) (k : AT m (i + 1) ls (.int (u.1 6) :: st) X Q) : AT m i ls (.ref a :: st) X Q := AT.gf hM hr (fun g hg => (hm g hg).1) (by decide) (fun g hg => (hm g hg).2.1 6 (by omega) (by omega)) k
theorem AT.f_3_7 {n : Nat} (hM : qPT m = M) (hr : M.1[i]? = some (pc, .getfield n, ln, 3, 7, r3)) (hm : xMs X a u) (k : AT m (i + 1) ls (.int (u.1 7) :: st) X Q) : AT m i ls (.ref a :: st) X Q := AT.gf hM hr (fun g hg => (hm g hg).1) (by decide) (fun g hg => (hm g hg).2.1 7 (by omega) (by omega)) k
theorem AT.f_3_8 {n : Nat} (hM : qPT m = M) (hr : M.1[i]? = some (pc, .getfield n, ln, 3, 8, r3)) (hm : xMs X a u) (k : AT m (i + 1) ls (.int (u.1 8) :: st) X Q) : AT m i ls (.ref a :: st) X Q := AT.gf hM hr (fun g hg => (hm g hg).1) (by decide) (fun g hg => (hm g hg).2.1 8 (by omega) (by omega)) k
theorem AT.f_3_9 {n : Nat} (hM : qPT m = M) (hr : M.1[i]? = some (pc, .getfield n, ln, 3, 9, r3)) (hm : xMs X a u) (k : AT m (i + 1) ls (.int (u.1 9) :: st) X Q) : AT m i ls (.ref a :: st) X Q := AT.gf hM hr (fun g hg => (hm g hg).1) (by decide) (fun g hg => (hm g hg).2.1 9 (by omega) (by omega)) k
end ATM
/-- what a message tells -/
def sTold (u : MSG) : Int32 := if u.1 1 = 2 ∨ u.1 1 = 4 then bI (decide (¬ u.1 5 = 0)) else u.1 6 + u.1 9
def sBears (u : MSG) : Bool := decide (¬ u.1 1 = 1) && !(decide (u.1 1 = 2) && decide (¬ u.1 5 = 0))
theorem c_45 {X : XS} {a : Nat} {u : MSG} (hm : xMs X a u) : RT 45 [some (.ref a)] X (some (.int (sTold u))) X := by
  refine AT.aload_n M_45 rfl rfl ?_
  refine AT.f_3_1 M_45 rfl (by assumption) ?_
  refine AT.iconst M_45 rfl (v := 2) (by decide) ?_
  refine AT.icmp_eq M_45 rfl (fun b3 => ?_) (fun b3 => ?_)
  · refine AT.aload_n M_45 rfl rfl ?_
    refine AT.f_3_5 M_45 rfl (by assumption) ?_
    refine AT.if_eq M_45 rfl (fun b10 => ?_) (fun b10 => ?_)
    · refine AT.iconst M_45 rfl (v := 0) (by decide) ?_
      refine AT.iret M_45 rfl rfl ?_
      exact ⟨congrArg (fun z => (Sum.inl (some (Value.int z)) : PO)) (by simp [sTold, bI, b3, b10]), rfl⟩
    · refine AT.iconst M_45 rfl (v := 1) (by decide) ?_
      refine AT.goto M_45 rfl ?_
      refine AT.iret M_45 rfl rfl ?_
      exact ⟨congrArg (fun z => (Sum.inl (some (Value.int z)) : PO)) (by simp [sTold, bI, b3, b10]), rfl⟩
  · refine AT.aload_n M_45 rfl rfl ?_
    refine AT.f_3_1 M_45 rfl (by assumption) ?_
    refine AT.iconst M_45 rfl (v := 4) (by decide) ?_
    refine AT.icmp_ne M_45 rfl (fun b7 => ?_) (fun b7 => ?_)
    · refine AT.aload_n M_45 rfl rfl ?_
      refine AT.f_3_6 M_45 rfl (by assumption) ?_
      refine AT.aload_n M_45 rfl rfl ?_
      refine AT.f_3_9 M_45 rfl (by assumption) ?_
      refine AT.iadd M_45 rfl rfl ?_
      refine AT.iret M_45 rfl rfl ?_
      exact ⟨congrArg (fun z => (Sum.inl (some (Value.int z)) : PO)) (by simp [sTold, bI, b3, b7]), rfl⟩
    · refine AT.aload_n M_45 rfl rfl ?_
      refine AT.f_3_5 M_45 rfl (by assumption) ?_
      refine AT.if_eq M_45 rfl (fun b10 => ?_) (fun b10 => ?_)
      · refine AT.iconst M_45 rfl (v := 0) (by decide) ?_
        refine AT.iret M_45 rfl rfl ?_
        exact ⟨congrArg (fun z => (Sum.inl (some (Value.int z)) : PO)) (by simp [sTold, bI, b3, b7, b10]), rfl⟩
      · refine AT.iconst M_45 rfl (v := 1) (by decide) ?_
        refine AT.goto M_45 rfl ?_
        refine AT.iret M_45 rfl rfl ?_
        exact ⟨congrArg (fun z => (Sum.inl (some (Value.int z)) : PO)) (by simp [sTold, bI, b3, b7, b10]), rfl⟩
theorem c_46 {X : XS} {a : Nat} {u : MSG} (hm : xMs X a u) : RT 46 [some (.ref a)] X (some (.int (bI (sBears u)))) X := by
  refine AT.aload_n M_46 rfl rfl ?_
  refine AT.f_3_1 M_46 rfl (by assumption) ?_
  refine AT.iconst M_46 rfl (v := 1) (by decide) ?_
  refine AT.icmp_eq M_46 rfl (fun b3 => ?_) (fun b3 => ?_)
  · refine AT.iconst M_46 rfl (v := 0) (by decide) ?_
    refine AT.zret M_46 rfl rfl (by first | exact Or.inl rfl | exact Or.inr rfl | assumption) ?_
    exact ⟨congrArg (fun z => (Sum.inl (some (Value.int z)) : PO)) (by simp [sBears, bI, b3]), rfl⟩
  · refine AT.aload_n M_46 rfl rfl ?_
    refine AT.f_3_1 M_46 rfl (by assumption) ?_
    refine AT.iconst M_46 rfl (v := 2) (by decide) ?_
    refine AT.icmp_ne M_46 rfl (fun b7 => ?_) (fun b7 => ?_)
    · refine AT.iconst M_46 rfl (v := 1) (by decide) ?_
      refine AT.goto M_46 rfl ?_
      refine AT.zret M_46 rfl rfl (by first | exact Or.inl rfl | exact Or.inr rfl | assumption) ?_
      exact ⟨congrArg (fun z => (Sum.inl (some (Value.int z)) : PO)) (by simp [sBears, bI, b3, b7]), rfl⟩
    · refine AT.aload_n M_46 rfl rfl ?_
      refine AT.f_3_5 M_46 rfl (by assumption) ?_
      refine AT.if_ne M_46 rfl (fun b10 => ?_) (fun b10 => ?_)
      · refine AT.iconst M_46 rfl (v := 0) (by decide) ?_
        refine AT.zret M_46 rfl rfl (by first | exact Or.inl rfl | exact Or.inr rfl | assumption) ?_
        exact ⟨congrArg (fun z => (Sum.inl (some (Value.int z)) : PO)) (by simp [sBears, bI, b3, b7, b10]), rfl⟩
      · refine AT.iconst M_46 rfl (v := 1) (by decide) ?_
        refine AT.goto M_46 rfl ?_
        refine AT.zret M_46 rfl rfl (by first | exact Or.inl rfl | exact Or.inr rfl | assumption) ?_
        exact ⟨congrArg (fun z => (Sum.inl (some (Value.int z)) : PO)) (by simp [sBears, bI, b3, b7, b10]), rfl⟩
theorem c_3 {X : XS} {o c : Nat} (ho : o < 2) (hc : c < 4) : RT 3 [some (.ref (aC o c))] X (some (.int ((xK X o).1 34 c 3))) X := by
  by_cases h0 : (xK X o).1 34 c 3 = 0
  · refine AT.aload_n M_3 rfl rfl ?_
    refine AT.f_0_0n M_3 rfl ho hc h0 ?_
    refine AT.ifnn0 M_3 rfl ?_
    refine AT.iconst M_3 rfl (v := 0) (by decide) ?_
    refine AT.goto M_3 rfl ?_
    refine AT.iret M_3 rfl rfl ?_
    exact ⟨congrArg (fun z => (Sum.inl (some (Value.int z)) : PO)) (h0.symm), rfl⟩
  · refine AT.aload_n M_3 rfl rfl ?_
    refine AT.f_0_0s M_3 rfl ho hc h0 (fun p1 hp1 => ?_)
    refine AT.ifnn1 M_3 rfl ?_
    refine AT.aload_n M_3 rfl rfl ?_
    refine AT.f_0_0s M_3 rfl ho hc h0 (fun p6 hp6 => ?_)
    refine AT.f_5_1 M_3 rfl (by assumption) ?_
    refine AT.iret M_3 rfl rfl ?_
    exact ⟨rfl, rfl⟩
theorem c_4 {X : XS} {o c : Nat} (ho : o < 2) (hc : c < 4) : RT 4 [some (.ref (aC o c))] X (some (.int (bI (decide (¬ (xK X o).1 34 c 3 = 0) && decide ((xK X o).1 35 c 0 = 0))))) X := by
  by_cases h0 : (xK X o).1 34 c 3 = 0
  · refine AT.aload_n M_4 rfl rfl ?_
    refine AT.f_0_0n M_4 rfl ho hc h0 ?_
    refine AT.ifnull0 M_4 rfl ?_
    refine AT.iconst M_4 rfl (v := 0) (by decide) ?_
    refine AT.zret M_4 rfl rfl (by first | exact Or.inl rfl | exact Or.inr rfl | assumption) ?_
    exact ⟨congrArg (fun z => (Sum.inl (some (Value.int z)) : PO)) (by simp [bI, h0, ]), rfl⟩
  · refine AT.aload_n M_4 rfl rfl ?_
    refine AT.f_0_0s M_4 rfl ho hc h0 (fun p1 hp1 => ?_)
    refine AT.ifnull1 M_4 rfl ?_
    refine AT.aload_n M_4 rfl rfl ?_
    refine AT.f_0_1 M_4 rfl (by assumption) (by assumption) ?_
    refine AT.if_ne M_4 rfl (fun b5 => ?_) (fun b5 => ?_)
    · refine AT.iconst M_4 rfl (v := 0) (by decide) ?_
      refine AT.zret M_4 rfl rfl (by first | exact Or.inl rfl | exact Or.inr rfl | assumption) ?_
      exact ⟨congrArg (fun z => (Sum.inl (some (Value.int z)) : PO)) (by simp [bI, h0, b5]), rfl⟩
    · refine AT.iconst M_4 rfl (v := 1) (by decide) ?_
      refine AT.goto M_4 rfl ?_
      refine AT.zret M_4 rfl rfl (by first | exact Or.inl rfl | exact Or.inr rfl | assumption) ?_
      exact ⟨congrArg (fun z => (Sum.inl (some (Value.int z)) : PO)) (by simp [bI, h0, b5]), rfl⟩
theorem c_50 {X : XS} {o s : Nat} (ho : o < 2) (hs : s < 7) {j : Nat} (hj : j < 7) : RT 50 [some (.ref (aB o + 3)), some (.int (Int32.ofNat s)), some (.int (Int32.ofNat j))] X (some (.int (bI (sBit ((xK X o).1 30 s 0) j)))) X := by
  refine AT.aload_n M_50 rfl rfl ?_
  refine AT.f_4_1 M_50 rfl (by assumption) ?_
  refine AT.iload_n M_50 rfl rfl ?_
  refine AT.a_cuts M_50 rfl rfl (by assumption) (by assumption) ?_
  refine AT.iload_n M_50 rfl rfl ?_
  refine AT.ishr M_50 rfl (i32_shr hj) ?_
  refine AT.iconst M_50 rfl (v := 1) (by decide) ?_
  refine AT.iand M_50 rfl rfl ?_
  refine AT.iconst M_50 rfl (v := 1) (by decide) ?_
  refine AT.icmp_ne M_50 rfl (fun b9 => ?_) (fun b9 => ?_)
  · refine AT.iconst M_50 rfl (v := 0) (by decide) ?_
    refine AT.zret M_50 rfl rfl (by first | exact Or.inl rfl | exact Or.inr rfl | assumption) ?_
    exact ⟨congrArg (fun z => (Sum.inl (some (Value.int z)) : PO)) (by unfold sBit; rw [decide_eq_false b9]; rfl), rfl⟩
  · refine AT.iconst M_50 rfl (v := 1) (by decide) ?_
    refine AT.goto M_50 rfl ?_
    refine AT.zret M_50 rfl rfl (by first | exact Or.inl rfl | exact Or.inr rfl | assumption) ?_
    exact ⟨congrArg (fun z => (Sum.inl (some (Value.int z)) : PO)) (by unfold sBit; rw [decide_eq_true (Classical.not_not.mp b9)]; rfl), rfl⟩
theorem c_379x {X : XS} {x : Int32} (h : ∃ n : Nat, n < 128 ∧ x = Int32.ofNat n) : RT 379 [some (.int x)] X (some (.int (sCnt x))) X := by
  obtain ⟨n, h1, rfl⟩ := h
  exact c_379 h1
/-- what an entry answers -/
def sVal (e : ENT) : Int32 := if 1 ≤ e 1 ∧ e 1 ≤ 3 then e 5 else if e 1 = 4 then sCnt (e 6) else 0
theorem c_40 {X : XS} {p : Nat} {e : ENT} (hp : dE (xD X) p = (1, e)) (h7 : e 1 = 4 → ∃ n : Nat, n < 128 ∧ e 6 = Int32.ofNat n) : RT 40 [some (.ref p)] X (some (.int (sVal e))) X := by
  refine AT.aload_n M_40 rfl rfl ?_
  refine AT.f_2_2 M_40 rfl (by assumption) (fun b1 q1 hq1 => ?_) (fun b1 hq1 => ?_)
  · refine AT.ifnull1 M_40 rfl ?_
    refine AT.aload_n M_40 rfl rfl ?_
    refine AT.f_2_2 M_40 rfl (by assumption) (fun b4 q4 hq4 => ?_) (fun b4 _ => absurd b1 b4)
    refine AT.f_5_5 M_40 rfl (by assumption) ?_
    refine AT.iret M_40 rfl rfl ?_
    exact ⟨congrArg (fun z => (Sum.inl (some (Value.int z)) : PO)) (by unfold sVal; rw [if_pos (show 1 ≤ e 1 ∧ e 1 ≤ 3 from b1)]), rfl⟩
  · refine AT.ifnull0 M_40 rfl ?_
    refine AT.aload_n M_40 rfl rfl ?_
    refine AT.f_2_1 M_40 rfl (by assumption) ?_
    refine AT.iconst M_40 rfl (v := 4) (by decide) ?_
    refine AT.icmp_ne M_40 rfl (fun b10 => ?_) (fun b10 => ?_)
    · refine AT.iconst M_40 rfl (v := 0) (by decide) ?_
      refine AT.iret M_40 rfl rfl ?_
      exact ⟨congrArg (fun z => (Sum.inl (some (Value.int z)) : PO)) (by unfold sVal; rw [if_neg (show ¬ (1 ≤ e 1 ∧ e 1 ≤ 3) from b1), if_neg b10]), rfl⟩
    · refine AT.aload_n M_40 rfl rfl ?_
      refine AT.f_2_3 M_40 rfl (by assumption) (by assumption) ?_
      refine AT.cs1i M_40 rfl M_379 rfl (Nat.le_of_ble_eq_true rfl) rfl (c_379x (h7 (Classical.not_not.mp b10))) ?_ (Nat.le_of_ble_eq_true rfl) rfl
      refine AT.goto M_40 rfl ?_
      refine AT.iret M_40 rfl rfl ?_
      exact ⟨congrArg (fun z => (Sum.inl (some (Value.int z)) : PO)) (by unfold sVal; rw [if_neg (show ¬ (1 ≤ e 1 ∧ e 1 ≤ 3) from b1), if_pos (Classical.not_not.mp b10)]), rfl⟩
theorem c_41 {X : XS} {p : Nat} {e : ENT} (hp : dE (xD X) p = (1, e)) : RT 41 [some (.ref p)] X (some (.int (e 2))) X := by
  refine AT.aload_n M_41 rfl rfl ?_
  refine AT.f_2_2 M_41 rfl (by assumption) (fun b1 q1 hq1 => ?_) (fun b1 hq1 => ?_)
  · refine AT.ifnn1 M_41 rfl ?_
    refine AT.aload_n M_41 rfl rfl ?_
    refine AT.f_2_2 M_41 rfl (by assumption) (fun b6 q6 hq6 => ?_) (fun b6 _ => absurd b1 b6)
    refine AT.f_5_0 M_41 rfl (by assumption) ?_
    refine AT.iret M_41 rfl rfl ?_
    exact ⟨rfl, rfl⟩
  · refine AT.ifnn0 M_41 rfl ?_
    refine AT.iconst M_41 rfl (v := (-1)) (by decide) ?_
    refine AT.goto M_41 rfl ?_
    refine AT.iret M_41 rfl rfl ?_
    exact ⟨congrArg (fun z => (Sum.inl (some (Value.int z)) : PO)) (hq1.1.symm), rfl⟩
theorem c_42 {X : XS} {p : Nat} {e : ENT} (hp : dE (xD X) p = (1, e)) : RT 42 [some (.ref p)] X (some (.int (e 3))) X := by
  refine AT.aload_n M_42 rfl rfl ?_
  refine AT.f_2_2 M_42 rfl (by assumption) (fun b1 q1 hq1 => ?_) (fun b1 hq1 => ?_)
  · refine AT.ifnn1 M_42 rfl ?_
    refine AT.aload_n M_42 rfl rfl ?_
    refine AT.f_2_2 M_42 rfl (by assumption) (fun b6 q6 hq6 => ?_) (fun b6 _ => absurd b1 b6)
    refine AT.f_5_1 M_42 rfl (by assumption) ?_
    refine AT.iret M_42 rfl rfl ?_
    exact ⟨rfl, rfl⟩
  · refine AT.ifnn0 M_42 rfl ?_
    refine AT.iconst M_42 rfl (v := 0) (by decide) ?_
    refine AT.goto M_42 rfl ?_
    refine AT.iret M_42 rfl rfl ?_
    exact ⟨congrArg (fun z => (Sum.inl (some (Value.int z)) : PO)) (hq1.2.1.symm), rfl⟩
