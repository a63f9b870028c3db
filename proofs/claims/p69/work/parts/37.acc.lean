/-! ===== ACCEPTING, WHERE TO TRY NEXT ===== -/
/-- what lies behind x, and x itself, is taken away -/
def kTrim (K : KK) (s : Nat) (x : Int32) : KK := if x ≤ sLast K s then kLog K s ((K.2.1 s).take (x - K.1 18 s 0 - 1).toNatClampNeg) else K
def dTrim (D : XD) (o : Nat) (K : KK) (s : Nat) (x : Int32) : XD := if x ≤ sLast K s then dMem D o s (kTrim K s x) else D
/-- the entry e of cell q is put behind the last one -/
def xApp (X : XS) (D : XD) (o s : Nat) (K : KK) (e : ENT) (q : Nat) : XS := xSetK (xSetD X (dApp D o s (K.2.1 s).length (K.1 18 s 0) e q)) o (kLog K s (K.2.1 s ++ [e]))
def rAcc (X : XS) (o s : Nat) (x : Int32) (e : ENT) (q : Nat) (Y : XS) : Prop :=
  if x ≤ (xK X o).1 18 s 0 ∨ sHas (xK X o) s x (e 0) = true then Y = X else ∃ D', dRoom (dTrim (xD X) o (xK X o) s x) D' o s ((kTrim (xK X o) s x).2.1 s).length ∧ Y = xApp X D' o s (kTrim (xK X o) s x) e q
theorem kTrim_len (K : KK) (s : Nat) (x : Int32) : ((kTrim K s x).2.1 s).length ≤ (K.2.1 s).length := by
  unfold kTrim
  split
  · show (if s = s then _ else _ : List ENT).length ≤ _
    rw [if_pos rfl, List.length_take]
    omega
  · exact Nat.le_refl _
theorem c_84 {X : XS} {o s : Nat} (ho : o < 2) (hs : s < 7) {x : Int32} {q : Nat} {e : ENT} (hw : kWf (xK X o) s) (he : dE (xD X) q = (1, e)) (hlen : ((xK X o).2.1 s).length < 500000) : RU 84 [some (.ref (aS o s)), some (.int x), some (.ref q)] X none (rAcc X o s x e q) := by
  refine AT.iload_n M_84 rfl rfl ?_
  refine AT.aload_n M_84 rfl rfl ?_
  refine AT.f_6_9 M_84 rfl (by assumption) (by assumption) (fun p2 hp2 => ?_)
  refine AT.f_7_0 M_84 rfl (by assumption) ?_
  refine AT.icmp_le M_84 rfl (fun b4 => ?_) (fun b4 => ?_)
  · refine AT.vret M_84 rfl rfl ?_
    refine ⟨rfl, ?_⟩
    unfold rAcc
    rw [if_pos (Or.inl b4)]
  · refine AT.aload_n M_84 rfl rfl ?_
    refine AT.iload_n M_84 rfl rfl ?_
    refine AT.aload_n M_84 rfl rfl ?_
    refine AT.f_2_0 M_84 rfl (by assumption) ?_
    refine AT.cv3i M_84 rfl M_81 rfl (Nat.le_of_ble_eq_true rfl) (xKd.of (shp_sv (by assumption) (by assumption))) (by decide) (c_81 ho hs hw) ?_ (Nat.le_of_ble_eq_true rfl) rfl
    try simp only [xK_same, xSetK_idem, xD_setK, xK_setD, xD_setD, xSetD_setK, xSetD_idem, kSet_1, kSet_2, kRow_1, kRow_2, kLog_1, kLog_2, kLog_l, kLog_idem, List.take_zero, if_true]
    refine AT.if_eq M_84 rfl (fun b10 => ?_) (fun b10 => ?_)
    · refine AT.iload_n M_84 rfl rfl ?_
      refine AT.aload_n M_84 rfl rfl ?_
      refine AT.cv1i M_84 rfl M_62 rfl (Nat.le_of_ble_eq_true rfl) (xKd.of (shp_sv (by assumption) (by assumption))) (by decide) (c_62 ho hs) ?_ (Nat.le_of_ble_eq_true rfl) rfl
      try simp only [xK_same, xSetK_idem, xD_setK, xK_setD, xD_setD, xSetD_setK, xSetD_idem, kSet_1, kSet_2, kRow_1, kRow_2, kLog_1, kLog_2, kLog_l, kLog_idem, List.take_zero, if_true]
      refine AT.icmp_gt M_84 rfl (fun b15 => ?_) (fun b15 => ?_)
      · have hno : ¬ (x ≤ (xK X o).1 18 s 0 ∨ sHas (xK X o) s x (e 0) = true) := by
          rintro (z | z)
          · exact b4 z
          · rw [bI_eq0.mp b10] at z; cases z
        have hx : ¬ x ≤ sLast (xK X o) s := by
          have h := b15
          rw [Int32.not_le]
          exact h
        have hTr : kTrim (xK X o) s x = xK X o := if_neg hx
        have hDr : dTrim (xD X) o (xK X o) s x = xD X := if_neg hx
        refine AT.aload_n M_84 rfl rfl ?_
        refine AT.aload_n M_84 rfl rfl ?_
        refine AT.cv2w M_84 rfl M_74 rfl (Nat.le_of_ble_eq_true rfl) (xKd.of (shp_sv (by assumption) (by assumption))) (by decide) (c_74 ho hs (by exact he) (by omega)) (fun Y hc29 => ?_) (Nat.le_of_ble_eq_true rfl) rfl
        refine AT.vret M_84 rfl rfl ?_
        refine ⟨rfl, ?_⟩
        unfold rAcc
        rw [if_neg hno]
        rw [hTr, hDr]
        exact hc29
      · refine AT.aload_n M_84 rfl rfl ?_
        refine AT.iload_n M_84 rfl rfl ?_
        refine AT.aload_n M_84 rfl rfl ?_
        refine AT.f_6_9 M_84 rfl (by assumption) (by assumption) (fun p19 hp19 => ?_)
        refine AT.f_7_0 M_84 rfl (by assumption) ?_
        refine AT.isub M_84 rfl rfl ?_
        refine AT.iconst M_84 rfl (v := 1) (by decide) ?_
        refine AT.isub M_84 rfl rfl ?_
        have hno : ¬ (x ≤ (xK X o).1 18 s 0 ∨ sHas (xK X o) s x (e 0) = true) := by
          rintro (z | z)
          · exact b4 z
          · rw [bI_eq0.mp b10] at z; cases z
        have hx : x ≤ sLast (xK X o) s := by
          have h := b15
          rw [Int32.not_lt] at h
          exact h
        obtain ⟨a, j, ha, hb, hj, hxa, hxj⟩ := hw.ix (fun z => hno (Or.inl z)) hx
        have hTr : kTrim (xK X o) s x = kLog (xK X o) s (((xK X o).2.1 s).take j) := by
          unfold kTrim
          rw [if_pos hx, hxj, (i32_ix (by omega)).1]
        have hDr : dTrim (xD X) o (xK X o) s x = dMem (xD X) o s (kLog (xK X o) s (((xK X o).2.1 s).take j)) := by
          unfold dTrim
          rw [if_pos hx, hTr]
        refine AT.p_6_8t M_84 rfl ho hs (q := j) (by omega) hxj ?_
        try simp only [xK_same, xSetK_idem, xD_setK, xK_setD, xD_setD, xSetD_setK, xSetD_idem, kSet_1, kSet_2, kRow_1, kRow_2, kLog_1, kLog_2, kLog_l, kLog_idem, List.take_zero, if_true]
        refine AT.aload_n M_84 rfl rfl ?_
        refine AT.cv10 M_84 rfl M_76 rfl (Nat.le_of_ble_eq_true rfl) (xKd.of (shp_sv (by assumption) (by assumption))) (by decide) (c_76 ho hs (by simp only [xK_same, kLog_l, if_true, List.length_take]; omega)) ?_ (Nat.le_of_ble_eq_true rfl) rfl
        try simp only [xK_same, xSetK_idem, xD_setK, xK_setD, xD_setD, xSetD_setK, xSetD_idem, kSet_1, kSet_2, kRow_1, kRow_2, kLog_1, kLog_2, kLog_l, kLog_idem, List.take_zero, if_true]
        refine AT.aload_n M_84 rfl rfl ?_
        refine AT.aload_n M_84 rfl rfl ?_
        refine AT.cv2w M_84 rfl M_74 rfl (Nat.le_of_ble_eq_true rfl) (xKd.of (shp_sv (by assumption) (by assumption))) (by decide) (c_74 ho hs (by exact he) (by simp only [xK_same, kLog_l, if_true, List.length_take]; omega)) (fun Y hc29 => ?_) (Nat.le_of_ble_eq_true rfl) rfl
        refine AT.vret M_84 rfl rfl ?_
        refine ⟨rfl, ?_⟩
        unfold rAcc
        rw [if_neg hno]
        rw [hTr, hDr]
        obtain ⟨D', h1, rfl⟩ := hc29
        refine ⟨D', ?_, ?_⟩
        · simpa only [xK_same, xD_setK, xD_setD, kLog_l, if_true] using h1
        · unfold xApp
          simp only [xK_same, xSetK_idem, xD_setK, xK_setD, xD_setD, xSetD_setK, xSetD_idem, kSet_1, kSet_2, kRow_1, kRow_2, kLog_1, kLog_2, kLog_l, kLog_idem, List.take_zero, if_true]
    · refine AT.vret M_84 rfl rfl ?_
      refine ⟨rfl, ?_⟩
      unfold rAcc
      rw [if_pos (Or.inr (bI_ne0.mp b10))]
/-- the index to try next -/
def sTry (K : KK) (s : Nat) (x : Int32) : Int32 :=
  if x ≤ sLast K s then
    (if (if x ≤ K.1 18 s 0 then x else K.1 18 s 0 + Int32.ofNat (sRun (K.2.1 s) (sTix K s x) (x - K.1 18 s 0).toNatClampNeg)) < K.1 15 s 0 then K.1 15 s 0 else (if x ≤ K.1 18 s 0 then x else K.1 18 s 0 + Int32.ofNat (sRun (K.2.1 s) (sTix K s x) (x - K.1 18 s 0).toNatClampNeg)))
  else sLast K s
theorem c_83 {X : XS} {o s : Nat} (ho : o < 2) (hs : s < 7) {x : Int32} (hw : kWf (xK X o) s) : RT 83 [some (.ref (aS o s)), some (.int x), none, none] X (some (.int (sTry (xK X o) s x))) X := by
  refine AT.aload_n M_83 rfl rfl ?_
  refine AT.cv1i M_83 rfl M_62 rfl (Nat.le_of_ble_eq_true rfl) (xKd.of (shp_sv (by assumption) (by assumption))) (by decide) (c_62 ho hs) ?_ (Nat.le_of_ble_eq_true rfl) rfl
  refine AT.iload_n M_83 rfl rfl ?_
  refine AT.icmp_ge M_83 rfl (fun b3 => ?_) (fun b3 => ?_)
  · refine AT.aload_n M_83 rfl rfl ?_
    refine AT.iload_n M_83 rfl rfl ?_
    refine AT.cv2i M_83 rfl M_65 rfl (Nat.le_of_ble_eq_true rfl) (xKd.of (shp_sv (by assumption) (by assumption))) (by decide) (c_65 ho hs hw) ?_ (Nat.le_of_ble_eq_true rfl) rfl
    refine AT.ist2 M_83 rfl rfl ?_
    refine AT.iload_n M_83 rfl rfl ?_
    refine AT.ist3 M_83 rfl rfl ?_
    by_cases hx : x ≤ (xK X o).1 18 s 0
    · have hz : sTry (xK X o) s x = if x < (xK X o).1 15 s 0 then (xK X o).1 15 s 0 else x := by
        unfold sTry
        rw [if_pos b3, if_pos hx]
      rw [hz]
      refine AT.iload_n M_83 rfl rfl ?_
      refine AT.aload_n M_83 rfl rfl ?_
      refine AT.f_6_9 M_83 rfl (by assumption) (by assumption) (fun p15 hp15 => ?_)
      refine AT.f_7_0 M_83 rfl (by assumption) ?_
      refine AT.icmp_le M_83 rfl (fun b17 => ?_) (fun b17 => ?_)
      · refine AT.iload_n M_83 rfl rfl ?_
        refine AT.aload_n M_83 rfl rfl ?_
        refine AT.f_6_15 M_83 rfl (by assumption) (by assumption) ?_
        refine AT.max M_83 rfl rfl (Nat.le_of_ble_eq_true rfl) rfl ?_
        refine AT.iret M_83 rfl rfl ?_
        exact ⟨rfl, rfl⟩
      · exact absurd hx b17
    · obtain ⟨a, j, ha, hb, hj, hxa, hxj⟩ := hw.ix hx b3
      have hz : sTry (xK X o) s x = if Int32.ofNat (a + sRun ((xK X o).2.1 s) (sTix (xK X o) s x) (j + 1)) < (xK X o).1 15 s 0 then (xK X o).1 15 s 0 else Int32.ofNat (a + sRun ((xK X o).2.1 s) (sTix (xK X o) s x) (j + 1)) := by
        unfold sTry
        have h1 : x - (xK X o).1 18 s 0 = Int32.ofNat (j + 1) := by
          rw [Int32.ofNat_add, ← hxj]
          exact (by grind : ∀ u v : Int32, u - v = u - v - 1 + 1) _ _
        rw [if_pos b3, if_neg hx, h1, (i32_ix (by omega)).1, ha, ← Int32.ofNat_add]
      rw [hz]
      have h := l_83 (t := sTix (xK X o) s x) (pv := x) ho hs ha hb (j + 1) (by omega)
      rw [show a + (j + 1) = a + 1 + j by omega, ← hxa] at h
      exact h
  · refine AT.aload_n M_83 rfl rfl ?_
    refine AT.cv1i M_83 rfl M_62 rfl (Nat.le_of_ble_eq_true rfl) (xKd.of (shp_sv (by assumption) (by assumption))) (by decide) (c_62 ho hs) ?_ (Nat.le_of_ble_eq_true rfl) rfl
    refine AT.iret M_83 rfl rfl ?_
    refine ⟨?_, rfl⟩
    unfold sTry
    rw [if_neg (fun z => b3 z)]
