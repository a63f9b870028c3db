/-! ===== INSTALLING, LEADING ===== -/
theorem t_79 {X : XS} {o s : Nat} (ho : o < 2) (hs : s < 7) {p gn : Nat} {r : ENT} {y : Int32} (hp : dSn (xD X) p r) (hg : gn ≤ ((xK X o).2.1 s).length) (hlen : ((xK X o).2.1 s).length < 16777216) : AT 79 20 [some (.ref (aS o s)), some (.ref p), some (.int y)] [.int (Int32.ofNat gn), .ref p, .ref (aS o s)] X (fun o' Y => o' = .inl none ∧ ∃ qf, Y = xSetK (xSetD X (dMem (dWithQ (xD X) qf) o s (kCut (xK X o) s gn r))) o (kTab (kSet (kCut (xK X o) s gn r) 15 s 0 (r 0)) s r)) := by
  refine AT.cv3w M_79 rfl M_80 rfl (Nat.le_of_ble_eq_true rfl) (xKd.of (shp_sv ho hs)) (by decide) (c_80 (p := p) (gn := gn) (r := r) ho hs (by exact hp) hg hlen) (fun Y hY => ?_) (Nat.le_of_ble_eq_true rfl) rfl
  obtain ⟨qf, rfl⟩ := hY
  have hp2 : dSn (xD (xSetK (xSetD X (dMem (dWithQ (xD X) qf) o s (kCut (xK X o) s gn r))) o (kCut (xK X o) s gn r))) p r := hp
  refine AT.aload_n M_79 rfl rfl ?_
  refine AT.aload_n M_79 rfl rfl ?_
  refine AT.f_7_0 M_79 rfl (by exact hp) ?_
  refine AT.p_6_15 M_79 rfl (by assumption) (by assumption) ?_
  try simp only [xK_same, xSetK_idem, xD_setK, xK_setD, xD_setD, xSetD_setK, xSetD_idem, kSet_1, kSet_2, kRow_1, kRow_2, kLog_1, kLog_2, kLog_l, kLog_idem, List.take_zero, if_true]
  refine AT.aload_n M_79 rfl rfl ?_
  refine AT.f_6_1 M_79 rfl (by assumption) (by assumption) ?_
  refine AT.aload_n M_79 rfl rfl ?_
  refine AT.f_7_3 M_79 rfl (by exact hp) ?_
  refine AT.cv20 M_79 rfl M_92 rfl (Nat.le_of_ble_eq_true rfl) (xKd.of (shp_tab (by assumption) (by assumption))) (by decide) (c_92 ho hs (by exact hp)) ?_ (Nat.le_of_ble_eq_true rfl) rfl
  try simp only [xK_same, xSetK_idem, xD_setK, xK_setD, xD_setD, xSetD_setK, xSetD_idem, kSet_1, kSet_2, kRow_1, kRow_2, kLog_1, kLog_2, kLog_l, kLog_idem, List.take_zero, if_true]
  refine AT.vret M_79 rfl rfl ?_
  exact ⟨rfl, qf, rfl⟩
/-- how many entries a snapshot that is installed takes away -/
def sCutN (K : KK) (s : Nat) (r : ENT) : Nat := if sHas K s (r 0) (r 1) = true then (r 0 - K.1 18 s 0).toNatClampNeg else (K.2.1 s).length
theorem sHas_ix {K : KK} {s : Nat} {x t : Int32} (hw : kWf K s) (h : sHas K s x t = true) : ∃ j, j < (K.2.1 s).length ∧ x - K.1 18 s 0 = Int32.ofNat (j + 1) ∧ ¬ x ≤ K.1 18 s 0 ∧ x ≤ sLast K s := by
  unfold sHas at h
  cases hx : sEnt K s x with
  | none => rw [hx] at h; cases h
  | some e =>
    unfold sEnt at hx
    by_cases h1 : x ≤ K.1 18 s 0
    · rw [if_pos h1] at hx; cases hx
    · rw [if_neg h1] at hx
      by_cases h2 : x ≤ sLast K s
      · obtain ⟨a, j, ha, hb, hj, hxa, hxj⟩ := hw.ix h1 h2
        refine ⟨j, hj, ?_, h1, h2⟩
        rw [Int32.ofNat_add, ← hxj]
        exact (by grind : ∀ u v : Int32, u - v = u - v - 1 + 1) _ _
      · rw [if_neg h2] at hx; cases hx
theorem sCutN_le {K : KK} {s : Nat} {r : ENT} (hw : kWf K s) : sCutN K s r ≤ (K.2.1 s).length ∧ (sHas K s (r 0) (r 1) = true → r 0 - K.1 18 s 0 = Int32.ofNat (sCutN K s r)) := by
  unfold sCutN
  by_cases h : sHas K s (r 0) (r 1) = true
  · obtain ⟨j, h1, h2, h3, h4⟩ := sHas_ix hw h
    obtain ⟨a, ha, hb⟩ := hw
    rw [if_pos h, h2, (i32_ix (by omega)).1]
    exact ⟨by omega, fun _ => rfl⟩
  · rw [if_neg h]
    exact ⟨Nat.le_refl _, fun z => absurd z h⟩
theorem c_79 {X : XS} {o s : Nat} (ho : o < 2) (hs : s < 7) {p : Nat} {r : ENT} (hp : dSn (xD X) p r) (hw : kWf (xK X o) s) : RU 79 [some (.ref (aS o s)), some (.ref p), none] X none (fun Y => ∃ qf, Y = xSetK (xSetD X (dMem (dWithQ (xD X) qf) o s (kCut (xK X o) s (sCutN (xK X o) s r) r))) o (kTab (kSet (kCut (xK X o) s (sCutN (xK X o) s r) r) 15 s 0 (r 0)) s r)) := by
  have hle := sCutN_le (r := r) hw
  have hlen : ((xK X o).2.1 s).length < 16777216 := by obtain ⟨a, ha, hb⟩ := hw; omega
  refine AT.aload_n M_79 rfl rfl ?_
  refine AT.aload_n M_79 rfl rfl ?_
  refine AT.f_7_0 M_79 rfl (by assumption) ?_
  refine AT.aload_n M_79 rfl rfl ?_
  refine AT.f_7_1 M_79 rfl (by assumption) ?_
  refine AT.cv3i M_79 rfl M_81 rfl (Nat.le_of_ble_eq_true rfl) (xKd.of (shp_sv (by assumption) (by assumption))) (by decide) (c_81 ho hs hw) ?_ (Nat.le_of_ble_eq_true rfl) rfl
  refine AT.ist2 M_79 rfl rfl ?_
  refine AT.aload_n M_79 rfl rfl ?_
  refine AT.aload_n M_79 rfl rfl ?_
  refine AT.iload_n M_79 rfl rfl ?_
  refine AT.if_eq M_79 rfl (fun b10 => ?_) (fun b10 => ?_)
  · refine AT.aload_n M_79 rfl rfl ?_
    refine AT.f_6_8 M_79 rfl (by assumption) (by assumption) ?_
    have hc : sCutN (xK X o) s r = ((xK X o).2.1 s).length := if_neg (fun z => by rw [bI_eq0.mp b10] at z; cases z)
    rw [← hc]
    exact t_79 ho hs hp hle.1 hlen
  · refine AT.aload_n M_79 rfl rfl ?_
    refine AT.f_7_0 M_79 rfl (by assumption) ?_
    refine AT.aload_n M_79 rfl rfl ?_
    refine AT.f_6_9 M_79 rfl (by assumption) (by assumption) (fun p14 hp14 => ?_)
    refine AT.f_7_0 M_79 rfl (by assumption) ?_
    refine AT.isub M_79 rfl (hle.2 (bI_ne0.mp b10)) ?_
    refine AT.goto M_79 rfl ?_
    exact t_79 ho hs hp hle.1 hlen
/-- an entry that says nothing but its term -/
def eNil (t k m : Int32) : ENT := fun c => if c = 0 then t else if c = 1 then k else if c = 2 then -1 else if c = 6 then m else 0
def kLead (K : KK) (s : Nat) : KK := kFil (kFil (kSet (kSet (kSet K 12 s 0 3) 13 s 0 (-1)) 17 s 0 0) 2 s (sLast K s + 1) 7) 3 s 0 7
/-- an entry is made in the next cell -/
def dEnt1 (D : XD) (e : ENT) : XD := dMk (dNew D (dC D + 1) 2 (pF 2)) (dC D + 1) 1 e
theorem dEnt1_E (D : XD) (e : ENT) : dE (dEnt1 D e) (dC D + 1) = (1, e) := if_pos rfl
theorem dR_ent1 (D : XD) (e : ENT) : dR (dEnt1 D e) = dR D := rfl
theorem sLast_K {K K' : KK} (s : Nat) (h1 : K'.1 18 s 0 = K.1 18 s 0) (h2 : K'.2.1 s = K.2.1 s) : sLast K' s = sLast K s := by unfold sLast; rw [h1, h2]
def rApp (X : XS) (D : XD) (o s : Nat) (K : KK) (e : ENT) (q : Nat) (Y : XS) : Prop := ∃ D', dRoom D D' o s (K.2.1 s).length ∧ Y = xApp X D' o s K e q
theorem c_88 {X : XS} {o s : Nat} (ho : o < 2) (hs : s < 7) (hlen : ((xK X o).2.1 s).length < 500000) : RU 88 [some (.ref (aS o s))] X none (rApp X (dEnt1 (xD X) (eNil ((xK X o).1 5 s 0) 0 0)) o s (kLead (xK X o) s) (eNil ((xK X o).1 5 s 0) 0 0) (dC (xD X) + 1)) := by
  refine AT.aload_n M_88 rfl rfl ?_
  refine AT.iconst M_88 rfl (v := 3) (by decide) ?_
  refine AT.p_6_12 M_88 rfl (by assumption) (by assumption) ?_
  try simp only [xK_same, xSetK_idem, xD_setK, xK_setD, xD_setD, xSetD_setK, xSetD_idem, kSet_1, kSet_2, kRow_1, kRow_2, kLog_1, kLog_2, kLog_l, kLog_idem, List.take_zero, if_true]
  refine AT.aload_n M_88 rfl rfl ?_
  refine AT.iconst M_88 rfl (v := (-1)) (by decide) ?_
  refine AT.p_6_13 M_88 rfl (by assumption) (by assumption) ?_
  try simp only [xK_same, xSetK_idem, xD_setK, xK_setD, xD_setD, xSetD_setK, xSetD_idem, kSet_1, kSet_2, kRow_1, kRow_2, kLog_1, kLog_2, kLog_l, kLog_idem, List.take_zero, if_true]
  refine AT.aload_n M_88 rfl rfl ?_
  refine AT.iconst M_88 rfl (v := 0) (by decide) ?_
  refine AT.p_6_17 M_88 rfl (by assumption) (by assumption) ?_
  try simp only [xK_same, xSetK_idem, xD_setK, xK_setD, xD_setD, xSetD_setK, xSetD_idem, kSet_1, kSet_2, kRow_1, kRow_2, kLog_1, kLog_2, kLog_l, kLog_idem, List.take_zero, if_true]
  refine AT.aload_n M_88 rfl rfl ?_
  refine AT.f_6_2 M_88 rfl (by assumption) (by assumption) ?_
  refine AT.aload_n M_88 rfl rfl ?_
  refine AT.cv1i M_88 rfl M_62 rfl (Nat.le_of_ble_eq_true rfl) (xKd.of (shp_sv (by assumption) (by assumption))) (by decide) (c_62 ho hs) ?_ (Nat.le_of_ble_eq_true rfl) rfl
  try simp only [xK_same, xSetK_idem, xD_setK, xK_setD, xD_setD, xSetD_setK, xSetD_idem, kSet_1, kSet_2, kRow_1, kRow_2, kLog_1, kLog_2, kLog_l, kLog_idem, List.take_zero, if_true]
  refine AT.iconst M_88 rfl (v := 1) (by decide) ?_
  refine AT.iadd M_88 rfl rfl ?_
  refine AT.cs20 M_88 rfl M_380 rfl (Nat.le_of_ble_eq_true rfl) rfl (c_380n ho hs) ?_ (Nat.le_of_ble_eq_true rfl) rfl
  try simp only [xK_same, xSetK_idem, xD_setK, xK_setD, xD_setD, xSetD_setK, xSetD_idem, kSet_1, kSet_2, kRow_1, kRow_2, kLog_1, kLog_2, kLog_l, kLog_idem, List.take_zero, if_true]
  refine AT.aload_n M_88 rfl rfl ?_
  refine AT.f_6_3 M_88 rfl (by assumption) (by assumption) ?_
  refine AT.iconst M_88 rfl (v := 0) (by decide) ?_
  refine AT.cs20 M_88 rfl M_380 rfl (Nat.le_of_ble_eq_true rfl) rfl (c_380m ho hs) ?_ (Nat.le_of_ble_eq_true rfl) rfl
  try simp only [xK_same, xSetK_idem, xD_setK, xK_setD, xD_setD, xSetD_setK, xSetD_idem, kSet_1, kSet_2, kRow_1, kRow_2, kLog_1, kLog_2, kLog_l, kLog_idem, List.take_zero, if_true]
  refine AT.aload_n M_88 rfl rfl ?_
  refine AT.newx M_88 rfl (by decide) (fun hz21 => ?_)
  try simp only [xK_same, xSetK_idem, xD_setK, xK_setD, xD_setD, xSetD_setK, xSetD_idem, kSet_1, kSet_2, kRow_1, kRow_2, kLog_1, kLog_2, kLog_l, kLog_idem, List.take_zero, if_true]
  refine AT.dup M_88 rfl ?_
  refine AT.aload_n M_88 rfl rfl ?_
  refine AT.f_6_5 M_88 rfl (by assumption) (by assumption) ?_
  try simp only [xK_same, xSetK_idem, xD_setK, xK_setD, xD_setD, xSetD_setK, xSetD_idem, kSet_1, kSet_2, kRow_1, kRow_2, kLog_1, kLog_2, kLog_l, kLog_idem, List.take_zero, if_true]
  refine AT.iconst M_88 rfl (v := 0) (by decide) ?_
  refine AT.anull M_88 rfl ?_
  refine AT.iconst M_88 rfl (v := 0) (by decide) ?_
  refine AT.cp50 M_88 rfl M_39 rfl (Nat.le_of_ble_eq_true rfl) rfl (c_39 (e := eNil ((xK X o).1 5 s 0) 0 0) (dNew_E _ _ _ _) rfl rfl (Or.inr ⟨(by decide : ¬ ((1 : Int32) ≤ 0 ∧ (0 : Int32) ≤ 3)), rfl, rfl, rfl, rfl, rfl, rfl⟩)) ?_ (Nat.le_of_ble_eq_true rfl) rfl
  try simp only [xK_same, xSetK_idem, xD_setK, xK_setD, xD_setD, xSetD_setK, xSetD_idem, kSet_1, kSet_2, kRow_1, kRow_2, kLog_1, kLog_2, kLog_l, kLog_idem, List.take_zero, if_true]
  refine AT.cv2w M_88 rfl M_74 rfl (Nat.le_of_ble_eq_true rfl) (xKd.of (shp_sv (by assumption) (by assumption))) (by decide) (c_74 ho hs (dEnt1_E (xD X) (eNil ((xK X o).1 5 s 0) 0 0)) (by rw [xK_same]; exact hlen)) (fun Y hc29 => ?_) (Nat.le_of_ble_eq_true rfl) rfl
  try simp only [xK_same, xSetK_idem, xD_setK, xK_setD, xD_setD, xSetD_setK, xSetD_idem, kSet_1, kSet_2, kRow_1, kRow_2, kLog_1, kLog_2, kLog_l, kLog_idem, List.take_zero, if_true]
  refine AT.vret M_88 rfl rfl ?_
  simp only [xK_same, xSetK_idem, xD_setK, xK_setD, xD_setD, xSetD_setK, xSetD_idem, kSet_1, kSet_2, kRow_1, kRow_2, kLog_1, kLog_2, kLog_l, kLog_idem, List.take_zero, if_true] at hc29
  exact ⟨rfl, hc29⟩
