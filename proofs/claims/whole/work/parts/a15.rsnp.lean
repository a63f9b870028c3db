/-! ===== THE REFERENCE: snapshots and answers come ===== -/
/-- the snapshot's table is r's -/
def kSnt (K : KK) (s : Nat) (r : ENT) : KK := (fun f i j => if f = 18 ∧ i = s ∧ 3 ≤ j ∧ j < 19 then r j else K.1 f i j, K.2)
theorem uTold.at {X Y : XS} {o : Nat} {w : MSG} (h : uTold X o w) (k : rSm o X Y) {j : Nat} (hj : j < 36) : dV (xD Y) o 40 0 j = mRow w j := (k 40 0 j (by omega) (by omega)).trans (h j hj)
theorem mRow7 {w : MSG} {r : ENT} (h7 : w.1 1 = 7) (hr : w.2.1 = some r) : mRow w 6 = r 2 ∧ ∀ q, q < 16 → mRow w (8 + q) = r (3 + q) := by
  unfold mRow
  rw [h7, hr]
  refine ⟨rfl, fun q hq => ?_⟩
  rw [if_neg (by omega), if_neg (by omega), if_neg (by omega), if_neg (by omega), if_neg (by omega), if_pos rfl, if_pos (by omega)]
  show r (8 + q - 5) = _
  congr 1; omega
theorem kAgr_snp {K KY : KK} {s n : Nat} {r : ENT} {x : Int32} (hs : s < 7) (h0 : r 0 = x) (hY : KY = kLog K s ((K.2.1 s).drop n)) :
    kAgr (kTab (kSet (kSnt (kSet (kSet (kSet KY 18 s 0 x) 18 s 1 (r 1)) 18 s 2 (r 2)) s r) 15 s 0 x) s ((kSet (kSnt (kSet (kSet (kSet KY 18 s 0 x) 18 s 1 (r 1)) 18 s 2 (r 2)) s r) 15 s 0 x).1 18 s)) (kTab (kSet (kCut K s n r) 15 s 0 (r 0)) s r) := by
  subst hY; subst h0
  refine ⟨fun f i j h => ?_, fun i hi => rfl, rfl⟩
  have e18 : ∀ j, j < 19 → (kSet (kSnt (kSet (kSet (kSet (kLog K s ((K.2.1 s).drop n)) 18 s 0 (r 0)) 18 s 1 (r 1)) 18 s 2 (r 2)) s r) 15 s 0 (r 0)).1 18 s j = r j := fun j hj => by
    rw [kSet_ne (by omega)]
    show (if 18 = 18 ∧ s = s ∧ 3 ≤ j ∧ j < 19 then r j else _) = r j
    by_cases e : 3 ≤ j
    · rw [if_pos ⟨rfl, rfl, e, hj⟩]
    · rw [if_neg (fun z => e z.2.2.1)]
      rcases (by omega : j = 0 ∨ j = 1 ∨ j = 2) with rfl | rfl | rfl
      · rw [kSet_ne (by omega), kSet_ne (by omega), kSet_at]
      · rw [kSet_ne (by omega), kSet_at]
      · rw [kSet_at]
  show (if f = 19 ∧ i = s then (if j < 16 then r (3 + j) else _) else (if f = 15 ∧ i = s ∧ j = 0 then r 0 else if f = 18 ∧ i = s then r j else K.1 f i j)) = (if f = 19 ∧ i = s then (if j < 16 then (kSet (kSnt (kSet (kSet (kSet (kLog K s ((K.2.1 s).drop n)) 18 s 0 (r 0)) 18 s 1 (r 1)) 18 s 2 (r 2)) s r) 15 s 0 (r 0)).1 18 s (3 + j) else _) else (kSet (kSnt (kSet (kSet (kSet (kLog K s ((K.2.1 s).drop n)) 18 s 0 (r 0)) 18 s 1 (r 1)) 18 s 2 (r 2)) s r) 15 s 0 (r 0)).1 f i j)
  by_cases h19 : f = 19 ∧ i = s
  · rw [if_pos h19, if_pos h19]
    have hj : j < 16 := by unfold kRl at h; omega
    rw [if_pos hj, if_pos hj, e18 _ (by omega)]
  · rw [if_neg h19, if_neg h19]
    by_cases h15 : f = 15 ∧ i = s ∧ j = 0
    · rw [if_pos h15, h15.1, h15.2.1, h15.2.2, kSet_at]
    · rw [if_neg h15]
      by_cases h18 : f = 18 ∧ i = s
      · rw [if_pos h18, h18.1, h18.2, e18 j (by unfold kRl at h; omega)]
      · rw [if_neg h18, kSet_ne h15]
        show _ = if f = 18 ∧ i = s ∧ 3 ≤ j ∧ j < 19 then r j else _
        rw [if_neg (fun z => h18 ⟨z.1, z.2.1⟩), kSet_ne (fun z => h18 ⟨z.1, z.2.1⟩), kSet_ne (fun z => h18 ⟨z.1, z.2.1⟩), kSet_ne (fun z => h18 ⟨z.1, z.2.1⟩)]
        rfl
theorem t_217 {X : XS} {o s : Nat} (h2 : 2 ≤ o) (h4 : o < 4) (hs : s < 7) {n m : Nat} {w : MSG} {r : ENT} (w3 : w.1 3 = Int32.ofNat s) (h7 : w.1 1 = 7) (hr : w.2.1 = some r) (hr0 : r 0 = w.1 6) (hT : uTold X o w) (hap : aPr X o) (hn : n ≤ ((xK X o).2.1 s).length) (hl : ((xK X o).2.1 s).length < 16777216) : AT 217 33 [some (.ref (bB o)), some (.int (Int32.ofNat s)), some (.int (w.1 2)), some (.int (w.1 4)), some (.int (w.1 6)), some (.int (r 1)), some (.int (Int32.ofNat n))] [] X (fun o' Z => o' = .inl none ∧ rRel o m 0 0 X Z (kSend (kTab (kSet (kCut (xK X o) s (((xK X o).2.1 s).length - n) r) 15 s 0 (r 0)) s r) (mRep w 6 ((xK X o).1 5 s 0) 1 (w.1 6)))) := by
  refine AT.aload_n M_217 rfl rfl ?_
  refine AT.iload_n M_217 rfl rfl ?_
  refine AT.iload M_217 rfl rfl ?_
  refine AT.cv3w M_217 rfl M_218 rfl (Nat.le_of_ble_eq_true rfl) (xKd.of (sh_st h2 h4)) (by decide) (c_218 (m := m) h2 h4 hs hn (by omega)) (fun Y hc36 => ?_) (Nat.le_of_ble_eq_true rfl) rfl
  obtain ⟨r1, k1⟩ := hc36
  try simp only [xK_same, xSetK_idem, xD_setK, xK_setD, xD_setD, xSetD_setK, xSetD_idem, kSet_1, kSet_2, kRow_1, kRow_2, kLog_1, kLog_2, kLog_l, kLog_idem, List.take_zero, if_true]
  refine AT.aload_n M_217 rfl rfl ?_
  refine AT.r10_13 M_217 rfl h2 h4 ?_
  refine AT.iload_n M_217 rfl rfl ?_
  refine AT.iload M_217 rfl rfl ?_
  refine AT.rs_18_0 M_217 rfl rfl h2 h4 (by assumption) ?_
  try simp only [xK_same, xSetK_idem, xD_setK]
  refine AT.aload_n M_217 rfl rfl ?_
  refine AT.r10_14 M_217 rfl h2 h4 ?_
  refine AT.iload_n M_217 rfl rfl ?_
  refine AT.iload M_217 rfl rfl ?_
  refine AT.rs_18_1 M_217 rfl rfl h2 h4 (by assumption) ?_
  try simp only [xK_same, xSetK_idem, xD_setK]
  refine AT.aload_n M_217 rfl rfl ?_
  refine AT.r10_15 M_217 rfl h2 h4 ?_
  refine AT.iload_n M_217 rfl rfl ?_
  refine AT.aload_n M_217 rfl rfl ?_
  refine AT.r10_24 M_217 rfl h2 h4 ?_
  refine AT.bipush M_217 rfl (v := 6) (by decide) ?_
  refine AT.ra_told M_217 rfl (j := 6) rfl h2 h4 (by omega) ?_
  rw [xD_setK, show dV (xD Y) o 40 0 6 = r 2 from (hT.at k1 (by omega)).trans (mRow7 h7 hr).1]
  refine AT.rs_18_2 M_217 rfl rfl h2 h4 (by assumption) ?_
  try simp only [xK_same, xSetK_idem, xD_setK]
  refine AT.aload_n M_217 rfl rfl ?_
  refine AT.r10_24 M_217 rfl h2 h4 ?_
  refine AT.bipush M_217 rfl (v := 8) (by decide) ?_
  refine AT.aload_n M_217 rfl rfl ?_
  refine AT.r10_16 M_217 rfl h2 h4 ?_
  refine AT.iload_n M_217 rfl rfl ?_
  refine AT.rr_snt M_217 rfl rfl h2 h4 (by assumption) ?_
  refine AT.iconst M_217 rfl (v := 0) (by decide) ?_
  refine AT.bipush M_217 rfl (v := 16) (by decide) ?_
  refine AT.acp M_217 rfl rfl (Nat.le_of_ble_eq_true rfl) (n := 16) (p := 8) (q := 0) (kd := 12) rfl rfl rfl ⟨by omega, by omega, by omega⟩ (Or.inl rfl) (src.loc (f := 40) (fi := fun _ => 0) (fj := fun q => 8 + q) (v := fun q => r (3 + q)) (sh_told h2 h4) (by omega) (by omega) (fun q hq => lo_told h2 h4 (by omega)) (fun q hq => (hT.at k1 (by omega)).trans ((mRow7 h7 hr).2 q hq)))
    (dst.num (K' := kSnt (kSet (kSet (kSet (xK Y o) 18 s 0 (w.1 6)) 18 s 1 (r 1)) 18 s 2 (r 2)) s r) (f := 18) (fi := fun _ => s) (fj := fun q => 3 + q) (sh_snt h2 h4 hs) (by omega) (by omega) (fun q hq => by rw [Nat.zero_add]; exact lo_snt h2 h4 hs hq) rfl (fun z => by omega) (fun z => by omega) (by rw [xK_same]; rfl) (fun q hq => if_pos ⟨rfl, rfl, by omega, by omega⟩) (fun f' i' j' hne => ?_)) ?_
  · rw [xK_same]
    refine if_neg (fun z => hne (j' - 3) (by omega) ⟨z.1, z.2.1, by omega⟩)
  try simp only [xK_same, xSetK_idem, xD_setK, xSetD_setK]
  refine AT.aload_n M_217 rfl rfl ?_
  refine AT.r10_8 M_217 rfl h2 h4 ?_
  refine AT.iload_n M_217 rfl rfl ?_
  refine AT.iload M_217 rfl rfl ?_
  refine AT.rs_15 M_217 rfl rfl h2 h4 (by assumption) ?_
  try simp only [xK_same, xSetK_idem, xD_setK]
  refine AT.aload_n M_217 rfl rfl ?_
  refine AT.r10_9 M_217 rfl h2 h4 ?_
  refine AT.iload_n M_217 rfl rfl ?_
  refine AT.iload M_217 rfl rfl ?_
  refine AT.rs_20 M_217 rfl rfl h2 h4 (by assumption) ?_
  try simp only [xK_same, xSetK_idem, xD_setK]
  refine AT.aload_n M_217 rfl rfl ?_
  refine AT.r10_16 M_217 rfl h2 h4 ?_
  refine AT.iload_n M_217 rfl rfl ?_
  refine AT.rr_snt M_217 rfl rfl h2 h4 (by assumption) ?_
  refine AT.aload_n M_217 rfl rfl ?_
  refine AT.r10_17 M_217 rfl h2 h4 ?_
  refine AT.iload_n M_217 rfl rfl ?_
  refine AT.rr_tab M_217 rfl rfl h2 h4 (by assumption) ?_
  refine AT.cs20 M_217 rfl M_180 rfl (Nat.le_of_ble_eq_true rfl) rfl (cpy_snt h2 h4 hs) ?_ (Nat.le_of_ble_eq_true rfl) rfl
  try simp only [xK_same, xSetK_idem, xD_setK, xK_setD, xD_setD, xSetD_setK, xSetD_idem, kSet_1, kSet_2, kRow_1, kRow_2, kLog_1, kLog_2, kLog_l, kLog_idem, List.take_zero, if_true]
  try simp only [xK_same, xSetK_idem, xD_setK, xSetD_setK]
  refine AT.agr (o := o) (K := (kTab (kSet (kCut (xK X o) s (((xK X o).2.1 s).length - n) r) 15 s 0 (r 0)) s r)) ?_ ?_
  · rw [xK_same]
    exact kAgr_snp hs hr0 r1.k
  try simp only [xK_same, xSetK_idem, xD_setK, xSetD_setK]
  have q1 : rRel o m 0 0 X (xSetK (xSetD Y (dSetV (xD Y) o 20 s 0 (w.1 6))) o (kTab (kSet (kCut (xK X o) s (((xK X o).2.1 s).length - n) r) 15 s 0 (r 0)) s r)) (kTab (kSet (kCut (xK X o) s (((xK X o).2.1 s).length - n) r) 15 s 0 (r 0)) s r) := ⟨(r1.priv 20 s 0 _).net _, fun j => (if_neg (by omega)).trans (k1 40 0 j (by omega) (by omega)), fun i hi => by
    rw [xK_same]
    show (if o = o ∧ 20 = 20 ∧ i = s ∧ 0 = 0 then w.1 6 else dV (xD Y) o 20 i 0) = (kTab (kSet (kCut (xK X o) s _ r) 15 s 0 (r 0)) s r).1 15 i 0
    by_cases e : i = s
    · rw [if_pos ⟨rfl, rfl, e, rfl⟩, e]
      show _ = (kSet (kCut (xK X o) s _ r) 15 s 0 (r 0)).1 15 s 0
      rw [kSet_at, hr0]
    · rw [if_neg (fun z => e z.2.2.1), k1 20 i 0 (by omega) (by omega)]
      show _ = (kSet (kCut (xK X o) s _ r) 15 s 0 (r 0)).1 15 i 0
      rw [kSet_ne (fun z => e z.2.1)]
      exact hap i hi⟩
  refine AT.aload_n M_217 rfl rfl ?_
  refine AT.bipush M_217 rfl (v := 6) (by decide) ?_
  refine AT.iload_n M_217 rfl rfl ?_
  refine AT.iload_n M_217 rfl rfl ?_
  refine AT.aload_n M_217 rfl rfl ?_
  refine AT.r10_3 M_217 rfl h2 h4 ?_
  refine AT.iload_n M_217 rfl rfl ?_
  refine AT.ra_5 M_217 rfl rfl h2 h4 (by assumption) ?_
  refine AT.iload M_217 rfl rfl ?_
  refine AT.iconst M_217 rfl (v := 1) (by decide) ?_
  rw [show (xK (xSetK (xSetD Y (dSetV (xD Y) o 20 s 0 (w.1 6))) o (kTab (kSet (kCut (xK X o) s (((xK X o).2.1 s).length - n) r) 15 s 0 (r 0)) s r)) o).1 5 s 0 = (xK X o).1 5 s 0 from by rw [xK_same]; rfl]
  refine AT.cv7u M_217 rfl M_200 rfl (Nat.le_of_ble_eq_true rfl) (xKd.of (sh_st h2 h4)) (by decide) (c_200 (n := m) (X := xSetK (xSetD Y (dSetV (xD Y) o 20 s 0 (w.1 6))) o (kTab (kSet (kCut (xK X o) s (((xK X o).2.1 s).length - n) r) 15 s 0 (r 0)) s r)) h2 h4 (fun k hk => by rw [mRep_row6 w ((xK X o).1 5 s 0) 1 (w.1 6) hk, w3])) (fun YY hc94 => ?_) (Nat.le_of_ble_eq_true rfl) rfl
  obtain ⟨r2, k2⟩ := hc94
  rw [xK_same] at r2
  have r3 := r2.sm k2 q1.2.2 (fun i hi => by rw [xK_same]; exact kSend_1 _ _ (by omega))
  try simp only [xK_same, xSetK_idem, xD_setK, xK_setD, xD_setD, xSetD_setK, xSetD_idem, kSet_1, kSet_2, kRow_1, kRow_2, kLog_1, kLog_2, kLog_l, kLog_idem, List.take_zero, if_true]
  refine AT.popi M_217 rfl ?_
  refine AT.vret M_217 rfl rfl ?_
  exact ⟨rfl, q1.tr r3⟩
theorem c_217 {X : XS} {o s : Nat} (h2 : 2 ≤ o) (h4 : o < 4) (hs : s < 7) {m : Nat} {w : MSG} {r : ENT} (w3 : w.1 3 = Int32.ofNat s) (h7 : w.1 1 = 7) (hr : w.2.1 = some r) (hr0 : r 0 = w.1 6) (hT : uTold X o w) (hap : aPr X o) (hk : sOk (xK X o) s) : RU 217 [some (.ref (bB o)), some (.int (Int32.ofNat s)), some (.int (w.1 2)), some (.int (w.1 4)), some (.int (w.1 6)), some (.int (r 1)), none] X none (fun Y => rRel o m 0 0 X Y (kOnSnp (xK X o) s w)) := by
  have hL : ((xK X o).2.1 s).length < 16777216 := by have := hk.2.2.2.2.1; omega
  by_cases hold : w.1 4 < (xK X o).1 5 s 0
  · skip
    refine AT.aload_n M_217 rfl rfl ?_
    refine AT.iload_n M_217 rfl rfl ?_
    refine AT.iload_n M_217 rfl rfl ?_
    refine AT.iload_n M_217 rfl rfl ?_
    refine AT.cv4u M_217 rfl M_213 rfl (Nat.le_of_ble_eq_true rfl) (xKd.of (sh_st h2 h4)) (by decide) (c_213a (m := m) h2 h4 hs w3 hold) (fun Y hc4 => ?_) (Nat.le_of_ble_eq_true rfl) rfl
    obtain ⟨r1, k1⟩ := hc4
    refine AT.if_eq M_217 rfl (fun b5 => absurd b5 (by decide)) (fun b5 => ?_)
    refine AT.vret M_217 rfl rfl ?_
    rw [show kOnSnp (xK X o) s w = _ from if_pos hold]
    exact ⟨rfl, r1.sm k1 hap (fun i hi => kSend_1 _ _ (by omega))⟩
  · skip
    refine AT.aload_n M_217 rfl rfl ?_
    refine AT.iload_n M_217 rfl rfl ?_
    refine AT.iload_n M_217 rfl rfl ?_
    refine AT.iload_n M_217 rfl rfl ?_
    refine AT.cv4i M_217 rfl M_213 rfl (Nat.le_of_ble_eq_true rfl) (xKd.of (sh_st h2 h4)) (by decide) (c_213b h2 h4 hs hold) ?_ (Nat.le_of_ble_eq_true rfl) rfl
    try simp only [xK_same, xSetK_idem, xD_setK, xK_setD, xD_setD, xSetD_setK, xSetD_idem, kSet_1, kSet_2, kRow_1, kRow_2, kLog_1, kLog_2, kLog_l, kLog_idem, List.take_zero, if_true]
    have q1 : rRel o m 0 0 X (xSetK X o (kObey (xK X o) s (w.1 2))) (kObey (xK X o) s (w.1 2)) := rRel.set hap (fun i hi => kObey_1 (by omega))
    have ok1 : sOk (xK (xSetK X o (kObey (xK X o) s (w.1 2))) o) s := by rw [xK_same]; exact (sSame.obey _ _ _ _).okS hk (kObey_1 (by omega))
    have hw1 := ok1.wf
    have e5 : (xK (xSetK X o (kObey (xK X o) s (w.1 2))) o).1 5 s 0 = (xK X o).1 5 s 0 := by rw [xK_same]; exact kObey_1 (by omega)
    refine AT.if_eq M_217 rfl (fun b5 => ?_) (fun b5 => absurd rfl b5)
    refine AT.iload M_217 rfl rfl ?_
    refine AT.aload_n M_217 rfl rfl ?_
    refine AT.r10_8 M_217 rfl h2 h4 ?_
    refine AT.iload_n M_217 rfl rfl ?_
    refine AT.ra_15 M_217 rfl rfl h2 h4 (by assumption) ?_
    try simp only [xK_same]
    refine AT.icmp_le M_217 rfl (fun b12 => ?_) (fun b12 => ?_)
    · refine AT.aload_n M_217 rfl rfl ?_
      refine AT.bipush M_217 rfl (v := 6) (by decide) ?_
      refine AT.iload_n M_217 rfl rfl ?_
      refine AT.iload_n M_217 rfl rfl ?_
      refine AT.aload_n M_217 rfl rfl ?_
      refine AT.r10_3 M_217 rfl h2 h4 ?_
      refine AT.iload_n M_217 rfl rfl ?_
      refine AT.ra_5 M_217 rfl rfl h2 h4 (by assumption) ?_
      refine AT.iload M_217 rfl rfl ?_
      refine AT.iconst M_217 rfl (v := 1) (by decide) ?_
      rw [e5]
      refine AT.cv7u M_217 rfl M_200 rfl (Nat.le_of_ble_eq_true rfl) (xKd.of (sh_st h2 h4)) (by decide) (c_200 (n := m) (X := (xSetK X o (kObey (xK X o) s (w.1 2)))) h2 h4 (fun k hk => by rw [mRep_row6 w ((xK X o).1 5 s 0) 1 (w.1 6) hk, w3])) (fun Y hc94 => ?_) (Nat.le_of_ble_eq_true rfl) rfl
      obtain ⟨r2, k2⟩ := hc94
      rw [xK_same] at r2
      have r3 := r2.sm k2 q1.2.2 (fun i hi => by rw [xK_same]; exact kSend_1 _ _ (by omega))
      try simp only [xK_same, xSetK_idem, xD_setK, xK_setD, xD_setD, xSetD_setK, xSetD_idem, kSet_1, kSet_2, kRow_1, kRow_2, kLog_1, kLog_2, kLog_l, kLog_idem, List.take_zero, if_true]
      refine AT.popi M_217 rfl ?_
      refine AT.vret M_217 rfl rfl ?_
      rw [show kOnSnp (xK X o) s w = kSend (kObey (xK X o) s (w.1 2)) (mRep w 6 ((xK X o).1 5 s 0) 1 (w.1 6)) from (if_neg hold).trans (by
        rw [hr]
        show kSend (if (kObey (xK X o) s (w.1 2)).1 15 s 0 < r 0 then _ else _) _ = _
        rw [if_neg (by rw [hr0]; exact Int32.not_lt.mpr b12)])]
      exact ⟨rfl, q1.tr r3⟩
    · refine AT.aload_n M_217 rfl rfl ?_
      refine AT.iload_n M_217 rfl rfl ?_
      refine AT.iload M_217 rfl rfl ?_
      refine AT.cv3i M_217 rfl M_188 rfl (Nat.le_of_ble_eq_true rfl) (xKd.of (sh_st h2 h4)) (by decide) (c_188 (X := (xSetK X o (kObey (xK X o) s (w.1 2)))) h2 h4 hs) ?_ (Nat.le_of_ble_eq_true rfl) rfl
      try simp only [xK_same, xSetK_idem, xD_setK, xK_setD, xD_setD, xSetD_setK, xSetD_idem, kSet_1, kSet_2, kRow_1, kRow_2, kLog_1, kLog_2, kLog_l, kLog_idem, List.take_zero, if_true]
      refine AT.if_eq M_217 rfl (fun b17 => ?_) (fun b17 => ?_)
      · refine AT.iconst M_217 rfl (v := 0) (by decide) ?_
        refine AT.ist6 M_217 rfl rfl ?_
        have hS : sHas (kObey (xK X o) s (w.1 2)) s (r 0) (r 1) = false := by
          unfold sHas
          cases hE : sEnt (kObey (xK X o) s (w.1 2)) s (r 0) with
          | none => rfl
          | some e => exact absurd b17 (fun z => by
              have := (sHasE_some (K := (kObey (xK X o) s (w.1 2))) (s := s) (x := w.1 6) (by rw [← xK_same X o (kObey (xK X o) s (w.1 2))]; exact hw1)).mpr ⟨e, by rw [← hr0]; exact hE⟩
              rw [this] at z; exact absurd z (by decide))
        have hn : sCutN (kObey (xK X o) s (w.1 2)) s r = ((xK X o).2.1 s).length - 0 := if_neg (by rw [hS]; decide)
        have hz := t_217 (X := (xSetK X o (kObey (xK X o) s (w.1 2)))) (n := 0) (m := m) h2 h4 hs w3 h7 hr hr0 hT q1.2.2 (Nat.zero_le _) (by rw [xK_same]; exact hL)
        rw [xK_same] at hz
        rw [show kOnSnp (xK X o) s w = kSend (kTab (kSet (kCut (kObey (xK X o) s (w.1 2)) s (sCutN (kObey (xK X o) s (w.1 2)) s r) r) 15 s 0 (r 0)) s r) (mRep w 6 ((xK X o).1 5 s 0) 1 (w.1 6)) from (if_neg hold).trans (by
          rw [hr]
          show kSend (if (kObey (xK X o) s (w.1 2)).1 15 s 0 < r 0 then _ else _) _ = _
          rw [if_pos (by rw [hr0]; exact Int32.not_le.mp b12)])]
        rw [hn]
        refine AT.mono hz ?_
        rintro o' Z ⟨z1, z2⟩
        exact ⟨z1, q1.tr z2⟩
      · obtain ⟨e, hx⟩ := (sHasE_some hw1).mp (bI_ne0.mp (by rw [xK_same]; exact b17))
        refine AT.aload_n M_217 rfl rfl ?_
        refine AT.iload_n M_217 rfl rfl ?_
        refine AT.iload M_217 rfl rfl ?_
        refine AT.iconst M_217 rfl (v := 0) (by decide) ?_
        refine AT.cv4i M_217 rfl M_190 rfl (Nat.le_of_ble_eq_true rfl) (xKd.of (sh_st h2 h4)) (by decide) (c_190 (X := (xSetK X o (kObey (xK X o) s (w.1 2)))) h2 h4 hs hx hw1 (c := 0) (by omega) rfl) ?_ (Nat.le_of_ble_eq_true rfl) rfl
        try simp only [xK_same, xSetK_idem, xD_setK, xK_setD, xD_setD, xSetD_setK, xSetD_idem, kSet_1, kSet_2, kRow_1, kRow_2, kLog_1, kLog_2, kLog_l, kLog_idem, List.take_zero, if_true]
        refine AT.iload M_217 rfl rfl ?_
        refine AT.icmp_ne M_217 rfl (fun b24 => ?_) (fun b24 => ?_)
        · refine AT.iconst M_217 rfl (v := 0) (by decide) ?_
          refine AT.ist6 M_217 rfl rfl ?_
          have hS : sHas (kObey (xK X o) s (w.1 2)) s (r 0) (r 1) = false := by
            unfold sHas
            rw [xK_same] at hx
            rw [hr0, hx]
            exact decide_eq_false b24
          have hn : sCutN (kObey (xK X o) s (w.1 2)) s r = ((xK X o).2.1 s).length - 0 := if_neg (by rw [hS]; decide)
          have hz := t_217 (X := (xSetK X o (kObey (xK X o) s (w.1 2)))) (n := 0) (m := m) h2 h4 hs w3 h7 hr hr0 hT q1.2.2 (Nat.zero_le _) (by rw [xK_same]; exact hL)
          rw [xK_same] at hz
          rw [show kOnSnp (xK X o) s w = kSend (kTab (kSet (kCut (kObey (xK X o) s (w.1 2)) s (sCutN (kObey (xK X o) s (w.1 2)) s r) r) 15 s 0 (r 0)) s r) (mRep w 6 ((xK X o).1 5 s 0) 1 (w.1 6)) from (if_neg hold).trans (by
            rw [hr]
            show kSend (if (kObey (xK X o) s (w.1 2)).1 15 s 0 < r 0 then _ else _) _ = _
            rw [if_pos (by rw [hr0]; exact Int32.not_le.mp b12)])]
          rw [hn]
          refine AT.mono hz ?_
          rintro o' Z ⟨z1, z2⟩
          exact ⟨z1, q1.tr z2⟩
        · refine AT.aload_n M_217 rfl rfl ?_
          refine AT.iload_n M_217 rfl rfl ?_
          refine AT.cv2i M_217 rfl M_187 rfl (Nat.le_of_ble_eq_true rfl) (xKd.of (sh_st h2 h4)) (by decide) (c_187 (X := (xSetK X o (kObey (xK X o) s (w.1 2)))) h2 h4 hs) ?_ (Nat.le_of_ble_eq_true rfl) rfl
          try simp only [xK_same, xSetK_idem, xD_setK, xK_setD, xD_setD, xSetD_setK, xSetD_idem, kSet_1, kSet_2, kRow_1, kRow_2, kLog_1, kLog_2, kLog_l, kLog_idem, List.take_zero, if_true]
          refine AT.iload M_217 rfl rfl ?_
          refine AT.isub M_217 rfl rfl ?_
          refine AT.goto M_217 rfl ?_
          refine AT.ist6 M_217 rfl rfl ?_
          have hS : sHas (kObey (xK X o) s (w.1 2)) s (r 0) (r 1) = true := by
            unfold sHas
            rw [xK_same] at hx
            rw [hr0, hx]
            exact decide_eq_true (Classical.not_not.mp b24)
          obtain ⟨a, j, ha, hb, hx6, he⟩ := sEnt_ix hx hw1
          rw [xK_same] at ha hb he
          have hj : j < ((xK X o).2.1 s).length := (List.getElem?_eq_some_iff.mp he).1
          have hn : sCutN (kObey (xK X o) s (w.1 2)) s r = ((xK X o).2.1 s).length - (((xK X o).2.1 s).length - (j + 1)) := (if_pos hS).trans (by
            rw [hr0, hx6, ha, i32_sub0 (by omega), (i32_ix (by omega)).1]
            omega)
          rw [show sLast (kObey (xK X o) s (w.1 2)) s - w.1 6 = Int32.ofNat (((xK X o).2.1 s).length - (j + 1)) from by
            rw [sLast_of ha, hx6]
            show Int32.ofNat (a + ((xK X o).2.1 s).length) - _ = _
            rw [i32_sub0 (by omega)]
            congr 1; omega]
          have hz := t_217 (X := (xSetK X o (kObey (xK X o) s (w.1 2)))) (n := ((xK X o).2.1 s).length - (j + 1)) (m := m) h2 h4 hs w3 h7 hr hr0 hT q1.2.2 (by rw [xK_same]; exact Nat.sub_le _ _) (by rw [xK_same]; exact hL)
          rw [xK_same] at hz
          rw [show kOnSnp (xK X o) s w = kSend (kTab (kSet (kCut (kObey (xK X o) s (w.1 2)) s (sCutN (kObey (xK X o) s (w.1 2)) s r) r) 15 s 0 (r 0)) s r) (mRep w 6 ((xK X o).1 5 s 0) 1 (w.1 6)) from (if_neg hold).trans (by
            rw [hr]
            show kSend (if (kObey (xK X o) s (w.1 2)).1 15 s 0 < r 0 then _ else _) _ = _
            rw [if_pos (by rw [hr0]; exact Int32.not_le.mp b12)])]
          rw [hn]
          refine AT.mono hz ?_
          rintro o' Z ⟨z1, z2⟩
          exact ⟨z1, q1.tr z2⟩
