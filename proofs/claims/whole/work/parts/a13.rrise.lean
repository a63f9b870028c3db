/-! ===== THE REFERENCE: sounding, standing, leading ===== -/
theorem kFil_com (K : KK) (s n q : Nat) (v : Int32) : kSet (kFil K 3 s 0 n) 2 s q v = kFil (kSet K 2 s q v) 3 s 0 n := by
  refine Prod.ext (funext fun a => funext fun b => funext fun c => ?_) rfl
  show (if a = 2 ∧ b = s ∧ c = q then v else if a = 3 ∧ b = s then (if c < n then 0 else K.1 3 s c) else K.1 a b c) = (if a = 3 ∧ b = s then (if c < n then 0 else (if 3 = 2 ∧ s = s ∧ c = q then v else K.1 3 s c)) else if a = 2 ∧ b = s ∧ c = q then v else K.1 a b c)
  by_cases h : a = 3 ∧ b = s
  · rw [if_pos h, if_pos h, if_neg (by omega), if_neg (by omega : ¬ (3 = 2 ∧ s = s ∧ c = q))]
  · rw [if_neg h, if_neg h]
theorem kFil2_s (K : KK) (s q : Nat) (v : Int32) : kSet (kSet (kFil (kFil K 2 s v q) 3 s 0 q) 2 s q v) 3 s q 0 = kFil (kFil K 2 s v (q + 1)) 3 s 0 (q + 1) := by
  rw [kFil_com, kFil_s, kFil_s]
theorem kStand_e {K : KK} {s : Nat} (hs : s < 7) : kSet (kSet (kSet (kSet (kSet (kSet K 5 s 0 (K.1 5 s 0 + 1)) 12 s 0 2) 13 s 0 (-1)) 14 s 0 0) 6 s 0 (Int32.ofNat s)) 16 s 0 (1 <<< (Int32.ofNat s &&& 31)) = kStand K s := by
  unfold kStand kStart
  rw [i32_shl hs]
  exact kSet_comm (by omega)
theorem kStart_e {K : KK} {s : Nat} (hs : s < 7) : kSet (kSet (kSet (kSet K 14 s 0 0) 12 s 0 1) 13 s 0 (-1)) 16 s 0 (1 <<< (Int32.ofNat s &&& 31)) = kStart K s 1 := by
  unfold kStart
  rw [i32_shl hs, kSet_comm (K := K) (f := 14) (by omega), kSet_comm (f := 14) (by omega)]
theorem rRel.more {o n c z n' : Nat} {X Y : XS} {K : KK} (h : rRel o n c z X Y K) (hn : n ≤ n') : rRel o n' c z X Y K := ⟨h.1.more hn, h.2⟩
theorem l_206 {X : XS} {o s : Nat} {Q : PO → XS → Prop} (h2 : 2 ≤ o) (h4 : o < 4) (hs : s < 7) : ∀ d q : Nat, q + d = 7 → (AT 206 40 [some (.ref (bB o)), some (.int (Int32.ofNat s)), some (.int (Int32.ofNat 7))] [] (xSetK X o (kLead (xK X o) s)) Q) → AT 206 17 [some (.ref (bB o)), some (.int (Int32.ofNat s)), some (.int (Int32.ofNat q))] [] (xSetK X o (kFil (kFil (kSet (kSet (kSet (xK X o) 12 s 0 3) 13 s 0 (-1)) 17 s 0 0) 2 s (sLast (xK X o) s + 1) q) 3 s 0 q)) Q
  | 0, q, hq, hk => by
    refine AT.iload_n M_206 rfl rfl ?_
    refine AT.bipush M_206 rfl (v := 7) (by decide) ?_
    refine AT.icmp_ge M_206 rfl (fun b19 => ?_) (fun b19 => absurd (by rw [show q = 7 by omega]; exact Int32.le_refl _) b19)
    have e : q = 7 := by omega
    subst e
    exact hk
  | d + 1, q, hq, hk => by
    refine AT.iload_n M_206 rfl rfl ?_
    refine AT.bipush M_206 rfl (v := 7) (by decide) ?_
    refine AT.icmp_ge M_206 rfl (fun b19 => absurd ((i32_le (a := 7) (b := q) (by omega) (by omega)).mp b19) (by omega)) (fun b19 => ?_)
    refine AT.aload_n M_206 rfl rfl ?_
    refine AT.r10_20 M_206 rfl h2 h4 ?_
    refine AT.iload_n M_206 rfl rfl ?_
    refine AT.rr_nxt M_206 rfl rfl h2 h4 (by assumption) ?_
    refine AT.iload_n M_206 rfl rfl ?_
    refine AT.aload_n M_206 rfl rfl ?_
    refine AT.iload_n M_206 rfl rfl ?_
    refine AT.cv2i M_206 rfl M_187 rfl (Nat.le_of_ble_eq_true rfl) (xKd.of (sh_st h2 h4)) (by decide) (c_187 (o := o) (s := s) h2 h4 hs) ?_ (Nat.le_of_ble_eq_true rfl) rfl
    try simp only [xK_same, xSetK_idem, xD_setK, xK_setD, xD_setD, xSetD_setK, xSetD_idem, kSet_1, kSet_2, kRow_1, kRow_2, kLog_1, kLog_2, kLog_l, kLog_idem, List.take_zero, if_true]
    rw [show sLast (kFil (kFil (kSet (kSet (kSet (xK X o) 12 s 0 3) 13 s 0 (-1)) 17 s 0 0) 2 s (sLast (xK X o) s + 1) q) 3 s 0 q) s = sLast (xK X o) s from rfl]
    refine AT.iconst M_206 rfl (v := 1) (by decide) ?_
    refine AT.iadd M_206 rfl rfl ?_
    refine AT.rs_nxt M_206 rfl rfl h2 h4 (by assumption) (by omega) ?_
    try simp only [xK_same, xSetK_idem, xD_setK]
    refine AT.aload_n M_206 rfl rfl ?_
    refine AT.r10_21 M_206 rfl h2 h4 ?_
    refine AT.iload_n M_206 rfl rfl ?_
    refine AT.rr_mat M_206 rfl rfl h2 h4 (by assumption) ?_
    refine AT.iload_n M_206 rfl rfl ?_
    refine AT.iconst M_206 rfl (v := 0) (by decide) ?_
    refine AT.rs_mat M_206 rfl rfl h2 h4 (by assumption) (by omega) ?_
    try simp only [xK_same, xSetK_idem, xD_setK]
    refine AT.iinc2 M_206 rfl rfl (i32_succ _) ?_
    refine AT.goto M_206 rfl ?_
    rw [kFil2_s]
    exact l_206 h2 h4 hs d (q + 1) (by omega) hk
theorem c_206 {X : XS} {o s : Nat} (h2 : 2 ≤ o) (h4 : o < 4) (hs : s < 7) {n : Nat} (hk : sOk (xK X o) s) (hB : kA (xK X o) s + ((xK X o).2.1 s).length + 1 < 400000) (hR : rOkR X o) (hap : aPr X o) (hn : ((xK X o).2.1 s).length + 1 ≤ n) : RU 206 [some (.ref (bB o)), some (.int (Int32.ofNat s)), none] X none (fun Z => rRel o n 1 7 X Z (kLeadA (xK X o) s)) := by
  refine AT.aload_n M_206 rfl rfl ?_
  refine AT.r10_5 M_206 rfl h2 h4 ?_
  refine AT.iload_n M_206 rfl rfl ?_
  refine AT.iconst M_206 rfl (v := 3) (by decide) ?_
  refine AT.rs_12 M_206 rfl rfl h2 h4 (by assumption) ?_
  try simp only [xK_same, xSetK_idem, xD_setK]
  refine AT.aload_n M_206 rfl rfl ?_
  refine AT.r10_6 M_206 rfl h2 h4 ?_
  refine AT.iload_n M_206 rfl rfl ?_
  refine AT.iconst M_206 rfl (v := (-1)) (by decide) ?_
  refine AT.rs_13 M_206 rfl rfl h2 h4 (by assumption) ?_
  try simp only [xK_same, xSetK_idem, xD_setK]
  refine AT.aload_n M_206 rfl rfl ?_
  refine AT.r10_10 M_206 rfl h2 h4 ?_
  refine AT.iload_n M_206 rfl rfl ?_
  refine AT.iconst M_206 rfl (v := 0) (by decide) ?_
  refine AT.rs_17 M_206 rfl rfl h2 h4 (by assumption) ?_
  try simp only [xK_same, xSetK_idem, xD_setK]
  refine AT.iconst M_206 rfl (v := 0) (by decide) ?_
  refine AT.ist2 M_206 rfl rfl ?_
  rw [show kSet (kSet (kSet (xK X o) 12 s 0 3) 13 s 0 (-1)) 17 s 0 0 = (kFil (kFil (kSet (kSet (kSet (xK X o) 12 s 0 3) 13 s 0 (-1)) 17 s 0 0) 2 s (sLast (xK X o) s + 1) 0) 3 s 0 0) from by rw [kFil_0, kFil_0]]
  refine l_206 h2 h4 hs 7 0 rfl ?_
  refine AT.aload_n M_206 rfl rfl ?_
  refine AT.iload_n M_206 rfl rfl ?_
  refine AT.iconst M_206 rfl (v := 0) (by decide) ?_
  refine AT.iconst M_206 rfl (v := 0) (by decide) ?_
  refine AT.cv4w M_206 rfl M_186 rfl (Nat.le_of_ble_eq_true rfl) (xKd.of (sh_st h2 h4)) (by decide) (c_186 (X := (xSetK X o (kLead (xK X o) s))) (x := 0) (y := 0) h2 h4 hs hR (by rw [xK_same]; show ((xK X o).2.1 s).length + 1 < _; omega)) (fun Y hc44 => ?_) (Nat.le_of_ble_eq_true rfl) rfl
  obtain ⟨r1, k1⟩ := hc44
  rw [xK_same] at r1
  have r2 : rRel0 o n 1 7 X Y (kLd (xK X o) s) := ((rRel0.set o n X _).tr (r1.more (by show ((xK X o).2.1 s).length + 1 ≤ n; omega))).up (by omega) (by omega)
  have k2 : rSm o X Y := k1
  have q1 : sOk (xK Y o) s := by rw [r2.k]; exact kLd_ok hk hB
  refine AT.aload_n M_206 rfl rfl ?_
  refine AT.iload_n M_206 rfl rfl ?_
  refine AT.cv2u M_206 rfl M_202 rfl (Nat.le_of_ble_eq_true rfl) (xKd.of (sh_st h2 h4)) (by decide) (c_202 (m := n) h2 h4 hs q1.wf (fun q hq => by rw [r2.k]; exact kLd_nx hk hq)) (fun YY hc47 => ?_) (Nat.le_of_ble_eq_true rfl) rfl
  obtain ⟨r3, k3⟩ := hc47
  rw [r2.k] at r3
  have r4 := (r2.tr r3).sm (k2.tr k3) hap (fun i hi => (kSnd_1 _ _ (by omega)).trans (show (kLead (xK X o) s).1 15 i 0 = _ from kLead_1 (by omega)))
  have q2 : sOk (xK YY o) s := by rw [r4.k]; rw [r2.k] at q1; exact (sSame.snd _ _ _).okS q1 (kSnd_1 _ _ (by omega))
  refine AT.popi M_206 rfl ?_
  refine AT.aload_n M_206 rfl rfl ?_
  refine AT.iload_n M_206 rfl rfl ?_
  refine AT.cv2w M_206 rfl M_207 rfl (Nat.le_of_ble_eq_true rfl) (xKd.of (sh_st h2 h4)) (by decide) (c_207 (m := n) h2 h4 hs q2 r4.2.2) (fun ZZ hc51 => ?_) (Nat.le_of_ble_eq_true rfl) rfl
  have r5 := hc51
  rw [r4.k] at r5
  refine AT.vret M_206 rfl rfl ?_
  exact ⟨rfl, (r4.tr r5).up (by omega) (by omega)⟩
theorem kAskF_1 (K : KK) (s : Nat) (mm kd tm : Int32) {f i j : Nat} (h : ¬ f = 32) : ∀ n q, (kAskF s mm kd tm n q K).1 f i j = K.1 f i j := by
  intro n
  induction n generalizing K with
  | zero => intro q; rfl
  | succ n ih =>
    intro q
    unfold kAskF
    split
    · rw [ih, kSend_1 _ _ h]
    · exact ih _ _
theorem c_205 {X : XS} {o s : Nat} (h2 : 2 ≤ o) (h4 : o < 4) (hs : s < 7) {n : Nat} (hk : sOk (xK X o) s) (hB : kA (xK X o) s + ((xK X o).2.1 s).length + 1 < 400000) (hR : rOkR X o) (hap : aPr X o) (hn : ((xK X o).2.1 s).length + 1 ≤ n) : RU 205 [some (.ref (bB o)), some (.int (Int32.ofNat s))] X none (fun Z => rRel o n (kStandN (xK X o) s) (kStandN (xK X o) s * 7) X Z (kStandA (xK X o) s)) := by
  refine AT.aload_n M_205 rfl rfl ?_
  refine AT.r10_3 M_205 rfl h2 h4 ?_
  refine AT.iload_n M_205 rfl rfl ?_
  refine AT.dup2 M_205 rfl ?_
  refine AT.ra_5 M_205 rfl rfl h2 h4 (by assumption) ?_
  refine AT.iconst M_205 rfl (v := 1) (by decide) ?_
  refine AT.iadd M_205 rfl rfl ?_
  refine AT.rs_5 M_205 rfl rfl h2 h4 (by assumption) ?_
  try simp only [xK_same, xSetK_idem, xD_setK]
  refine AT.aload_n M_205 rfl rfl ?_
  refine AT.r10_5 M_205 rfl h2 h4 ?_
  refine AT.iload_n M_205 rfl rfl ?_
  refine AT.iconst M_205 rfl (v := 2) (by decide) ?_
  refine AT.rs_12 M_205 rfl rfl h2 h4 (by assumption) ?_
  try simp only [xK_same, xSetK_idem, xD_setK]
  refine AT.aload_n M_205 rfl rfl ?_
  refine AT.r10_6 M_205 rfl h2 h4 ?_
  refine AT.iload_n M_205 rfl rfl ?_
  refine AT.iconst M_205 rfl (v := (-1)) (by decide) ?_
  refine AT.rs_13 M_205 rfl rfl h2 h4 (by assumption) ?_
  try simp only [xK_same, xSetK_idem, xD_setK]
  refine AT.aload_n M_205 rfl rfl ?_
  refine AT.r10_7 M_205 rfl h2 h4 ?_
  refine AT.iload_n M_205 rfl rfl ?_
  refine AT.iconst M_205 rfl (v := 0) (by decide) ?_
  refine AT.rs_14 M_205 rfl rfl h2 h4 (by assumption) ?_
  try simp only [xK_same, xSetK_idem, xD_setK]
  refine AT.aload_n M_205 rfl rfl ?_
  refine AT.r10_4 M_205 rfl h2 h4 ?_
  refine AT.iload_n M_205 rfl rfl ?_
  refine AT.iload_n M_205 rfl rfl ?_
  refine AT.rs_6 M_205 rfl rfl h2 h4 (by assumption) ?_
  try simp only [xK_same, xSetK_idem, xD_setK]
  refine AT.aload_n M_205 rfl rfl ?_
  refine AT.r10_11 M_205 rfl h2 h4 ?_
  refine AT.iload_n M_205 rfl rfl ?_
  refine AT.iconst M_205 rfl (v := 1) (by decide) ?_
  refine AT.iload_n M_205 rfl rfl ?_
  refine AT.ishl M_205 rfl rfl ?_
  refine AT.rs_16 M_205 rfl rfl h2 h4 (by assumption) ?_
  try simp only [xK_same, xSetK_idem, xD_setK]
  rw [kStand_e hs]
  have hSt : ∀ i, sSame (xK X o) (kStand (xK X o) s) i := fun i => sSame.stand _ _ _
  have eM : sMem (kStand (xK X o) s) s = sMem (xK X o) s := (hSt s).mem
  have r1 : rRel o n 0 0 X (xSetK X o (kStand (xK X o) s)) (kStand (xK X o) s) := rRel.set hap (fun i hi => kStand_1 (by omega))
  have q1 : sOk (xK (xSetK X o (kStand (xK X o) s)) o) s := by rw [xK_same]; exact (hSt s).okS hk (kStand_1 (by omega))
  refine AT.aload_n M_205 rfl rfl ?_
  refine AT.iload_n M_205 rfl rfl ?_
  refine AT.aload_n M_205 rfl rfl ?_
  refine AT.r10_11 M_205 rfl h2 h4 ?_
  refine AT.iload_n M_205 rfl rfl ?_
  refine AT.ra_16 M_205 rfl rfl h2 h4 (by assumption) ?_
  refine AT.cv3i M_205 rfl M_198 rfl (Nat.le_of_ble_eq_true rfl) (xKd.of (sh_st h2 h4)) (by decide) (c_198 h2 h4 hs q1.wf q1.m128) ?_ (Nat.le_of_ble_eq_true rfl) rfl
  try simp only [xK_same, xSetK_idem, xD_setK, xK_setD, xD_setD, xSetD_setK, xSetD_idem, kSet_1, kSet_2, kRow_1, kRow_2, kLog_1, kLog_2, kLog_l, kLog_idem, List.take_zero, if_true]
  rw [eM]
  refine AT.if_eq M_205 rfl (fun b42 => ?_) (fun b42 => ?_)
  · refine AT.aload_n M_205 rfl rfl ?_
    refine AT.iload_n M_205 rfl rfl ?_
    refine AT.iconst M_205 rfl (v := 3) (by decide) ?_
    refine AT.aload_n M_205 rfl rfl ?_
    refine AT.r10_3 M_205 rfl h2 h4 ?_
    refine AT.iload_n M_205 rfl rfl ?_
    refine AT.ra_5 M_205 rfl rfl h2 h4 (by assumption) ?_
    refine AT.cv4w M_205 rfl M_203 rfl (Nat.le_of_ble_eq_true rfl) (xKd.of (sh_st h2 h4)) (by decide) (c_203 (m := n) h2 h4 hs (Or.inr rfl) q1.wf) (fun Y hc54 => ?_) (Nat.le_of_ble_eq_true rfl) rfl
    obtain ⟨r2, k2⟩ := hc54
    rw [xK_same, eM] at r2
    try simp only [xK_same, xSetK_idem, xD_setK, xK_setD, xD_setD, xSetD_setK, xSetD_idem, kSet_1, kSet_2, kRow_1, kRow_2, kLog_1, kLog_2, kLog_l, kLog_idem, List.take_zero, if_true]
    refine AT.vret M_205 rfl rfl ?_
    have hc : ¬ sMost (sMem (xK X o) s) ((kStand (xK X o) s).1 16 s 0) = true := fun z => by rw [z] at b42; exact absurd b42 (by decide)
    rw [show kStandA (xK X o) s = _ from if_neg hc, show kStandN (xK X o) s = 0 from if_neg hc]
    have r3 := (r1.1.tr r2).sm (show rSm o X _ from k2) hap (fun i hi => (kAskF_1 _ _ _ _ _ (by omega) _ _).trans (kStand_1 (by omega)))
    exact ⟨rfl, r3.up (by omega) (by omega)⟩
  · refine AT.aload_n M_205 rfl rfl ?_
    refine AT.iload_n M_205 rfl rfl ?_
    refine AT.cv2w M_205 rfl M_206 rfl (Nat.le_of_ble_eq_true rfl) (xKd.of (sh_st h2 h4)) (by decide) (c_206 (n := n) h2 h4 hs q1 (by rw [xK_same, (hSt s).1, (hSt s).ka]; exact hB) hR r1.2.2 (by rw [xK_same, (hSt s).1]; exact hn)) (fun Y hc45 => ?_) (Nat.le_of_ble_eq_true rfl) rfl
    have r2 := hc45
    rw [xK_same] at r2
    try simp only [xK_same, xSetK_idem, xD_setK, xK_setD, xD_setD, xSetD_setK, xSetD_idem, kSet_1, kSet_2, kRow_1, kRow_2, kLog_1, kLog_2, kLog_l, kLog_idem, List.take_zero, if_true]
    refine AT.goto M_205 rfl ?_
    refine AT.vret M_205 rfl rfl ?_
    have hc : sMost (sMem (xK X o) s) ((kStand (xK X o) s).1 16 s 0) = true := bI_ne0.mp b42
    rw [show kStandA (xK X o) s = kLeadA (kStand (xK X o) s) s from if_pos hc, show kStandN (xK X o) s = 1 from if_pos hc]
    exact ⟨rfl, (r1.tr r2).up (by omega) (by omega)⟩
theorem c_204 {X : XS} {o s : Nat} (h2 : 2 ≤ o) (h4 : o < 4) (hs : s < 7) {n : Nat} (hk : sOk (xK X o) s) (hB : kA (xK X o) s + ((xK X o).2.1 s).length + 1 < 400000) (hR : rOkR X o) (hap : aPr X o) (hn : ((xK X o).2.1 s).length + 1 ≤ n) : RU 204 [some (.ref (bB o)), some (.int (Int32.ofNat s))] X none (fun Z => rRel o n (kSoundN (xK X o) s) (kSoundN (xK X o) s * 7) X Z (kSoundA (xK X o) s)) := by
  refine AT.aload_n M_204 rfl rfl ?_
  refine AT.r10_7 M_204 rfl h2 h4 ?_
  refine AT.iload_n M_204 rfl rfl ?_
  refine AT.iconst M_204 rfl (v := 0) (by decide) ?_
  refine AT.rs_14 M_204 rfl rfl h2 h4 (by assumption) ?_
  try simp only [xK_same, xSetK_idem, xD_setK]
  refine AT.aload_n M_204 rfl rfl ?_
  refine AT.r10_18 M_204 rfl h2 h4 ?_
  refine AT.iload_n M_204 rfl rfl ?_
  refine AT.ra_siz M_204 rfl rfl h2 h4 (by assumption) ?_
  refine AT.bipush M_204 rfl (v := 48) (by decide) ?_
  rw [xK_same]
  refine AT.icmp_lt M_204 rfl (fun b10 => ?_) (fun b10 => ?_)
  · refine AT.aload_n M_204 rfl rfl ?_
    refine AT.r10_5 M_204 rfl h2 h4 ?_
    refine AT.iload_n M_204 rfl rfl ?_
    refine AT.iconst M_204 rfl (v := 1) (by decide) ?_
    refine AT.rs_12 M_204 rfl rfl h2 h4 (by assumption) ?_
    try simp only [xK_same, xSetK_idem, xD_setK]
    refine AT.aload_n M_204 rfl rfl ?_
    refine AT.r10_6 M_204 rfl h2 h4 ?_
    refine AT.iload_n M_204 rfl rfl ?_
    refine AT.iconst M_204 rfl (v := (-1)) (by decide) ?_
    refine AT.rs_13 M_204 rfl rfl h2 h4 (by assumption) ?_
    try simp only [xK_same, xSetK_idem, xD_setK]
    refine AT.aload_n M_204 rfl rfl ?_
    refine AT.r10_11 M_204 rfl h2 h4 ?_
    refine AT.iload_n M_204 rfl rfl ?_
    refine AT.iconst M_204 rfl (v := 1) (by decide) ?_
    refine AT.iload_n M_204 rfl rfl ?_
    refine AT.ishl M_204 rfl rfl ?_
    refine AT.rs_16 M_204 rfl rfl h2 h4 (by assumption) ?_
    try simp only [xK_same, xSetK_idem, xD_setK]
    rw [kStart_e hs]
    have hSt : ∀ i, sSame (xK X o) (kStart (xK X o) s 1) i := fun i => sSame.start _ _ _ _
    have eM : sMem (kStart (xK X o) s 1) s = sMem (xK X o) s := (hSt s).mem
    have r1 : rRel o n 0 0 X (xSetK X o (kStart (xK X o) s 1)) (kStart (xK X o) s 1) := rRel.set hap (fun i hi => kStart_1 (by omega))
    have q1 : sOk (xK (xSetK X o (kStart (xK X o) s 1)) o) s := by rw [xK_same]; exact (hSt s).okS hk (kStart_1 (by omega))
    refine AT.aload_n M_204 rfl rfl ?_
    refine AT.iload_n M_204 rfl rfl ?_
    refine AT.aload_n M_204 rfl rfl ?_
    refine AT.r10_11 M_204 rfl h2 h4 ?_
    refine AT.iload_n M_204 rfl rfl ?_
    refine AT.ra_16 M_204 rfl rfl h2 h4 (by assumption) ?_
    refine AT.cv3i M_204 rfl M_198 rfl (Nat.le_of_ble_eq_true rfl) (xKd.of (sh_st h2 h4)) (by decide) (c_198 h2 h4 hs q1.wf q1.m128) ?_ (Nat.le_of_ble_eq_true rfl) rfl
    try simp only [xK_same, xSetK_idem, xD_setK, xK_setD, xD_setD, xSetD_setK, xSetD_idem, kSet_1, kSet_2, kRow_1, kRow_2, kLog_1, kLog_2, kLog_l, kLog_idem, List.take_zero, if_true]
    rw [eM]
    refine AT.if_eq M_204 rfl (fun b36 => ?_) (fun b36 => ?_)
    · refine AT.aload_n M_204 rfl rfl ?_
      refine AT.iload_n M_204 rfl rfl ?_
      refine AT.iconst M_204 rfl (v := 1) (by decide) ?_
      refine AT.aload_n M_204 rfl rfl ?_
      refine AT.r10_3 M_204 rfl h2 h4 ?_
      refine AT.iload_n M_204 rfl rfl ?_
      refine AT.ra_5 M_204 rfl rfl h2 h4 (by assumption) ?_
      refine AT.iconst M_204 rfl (v := 1) (by decide) ?_
      refine AT.iadd M_204 rfl rfl ?_
      refine AT.cv4w M_204 rfl M_203 rfl (Nat.le_of_ble_eq_true rfl) (xKd.of (sh_st h2 h4)) (by decide) (c_203 (m := n) h2 h4 hs (Or.inl rfl) q1.wf) (fun Y hc50 => ?_) (Nat.le_of_ble_eq_true rfl) rfl
      obtain ⟨r2, k2⟩ := hc50
      rw [xK_same, eM] at r2
      try simp only [xK_same, xSetK_idem, xD_setK, xK_setD, xD_setD, xSetD_setK, xSetD_idem, kSet_1, kSet_2, kRow_1, kRow_2, kLog_1, kLog_2, kLog_l, kLog_idem, List.take_zero, if_true]
      refine AT.vret M_204 rfl rfl ?_
      have hc : ¬ sMost (sMem (xK X o) s) ((kStart (xK X o) s 1).1 16 s 0) = true := fun z => by rw [z] at b36; exact absurd b36 (by decide)
      rw [show kSoundA (xK X o) s = _ from (if_pos b10).trans (if_neg hc), show kSoundN (xK X o) s = 0 from (if_pos b10).trans (if_neg hc)]
      have r3 := (r1.1.tr r2).sm (show rSm o X _ from k2) hap (fun i hi => (kAskF_1 _ _ _ _ _ (by omega) _ _).trans (kStart_1 (by omega)))
      exact ⟨rfl, r3.up (by omega) (by omega)⟩
    · refine AT.aload_n M_204 rfl rfl ?_
      refine AT.iload_n M_204 rfl rfl ?_
      refine AT.cv2w M_204 rfl M_205 rfl (Nat.le_of_ble_eq_true rfl) (xKd.of (sh_st h2 h4)) (by decide) (c_205 (n := n) h2 h4 hs q1 (by rw [xK_same, (hSt s).1, (hSt s).ka]; exact hB) hR r1.2.2 (by rw [xK_same, (hSt s).1]; exact hn)) (fun Y hc39 => ?_) (Nat.le_of_ble_eq_true rfl) rfl
      have r2 := hc39
      rw [xK_same] at r2
      try simp only [xK_same, xSetK_idem, xD_setK, xK_setD, xD_setD, xSetD_setK, xSetD_idem, kSet_1, kSet_2, kRow_1, kRow_2, kLog_1, kLog_2, kLog_l, kLog_idem, List.take_zero, if_true]
      refine AT.goto M_204 rfl ?_
      refine AT.vret M_204 rfl rfl ?_
      have hc : sMost (sMem (xK X o) s) ((kStart (xK X o) s 1).1 16 s 0) = true := bI_ne0.mp b36
      rw [show kSoundA (xK X o) s = kStandA (kStart (xK X o) s 1) s from (if_pos b10).trans (if_pos hc), show kSoundN (xK X o) s = kStandN (kStart (xK X o) s 1) s from (if_pos b10).trans (if_pos hc)]
      exact ⟨rfl, (r1.tr r2).up (by omega) (by omega)⟩
  · refine AT.vret M_204 rfl rfl ?_
    rw [show kSoundA (xK X o) s = kSet (xK X o) 14 s 0 0 from if_neg b10, show kSoundN (xK X o) s = 0 from if_neg b10]
    exact ⟨rfl, rRel.set hap (fun i hi => kSet_ne (by omega))⟩
