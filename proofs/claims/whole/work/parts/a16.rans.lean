/-! ===== THE REFERENCE: answers come ===== -/
theorem t_216 {X : XS} {o s : Nat} (h2 : 2 ≤ o) (h4 : o < 4) (hs : s < 7) {f m : Nat} {w : MSG} (hf7 : f < 7) (h12 : (xK X o).1 12 s 0 = 3) (h4t : w.1 4 = (xK X o).1 5 s 0) (h5 : ¬ w.1 5 = 0) (hap : aPr X o) (hk : sOk (xK X o) s) (hA2 : kNx (kLearn (xK X o) s f (w.1 6)) s f) (r2 : rRel o m 0 0 X (xSetK X o (kLearn (xK X o) s f (w.1 6))) (kLearn (xK X o) s f (w.1 6))) : AT 216 60 [some (.ref (bB o)), some (.int (Int32.ofNat s)), some (.int (Int32.ofNat f)), some (.int (w.1 4)), some (.int (w.1 6)), some (.int (w.1 5))] [] (xSetK X o (kLearn (xK X o) s f (w.1 6))) (fun o' Z => o' = .inl none ∧ rRel o m 0 0 X Z (kOnAns (xK X o) s f w)) := by
  have ok1 : sOk (xK (xSetK X o (kLearn (xK X o) s f (w.1 6))) o) s := by rw [xK_same]; exact (sSame.learn _ _ _ _ _).okS hk (kLearn_1 (by omega))
  refine AT.aload_n M_216 rfl rfl ?_
  refine AT.iload_n M_216 rfl rfl ?_
  refine AT.cv2w M_216 rfl M_207 rfl (Nat.le_of_ble_eq_true rfl) (xKd.of (sh_st h2 h4)) (by decide) (c_207 (m := m) (X := xSetK X o (kLearn (xK X o) s f (w.1 6))) h2 h4 hs ok1 r2.2.2) (fun Y hc62 => ?_) (Nat.le_of_ble_eq_true rfl) rfl
  have r3 := hc62
  rw [xK_same] at r3
  have e9 : xK Y o = (kLk (kLearn (xK X o) s f (w.1 6)) s) := r3.k
  have hw2 : kWf (xK Y o) s := by
    rw [e9]
    rw [xK_same] at ok1
    exact kWf_congr ok1.wf ((sSame.lk _ _ _).2 0 (by omega)) (sSame.lk _ _ _).1
  have hnx : kNx (xK Y o) s f := by
    rw [e9]
    exact kNx_congr (kLk_1 (by omega)) (kLk_1 (by omega)) (sSame.lk _ _ _).1 hA2
  try simp only [xK_same, xSetK_idem, xD_setK, xK_setD, xD_setD, xSetD_setK, xSetD_idem, kSet_1, kSet_2, kRow_1, kRow_2, kLog_1, kLog_2, kLog_l, kLog_idem, List.take_zero, if_true]
  refine AT.aload_n M_216 rfl rfl ?_
  refine AT.r10_5 M_216 rfl h2 h4 ?_
  refine AT.iload_n M_216 rfl rfl ?_
  refine AT.ra_12 M_216 rfl rfl h2 h4 (by assumption) ?_
  refine AT.iconst M_216 rfl (v := 3) (by decide) ?_
  refine AT.icmp_ne M_216 rfl (fun b68 => ?_) (fun b68 => ?_)
  · refine AT.vret M_216 rfl rfl ?_
    rw [show kOnAns (xK X o) s f w = (kLk (kLearn (xK X o) s f (w.1 6)) s) from (if_pos ⟨h12, h4t⟩).trans ((if_neg h5).trans (if_neg (fun z => b68 (by rw [e9]; exact z.1))))]
    exact ⟨rfl, r2.tr r3⟩
  · refine AT.aload_n M_216 rfl rfl ?_
    refine AT.r10_20 M_216 rfl h2 h4 ?_
    refine AT.iload_n M_216 rfl rfl ?_
    refine AT.rr_nxt M_216 rfl rfl h2 h4 (by assumption) ?_
    refine AT.iload_n M_216 rfl rfl ?_
    refine AT.ra_nxt M_216 rfl rfl h2 h4 (by assumption) (by assumption) ?_
    refine AT.aload_n M_216 rfl rfl ?_
    refine AT.iload_n M_216 rfl rfl ?_
    refine AT.cv2i M_216 rfl M_187 rfl (Nat.le_of_ble_eq_true rfl) (xKd.of (sh_st h2 h4)) (by decide) (c_187 (X := Y) h2 h4 hs) ?_ (Nat.le_of_ble_eq_true rfl) rfl
    try simp only [xK_same, xSetK_idem, xD_setK, xK_setD, xD_setD, xSetD_setK, xSetD_idem, kSet_1, kSet_2, kRow_1, kRow_2, kLog_1, kLog_2, kLog_l, kLog_idem, List.take_zero, if_true]
    refine AT.icmp_gt M_216 rfl (fun b78 => ?_) (fun b78 => ?_)
    · refine AT.vret M_216 rfl rfl ?_
      rw [show kOnAns (xK X o) s f w = (kLk (kLearn (xK X o) s f (w.1 6)) s) from (if_pos ⟨h12, h4t⟩).trans ((if_neg h5).trans (if_neg (fun z => absurd b78 (by rw [e9]; exact Int32.not_lt.mpr z.2))))]
      exact ⟨rfl, r2.tr r3⟩
    · refine AT.aload_n M_216 rfl rfl ?_
      refine AT.iload_n M_216 rfl rfl ?_
      refine AT.iload_n M_216 rfl rfl ?_
      refine AT.cv3w M_216 rfl M_201 rfl (Nat.le_of_ble_eq_true rfl) (xKd.of (sh_st h2 h4)) (by decide) (c_201 (n := m) h2 h4 hs hf7 hw2 hnx) (fun ZZ hc82 => ?_) (Nat.le_of_ble_eq_true rfl) rfl
      obtain ⟨r4, k4⟩ := hc82
      have r5 := r4.sm k4 r3.2.2 (fun i hi => kSend_1 _ _ (by omega))
      try simp only [xK_same, xSetK_idem, xD_setK, xK_setD, xD_setD, xSetD_setK, xSetD_idem, kSet_1, kSet_2, kRow_1, kRow_2, kLog_1, kLog_2, kLog_l, kLog_idem, List.take_zero, if_true]
      refine AT.vret M_216 rfl rfl ?_
      rw [show kOnAns (xK X o) s f w = kSend (xK Y o) (mLog (xK Y o) s f) from (if_pos ⟨h12, h4t⟩).trans ((if_neg h5).trans ((if_pos (by rw [← e9]; exact ⟨Classical.not_not.mp b68, Int32.not_lt.mp b78⟩)).trans (by rw [e9])))]
      exact ⟨rfl, (r2.tr r3).tr r5⟩
theorem c_216 {X : XS} {o s : Nat} (h2 : 2 ≤ o) (h4 : o < 4) (hs : s < 7) {f m : Nat} {w : MSG} (hf7 : f < 7) (hap : aPr X o) (hk : sOk (xK X o) s) (hA : (xK X o).1 12 s 0 = 3 → w.1 4 = (xK X o).1 5 s 0 → (w.1 5 = 0 → kNx (kSet (xK X o) 2 s f (kMax (w.1 6) ((xK X o).1 3 s f) + 1)) s f) ∧ (¬ w.1 5 = 0 → kNx (kLearn (xK X o) s f (w.1 6)) s f)) : RU 216 [some (.ref (bB o)), some (.int (Int32.ofNat s)), some (.int (Int32.ofNat f)), some (.int (w.1 4)), some (.int (w.1 6)), some (.int (w.1 5))] X none (fun Z => rRel o m 0 0 X Z (kOnAns (xK X o) s f w)) := by
  refine AT.aload_n M_216 rfl rfl ?_
  refine AT.r10_5 M_216 rfl h2 h4 ?_
  refine AT.iload_n M_216 rfl rfl ?_
  refine AT.ra_12 M_216 rfl rfl h2 h4 (by assumption) ?_
  refine AT.iconst M_216 rfl (v := 3) (by decide) ?_
  refine AT.icmp_ne M_216 rfl (fun b5 => ?_) (fun b5 => ?_)
  · refine AT.vret M_216 rfl rfl ?_
    rw [show kOnAns (xK X o) s f w = xK X o from if_neg (fun z => b5 z.1)]
    exact ⟨rfl, rRel.rf m hap⟩
  · refine AT.iload_n M_216 rfl rfl ?_
    refine AT.aload_n M_216 rfl rfl ?_
    refine AT.r10_3 M_216 rfl h2 h4 ?_
    refine AT.iload_n M_216 rfl rfl ?_
    refine AT.ra_5 M_216 rfl rfl h2 h4 (by assumption) ?_
    refine AT.icmp_eq M_216 rfl (fun b11 => ?_) (fun b11 => ?_)
    · refine AT.iload M_216 rfl rfl ?_
      have h12 := Classical.not_not.mp b5
      have h4t := b11
      refine AT.if_ne M_216 rfl (fun b14 => ?_) (fun b14 => ?_)
      · have h5 := b14
        refine AT.iload M_216 rfl rfl ?_
        refine AT.aload_n M_216 rfl rfl ?_
        refine AT.r10_21 M_216 rfl h2 h4 ?_
        refine AT.iload_n M_216 rfl rfl ?_
        refine AT.rr_mat M_216 rfl rfl h2 h4 (by assumption) ?_
        refine AT.iload_n M_216 rfl rfl ?_
        refine AT.ra_mat M_216 rfl rfl h2 h4 (by assumption) (by assumption) ?_
        refine AT.icmp_le M_216 rfl (fun b43 => ?_) (fun b43 => ?_)
        · have eL : (kLearn (xK X o) s f (w.1 6)) = xK X o := if_pos b43
          have r2 : rRel o m 0 0 X (xSetK X o (kLearn (xK X o) s f (w.1 6))) (kLearn (xK X o) s f (w.1 6)) := rRel.set hap (fun i hi => kLearn_1 (by omega))
          have e0 : X = xSetK X o (kLearn (xK X o) s f (w.1 6)) := by rw [eL]; exact (xSetK_self _ _).symm
          refine (congrArg (fun z => AT 216 60 _ [] z _) e0).mpr ?_
          exact t_216 h2 h4 hs hf7 h12 h4t h5 hap hk ((hA h12 h4t).2 h5) r2
        · refine AT.aload_n M_216 rfl rfl ?_
          refine AT.r10_21 M_216 rfl h2 h4 ?_
          refine AT.iload_n M_216 rfl rfl ?_
          refine AT.rr_mat M_216 rfl rfl h2 h4 (by assumption) ?_
          refine AT.iload_n M_216 rfl rfl ?_
          refine AT.iload M_216 rfl rfl ?_
          refine AT.rs_mat M_216 rfl rfl h2 h4 (by assumption) (by assumption) ?_
          try simp only [xK_same, xSetK_idem, xD_setK]
          refine AT.aload_n M_216 rfl rfl ?_
          refine AT.r10_20 M_216 rfl h2 h4 ?_
          refine AT.iload_n M_216 rfl rfl ?_
          refine AT.rr_nxt M_216 rfl rfl h2 h4 (by assumption) ?_
          refine AT.iload_n M_216 rfl rfl ?_
          refine AT.iload M_216 rfl rfl ?_
          refine AT.iconst M_216 rfl (v := 1) (by decide) ?_
          refine AT.iadd M_216 rfl rfl ?_
          refine AT.rs_nxt M_216 rfl rfl h2 h4 (by assumption) (by assumption) ?_
          try simp only [xK_same, xSetK_idem, xD_setK]
          have eL : (kLearn (xK X o) s f (w.1 6)) = kSet (kSet (xK X o) 3 s f (w.1 6)) 2 s f (w.1 6 + 1) := if_neg b43
          have r2 : rRel o m 0 0 X (xSetK X o (kLearn (xK X o) s f (w.1 6))) (kLearn (xK X o) s f (w.1 6)) := rRel.set hap (fun i hi => kLearn_1 (by omega))
          rw [← eL]
          exact t_216 h2 h4 hs hf7 h12 h4t h5 hap hk ((hA h12 h4t).2 h5) r2
      · refine AT.aload_n M_216 rfl rfl ?_
        refine AT.r10_20 M_216 rfl h2 h4 ?_
        refine AT.iload_n M_216 rfl rfl ?_
        refine AT.rr_nxt M_216 rfl rfl h2 h4 (by assumption) ?_
        refine AT.iload_n M_216 rfl rfl ?_
        refine AT.iload M_216 rfl rfl ?_
        refine AT.aload_n M_216 rfl rfl ?_
        refine AT.r10_21 M_216 rfl h2 h4 ?_
        refine AT.iload_n M_216 rfl rfl ?_
        refine AT.rr_mat M_216 rfl rfl h2 h4 (by assumption) ?_
        refine AT.iload_n M_216 rfl rfl ?_
        refine AT.ra_mat M_216 rfl rfl h2 h4 (by assumption) (by assumption) ?_
        refine AT.max M_216 rfl rfl (Nat.le_of_ble_eq_true rfl) rfl ?_
        refine AT.iconst M_216 rfl (v := 1) (by decide) ?_
        refine AT.iadd M_216 rfl rfl ?_
        refine AT.rs_nxt M_216 rfl rfl h2 h4 (by assumption) (by assumption) ?_
        try simp only [xK_same, xSetK_idem, xD_setK]
        rw [show (if w.1 6 < (xK X o).1 3 s f then (xK X o).1 3 s f else w.1 6) = kMax (w.1 6) ((xK X o).1 3 s f) from rfl]
        refine AT.aload_n M_216 rfl rfl ?_
        refine AT.iload_n M_216 rfl rfl ?_
        refine AT.iload_n M_216 rfl rfl ?_
        refine AT.cv3w M_216 rfl M_201 rfl (Nat.le_of_ble_eq_true rfl) (xKd.of (sh_st h2 h4)) (by decide) (c_201 (n := m) (X := xSetK X o (kSet (xK X o) 2 s f (kMax (w.1 6) ((xK X o).1 3 s f) + 1))) h2 h4 hs hf7 (by rw [xK_same]; exact kWf_congr hk.wf (kSet_ne (by omega)) rfl) (by rw [xK_same]; exact (hA h12 h4t).1 (Classical.not_not.mp b14))) (fun Y hc34 => ?_) (Nat.le_of_ble_eq_true rfl) rfl
        obtain ⟨r1, k1⟩ := hc34
        rw [xK_same] at r1
        have r2 : rRel o m 0 0 X (xSetK X o (kSet (xK X o) 2 s f (kMax (w.1 6) ((xK X o).1 3 s f) + 1))) (kSet (xK X o) 2 s f (kMax (w.1 6) ((xK X o).1 3 s f) + 1)) := rRel.set hap (fun i hi => kSet_ne (by omega))
        have r3 := r1.sm k1 r2.2.2 (fun i hi => by rw [xK_same]; exact kSend_1 _ _ (by omega))
        try simp only [xK_same, xSetK_idem, xD_setK, xK_setD, xD_setD, xSetD_setK, xSetD_idem, kSet_1, kSet_2, kRow_1, kRow_2, kLog_1, kLog_2, kLog_l, kLog_idem, List.take_zero, if_true]
        refine AT.vret M_216 rfl rfl ?_
        rw [show kOnAns (xK X o) s f w = kSend (kSet (xK X o) 2 s f (kMax (w.1 6) ((xK X o).1 3 s f) + 1)) (mLog (kSet (xK X o) 2 s f (kMax (w.1 6) ((xK X o).1 3 s f) + 1)) s f) from (if_pos ⟨h12, h4t⟩).trans (if_pos (Classical.not_not.mp b14))]
        exact ⟨rfl, r2.tr r3⟩
    · refine AT.vret M_216 rfl rfl ?_
      rw [show kOnAns (xK X o) s f w = xK X o from if_neg (fun z => b11 z.2)]
      exact ⟨rfl, rRel.rf m hap⟩
