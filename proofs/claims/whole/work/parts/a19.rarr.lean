/-! ===== THE REFERENCE: a message is carried out ===== -/
theorem g_212_1 {X : XS} {o s : Nat} (h2 : 2 ≤ o) (h4 : o < 4) (hs : s < 7) {f m : Nat} {w : MSG} {z7 : Int32} (hk : sOk (xK X o) s) (hB : kA (xK X o) s + ((xK X o).2.1 s).length + 1 < 400000) (hR : rOkR X o) (hap : aPr X o) (hn : ((xK X o).2.1 s).length + 1 ≤ m) (hM : m ≤ 399980) (w3 : w.1 3 = Int32.ofNat s) (w2 : w.1 2 = Int32.ofNat f) (hf7 : f < 7) (h1 : w.1 1 = 1) : AT 212 46 [some (.ref (bB o)), some (.int (Int32.ofNat s)), some (.int (w.1 2)), some (.int (w.1 4)), some (.int (w.1 6)), some (.int (w.1 7)), some (.int 1), some (.int z7), none, none] [] X (fun o' Z => o' = .inl none ∧ rRel o m (kGoN (xK X o) s w) (kGoN (xK X o) s w * 7) X Z (kGo (xK X o) s f w)) := by
  refine AT.iload M_212 rfl rfl ?_
  refine AT.sw (h0 := 48) M_212 rfl rfl rfl (by decide +kernel) ?_
  refine AT.iload_n M_212 rfl rfl ?_
  refine AT.aload_n M_212 rfl rfl ?_
  refine AT.r10_3 M_212 rfl h2 h4 ?_
  refine AT.iload_n M_212 rfl rfl ?_
  refine AT.ra_5 M_212 rfl rfl h2 h4 (by assumption) ?_
  refine AT.icmp_le M_212 rfl (fun b53 => ?_) (fun b53 => ?_)
  · refine AT.iconst M_212 rfl (v := 0) (by decide) ?_
    refine AT.ist8 M_212 rfl rfl ?_
    refine AT.aload_n M_212 rfl rfl ?_
    refine AT.iconst M_212 rfl (v := 2) (by decide) ?_
    refine AT.iload_n M_212 rfl rfl ?_
    refine AT.iload_n M_212 rfl rfl ?_
    refine AT.iload M_212 rfl rfl ?_
    refine AT.if_eq M_212 rfl (fun b87 => ?_) (fun b87 => absurd (by decide) b87)
    refine AT.aload_n M_212 rfl rfl ?_
    refine AT.r10_3 M_212 rfl h2 h4 ?_
    refine AT.iload_n M_212 rfl rfl ?_
    refine AT.ra_5 M_212 rfl rfl h2 h4 (by assumption) ?_
    refine AT.iload M_212 rfl rfl ?_
    refine AT.if_eq M_212 rfl (fun b95 => ?_) (fun b95 => absurd (by decide) b95)
    refine AT.iconst M_212 rfl (v := 0) (by decide) ?_
    refine AT.iconst M_212 rfl (v := 0) (by decide) ?_
    refine AT.cv7u M_212 rfl M_200 rfl (Nat.le_of_ble_eq_true rfl) (xKd.of (sh_st h2 h4)) (by decide) (c_200 (n := m) (u := (mRep w 2 ((xK X o).1 5 s 0) 0 0)) h2 h4 (fun k hk => by rw [mRep_row2 w (Or.inl rfl) _ _ hk, w3])) (fun Y hc100 => ?_) (Nat.le_of_ble_eq_true rfl) rfl
    obtain ⟨r2, k2⟩ := hc100
    have r3 := r2.sm k2 hap (fun i hi => kSend_1 _ _ (by omega))
    refine AT.popi M_212 rfl ?_
    refine AT.goto M_212 rfl ?_
    refine AT.vret M_212 rfl rfl ?_
    have hS : sSnd (xK X o) s w = false := by
      unfold sSnd
      simp [b53]
    have hG : kGo (xK X o) s f w = kSend (xK X o) (mRep w 2 ((xK X o).1 5 s 0) 0 0) := (if_pos h1).trans (by unfold kOnSnd; rw [hS]; rfl)
    have hN : kGoN (xK X o) s w = 0 := if_pos h1
    rw [hG, hN]
    exact ⟨rfl, r3.up (by omega) (by omega)⟩
  · refine AT.aload_n M_212 rfl rfl ?_
    refine AT.iload M_212 rfl rfl ?_
    refine AT.iload M_212 rfl rfl ?_
    refine AT.iload_n M_212 rfl rfl ?_
    refine AT.cv4i M_212 rfl M_199 rfl (Nat.le_of_ble_eq_true rfl) (xKd.of (sh_st h2 h4)) (by decide) (c_199 h2 h4 hs hk.wf) ?_ (Nat.le_of_ble_eq_true rfl) rfl
    refine AT.if_eq M_212 rfl (fun b59 => ?_) (fun b59 => ?_)
    · refine AT.iconst M_212 rfl (v := 0) (by decide) ?_
      refine AT.ist8 M_212 rfl rfl ?_
      refine AT.aload_n M_212 rfl rfl ?_
      refine AT.iconst M_212 rfl (v := 2) (by decide) ?_
      refine AT.iload_n M_212 rfl rfl ?_
      refine AT.iload_n M_212 rfl rfl ?_
      refine AT.iload M_212 rfl rfl ?_
      refine AT.if_eq M_212 rfl (fun b87 => ?_) (fun b87 => absurd (by decide) b87)
      refine AT.aload_n M_212 rfl rfl ?_
      refine AT.r10_3 M_212 rfl h2 h4 ?_
      refine AT.iload_n M_212 rfl rfl ?_
      refine AT.ra_5 M_212 rfl rfl h2 h4 (by assumption) ?_
      refine AT.iload M_212 rfl rfl ?_
      refine AT.if_eq M_212 rfl (fun b95 => ?_) (fun b95 => absurd (by decide) b95)
      refine AT.iconst M_212 rfl (v := 0) (by decide) ?_
      refine AT.iconst M_212 rfl (v := 0) (by decide) ?_
      refine AT.cv7u M_212 rfl M_200 rfl (Nat.le_of_ble_eq_true rfl) (xKd.of (sh_st h2 h4)) (by decide) (c_200 (n := m) (u := (mRep w 2 ((xK X o).1 5 s 0) 0 0)) h2 h4 (fun k hk => by rw [mRep_row2 w (Or.inl rfl) _ _ hk, w3])) (fun Y hc100 => ?_) (Nat.le_of_ble_eq_true rfl) rfl
      obtain ⟨r2, k2⟩ := hc100
      have r3 := r2.sm k2 hap (fun i hi => kSend_1 _ _ (by omega))
      refine AT.popi M_212 rfl ?_
      refine AT.goto M_212 rfl ?_
      refine AT.vret M_212 rfl rfl ?_
      have hg : sGood (xK X o) s (w.1 7) (w.1 6) = false := bI_eq0.mp b59
      have hS : sSnd (xK X o) s w = false := by
        unfold sSnd
        simp [b53, hg]
      have hG : kGo (xK X o) s f w = kSend (xK X o) (mRep w 2 ((xK X o).1 5 s 0) 0 0) := (if_pos h1).trans (by unfold kOnSnd; rw [hS]; rfl)
      have hN : kGoN (xK X o) s w = 0 := if_pos h1
      rw [hG, hN]
      exact ⟨rfl, r3.up (by omega) (by omega)⟩
    · refine AT.aload_n M_212 rfl rfl ?_
      refine AT.r10_5 M_212 rfl h2 h4 ?_
      refine AT.iload_n M_212 rfl rfl ?_
      refine AT.ra_12 M_212 rfl rfl h2 h4 (by assumption) ?_
      refine AT.iconst M_212 rfl (v := 3) (by decide) ?_
      refine AT.icmp_eq M_212 rfl (fun b65 => ?_) (fun b65 => ?_)
      · refine AT.iconst M_212 rfl (v := 0) (by decide) ?_
        refine AT.ist8 M_212 rfl rfl ?_
        refine AT.aload_n M_212 rfl rfl ?_
        refine AT.iconst M_212 rfl (v := 2) (by decide) ?_
        refine AT.iload_n M_212 rfl rfl ?_
        refine AT.iload_n M_212 rfl rfl ?_
        refine AT.iload M_212 rfl rfl ?_
        refine AT.if_eq M_212 rfl (fun b87 => ?_) (fun b87 => absurd (by decide) b87)
        refine AT.aload_n M_212 rfl rfl ?_
        refine AT.r10_3 M_212 rfl h2 h4 ?_
        refine AT.iload_n M_212 rfl rfl ?_
        refine AT.ra_5 M_212 rfl rfl h2 h4 (by assumption) ?_
        refine AT.iload M_212 rfl rfl ?_
        refine AT.if_eq M_212 rfl (fun b95 => ?_) (fun b95 => absurd (by decide) b95)
        refine AT.iconst M_212 rfl (v := 0) (by decide) ?_
        refine AT.iconst M_212 rfl (v := 0) (by decide) ?_
        refine AT.cv7u M_212 rfl M_200 rfl (Nat.le_of_ble_eq_true rfl) (xKd.of (sh_st h2 h4)) (by decide) (c_200 (n := m) (u := (mRep w 2 ((xK X o).1 5 s 0) 0 0)) h2 h4 (fun k hk => by rw [mRep_row2 w (Or.inl rfl) _ _ hk, w3])) (fun Y hc100 => ?_) (Nat.le_of_ble_eq_true rfl) rfl
        obtain ⟨r2, k2⟩ := hc100
        have r3 := r2.sm k2 hap (fun i hi => kSend_1 _ _ (by omega))
        refine AT.popi M_212 rfl ?_
        refine AT.goto M_212 rfl ?_
        refine AT.vret M_212 rfl rfl ?_
        have hg : sGood (xK X o) s (w.1 7) (w.1 6) = true := bI_ne0.mp b59
        have hS : sSnd (xK X o) s w = false := by
          unfold sSnd
          simp [b53, hg, b65]
        have hG : kGo (xK X o) s f w = kSend (xK X o) (mRep w 2 ((xK X o).1 5 s 0) 0 0) := (if_pos h1).trans (by unfold kOnSnd; rw [hS]; rfl)
        have hN : kGoN (xK X o) s w = 0 := if_pos h1
        rw [hG, hN]
        exact ⟨rfl, r3.up (by omega) (by omega)⟩
      · refine AT.aload_n M_212 rfl rfl ?_
        refine AT.r10_6 M_212 rfl h2 h4 ?_
        refine AT.iload_n M_212 rfl rfl ?_
        refine AT.ra_13 M_212 rfl rfl h2 h4 (by assumption) ?_
        refine AT.iconst M_212 rfl (v := (-1)) (by decide) ?_
        refine AT.icmp_eq M_212 rfl (fun b71 => ?_) (fun b71 => ?_)
        · refine AT.iconst M_212 rfl (v := 1) (by decide) ?_
          refine AT.goto M_212 rfl ?_
          refine AT.ist8 M_212 rfl rfl ?_
          refine AT.aload_n M_212 rfl rfl ?_
          refine AT.iconst M_212 rfl (v := 2) (by decide) ?_
          refine AT.iload_n M_212 rfl rfl ?_
          refine AT.iload_n M_212 rfl rfl ?_
          refine AT.iload M_212 rfl rfl ?_
          refine AT.if_eq M_212 rfl (fun b87 => absurd b87 (by decide)) (fun b87 => ?_)
          refine AT.iload_n M_212 rfl rfl ?_
          refine AT.goto M_212 rfl ?_
          refine AT.iload M_212 rfl rfl ?_
          refine AT.if_eq M_212 rfl (fun b95 => absurd b95 (by decide)) (fun b95 => ?_)
          refine AT.iconst M_212 rfl (v := 1) (by decide) ?_
          refine AT.goto M_212 rfl ?_
          refine AT.iconst M_212 rfl (v := 0) (by decide) ?_
          refine AT.cv7u M_212 rfl M_200 rfl (Nat.le_of_ble_eq_true rfl) (xKd.of (sh_st h2 h4)) (by decide) (c_200 (n := m) (u := (mRep w 2 (w.1 4) 1 0)) h2 h4 (fun k hk => by rw [mRep_row2 w (Or.inl rfl) _ _ hk, w3])) (fun Y hc100 => ?_) (Nat.le_of_ble_eq_true rfl) rfl
          obtain ⟨r2, k2⟩ := hc100
          have r3 := r2.sm k2 hap (fun i hi => kSend_1 _ _ (by omega))
          refine AT.popi M_212 rfl ?_
          refine AT.goto M_212 rfl ?_
          refine AT.vret M_212 rfl rfl ?_
          have hg : sGood (xK X o) s (w.1 7) (w.1 6) = true := bI_ne0.mp b59
          have hS : sSnd (xK X o) s w = true := by
            unfold sSnd
            simp [b53, hg, b65, b71]
          have hG : kGo (xK X o) s f w = kSend (xK X o) (mRep w 2 (w.1 4) 1 0) := (if_pos h1).trans (by unfold kOnSnd; rw [hS]; rfl)
          have hN : kGoN (xK X o) s w = 0 := if_pos h1
          rw [hG, hN]
          exact ⟨rfl, r3.up (by omega) (by omega)⟩
        · refine AT.aload_n M_212 rfl rfl ?_
          refine AT.r10_7 M_212 rfl h2 h4 ?_
          refine AT.iload_n M_212 rfl rfl ?_
          refine AT.ra_14 M_212 rfl rfl h2 h4 (by assumption) ?_
          refine AT.iconst M_212 rfl (v := 4) (by decide) ?_
          refine AT.icmp_lt M_212 rfl (fun b77 => ?_) (fun b77 => ?_)
          · refine AT.iconst M_212 rfl (v := 0) (by decide) ?_
            refine AT.ist8 M_212 rfl rfl ?_
            refine AT.aload_n M_212 rfl rfl ?_
            refine AT.iconst M_212 rfl (v := 2) (by decide) ?_
            refine AT.iload_n M_212 rfl rfl ?_
            refine AT.iload_n M_212 rfl rfl ?_
            refine AT.iload M_212 rfl rfl ?_
            refine AT.if_eq M_212 rfl (fun b87 => ?_) (fun b87 => absurd (by decide) b87)
            refine AT.aload_n M_212 rfl rfl ?_
            refine AT.r10_3 M_212 rfl h2 h4 ?_
            refine AT.iload_n M_212 rfl rfl ?_
            refine AT.ra_5 M_212 rfl rfl h2 h4 (by assumption) ?_
            refine AT.iload M_212 rfl rfl ?_
            refine AT.if_eq M_212 rfl (fun b95 => ?_) (fun b95 => absurd (by decide) b95)
            refine AT.iconst M_212 rfl (v := 0) (by decide) ?_
            refine AT.iconst M_212 rfl (v := 0) (by decide) ?_
            refine AT.cv7u M_212 rfl M_200 rfl (Nat.le_of_ble_eq_true rfl) (xKd.of (sh_st h2 h4)) (by decide) (c_200 (n := m) (u := (mRep w 2 ((xK X o).1 5 s 0) 0 0)) h2 h4 (fun k hk => by rw [mRep_row2 w (Or.inl rfl) _ _ hk, w3])) (fun Y hc100 => ?_) (Nat.le_of_ble_eq_true rfl) rfl
            obtain ⟨r2, k2⟩ := hc100
            have r3 := r2.sm k2 hap (fun i hi => kSend_1 _ _ (by omega))
            refine AT.popi M_212 rfl ?_
            refine AT.goto M_212 rfl ?_
            refine AT.vret M_212 rfl rfl ?_
            have hg : sGood (xK X o) s (w.1 7) (w.1 6) = true := bI_ne0.mp b59
            have hS : sSnd (xK X o) s w = false := by
              unfold sSnd
              simp [b53, hg, b65, b71, b77]
            have hG : kGo (xK X o) s f w = kSend (xK X o) (mRep w 2 ((xK X o).1 5 s 0) 0 0) := (if_pos h1).trans (by unfold kOnSnd; rw [hS]; rfl)
            have hN : kGoN (xK X o) s w = 0 := if_pos h1
            rw [hG, hN]
            exact ⟨rfl, r3.up (by omega) (by omega)⟩
          · refine AT.iconst M_212 rfl (v := 1) (by decide) ?_
            refine AT.goto M_212 rfl ?_
            refine AT.ist8 M_212 rfl rfl ?_
            refine AT.aload_n M_212 rfl rfl ?_
            refine AT.iconst M_212 rfl (v := 2) (by decide) ?_
            refine AT.iload_n M_212 rfl rfl ?_
            refine AT.iload_n M_212 rfl rfl ?_
            refine AT.iload M_212 rfl rfl ?_
            refine AT.if_eq M_212 rfl (fun b87 => absurd b87 (by decide)) (fun b87 => ?_)
            refine AT.iload_n M_212 rfl rfl ?_
            refine AT.goto M_212 rfl ?_
            refine AT.iload M_212 rfl rfl ?_
            refine AT.if_eq M_212 rfl (fun b95 => absurd b95 (by decide)) (fun b95 => ?_)
            refine AT.iconst M_212 rfl (v := 1) (by decide) ?_
            refine AT.goto M_212 rfl ?_
            refine AT.iconst M_212 rfl (v := 0) (by decide) ?_
            refine AT.cv7u M_212 rfl M_200 rfl (Nat.le_of_ble_eq_true rfl) (xKd.of (sh_st h2 h4)) (by decide) (c_200 (n := m) (u := (mRep w 2 (w.1 4) 1 0)) h2 h4 (fun k hk => by rw [mRep_row2 w (Or.inl rfl) _ _ hk, w3])) (fun Y hc100 => ?_) (Nat.le_of_ble_eq_true rfl) rfl
            obtain ⟨r2, k2⟩ := hc100
            have r3 := r2.sm k2 hap (fun i hi => kSend_1 _ _ (by omega))
            refine AT.popi M_212 rfl ?_
            refine AT.goto M_212 rfl ?_
            refine AT.vret M_212 rfl rfl ?_
            have hg : sGood (xK X o) s (w.1 7) (w.1 6) = true := bI_ne0.mp b59
            have hS : sSnd (xK X o) s w = true := by
              unfold sSnd
              simp [b53, hg, b65, b71, b77]
            have hG : kGo (xK X o) s f w = kSend (xK X o) (mRep w 2 (w.1 4) 1 0) := (if_pos h1).trans (by unfold kOnSnd; rw [hS]; rfl)
            have hN : kGoN (xK X o) s w = 0 := if_pos h1
            rw [hG, hN]
            exact ⟨rfl, r3.up (by omega) (by omega)⟩
theorem g_212_2 {X : XS} {o s : Nat} (h2 : 2 ≤ o) (h4 : o < 4) (hs : s < 7) {f m : Nat} {w : MSG} {z7 : Int32} (hk : sOk (xK X o) s) (hB : kA (xK X o) s + ((xK X o).2.1 s).length + 1 < 400000) (hR : rOkR X o) (hap : aPr X o) (hn : ((xK X o).2.1 s).length + 1 ≤ m) (hM : m ≤ 399980) (w3 : w.1 3 = Int32.ofNat s) (w2 : w.1 2 = Int32.ofNat f) (hf7 : f < 7) (h1 : w.1 1 = 2) : AT 212 46 [some (.ref (bB o)), some (.int (Int32.ofNat s)), some (.int (w.1 2)), some (.int (w.1 4)), some (.int (w.1 5)), some (.int (w.1 7)), some (.int 2), some (.int z7), none, none] [] X (fun o' Z => o' = .inl none ∧ rRel o m (kGoN (xK X o) s w) (kGoN (xK X o) s w * 7) X Z (kGo (xK X o) s f w)) := by
  refine AT.iload M_212 rfl rfl ?_
  refine AT.sw (h0 := 103) M_212 rfl rfl rfl (by decide +kernel) ?_
  refine AT.iload M_212 rfl rfl ?_
  refine AT.if_eq M_212 rfl (fun b104 => ?_) (fun b104 => ?_)
  · refine AT.vret M_212 rfl rfl ?_
    have hG : kGo (xK X o) s f w = kOnYes (xK X o) s w 1 ((xK X o).1 5 s 0 + 1) 2 := (if_neg (by rw [h1]; decide)).trans (if_pos h1)
    have hN : kGoN (xK X o) s w = kOnYesN (xK X o) s w 1 ((xK X o).1 5 s 0 + 1) 2 := (if_neg (by rw [h1]; decide)).trans (if_pos h1)
    rw [hG, hN]
    have hY : sYes (xK X o) s w 1 ((xK X o).1 5 s 0 + 1) = false := by
      unfold sYes
      simp [b104]
    rw [show kOnYes (xK X o) s w 1 ((xK X o).1 5 s 0 + 1) 2 = xK X o from if_neg (by rw [hY]; decide), show kOnYesN (xK X o) s w 1 ((xK X o).1 5 s 0 + 1) 2 = 0 from if_neg (by rw [hY]; decide)]
    exact ⟨rfl, (rRel.rf m hap).up (by omega) (by omega)⟩
  · refine AT.aload_n M_212 rfl rfl ?_
    refine AT.r10_5 M_212 rfl h2 h4 ?_
    refine AT.iload_n M_212 rfl rfl ?_
    refine AT.ra_12 M_212 rfl rfl h2 h4 (by assumption) ?_
    refine AT.iconst M_212 rfl (v := 1) (by decide) ?_
    refine AT.icmp_ne M_212 rfl (fun b110 => ?_) (fun b110 => ?_)
    · refine AT.vret M_212 rfl rfl ?_
      have hG : kGo (xK X o) s f w = kOnYes (xK X o) s w 1 ((xK X o).1 5 s 0 + 1) 2 := (if_neg (by rw [h1]; decide)).trans (if_pos h1)
      have hN : kGoN (xK X o) s w = kOnYesN (xK X o) s w 1 ((xK X o).1 5 s 0 + 1) 2 := (if_neg (by rw [h1]; decide)).trans (if_pos h1)
      rw [hG, hN]
      have hY : sYes (xK X o) s w 1 ((xK X o).1 5 s 0 + 1) = false := by
        unfold sYes
        simp [b104, b110]
      rw [show kOnYes (xK X o) s w 1 ((xK X o).1 5 s 0 + 1) 2 = xK X o from if_neg (by rw [hY]; decide), show kOnYesN (xK X o) s w 1 ((xK X o).1 5 s 0 + 1) 2 = 0 from if_neg (by rw [hY]; decide)]
      exact ⟨rfl, (rRel.rf m hap).up (by omega) (by omega)⟩
    · refine AT.iload_n M_212 rfl rfl ?_
      refine AT.aload_n M_212 rfl rfl ?_
      refine AT.r10_3 M_212 rfl h2 h4 ?_
      refine AT.iload_n M_212 rfl rfl ?_
      refine AT.ra_5 M_212 rfl rfl h2 h4 (by assumption) ?_
      refine AT.iconst M_212 rfl (v := 1) (by decide) ?_
      refine AT.iadd M_212 rfl rfl ?_
      refine AT.icmp_eq M_212 rfl (fun b118 => ?_) (fun b118 => ?_)
      · refine AT.aload_n M_212 rfl rfl ?_
        refine AT.r10_11 M_212 rfl h2 h4 ?_
        refine AT.iload_n M_212 rfl rfl ?_
        refine AT.dup2 M_212 rfl ?_
        refine AT.ra_16 M_212 rfl rfl h2 h4 (by assumption) ?_
        refine AT.iconst M_212 rfl (v := 1) (by decide) ?_
        refine AT.iload_n M_212 rfl rfl ?_
        refine AT.ishl M_212 rfl rfl ?_
        refine AT.ior M_212 rfl rfl ?_
        refine AT.rs_16 M_212 rfl rfl h2 h4 (by assumption) ?_
        try simp only [xK_same, xSetK_idem, xD_setK]
        rw [show kSet (xK X o) 16 s 0 ((xK X o).1 16 s 0 ||| ((1 : Int32) <<< (w.1 2 &&& 31))) = (kYes (xK X o) s w) from rfl]
        have hSt : ∀ i, sSame (xK X o) (kYes (xK X o) s w) i := fun i => sSame.set (by omega) i
        have q1 : rRel o m 0 0 X (xSetK X o (kYes (xK X o) s w)) (kYes (xK X o) s w) := rRel.set hap (fun i hi => kSet_ne (by omega))
        have ok1 : sOk (xK (xSetK X o (kYes (xK X o) s w)) o) s := by rw [xK_same]; exact (hSt s).okS hk (kSet_ne (by omega))
        have eM : sMem (kYes (xK X o) s w) s = sMem (xK X o) s := (hSt s).mem
        refine AT.aload_n M_212 rfl rfl ?_
        refine AT.iload_n M_212 rfl rfl ?_
        refine AT.aload_n M_212 rfl rfl ?_
        refine AT.r10_11 M_212 rfl h2 h4 ?_
        refine AT.iload_n M_212 rfl rfl ?_
        refine AT.ra_16 M_212 rfl rfl h2 h4 (by assumption) ?_
        refine AT.cv3i M_212 rfl M_198 rfl (Nat.le_of_ble_eq_true rfl) (xKd.of (sh_st h2 h4)) (by decide) (c_198 (X := (xSetK X o (kYes (xK X o) s w))) h2 h4 hs ok1.wf ok1.m128) ?_ (Nat.le_of_ble_eq_true rfl) rfl
        try simp only [xK_same, xSetK_idem, xD_setK, xK_setD, xD_setD, xSetD_setK, xSetD_idem, kSet_1, kSet_2, kRow_1, kRow_2, kLog_1, kLog_2, kLog_l, kLog_idem, List.take_zero, if_true]
        try simp only [xK_same]
        rw [eM]
        refine AT.if_eq M_212 rfl (fun b137 => ?_) (fun b137 => ?_)
        · refine AT.vret M_212 rfl rfl ?_
          have hG : kGo (xK X o) s f w = kOnYes (xK X o) s w 1 ((xK X o).1 5 s 0 + 1) 2 := (if_neg (by rw [h1]; decide)).trans (if_pos h1)
          have hN : kGoN (xK X o) s w = kOnYesN (xK X o) s w 1 ((xK X o).1 5 s 0 + 1) 2 := (if_neg (by rw [h1]; decide)).trans (if_pos h1)
          rw [hG, hN]
          have hY : sYes (xK X o) s w 1 ((xK X o).1 5 s 0 + 1) = true := by
            unfold sYes
            have b9 := Classical.not_not.mp b110
            simp [b104, b9, b118]
          have hm : ¬ sMost (sMem (xK X o) s) ((kYes (xK X o) s w).1 16 s 0) = true := by rw [bI_eq0.mp b137]; decide
          rw [show kOnYes (xK X o) s w 1 ((xK X o).1 5 s 0 + 1) 2 = (kYes (xK X o) s w) from (if_pos hY).trans (if_neg hm), show kOnYesN (xK X o) s w 1 ((xK X o).1 5 s 0 + 1) 2 = 0 from (if_pos hY).trans (if_neg hm)]
          exact ⟨rfl, q1.up (by omega) (by omega)⟩
        · refine AT.aload_n M_212 rfl rfl ?_
          refine AT.iload_n M_212 rfl rfl ?_
          refine AT.cv2w M_212 rfl M_205 rfl (Nat.le_of_ble_eq_true rfl) (xKd.of (sh_st h2 h4)) (by decide) (c_205 (n := m) (X := (xSetK X o (kYes (xK X o) s w))) h2 h4 hs ok1 (by rw [xK_same, (hSt s).1, (hSt s).ka]; exact hB) hR q1.2.2 (by rw [xK_same, (hSt s).1]; exact hn)) (fun Y hc140 => ?_) (Nat.le_of_ble_eq_true rfl) rfl
          have r2 := hc140
          rw [xK_same] at r2
          try simp only [xK_same, xSetK_idem, xD_setK, xK_setD, xD_setD, xSetD_setK, xSetD_idem, kSet_1, kSet_2, kRow_1, kRow_2, kLog_1, kLog_2, kLog_l, kLog_idem, List.take_zero, if_true]
          refine AT.goto M_212 rfl ?_
          refine AT.vret M_212 rfl rfl ?_
          have hG : kGo (xK X o) s f w = kOnYes (xK X o) s w 1 ((xK X o).1 5 s 0 + 1) 2 := (if_neg (by rw [h1]; decide)).trans (if_pos h1)
          have hN : kGoN (xK X o) s w = kOnYesN (xK X o) s w 1 ((xK X o).1 5 s 0 + 1) 2 := (if_neg (by rw [h1]; decide)).trans (if_pos h1)
          rw [hG, hN]
          have hY : sYes (xK X o) s w 1 ((xK X o).1 5 s 0 + 1) = true := by
            unfold sYes
            have b9 := Classical.not_not.mp b110
            simp [b104, b9, b118]
          have hm : sMost (sMem (xK X o) s) ((kYes (xK X o) s w).1 16 s 0) = true := bI_ne0.mp b137
          rw [show kOnYes (xK X o) s w 1 ((xK X o).1 5 s 0 + 1) 2 = kStandA (kYes (xK X o) s w) s from (if_pos hY).trans ((if_pos hm).trans ((if_neg (by decide)).trans (if_pos rfl))), show kOnYesN (xK X o) s w 1 ((xK X o).1 5 s 0 + 1) 2 = kStandN (kYes (xK X o) s w) s from (if_pos hY).trans ((if_pos hm).trans (kRiseN_2 _ _))]
          exact ⟨rfl, (q1.tr r2).up (by omega) (by omega)⟩
      · refine AT.goto M_212 rfl ?_
        refine AT.vret M_212 rfl rfl ?_
        have hG : kGo (xK X o) s f w = kOnYes (xK X o) s w 1 ((xK X o).1 5 s 0 + 1) 2 := (if_neg (by rw [h1]; decide)).trans (if_pos h1)
        have hN : kGoN (xK X o) s w = kOnYesN (xK X o) s w 1 ((xK X o).1 5 s 0 + 1) 2 := (if_neg (by rw [h1]; decide)).trans (if_pos h1)
        rw [hG, hN]
        have hY : sYes (xK X o) s w 1 ((xK X o).1 5 s 0 + 1) = false := by
          unfold sYes
          simp [b104, b110, b118]
        rw [show kOnYes (xK X o) s w 1 ((xK X o).1 5 s 0 + 1) 2 = xK X o from if_neg (by rw [hY]; decide), show kOnYesN (xK X o) s w 1 ((xK X o).1 5 s 0 + 1) 2 = 0 from if_neg (by rw [hY]; decide)]
        exact ⟨rfl, (rRel.rf m hap).up (by omega) (by omega)⟩
theorem g_212_3 {X : XS} {o s : Nat} (h2 : 2 ≤ o) (h4 : o < 4) (hs : s < 7) {f m : Nat} {w : MSG} {z7 : Int32} (hk : sOk (xK X o) s) (hB : kA (xK X o) s + ((xK X o).2.1 s).length + 1 < 400000) (hR : rOkR X o) (hap : aPr X o) (hn : ((xK X o).2.1 s).length + 1 ≤ m) (hM : m ≤ 399980) (w3 : w.1 3 = Int32.ofNat s) (w2 : w.1 2 = Int32.ofNat f) (hf7 : f < 7) (h1 : w.1 1 = 3) : AT 212 46 [some (.ref (bB o)), some (.int (Int32.ofNat s)), some (.int (w.1 2)), some (.int (w.1 4)), some (.int (w.1 6)), some (.int (w.1 7)), some (.int 3), some (.int z7), none, none] [] X (fun o' Z => o' = .inl none ∧ rRel o m (kGoN (xK X o) s w) (kGoN (xK X o) s w * 7) X Z (kGo (xK X o) s f w)) := by
  refine AT.iload M_212 rfl rfl ?_
  refine AT.sw (h0 := 142) M_212 rfl rfl rfl (by decide +kernel) ?_
  refine AT.iload_n M_212 rfl rfl ?_
  refine AT.aload_n M_212 rfl rfl ?_
  refine AT.r10_3 M_212 rfl h2 h4 ?_
  refine AT.iload_n M_212 rfl rfl ?_
  refine AT.ra_5 M_212 rfl rfl h2 h4 (by assumption) ?_
  refine AT.icmp_ne M_212 rfl (fun b147 => ?_) (fun b147 => ?_)
  · refine AT.iconst M_212 rfl (v := 0) (by decide) ?_
    refine AT.ist9 M_212 rfl rfl ?_
    refine AT.iload M_212 rfl rfl ?_
    refine AT.if_eq M_212 rfl (fun b171 => ?_) (fun b171 => absurd (by decide) b171)
    refine AT.aload_n M_212 rfl rfl ?_
    refine AT.iconst M_212 rfl (v := 4) (by decide) ?_
    refine AT.iload_n M_212 rfl rfl ?_
    refine AT.iload_n M_212 rfl rfl ?_
    refine AT.aload_n M_212 rfl rfl ?_
    refine AT.r10_3 M_212 rfl h2 h4 ?_
    refine AT.iload_n M_212 rfl rfl ?_
    refine AT.ra_5 M_212 rfl rfl h2 h4 (by assumption) ?_
    refine AT.iload M_212 rfl rfl ?_
    refine AT.if_eq M_212 rfl (fun b191 => ?_) (fun b191 => absurd (by decide) b191)
    refine AT.iconst M_212 rfl (v := 0) (by decide) ?_
    refine AT.iconst M_212 rfl (v := 0) (by decide) ?_
    refine AT.cv7u M_212 rfl M_200 rfl (Nat.le_of_ble_eq_true rfl) (xKd.of (sh_st h2 h4)) (by decide) (c_200 (n := m) (u := (mRep w 4 ((xK X o).1 5 s 0) 0 0)) h2 h4 (fun k hk => by rw [mRep_row2 w (Or.inr rfl) _ _ hk, w3])) (fun Y hc196 => ?_) (Nat.le_of_ble_eq_true rfl) rfl
    obtain ⟨r2, k2⟩ := hc196
    have r3 := r2.sm k2 hap (fun i hi => kSend_1 _ _ (by omega))
    try simp only [xK_same, xSetK_idem, xD_setK, xK_setD, xD_setD, xSetD_setK, xSetD_idem, kSet_1, kSet_2, kRow_1, kRow_2, kLog_1, kLog_2, kLog_l, kLog_idem, List.take_zero, if_true]
    refine AT.popi M_212 rfl ?_
    refine AT.goto M_212 rfl ?_
    refine AT.vret M_212 rfl rfl ?_
    have hS : sGrant (xK X o) s w = false := by
      unfold sGrant
      simp [b147]
    have hKG : kGrant (xK X o) s w = xK X o := if_neg (by rw [hS]; decide)
    have hG : kGo (xK X o) s f w = kSend (xK X o) (mRep w 4 ((xK X o).1 5 s 0) 0 0) := (if_neg (by rw [h1]; decide)).trans ((if_neg (by rw [h1]; decide)).trans ((if_pos h1).trans (by unfold kOnCal; rw [hKG, hS]; rfl)))
    have hN : kGoN (xK X o) s w = 0 := (if_neg (by rw [h1]; decide)).trans ((if_neg (by rw [h1]; decide)).trans (if_pos h1))
    rw [hG, hN]
    exact ⟨rfl, (r3).up (by omega) (by omega)⟩
  · refine AT.aload_n M_212 rfl rfl ?_
    refine AT.r10_4 M_212 rfl h2 h4 ?_
    refine AT.iload_n M_212 rfl rfl ?_
    refine AT.ra_6 M_212 rfl rfl h2 h4 (by assumption) ?_
    refine AT.iconst M_212 rfl (v := (-1)) (by decide) ?_
    refine AT.icmp_eq M_212 rfl (fun b153 => ?_) (fun b153 => ?_)
    · refine AT.aload_n M_212 rfl rfl ?_
      refine AT.iload M_212 rfl rfl ?_
      refine AT.iload M_212 rfl rfl ?_
      refine AT.iload_n M_212 rfl rfl ?_
      refine AT.cv4i M_212 rfl M_199 rfl (Nat.le_of_ble_eq_true rfl) (xKd.of (sh_st h2 h4)) (by decide) (c_199 h2 h4 hs hk.wf) ?_ (Nat.le_of_ble_eq_true rfl) rfl
      try simp only [xK_same, xSetK_idem, xD_setK, xK_setD, xD_setD, xSetD_setK, xSetD_idem, kSet_1, kSet_2, kRow_1, kRow_2, kLog_1, kLog_2, kLog_l, kLog_idem, List.take_zero, if_true]
      refine AT.if_eq M_212 rfl (fun b165 => ?_) (fun b165 => ?_)
      · refine AT.iconst M_212 rfl (v := 0) (by decide) ?_
        refine AT.ist9 M_212 rfl rfl ?_
        refine AT.iload M_212 rfl rfl ?_
        refine AT.if_eq M_212 rfl (fun b171 => ?_) (fun b171 => absurd (by decide) b171)
        refine AT.aload_n M_212 rfl rfl ?_
        refine AT.iconst M_212 rfl (v := 4) (by decide) ?_
        refine AT.iload_n M_212 rfl rfl ?_
        refine AT.iload_n M_212 rfl rfl ?_
        refine AT.aload_n M_212 rfl rfl ?_
        refine AT.r10_3 M_212 rfl h2 h4 ?_
        refine AT.iload_n M_212 rfl rfl ?_
        refine AT.ra_5 M_212 rfl rfl h2 h4 (by assumption) ?_
        refine AT.iload M_212 rfl rfl ?_
        refine AT.if_eq M_212 rfl (fun b191 => ?_) (fun b191 => absurd (by decide) b191)
        refine AT.iconst M_212 rfl (v := 0) (by decide) ?_
        refine AT.iconst M_212 rfl (v := 0) (by decide) ?_
        refine AT.cv7u M_212 rfl M_200 rfl (Nat.le_of_ble_eq_true rfl) (xKd.of (sh_st h2 h4)) (by decide) (c_200 (n := m) (u := (mRep w 4 ((xK X o).1 5 s 0) 0 0)) h2 h4 (fun k hk => by rw [mRep_row2 w (Or.inr rfl) _ _ hk, w3])) (fun Y hc196 => ?_) (Nat.le_of_ble_eq_true rfl) rfl
        obtain ⟨r2, k2⟩ := hc196
        have r3 := r2.sm k2 hap (fun i hi => kSend_1 _ _ (by omega))
        try simp only [xK_same, xSetK_idem, xD_setK, xK_setD, xD_setD, xSetD_setK, xSetD_idem, kSet_1, kSet_2, kRow_1, kRow_2, kLog_1, kLog_2, kLog_l, kLog_idem, List.take_zero, if_true]
        refine AT.popi M_212 rfl ?_
        refine AT.goto M_212 rfl ?_
        refine AT.vret M_212 rfl rfl ?_
        have b9 := Classical.not_not.mp b147
        have hg : sGood (xK X o) s (w.1 7) (w.1 6) = false := bI_eq0.mp b165
        have hS : sGrant (xK X o) s w = false := by
          unfold sGrant
          simp [b9, b153, hg]
        have hKG : kGrant (xK X o) s w = xK X o := if_neg (by rw [hS]; decide)
        have hG : kGo (xK X o) s f w = kSend (xK X o) (mRep w 4 ((xK X o).1 5 s 0) 0 0) := (if_neg (by rw [h1]; decide)).trans ((if_neg (by rw [h1]; decide)).trans ((if_pos h1).trans (by unfold kOnCal; rw [hKG, hS]; rfl)))
        have hN : kGoN (xK X o) s w = 0 := (if_neg (by rw [h1]; decide)).trans ((if_neg (by rw [h1]; decide)).trans (if_pos h1))
        rw [hG, hN]
        exact ⟨rfl, (r3).up (by omega) (by omega)⟩
      · refine AT.iconst M_212 rfl (v := 1) (by decide) ?_
        refine AT.goto M_212 rfl ?_
        refine AT.ist9 M_212 rfl rfl ?_
        refine AT.iload M_212 rfl rfl ?_
        refine AT.if_eq M_212 rfl (fun b171 => absurd b171 (by decide)) (fun b171 => ?_)
        refine AT.aload_n M_212 rfl rfl ?_
        refine AT.r10_4 M_212 rfl h2 h4 ?_
        refine AT.iload_n M_212 rfl rfl ?_
        refine AT.iload_n M_212 rfl rfl ?_
        refine AT.rs_6 M_212 rfl rfl h2 h4 (by assumption) ?_
        try simp only [xK_same, xSetK_idem, xD_setK]
        refine AT.aload_n M_212 rfl rfl ?_
        refine AT.r10_7 M_212 rfl h2 h4 ?_
        refine AT.iload_n M_212 rfl rfl ?_
        refine AT.iconst M_212 rfl (v := 0) (by decide) ?_
        refine AT.rs_14 M_212 rfl rfl h2 h4 (by assumption) ?_
        try simp only [xK_same, xSetK_idem, xD_setK]
        refine AT.aload_n M_212 rfl rfl ?_
        refine AT.iconst M_212 rfl (v := 4) (by decide) ?_
        refine AT.iload_n M_212 rfl rfl ?_
        refine AT.iload_n M_212 rfl rfl ?_
        refine AT.aload_n M_212 rfl rfl ?_
        refine AT.r10_3 M_212 rfl h2 h4 ?_
        refine AT.iload_n M_212 rfl rfl ?_
        refine AT.ra_5 M_212 rfl rfl h2 h4 (by assumption) ?_
        refine AT.iload M_212 rfl rfl ?_
        refine AT.if_eq M_212 rfl (fun b191 => absurd b191 (by decide)) (fun b191 => ?_)
        refine AT.iconst M_212 rfl (v := 1) (by decide) ?_
        refine AT.goto M_212 rfl ?_
        refine AT.iconst M_212 rfl (v := 0) (by decide) ?_
        refine AT.cv7u M_212 rfl M_200 rfl (Nat.le_of_ble_eq_true rfl) (xKd.of (sh_st h2 h4)) (by decide) (c_200 (n := m) (X := (xSetK X o (kSet (kSet (xK X o) 6 s 0 (w.1 2)) 14 s 0 0))) (u := (mRep w 4 ((xK X o).1 5 s 0) 1 0)) h2 h4 (fun k hk => by rw [mRep_row2 w (Or.inr rfl) _ _ hk, w3, xK_same]; rfl)) (fun Y hc196 => ?_) (Nat.le_of_ble_eq_true rfl) rfl
        obtain ⟨r2, k2⟩ := hc196
        have q1 : rRel o m 0 0 X (xSetK X o (kSet (kSet (xK X o) 6 s 0 (w.1 2)) 14 s 0 0)) (kSet (kSet (xK X o) 6 s 0 (w.1 2)) 14 s 0 0) := rRel.set hap (fun i hi => by rw [kSet_ne (by omega), kSet_ne (by omega)])
        have r3 := r2.sm k2 q1.2.2 (fun i hi => kSend_1 _ _ (by omega))
        rw [xK_same] at r3
        try simp only [xK_same, xSetK_idem, xD_setK, xK_setD, xD_setD, xSetD_setK, xSetD_idem, kSet_1, kSet_2, kRow_1, kRow_2, kLog_1, kLog_2, kLog_l, kLog_idem, List.take_zero, if_true]
        refine AT.popi M_212 rfl ?_
        refine AT.goto M_212 rfl ?_
        refine AT.vret M_212 rfl rfl ?_
        have b9 := Classical.not_not.mp b147
        have hg : sGood (xK X o) s (w.1 7) (w.1 6) = true := bI_ne0.mp b165
        have hS : sGrant (xK X o) s w = true := by
          unfold sGrant
          simp [b9, b153, hg]
        have hKG : kGrant (xK X o) s w = (kSet (kSet (xK X o) 6 s 0 (w.1 2)) 14 s 0 0) := if_pos hS
        have hG : kGo (xK X o) s f w = kSend (kSet (kSet (xK X o) 6 s 0 (w.1 2)) 14 s 0 0) (mRep w 4 ((xK X o).1 5 s 0) 1 0) := (if_neg (by rw [h1]; decide)).trans ((if_neg (by rw [h1]; decide)).trans ((if_pos h1).trans (by unfold kOnCal; rw [hKG, hS]; rfl)))
        have hN : kGoN (xK X o) s w = 0 := (if_neg (by rw [h1]; decide)).trans ((if_neg (by rw [h1]; decide)).trans (if_pos h1))
        rw [hG, hN]
        exact ⟨rfl, (q1.tr r3).up (by omega) (by omega)⟩
    · refine AT.aload_n M_212 rfl rfl ?_
      refine AT.r10_4 M_212 rfl h2 h4 ?_
      refine AT.iload_n M_212 rfl rfl ?_
      refine AT.ra_6 M_212 rfl rfl h2 h4 (by assumption) ?_
      refine AT.iload_n M_212 rfl rfl ?_
      refine AT.icmp_ne M_212 rfl (fun b159 => ?_) (fun b159 => ?_)
      · refine AT.iconst M_212 rfl (v := 0) (by decide) ?_
        refine AT.ist9 M_212 rfl rfl ?_
        refine AT.iload M_212 rfl rfl ?_
        refine AT.if_eq M_212 rfl (fun b171 => ?_) (fun b171 => absurd (by decide) b171)
        refine AT.aload_n M_212 rfl rfl ?_
        refine AT.iconst M_212 rfl (v := 4) (by decide) ?_
        refine AT.iload_n M_212 rfl rfl ?_
        refine AT.iload_n M_212 rfl rfl ?_
        refine AT.aload_n M_212 rfl rfl ?_
        refine AT.r10_3 M_212 rfl h2 h4 ?_
        refine AT.iload_n M_212 rfl rfl ?_
        refine AT.ra_5 M_212 rfl rfl h2 h4 (by assumption) ?_
        refine AT.iload M_212 rfl rfl ?_
        refine AT.if_eq M_212 rfl (fun b191 => ?_) (fun b191 => absurd (by decide) b191)
        refine AT.iconst M_212 rfl (v := 0) (by decide) ?_
        refine AT.iconst M_212 rfl (v := 0) (by decide) ?_
        refine AT.cv7u M_212 rfl M_200 rfl (Nat.le_of_ble_eq_true rfl) (xKd.of (sh_st h2 h4)) (by decide) (c_200 (n := m) (u := (mRep w 4 ((xK X o).1 5 s 0) 0 0)) h2 h4 (fun k hk => by rw [mRep_row2 w (Or.inr rfl) _ _ hk, w3])) (fun Y hc196 => ?_) (Nat.le_of_ble_eq_true rfl) rfl
        obtain ⟨r2, k2⟩ := hc196
        have r3 := r2.sm k2 hap (fun i hi => kSend_1 _ _ (by omega))
        try simp only [xK_same, xSetK_idem, xD_setK, xK_setD, xD_setD, xSetD_setK, xSetD_idem, kSet_1, kSet_2, kRow_1, kRow_2, kLog_1, kLog_2, kLog_l, kLog_idem, List.take_zero, if_true]
        refine AT.popi M_212 rfl ?_
        refine AT.goto M_212 rfl ?_
        refine AT.vret M_212 rfl rfl ?_
        have b9 := Classical.not_not.mp b147
        have hS : sGrant (xK X o) s w = false := by
          unfold sGrant
          simp [b9, b153, b159]
        have hKG : kGrant (xK X o) s w = xK X o := if_neg (by rw [hS]; decide)
        have hG : kGo (xK X o) s f w = kSend (xK X o) (mRep w 4 ((xK X o).1 5 s 0) 0 0) := (if_neg (by rw [h1]; decide)).trans ((if_neg (by rw [h1]; decide)).trans ((if_pos h1).trans (by unfold kOnCal; rw [hKG, hS]; rfl)))
        have hN : kGoN (xK X o) s w = 0 := (if_neg (by rw [h1]; decide)).trans ((if_neg (by rw [h1]; decide)).trans (if_pos h1))
        rw [hG, hN]
        exact ⟨rfl, (r3).up (by omega) (by omega)⟩
      · refine AT.aload_n M_212 rfl rfl ?_
        refine AT.iload M_212 rfl rfl ?_
        refine AT.iload M_212 rfl rfl ?_
        refine AT.iload_n M_212 rfl rfl ?_
        refine AT.cv4i M_212 rfl M_199 rfl (Nat.le_of_ble_eq_true rfl) (xKd.of (sh_st h2 h4)) (by decide) (c_199 h2 h4 hs hk.wf) ?_ (Nat.le_of_ble_eq_true rfl) rfl
        try simp only [xK_same, xSetK_idem, xD_setK, xK_setD, xD_setD, xSetD_setK, xSetD_idem, kSet_1, kSet_2, kRow_1, kRow_2, kLog_1, kLog_2, kLog_l, kLog_idem, List.take_zero, if_true]
        refine AT.if_eq M_212 rfl (fun b165 => ?_) (fun b165 => ?_)
        · refine AT.iconst M_212 rfl (v := 0) (by decide) ?_
          refine AT.ist9 M_212 rfl rfl ?_
          refine AT.iload M_212 rfl rfl ?_
          refine AT.if_eq M_212 rfl (fun b171 => ?_) (fun b171 => absurd (by decide) b171)
          refine AT.aload_n M_212 rfl rfl ?_
          refine AT.iconst M_212 rfl (v := 4) (by decide) ?_
          refine AT.iload_n M_212 rfl rfl ?_
          refine AT.iload_n M_212 rfl rfl ?_
          refine AT.aload_n M_212 rfl rfl ?_
          refine AT.r10_3 M_212 rfl h2 h4 ?_
          refine AT.iload_n M_212 rfl rfl ?_
          refine AT.ra_5 M_212 rfl rfl h2 h4 (by assumption) ?_
          refine AT.iload M_212 rfl rfl ?_
          refine AT.if_eq M_212 rfl (fun b191 => ?_) (fun b191 => absurd (by decide) b191)
          refine AT.iconst M_212 rfl (v := 0) (by decide) ?_
          refine AT.iconst M_212 rfl (v := 0) (by decide) ?_
          refine AT.cv7u M_212 rfl M_200 rfl (Nat.le_of_ble_eq_true rfl) (xKd.of (sh_st h2 h4)) (by decide) (c_200 (n := m) (u := (mRep w 4 ((xK X o).1 5 s 0) 0 0)) h2 h4 (fun k hk => by rw [mRep_row2 w (Or.inr rfl) _ _ hk, w3])) (fun Y hc196 => ?_) (Nat.le_of_ble_eq_true rfl) rfl
          obtain ⟨r2, k2⟩ := hc196
          have r3 := r2.sm k2 hap (fun i hi => kSend_1 _ _ (by omega))
          try simp only [xK_same, xSetK_idem, xD_setK, xK_setD, xD_setD, xSetD_setK, xSetD_idem, kSet_1, kSet_2, kRow_1, kRow_2, kLog_1, kLog_2, kLog_l, kLog_idem, List.take_zero, if_true]
          refine AT.popi M_212 rfl ?_
          refine AT.goto M_212 rfl ?_
          refine AT.vret M_212 rfl rfl ?_
          have b9 := Classical.not_not.mp b147
          have b8 := Classical.not_not.mp b159
          have hg : sGood (xK X o) s (w.1 7) (w.1 6) = false := bI_eq0.mp b165
          have hS : sGrant (xK X o) s w = false := by
            unfold sGrant
            simp [b9, b153, b8, hg]
          have hKG : kGrant (xK X o) s w = xK X o := if_neg (by rw [hS]; decide)
          have hG : kGo (xK X o) s f w = kSend (xK X o) (mRep w 4 ((xK X o).1 5 s 0) 0 0) := (if_neg (by rw [h1]; decide)).trans ((if_neg (by rw [h1]; decide)).trans ((if_pos h1).trans (by unfold kOnCal; rw [hKG, hS]; rfl)))
          have hN : kGoN (xK X o) s w = 0 := (if_neg (by rw [h1]; decide)).trans ((if_neg (by rw [h1]; decide)).trans (if_pos h1))
          rw [hG, hN]
          exact ⟨rfl, (r3).up (by omega) (by omega)⟩
        · refine AT.iconst M_212 rfl (v := 1) (by decide) ?_
          refine AT.goto M_212 rfl ?_
          refine AT.ist9 M_212 rfl rfl ?_
          refine AT.iload M_212 rfl rfl ?_
          refine AT.if_eq M_212 rfl (fun b171 => absurd b171 (by decide)) (fun b171 => ?_)
          refine AT.aload_n M_212 rfl rfl ?_
          refine AT.r10_4 M_212 rfl h2 h4 ?_
          refine AT.iload_n M_212 rfl rfl ?_
          refine AT.iload_n M_212 rfl rfl ?_
          refine AT.rs_6 M_212 rfl rfl h2 h4 (by assumption) ?_
          try simp only [xK_same, xSetK_idem, xD_setK]
          refine AT.aload_n M_212 rfl rfl ?_
          refine AT.r10_7 M_212 rfl h2 h4 ?_
          refine AT.iload_n M_212 rfl rfl ?_
          refine AT.iconst M_212 rfl (v := 0) (by decide) ?_
          refine AT.rs_14 M_212 rfl rfl h2 h4 (by assumption) ?_
          try simp only [xK_same, xSetK_idem, xD_setK]
          refine AT.aload_n M_212 rfl rfl ?_
          refine AT.iconst M_212 rfl (v := 4) (by decide) ?_
          refine AT.iload_n M_212 rfl rfl ?_
          refine AT.iload_n M_212 rfl rfl ?_
          refine AT.aload_n M_212 rfl rfl ?_
          refine AT.r10_3 M_212 rfl h2 h4 ?_
          refine AT.iload_n M_212 rfl rfl ?_
          refine AT.ra_5 M_212 rfl rfl h2 h4 (by assumption) ?_
          refine AT.iload M_212 rfl rfl ?_
          refine AT.if_eq M_212 rfl (fun b191 => absurd b191 (by decide)) (fun b191 => ?_)
          refine AT.iconst M_212 rfl (v := 1) (by decide) ?_
          refine AT.goto M_212 rfl ?_
          refine AT.iconst M_212 rfl (v := 0) (by decide) ?_
          refine AT.cv7u M_212 rfl M_200 rfl (Nat.le_of_ble_eq_true rfl) (xKd.of (sh_st h2 h4)) (by decide) (c_200 (n := m) (X := (xSetK X o (kSet (kSet (xK X o) 6 s 0 (w.1 2)) 14 s 0 0))) (u := (mRep w 4 ((xK X o).1 5 s 0) 1 0)) h2 h4 (fun k hk => by rw [mRep_row2 w (Or.inr rfl) _ _ hk, w3, xK_same]; rfl)) (fun Y hc196 => ?_) (Nat.le_of_ble_eq_true rfl) rfl
          obtain ⟨r2, k2⟩ := hc196
          have q1 : rRel o m 0 0 X (xSetK X o (kSet (kSet (xK X o) 6 s 0 (w.1 2)) 14 s 0 0)) (kSet (kSet (xK X o) 6 s 0 (w.1 2)) 14 s 0 0) := rRel.set hap (fun i hi => by rw [kSet_ne (by omega), kSet_ne (by omega)])
          have r3 := r2.sm k2 q1.2.2 (fun i hi => kSend_1 _ _ (by omega))
          rw [xK_same] at r3
          try simp only [xK_same, xSetK_idem, xD_setK, xK_setD, xD_setD, xSetD_setK, xSetD_idem, kSet_1, kSet_2, kRow_1, kRow_2, kLog_1, kLog_2, kLog_l, kLog_idem, List.take_zero, if_true]
          refine AT.popi M_212 rfl ?_
          refine AT.goto M_212 rfl ?_
          refine AT.vret M_212 rfl rfl ?_
          have b9 := Classical.not_not.mp b147
          have b8 := Classical.not_not.mp b159
          have hg : sGood (xK X o) s (w.1 7) (w.1 6) = true := bI_ne0.mp b165
          have hS : sGrant (xK X o) s w = true := by
            unfold sGrant
            simp [b9, b153, b8, hg]
          have hKG : kGrant (xK X o) s w = (kSet (kSet (xK X o) 6 s 0 (w.1 2)) 14 s 0 0) := if_pos hS
          have hG : kGo (xK X o) s f w = kSend (kSet (kSet (xK X o) 6 s 0 (w.1 2)) 14 s 0 0) (mRep w 4 ((xK X o).1 5 s 0) 1 0) := (if_neg (by rw [h1]; decide)).trans ((if_neg (by rw [h1]; decide)).trans ((if_pos h1).trans (by unfold kOnCal; rw [hKG, hS]; rfl)))
          have hN : kGoN (xK X o) s w = 0 := (if_neg (by rw [h1]; decide)).trans ((if_neg (by rw [h1]; decide)).trans (if_pos h1))
          rw [hG, hN]
          exact ⟨rfl, (q1.tr r3).up (by omega) (by omega)⟩
theorem g_212_4 {X : XS} {o s : Nat} (h2 : 2 ≤ o) (h4 : o < 4) (hs : s < 7) {f m : Nat} {w : MSG} {z7 : Int32} (hk : sOk (xK X o) s) (hB : kA (xK X o) s + ((xK X o).2.1 s).length + 1 < 400000) (hR : rOkR X o) (hap : aPr X o) (hn : ((xK X o).2.1 s).length + 1 ≤ m) (hM : m ≤ 399980) (w3 : w.1 3 = Int32.ofNat s) (w2 : w.1 2 = Int32.ofNat f) (hf7 : f < 7) (h1 : w.1 1 = 4) : AT 212 46 [some (.ref (bB o)), some (.int (Int32.ofNat s)), some (.int (w.1 2)), some (.int (w.1 4)), some (.int (w.1 5)), some (.int (w.1 7)), some (.int 4), some (.int z7), none, none] [] X (fun o' Z => o' = .inl none ∧ rRel o m (kGoN (xK X o) s w) (kGoN (xK X o) s w * 7) X Z (kGo (xK X o) s f w)) := by
  refine AT.iload M_212 rfl rfl ?_
  refine AT.sw (h0 := 199) M_212 rfl rfl rfl (by decide +kernel) ?_
  refine AT.iload M_212 rfl rfl ?_
  refine AT.if_eq M_212 rfl (fun b200 => ?_) (fun b200 => ?_)
  · refine AT.vret M_212 rfl rfl ?_
    have hG : kGo (xK X o) s f w = kOnYes (xK X o) s w 2 ((xK X o).1 5 s 0) 3 := (if_neg (by rw [h1]; decide)).trans ((if_neg (by rw [h1]; decide)).trans ((if_neg (by rw [h1]; decide)).trans (if_pos h1)))
    have hN : kGoN (xK X o) s w = kOnYesN (xK X o) s w 2 ((xK X o).1 5 s 0) 3 := (if_neg (by rw [h1]; decide)).trans ((if_neg (by rw [h1]; decide)).trans ((if_neg (by rw [h1]; decide)).trans (if_pos h1)))
    rw [hG, hN]
    have hY : sYes (xK X o) s w 2 ((xK X o).1 5 s 0) = false := by
      unfold sYes
      simp [b200]
    rw [show kOnYes (xK X o) s w 2 ((xK X o).1 5 s 0) 3 = xK X o from if_neg (by rw [hY]; decide), show kOnYesN (xK X o) s w 2 ((xK X o).1 5 s 0) 3 = 0 from if_neg (by rw [hY]; decide)]
    exact ⟨rfl, (rRel.rf m hap).up (by omega) (by omega)⟩
  · refine AT.aload_n M_212 rfl rfl ?_
    refine AT.r10_5 M_212 rfl h2 h4 ?_
    refine AT.iload_n M_212 rfl rfl ?_
    refine AT.ra_12 M_212 rfl rfl h2 h4 (by assumption) ?_
    refine AT.iconst M_212 rfl (v := 2) (by decide) ?_
    refine AT.icmp_ne M_212 rfl (fun b206 => ?_) (fun b206 => ?_)
    · refine AT.vret M_212 rfl rfl ?_
      have hG : kGo (xK X o) s f w = kOnYes (xK X o) s w 2 ((xK X o).1 5 s 0) 3 := (if_neg (by rw [h1]; decide)).trans ((if_neg (by rw [h1]; decide)).trans ((if_neg (by rw [h1]; decide)).trans (if_pos h1)))
      have hN : kGoN (xK X o) s w = kOnYesN (xK X o) s w 2 ((xK X o).1 5 s 0) 3 := (if_neg (by rw [h1]; decide)).trans ((if_neg (by rw [h1]; decide)).trans ((if_neg (by rw [h1]; decide)).trans (if_pos h1)))
      rw [hG, hN]
      have hY : sYes (xK X o) s w 2 ((xK X o).1 5 s 0) = false := by
        unfold sYes
        simp [b200, b206]
      rw [show kOnYes (xK X o) s w 2 ((xK X o).1 5 s 0) 3 = xK X o from if_neg (by rw [hY]; decide), show kOnYesN (xK X o) s w 2 ((xK X o).1 5 s 0) 3 = 0 from if_neg (by rw [hY]; decide)]
      exact ⟨rfl, (rRel.rf m hap).up (by omega) (by omega)⟩
    · refine AT.iload_n M_212 rfl rfl ?_
      refine AT.aload_n M_212 rfl rfl ?_
      refine AT.r10_3 M_212 rfl h2 h4 ?_
      refine AT.iload_n M_212 rfl rfl ?_
      refine AT.ra_5 M_212 rfl rfl h2 h4 (by assumption) ?_
      refine AT.icmp_eq M_212 rfl (fun b212 => ?_) (fun b212 => ?_)
      · refine AT.aload_n M_212 rfl rfl ?_
        refine AT.r10_11 M_212 rfl h2 h4 ?_
        refine AT.iload_n M_212 rfl rfl ?_
        refine AT.dup2 M_212 rfl ?_
        refine AT.ra_16 M_212 rfl rfl h2 h4 (by assumption) ?_
        refine AT.iconst M_212 rfl (v := 1) (by decide) ?_
        refine AT.iload_n M_212 rfl rfl ?_
        refine AT.ishl M_212 rfl rfl ?_
        refine AT.ior M_212 rfl rfl ?_
        refine AT.rs_16 M_212 rfl rfl h2 h4 (by assumption) ?_
        try simp only [xK_same, xSetK_idem, xD_setK]
        rw [show kSet (xK X o) 16 s 0 ((xK X o).1 16 s 0 ||| ((1 : Int32) <<< (w.1 2 &&& 31))) = (kYes (xK X o) s w) from rfl]
        have hSt : ∀ i, sSame (xK X o) (kYes (xK X o) s w) i := fun i => sSame.set (by omega) i
        have q1 : rRel o m 0 0 X (xSetK X o (kYes (xK X o) s w)) (kYes (xK X o) s w) := rRel.set hap (fun i hi => kSet_ne (by omega))
        have ok1 : sOk (xK (xSetK X o (kYes (xK X o) s w)) o) s := by rw [xK_same]; exact (hSt s).okS hk (kSet_ne (by omega))
        have eM : sMem (kYes (xK X o) s w) s = sMem (xK X o) s := (hSt s).mem
        refine AT.aload_n M_212 rfl rfl ?_
        refine AT.iload_n M_212 rfl rfl ?_
        refine AT.aload_n M_212 rfl rfl ?_
        refine AT.r10_11 M_212 rfl h2 h4 ?_
        refine AT.iload_n M_212 rfl rfl ?_
        refine AT.ra_16 M_212 rfl rfl h2 h4 (by assumption) ?_
        refine AT.cv3i M_212 rfl M_198 rfl (Nat.le_of_ble_eq_true rfl) (xKd.of (sh_st h2 h4)) (by decide) (c_198 (X := (xSetK X o (kYes (xK X o) s w))) h2 h4 hs ok1.wf ok1.m128) ?_ (Nat.le_of_ble_eq_true rfl) rfl
        try simp only [xK_same, xSetK_idem, xD_setK, xK_setD, xD_setD, xSetD_setK, xSetD_idem, kSet_1, kSet_2, kRow_1, kRow_2, kLog_1, kLog_2, kLog_l, kLog_idem, List.take_zero, if_true]
        try simp only [xK_same]
        rw [eM]
        refine AT.if_eq M_212 rfl (fun b231 => ?_) (fun b231 => ?_)
        · refine AT.vret M_212 rfl rfl ?_
          have hG : kGo (xK X o) s f w = kOnYes (xK X o) s w 2 ((xK X o).1 5 s 0) 3 := (if_neg (by rw [h1]; decide)).trans ((if_neg (by rw [h1]; decide)).trans ((if_neg (by rw [h1]; decide)).trans (if_pos h1)))
          have hN : kGoN (xK X o) s w = kOnYesN (xK X o) s w 2 ((xK X o).1 5 s 0) 3 := (if_neg (by rw [h1]; decide)).trans ((if_neg (by rw [h1]; decide)).trans ((if_neg (by rw [h1]; decide)).trans (if_pos h1)))
          rw [hG, hN]
          have hY : sYes (xK X o) s w 2 ((xK X o).1 5 s 0) = true := by
            unfold sYes
            have b9 := Classical.not_not.mp b206
            simp [b200, b9, b212]
          have hm : ¬ sMost (sMem (xK X o) s) ((kYes (xK X o) s w).1 16 s 0) = true := by rw [bI_eq0.mp b231]; decide
          rw [show kOnYes (xK X o) s w 2 ((xK X o).1 5 s 0) 3 = (kYes (xK X o) s w) from (if_pos hY).trans (if_neg hm), show kOnYesN (xK X o) s w 2 ((xK X o).1 5 s 0) 3 = 0 from (if_pos hY).trans (if_neg hm)]
          exact ⟨rfl, q1.up (by omega) (by omega)⟩
        · refine AT.aload_n M_212 rfl rfl ?_
          refine AT.iload_n M_212 rfl rfl ?_
          refine AT.cv2w M_212 rfl M_206 rfl (Nat.le_of_ble_eq_true rfl) (xKd.of (sh_st h2 h4)) (by decide) (c_206 (n := m) (X := (xSetK X o (kYes (xK X o) s w))) h2 h4 hs ok1 (by rw [xK_same, (hSt s).1, (hSt s).ka]; exact hB) hR q1.2.2 (by rw [xK_same, (hSt s).1]; exact hn)) (fun Y hc234 => ?_) (Nat.le_of_ble_eq_true rfl) rfl
          have r2 := hc234
          rw [xK_same] at r2
          try simp only [xK_same, xSetK_idem, xD_setK, xK_setD, xD_setD, xSetD_setK, xSetD_idem, kSet_1, kSet_2, kRow_1, kRow_2, kLog_1, kLog_2, kLog_l, kLog_idem, List.take_zero, if_true]
          refine AT.goto M_212 rfl ?_
          refine AT.vret M_212 rfl rfl ?_
          have hG : kGo (xK X o) s f w = kOnYes (xK X o) s w 2 ((xK X o).1 5 s 0) 3 := (if_neg (by rw [h1]; decide)).trans ((if_neg (by rw [h1]; decide)).trans ((if_neg (by rw [h1]; decide)).trans (if_pos h1)))
          have hN : kGoN (xK X o) s w = kOnYesN (xK X o) s w 2 ((xK X o).1 5 s 0) 3 := (if_neg (by rw [h1]; decide)).trans ((if_neg (by rw [h1]; decide)).trans ((if_neg (by rw [h1]; decide)).trans (if_pos h1)))
          rw [hG, hN]
          have hY : sYes (xK X o) s w 2 ((xK X o).1 5 s 0) = true := by
            unfold sYes
            have b9 := Classical.not_not.mp b206
            simp [b200, b9, b212]
          have hm : sMost (sMem (xK X o) s) ((kYes (xK X o) s w).1 16 s 0) = true := bI_ne0.mp b231
          rw [show kOnYes (xK X o) s w 2 ((xK X o).1 5 s 0) 3 = kLeadA (kYes (xK X o) s w) s from (if_pos hY).trans ((if_pos hm).trans ((if_neg (by decide)).trans ((if_neg (by decide)).trans (if_pos rfl)))), show kOnYesN (xK X o) s w 2 ((xK X o).1 5 s 0) 3 = 1 from (if_pos hY).trans ((if_pos hm).trans (kRiseN_3 _ _))]
          exact ⟨rfl, (q1.tr r2).up (by omega) (by omega)⟩
      · refine AT.goto M_212 rfl ?_
        refine AT.vret M_212 rfl rfl ?_
        have hG : kGo (xK X o) s f w = kOnYes (xK X o) s w 2 ((xK X o).1 5 s 0) 3 := (if_neg (by rw [h1]; decide)).trans ((if_neg (by rw [h1]; decide)).trans ((if_neg (by rw [h1]; decide)).trans (if_pos h1)))
        have hN : kGoN (xK X o) s w = kOnYesN (xK X o) s w 2 ((xK X o).1 5 s 0) 3 := (if_neg (by rw [h1]; decide)).trans ((if_neg (by rw [h1]; decide)).trans ((if_neg (by rw [h1]; decide)).trans (if_pos h1)))
        rw [hG, hN]
        have hY : sYes (xK X o) s w 2 ((xK X o).1 5 s 0) = false := by
          unfold sYes
          simp [b200, b206, b212]
        rw [show kOnYes (xK X o) s w 2 ((xK X o).1 5 s 0) 3 = xK X o from if_neg (by rw [hY]; decide), show kOnYesN (xK X o) s w 2 ((xK X o).1 5 s 0) 3 = 0 from if_neg (by rw [hY]; decide)]
        exact ⟨rfl, (rRel.rf m hap).up (by omega) (by omega)⟩
theorem g_212_5 {X : XS} {o s : Nat} (h2 : 2 ≤ o) (h4 : o < 4) (hs : s < 7) {f m : Nat} {w : MSG} {z7 : Int32} (hk : sOk (xK X o) s) (hB : kA (xK X o) s + ((xK X o).2.1 s).length + 1 < 400000) (hR : rOkR X o) (hap : aPr X o) (hn : ((xK X o).2.1 s).length + 1 ≤ m) (hM : m ≤ 399980) (w3 : w.1 3 = Int32.ofNat s) (w2 : w.1 2 = Int32.ofNat f) (hf7 : f < 7) (h1 : w.1 1 = 5) {x6n c8 : Nat} (hT : uTold X o w) (hme : mEok w x6n c8) (hb4 : w.2.2.length ≤ 4) (hm : x6n + w.2.2.length ≤ m) (hA : (xK X o).1 5 s 0 ≤ w.1 4 → (w.1 6 ≤ (kObey (xK X o) s (w.1 2)).1 18 s 0 ∨ sHas (kObey (xK X o) s (w.1 2)) s (w.1 6) (w.1 7) = true) → kAccOk s (kObey (xK X o) s (w.1 2)) (Int32.ofNat (x6n + 1)) w.2.2) : AT 212 46 [some (.ref (bB o)), some (.int (Int32.ofNat s)), some (.int (w.1 2)), some (.int (w.1 4)), some (.int (w.1 6)), some (.int (w.1 7)), some (.int 5), some (.int z7), none, none] [] X (fun o' Z => o' = .inl none ∧ rRel o m (kGoN (xK X o) s w) (kGoN (xK X o) s w * 7) X Z (kGo (xK X o) s f w)) := by
  refine AT.iload M_212 rfl rfl ?_
  refine AT.sw (h0 := 236) M_212 rfl rfl rfl (by decide +kernel) ?_
  refine AT.aload_n M_212 rfl rfl ?_
  refine AT.iload_n M_212 rfl rfl ?_
  refine AT.iload_n M_212 rfl rfl ?_
  refine AT.iload_n M_212 rfl rfl ?_
  refine AT.iload M_212 rfl rfl ?_
  refine AT.iload M_212 rfl rfl ?_
  refine AT.cv6w M_212 rfl M_214 rfl (Nat.le_of_ble_eq_true rfl) (xKd.of (sh_st h2 h4)) (by decide) (c_214 (m := m) h2 h4 hs w3 h1 hme hb4 hm hM hT hap hk hR (by omega) hA) (fun Y hc242 => ?_) (Nat.le_of_ble_eq_true rfl) rfl
  have r2 := hc242
  refine AT.goto M_212 rfl ?_
  refine AT.vret M_212 rfl rfl ?_
  have hG : kGo (xK X o) s f w = kOnEnt (xK X o) s w := (if_neg (by rw [h1]; decide)).trans ((if_neg (by rw [h1]; decide)).trans ((if_neg (by rw [h1]; decide)).trans ((if_neg (by rw [h1]; decide)).trans (if_pos h1))))
  have hN : kGoN (xK X o) s w = 0 := (if_neg (by rw [h1]; decide)).trans ((if_neg (by rw [h1]; decide)).trans ((if_neg (by rw [h1]; decide)).trans ((if_neg (by rw [h1]; decide)).trans (if_pos h1))))
  rw [hG, hN]
  exact ⟨rfl, r2.up (by omega) (by omega)⟩
theorem g_212_6 {X : XS} {o s : Nat} (h2 : 2 ≤ o) (h4 : o < 4) (hs : s < 7) {f m : Nat} {w : MSG} {z7 : Int32} (hk : sOk (xK X o) s) (hB : kA (xK X o) s + ((xK X o).2.1 s).length + 1 < 400000) (hR : rOkR X o) (hap : aPr X o) (hn : ((xK X o).2.1 s).length + 1 ≤ m) (hM : m ≤ 399980) (w3 : w.1 3 = Int32.ofNat s) (w2 : w.1 2 = Int32.ofNat f) (hf7 : f < 7) (h1 : w.1 1 = 6) (hA : (xK X o).1 12 s 0 = 3 → w.1 4 = (xK X o).1 5 s 0 → (w.1 5 = 0 → kNx (kSet (xK X o) 2 s f (kMax (w.1 6) ((xK X o).1 3 s f) + 1)) s f) ∧ (¬ w.1 5 = 0 → kNx (kLearn (xK X o) s f (w.1 6)) s f)) : AT 212 46 [some (.ref (bB o)), some (.int (Int32.ofNat s)), some (.int (w.1 2)), some (.int (w.1 4)), some (.int (w.1 6)), some (.int (w.1 5)), some (.int 6), some (.int z7), none, none] [] X (fun o' Z => o' = .inl none ∧ rRel o m (kGoN (xK X o) s w) (kGoN (xK X o) s w * 7) X Z (kGo (xK X o) s f w)) := by
  rw [w2]
  refine AT.iload M_212 rfl rfl ?_
  refine AT.sw (h0 := 244) M_212 rfl rfl rfl (by decide +kernel) ?_
  refine AT.aload_n M_212 rfl rfl ?_
  refine AT.iload_n M_212 rfl rfl ?_
  refine AT.iload_n M_212 rfl rfl ?_
  refine AT.iload_n M_212 rfl rfl ?_
  refine AT.iload M_212 rfl rfl ?_
  refine AT.iload M_212 rfl rfl ?_
  refine AT.cv6w M_212 rfl M_216 rfl (Nat.le_of_ble_eq_true rfl) (xKd.of (sh_st h2 h4)) (by decide) (c_216 (m := m) (w := w) h2 h4 hs hf7 hap hk hA) (fun Y hc250 => ?_) (Nat.le_of_ble_eq_true rfl) rfl
  have r2 := hc250
  refine AT.goto M_212 rfl ?_
  refine AT.vret M_212 rfl rfl ?_
  have hG : kGo (xK X o) s f w = kOnAns (xK X o) s f w := (if_neg (by rw [h1]; decide)).trans ((if_neg (by rw [h1]; decide)).trans ((if_neg (by rw [h1]; decide)).trans ((if_neg (by rw [h1]; decide)).trans ((if_neg (by rw [h1]; decide)).trans (if_pos h1)))))
  have hN : kGoN (xK X o) s w = 0 := (if_neg (by rw [h1]; decide)).trans ((if_neg (by rw [h1]; decide)).trans ((if_neg (by rw [h1]; decide)).trans ((if_neg (by rw [h1]; decide)).trans ((if_neg (by rw [h1]; decide)).trans (if_pos h1)))))
  rw [hG, hN]
  exact ⟨rfl, r2.up (by omega) (by omega)⟩
theorem g_212_7 {X : XS} {o s : Nat} (h2 : 2 ≤ o) (h4 : o < 4) (hs : s < 7) {f m : Nat} {w : MSG} {z7 : Int32} (hk : sOk (xK X o) s) (hB : kA (xK X o) s + ((xK X o).2.1 s).length + 1 < 400000) (hR : rOkR X o) (hap : aPr X o) (hn : ((xK X o).2.1 s).length + 1 ≤ m) (hM : m ≤ 399980) (w3 : w.1 3 = Int32.ofNat s) (w2 : w.1 2 = Int32.ofNat f) (hf7 : f < 7) (h1 : w.1 1 = 7) {r : ENT} (hT : uTold X o w) (hr : w.2.1 = some r) (hr0 : r 0 = w.1 6) : AT 212 46 [some (.ref (bB o)), some (.int (Int32.ofNat s)), some (.int (w.1 2)), some (.int (w.1 4)), some (.int (w.1 6)), some (.int (r 1)), some (.int 7), some (.int z7), none, none] [] X (fun o' Z => o' = .inl none ∧ rRel o m (kGoN (xK X o) s w) (kGoN (xK X o) s w * 7) X Z (kGo (xK X o) s f w)) := by
  refine AT.iload M_212 rfl rfl ?_
  refine AT.sw (h0 := 252) M_212 rfl rfl rfl (by decide +kernel) ?_
  refine AT.aload_n M_212 rfl rfl ?_
  refine AT.iload_n M_212 rfl rfl ?_
  refine AT.iload_n M_212 rfl rfl ?_
  refine AT.iload_n M_212 rfl rfl ?_
  refine AT.iload M_212 rfl rfl ?_
  refine AT.iload M_212 rfl rfl ?_
  refine AT.cv6w M_212 rfl M_217 rfl (Nat.le_of_ble_eq_true rfl) (xKd.of (sh_st h2 h4)) (by decide) (c_217 (m := m) h2 h4 hs w3 h1 hr hr0 hT hap hk) (fun Y hc258 => ?_) (Nat.le_of_ble_eq_true rfl) rfl
  have r2 := hc258
  refine AT.goto M_212 rfl ?_
  refine AT.vret M_212 rfl rfl ?_
  have hG : kGo (xK X o) s f w = kOnSnp (xK X o) s w := (if_neg (by rw [h1]; decide)).trans ((if_neg (by rw [h1]; decide)).trans ((if_neg (by rw [h1]; decide)).trans ((if_neg (by rw [h1]; decide)).trans ((if_neg (by rw [h1]; decide)).trans ((if_neg (by rw [h1]; decide)).trans (if_pos h1))))))
  have hN : kGoN (xK X o) s w = 0 := (if_neg (by rw [h1]; decide)).trans ((if_neg (by rw [h1]; decide)).trans ((if_neg (by rw [h1]; decide)).trans ((if_neg (by rw [h1]; decide)).trans ((if_neg (by rw [h1]; decide)).trans ((if_neg (by rw [h1]; decide)).trans (if_pos h1))))))
  rw [hG, hN]
  exact ⟨rfl, r2.up (by omega) (by omega)⟩
theorem g_212_8 {X : XS} {o s : Nat} (h2 : 2 ≤ o) (h4 : o < 4) (hs : s < 7) {f m : Nat} {w : MSG} {z7 : Int32} (hk : sOk (xK X o) s) (hB : kA (xK X o) s + ((xK X o).2.1 s).length + 1 < 400000) (hR : rOkR X o) (hap : aPr X o) (hn : ((xK X o).2.1 s).length + 1 ≤ m) (hM : m ≤ 399980) (w3 : w.1 3 = Int32.ofNat s) (w2 : w.1 2 = Int32.ofNat f) (hf7 : f < 7) (h1 : w.1 1 = 8) : AT 212 46 [some (.ref (bB o)), some (.int (Int32.ofNat s)), some (.int (w.1 2)), some (.int (w.1 4)), some (.int (w.1 6)), some (.int (w.1 7)), some (.int 8), some (.int z7), none, none] [] X (fun o' Z => o' = .inl none ∧ rRel o m (kGoN (xK X o) s w) (kGoN (xK X o) s w * 7) X Z (kGo (xK X o) s f w)) := by
  refine AT.iload M_212 rfl rfl ?_
  refine AT.sw (h0 := 260) M_212 rfl rfl rfl (by decide +kernel) ?_
  refine AT.iload_n M_212 rfl rfl ?_
  refine AT.aload_n M_212 rfl rfl ?_
  refine AT.r10_3 M_212 rfl h2 h4 ?_
  refine AT.iload_n M_212 rfl rfl ?_
  refine AT.ra_5 M_212 rfl rfl h2 h4 (by assumption) ?_
  refine AT.icmp_ne M_212 rfl (fun b265 => ?_) (fun b265 => ?_)
  · refine AT.vret M_212 rfl rfl ?_
    have hH : sHur (xK X o) s (sMem (xK X o) s) w = false := by
      unfold sHur
      simp [b265]
    have hG : kGo (xK X o) s f w = xK X o := (if_neg (by rw [h1]; decide)).trans ((if_neg (by rw [h1]; decide)).trans ((if_neg (by rw [h1]; decide)).trans ((if_neg (by rw [h1]; decide)).trans ((if_neg (by rw [h1]; decide)).trans ((if_neg (by rw [h1]; decide)).trans ((if_neg (by rw [h1]; decide)).trans (if_neg (by rw [hH]; decide))))))))
    have hN : kGoN (xK X o) s w = 0 := (if_neg (by rw [h1]; decide)).trans ((if_neg (by rw [h1]; decide)).trans ((if_neg (by rw [h1]; decide)).trans ((if_neg (by rw [h1]; decide)).trans ((if_neg (by rw [h1]; decide)).trans ((if_neg (by rw [h1]; decide)).trans ((if_neg (by rw [h1]; decide)).trans (if_neg (by rw [hH]; decide))))))))
    rw [hG, hN]
    exact ⟨rfl, (rRel.rf m hap).up (by omega) (by omega)⟩
  · refine AT.aload_n M_212 rfl rfl ?_
    refine AT.r10_5 M_212 rfl h2 h4 ?_
    refine AT.iload_n M_212 rfl rfl ?_
    refine AT.ra_12 M_212 rfl rfl h2 h4 (by assumption) ?_
    refine AT.iconst M_212 rfl (v := 3) (by decide) ?_
    refine AT.icmp_eq M_212 rfl (fun b271 => ?_) (fun b271 => ?_)
    · refine AT.vret M_212 rfl rfl ?_
      have b9 := Classical.not_not.mp b265
      have hH : sHur (xK X o) s (sMem (xK X o) s) w = false := by
        unfold sHur
        simp [b9, b271]
      have hG : kGo (xK X o) s f w = xK X o := (if_neg (by rw [h1]; decide)).trans ((if_neg (by rw [h1]; decide)).trans ((if_neg (by rw [h1]; decide)).trans ((if_neg (by rw [h1]; decide)).trans ((if_neg (by rw [h1]; decide)).trans ((if_neg (by rw [h1]; decide)).trans ((if_neg (by rw [h1]; decide)).trans (if_neg (by rw [hH]; decide))))))))
      have hN : kGoN (xK X o) s w = 0 := (if_neg (by rw [h1]; decide)).trans ((if_neg (by rw [h1]; decide)).trans ((if_neg (by rw [h1]; decide)).trans ((if_neg (by rw [h1]; decide)).trans ((if_neg (by rw [h1]; decide)).trans ((if_neg (by rw [h1]; decide)).trans ((if_neg (by rw [h1]; decide)).trans (if_neg (by rw [hH]; decide))))))))
      rw [hG, hN]
      exact ⟨rfl, (rRel.rf m hap).up (by omega) (by omega)⟩
    · refine AT.aload_n M_212 rfl rfl ?_
      refine AT.iload_n M_212 rfl rfl ?_
      refine AT.iload_n M_212 rfl rfl ?_
      refine AT.cv3i M_212 rfl M_196 rfl (Nat.le_of_ble_eq_true rfl) (xKd.of (sh_st h2 h4)) (by decide) (c_196 h2 h4 hs hs hk.wf hk.m128) ?_ (Nat.le_of_ble_eq_true rfl) rfl
      refine AT.if_eq M_212 rfl (fun b276 => ?_) (fun b276 => ?_)
      · refine AT.vret M_212 rfl rfl ?_
        have b9 := Classical.not_not.mp b265
        have hg : sBit (sMem (xK X o) s) s = false := bI_eq0.mp b276
        have hH : sHur (xK X o) s (sMem (xK X o) s) w = false := by
          unfold sHur
          simp [b9, b271, hg]
        have hG : kGo (xK X o) s f w = xK X o := (if_neg (by rw [h1]; decide)).trans ((if_neg (by rw [h1]; decide)).trans ((if_neg (by rw [h1]; decide)).trans ((if_neg (by rw [h1]; decide)).trans ((if_neg (by rw [h1]; decide)).trans ((if_neg (by rw [h1]; decide)).trans ((if_neg (by rw [h1]; decide)).trans (if_neg (by rw [hH]; decide))))))))
        have hN : kGoN (xK X o) s w = 0 := (if_neg (by rw [h1]; decide)).trans ((if_neg (by rw [h1]; decide)).trans ((if_neg (by rw [h1]; decide)).trans ((if_neg (by rw [h1]; decide)).trans ((if_neg (by rw [h1]; decide)).trans ((if_neg (by rw [h1]; decide)).trans ((if_neg (by rw [h1]; decide)).trans (if_neg (by rw [hH]; decide))))))))
        rw [hG, hN]
        exact ⟨rfl, (rRel.rf m hap).up (by omega) (by omega)⟩
      · refine AT.aload_n M_212 rfl rfl ?_
        refine AT.r10_18 M_212 rfl h2 h4 ?_
        refine AT.iload_n M_212 rfl rfl ?_
        refine AT.ra_siz M_212 rfl rfl h2 h4 (by assumption) ?_
        refine AT.bipush M_212 rfl (v := 48) (by decide) ?_
        refine AT.icmp_ge M_212 rfl (fun b282 => ?_) (fun b282 => ?_)
        · refine AT.vret M_212 rfl rfl ?_
          have b9 := Classical.not_not.mp b265
          have hg : sBit (sMem (xK X o) s) s = true := bI_ne0.mp b276
          have hH : sHur (xK X o) s (sMem (xK X o) s) w = false := by
            unfold sHur
            simp [b9, b271, hg, b282]
          have hG : kGo (xK X o) s f w = xK X o := (if_neg (by rw [h1]; decide)).trans ((if_neg (by rw [h1]; decide)).trans ((if_neg (by rw [h1]; decide)).trans ((if_neg (by rw [h1]; decide)).trans ((if_neg (by rw [h1]; decide)).trans ((if_neg (by rw [h1]; decide)).trans ((if_neg (by rw [h1]; decide)).trans (if_neg (by rw [hH]; decide))))))))
          have hN : kGoN (xK X o) s w = 0 := (if_neg (by rw [h1]; decide)).trans ((if_neg (by rw [h1]; decide)).trans ((if_neg (by rw [h1]; decide)).trans ((if_neg (by rw [h1]; decide)).trans ((if_neg (by rw [h1]; decide)).trans ((if_neg (by rw [h1]; decide)).trans ((if_neg (by rw [h1]; decide)).trans (if_neg (by rw [hH]; decide))))))))
          rw [hG, hN]
          exact ⟨rfl, (rRel.rf m hap).up (by omega) (by omega)⟩
        · refine AT.aload_n M_212 rfl rfl ?_
          refine AT.iload_n M_212 rfl rfl ?_
          refine AT.cv2w M_212 rfl M_205 rfl (Nat.le_of_ble_eq_true rfl) (xKd.of (sh_st h2 h4)) (by decide) (c_205 (n := m) h2 h4 hs hk hB hR hap hn) (fun Y hc285 => ?_) (Nat.le_of_ble_eq_true rfl) rfl
          have r2 := hc285
          refine AT.vret M_212 rfl rfl ?_
          have b9 := Classical.not_not.mp b265
          have hg : sBit (sMem (xK X o) s) s = true := bI_ne0.mp b276
          have hH : sHur (xK X o) s (sMem (xK X o) s) w = true := by
            unfold sHur
            simp [b9, b271, hg, b282]
          have hG : kGo (xK X o) s f w = kStandA (xK X o) s := (if_neg (by rw [h1]; decide)).trans ((if_neg (by rw [h1]; decide)).trans ((if_neg (by rw [h1]; decide)).trans ((if_neg (by rw [h1]; decide)).trans ((if_neg (by rw [h1]; decide)).trans ((if_neg (by rw [h1]; decide)).trans ((if_neg (by rw [h1]; decide)).trans (if_pos hH)))))))
          have hN : kGoN (xK X o) s w = kStandN (xK X o) s := (if_neg (by rw [h1]; decide)).trans ((if_neg (by rw [h1]; decide)).trans ((if_neg (by rw [h1]; decide)).trans ((if_neg (by rw [h1]; decide)).trans ((if_neg (by rw [h1]; decide)).trans ((if_neg (by rw [h1]; decide)).trans ((if_neg (by rw [h1]; decide)).trans (if_pos hH)))))))
          rw [hG, hN]
          exact ⟨rfl, r2⟩
