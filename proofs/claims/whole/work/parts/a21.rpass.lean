/-! ===== THE REFERENCE: turns and rounds ===== -/
/-- no message is taken out -/
def nLe (K K' : KK) : Prop := K.2.2.length ≤ K'.2.2.length
theorem nLe.rf (K : KK) : nLe K K := Nat.le_refl _
theorem nLe.tr {K K' K2 : KK} (h : nLe K K') (k : nLe K' K2) : nLe K K2 := Nat.le_trans h k
theorem nLe.eq {K K' : KK} (h : K'.2.2 = K.2.2) : nLe K K' := by unfold nLe; rw [h]; exact Nat.le_refl _
theorem nLe.send (K : KK) (u : MSG) : nLe K (kSend K u) := by
  unfold kSend
  split
  · show K.2.2.length ≤ (K.2.2 ++ [u]).length
    rw [List.length_append]; omega
  · exact Nat.le_refl _
theorem nLe.snd (K : KK) (s : Nat) : nLe K (kSnd K s) := kAllF_all (P := nLe) nLe.rf (fun _ _ _ h k => h.tr k) nLe.send s _ 7 0 K
theorem nLe.ask (s : Nat) (mm kd tm : Int32) : ∀ (n q : Nat) (K : KK), nLe K (kAskF s mm kd tm n q K)
  | 0, _, K => nLe.rf K
  | n + 1, q, K => by
    unfold kAskF
    split
    · exact (nLe.send _ _).tr (nLe.ask s mm kd tm n (q + 1) _)
    · exact nLe.ask s mm kd tm n (q + 1) K
theorem nLe.lk (K : KK) (s : Nat) : nLe K (kLk K s) := nLe.eq (by
  show (kStep (kComm K s _ _) s _ _).2.2 = _
  unfold kStep
  split
  · show (kComm K s _ _).2.2 = _; rw [kComm_2]
  · rw [kComm_2])
theorem nLe.lead (K : KK) (s : Nat) : nLe K (kLeadA K s) := (nLe.eq (show (kLd K s).2.2 = K.2.2 from rfl)).tr ((nLe.snd _ _).tr (nLe.lk _ _))
theorem nLe.stand (K : KK) (s : Nat) : nLe K (kStandA K s) := by
  unfold kStandA
  split
  · exact (nLe.eq (show (kStand K s).2.2 = K.2.2 from rfl)).tr (nLe.lead _ _)
  · exact (nLe.eq (show (kStand K s).2.2 = K.2.2 from rfl)).tr (nLe.ask _ _ _ _ _ _ _)
theorem nLe.sound (K : KK) (s : Nat) : nLe K (kSoundA K s) := by
  unfold kSoundA
  split
  · split
    · exact (nLe.eq (show (kStart K s 1).2.2 = K.2.2 from rfl)).tr (nLe.stand _ _)
    · exact (nLe.eq (show (kStart K s 1).2.2 = K.2.2 from rfl)).tr (nLe.ask _ _ _ _ _ _ _)
  · exact nLe.rf _
theorem nLe.rise (K : KK) (s : Nat) (f : Int32) : nLe K (kRise K s f) := by
  unfold kRise
  split
  · exact nLe.sound _ _
  · split
    · exact nLe.stand _ _
    · split
      · exact nLe.lead _ _
      · exact nLe.rf _
theorem nLe.yes (K : KK) (s : Nat) (w : MSG) (rl tm st : Int32) : nLe K (kOnYes K s w rl tm st) := by
  unfold kOnYes
  split
  · split
    · exact (nLe.eq (show (kYes K s w).2.2 = K.2.2 from rfl)).tr (nLe.rise _ _ _)
    · exact nLe.rf _
  · exact nLe.rf _
theorem kAcc_22 (K : KK) (s : Nat) (x : Int32) (e : ENT) : (kAcc K s x e).2.2 = K.2.2 := by
  unfold kAcc
  split
  · rfl
  · show (kTrim K s x).2.2 = _
    unfold kTrim
    split <;> rfl
theorem kAccs_22 (s : Nat) : ∀ (es : List ENT) (K : KK) (x : Int32), (kAccs s K x es).2.2 = K.2.2
  | [], _, _ => rfl
  | e :: es, K, x => (kAccs_22 s es _ _).trans (kAcc_22 K s x e)
theorem nLe.ent (K : KK) (s : Nat) (w : MSG) : nLe K (kOnEnt K s w) := by
  unfold kOnEnt
  split
  · exact nLe.send _ _
  · refine (nLe.eq (show (kObey K s (w.1 2)).2.2 = K.2.2 from rfl)).tr ?_
    unfold kOnEnt2
    split
    · unfold kEntT
      refine (nLe.eq ?_).tr (nLe.send _ _)
      unfold kCommTo
      rw [kComm_2, kAccs_22]
    · exact nLe.send _ _
theorem nLe.snp (K : KK) (s : Nat) (w : MSG) : nLe K (kOnSnp K s w) := by
  unfold kOnSnp
  split
  · exact nLe.send _ _
  · refine (nLe.eq ?_).tr (nLe.send _ _)
    cases w.2.1 with
    | none => rfl
    | some r =>
      show (if (kObey K s (w.1 2)).1 15 s 0 < r 0 then _ else _ : KK).2.2 = _
      split <;> rfl
theorem nLe.ans (K : KK) (s f : Nat) (w : MSG) : nLe K (kOnAns K s f w) := by
  unfold kOnAns
  split
  · split
    · exact nLe.send (kSet K 2 s f _) _
    · have h1 : nLe K (kLearn K s f (w.1 6)) := by
        unfold kLearn
        split <;> exact nLe.rf _
      refine h1.tr ((nLe.lk _ s).tr ?_)
      unfold kAns6
      split
      · exact nLe.send _ _
      · exact nLe.rf _
  · exact nLe.rf _
theorem nLe.go (K : KK) (s f : Nat) (w : MSG) : nLe K (kGo K s f w) := by
  unfold kGo
  split
  · exact nLe.send _ _
  · split
    · exact nLe.yes _ _ _ _ _ _
    · split
      · refine (nLe.eq ?_).tr (nLe.send _ _)
        unfold kGrant
        split <;> rfl
      · split
        · exact nLe.yes _ _ _ _ _ _
        · split
          · exact nLe.ent _ _ _
          · split
            · exact nLe.ans _ _ _ _
            · split
              · exact nLe.snp _ _ _
              · split
                · exact nLe.stand _ _
                · exact nLe.rf _
theorem kHand_len {K : KK} {j s f : Nat} {w : MSG} (hj : j < K.2.2.length) : K.2.2.length ≤ (kHand K j s f w).2.2.length + 1 := by
  have h0 : (kDrop K j).2.2.length + 1 = K.2.2.length := by
    show (K.2.2.eraseIdx j).length + 1 = _
    rw [List.length_eraseIdx, if_pos hj]; omega
  unfold kHand
  split
  · have h1 : nLe (kDrop K j) (kEnter (kDrop K j) s w) := by
      unfold kEnter
      split <;> exact nLe.rf _
    have h2 := h1.tr (nLe.go _ s f w)
    unfold nLe at h2
    omega
  · have h2 : (kLose (kDrop K j)).2.2.length = (kDrop K j).2.2.length := rfl
    omega
/-- what the reference asks for beside -/
def kRf (K : KK) : Prop := (∀ (j : Nat) (w : MSG), K.2.2[j]? = some w → mRk w ∧ (w.1 5 = 0 ∨ w.1 5 = 1)) ∧ ∀ s f, s < 7 → f < 7 → sBit (K.1 30 s 0) f = sBit (K.1 30 f 0) s
theorem c_221 {X : XS} {o s : Nat} (h2 : 2 ≤ o) (h4 : o < 4) (hs : s < 7) {m : Nat} (hk : sOk (xK X o) s) (hB : kA (xK X o) s + ((xK X o).2.1 s).length + 1 < 400000) (hR : rOkR X o) (hap : aPr X o) (hn : ((xK X o).2.1 s).length + 1 ≤ m) (hup : ¬ (xK X o).1 4 s 0 = 0) (hN : (xK X o).1 12 s 0 = 3 → ∀ q, q < 7 → kNx (xK X o) s q) : RU 221 [some (.ref (bB o)), some (.int (Int32.ofNat s))] X none (fun Z => rRel o m (kTurn1N (xK X o) s) (kTurn1N (xK X o) s * 7) X Z (kTurn1 (xK X o) s)) := by
  refine AT.aload_n M_221 rfl rfl ?_
  refine AT.r10_5 M_221 rfl h2 h4 ?_
  refine AT.iload_n M_221 rfl rfl ?_
  refine AT.ra_12 M_221 rfl rfl h2 h4 (by assumption) ?_
  refine AT.iconst M_221 rfl (v := 3) (by decide) ?_
  refine AT.icmp_ne M_221 rfl (fun b5 => ?_) (fun b5 => ?_)
  · refine AT.aload_n M_221 rfl rfl ?_
    refine AT.iload_n M_221 rfl rfl ?_
    refine AT.iload_n M_221 rfl rfl ?_
    refine AT.cv3i M_221 rfl M_196 rfl (Nat.le_of_ble_eq_true rfl) (xKd.of (sh_st h2 h4)) (by decide) (c_196 h2 h4 hs hs hk.wf hk.m128) ?_ (Nat.le_of_ble_eq_true rfl) rfl
    try simp only [xK_same, xSetK_idem, xD_setK]
    refine AT.if_eq M_221 rfl (fun b30 => ?_) (fun b30 => ?_)
    · refine AT.vret M_221 rfl rfl ?_
      rw [show kTurn1N (xK X o) s = 0 from (if_neg (fun z => b5 z.2)).trans (if_neg (fun z => by have := bI_eq0.mp b30; rw [this] at z; exact absurd z.2 (by decide))), show kTurn1 (xK X o) s = xK X o from (if_neg (fun z => b5 z.2)).trans (if_neg (fun z => by have := bI_eq0.mp b30; rw [this] at z; exact absurd z.2 (by decide)))]
      exact ⟨rfl, (rRel.rf m hap).up (by omega) (by omega)⟩
    · refine AT.aload_n M_221 rfl rfl ?_
      refine AT.r10_7 M_221 rfl h2 h4 ?_
      refine AT.iload_n M_221 rfl rfl ?_
      refine AT.dup2 M_221 rfl ?_
      refine AT.ra_14 M_221 rfl rfl h2 h4 (by assumption) ?_
      refine AT.iconst M_221 rfl (v := 1) (by decide) ?_
      refine AT.iadd M_221 rfl rfl ?_
      refine AT.rs_14 M_221 rfl rfl h2 h4 (by assumption) ?_
      try simp only [xK_same, xSetK_idem, xD_setK]
      rw [show kSet (xK X o) 14 s 0 ((xK X o).1 14 s 0 + 1) = (kWait (xK X o) s) from rfl]
      have q1 : rRel o m 0 0 X (xSetK X o (kWait (xK X o) s)) (kWait (xK X o) s) := rRel.set hap (fun i hi => kSet_ne (by omega))
      have hSt : ∀ i, sSame (xK X o) (kWait (xK X o) s) i := fun i => sSame.set (by omega) i
      have ok1 : sOk (xK (xSetK X o (kWait (xK X o) s)) o) s := by rw [xK_same]; exact (hSt s).okS hk (kSet_ne (by omega))
      have e5 : (kWait (xK X o) s).1 5 s 0 = (xK X o).1 5 s 0 := kSet_ne (by omega)
      refine AT.aload_n M_221 rfl rfl ?_
      refine AT.r10_7 M_221 rfl h2 h4 ?_
      refine AT.iload_n M_221 rfl rfl ?_
      refine AT.ra_14 M_221 rfl rfl h2 h4 (by assumption) ?_
      refine AT.iload_n M_221 rfl rfl ?_
      refine AT.aload_n M_221 rfl rfl ?_
      refine AT.r10_3 M_221 rfl h2 h4 ?_
      refine AT.iload_n M_221 rfl rfl ?_
      refine AT.ra_5 M_221 rfl rfl h2 h4 (by assumption) ?_
      refine AT.cs2i M_221 rfl M_219 rfl (Nat.le_of_ble_eq_true rfl) rfl (c_219 (s := s)) ?_ (Nat.le_of_ble_eq_true rfl) rfl
      try simp only [xK_same, xSetK_idem, xD_setK]
      try simp only [xK_same]
      rw [e5]
      refine AT.icmp_lt M_221 rfl (fun b49 => ?_) (fun b49 => ?_)
      · refine AT.vret M_221 rfl rfl ?_
        rw [show kTurn1N (xK X o) s = 0 from (if_neg (fun z => b5 z.2)).trans ((if_pos ⟨hup, bI_ne0.mp b30⟩).trans (if_pos b49)), show kTurn1 (xK X o) s = (kWait (xK X o) s) from (if_neg (fun z => b5 z.2)).trans ((if_pos ⟨hup, bI_ne0.mp b30⟩).trans (if_pos b49))]
        exact ⟨rfl, q1.up (by omega) (by omega)⟩
      · refine AT.aload_n M_221 rfl rfl ?_
        refine AT.iload_n M_221 rfl rfl ?_
        refine AT.cv2w M_221 rfl M_204 rfl (Nat.le_of_ble_eq_true rfl) (xKd.of (sh_st h2 h4)) (by decide) (c_204 (n := m) (X := (xSetK X o (kWait (xK X o) s))) h2 h4 hs ok1 (by rw [xK_same, (hSt s).1, (hSt s).ka]; exact hB) hR q1.2.2 (by rw [xK_same, (hSt s).1]; exact hn)) (fun Y hc52 => ?_) (Nat.le_of_ble_eq_true rfl) rfl
        have r2 := hc52
        rw [xK_same] at r2
        try simp only [xK_same, xSetK_idem, xD_setK]
        refine AT.vret M_221 rfl rfl ?_
        rw [show kTurn1N (xK X o) s = kSoundN (kWait (xK X o) s) s from (if_neg (fun z => b5 z.2)).trans ((if_pos ⟨hup, bI_ne0.mp b30⟩).trans (if_neg b49)), show kTurn1 (xK X o) s = kSoundA (kWait (xK X o) s) s from (if_neg (fun z => b5 z.2)).trans ((if_pos ⟨hup, bI_ne0.mp b30⟩).trans (if_neg b49))]
        exact ⟨rfl, (q1.tr r2).up (by omega) (by omega)⟩
  · refine AT.aload_n M_221 rfl rfl ?_
    refine AT.r10_10 M_221 rfl h2 h4 ?_
    refine AT.iload_n M_221 rfl rfl ?_
    refine AT.dup2 M_221 rfl ?_
    refine AT.ra_17 M_221 rfl rfl h2 h4 (by assumption) ?_
    refine AT.iconst M_221 rfl (v := 1) (by decide) ?_
    refine AT.iadd M_221 rfl rfl ?_
    refine AT.rs_17 M_221 rfl rfl h2 h4 (by assumption) ?_
    try simp only [xK_same, xSetK_idem, xD_setK]
    rw [show kSet (xK X o) 17 s 0 ((xK X o).1 17 s 0 + 1) = (kBeat (xK X o) s) from rfl]
    have q1 : rRel o m 0 0 X (xSetK X o (kBeat (xK X o) s)) (kBeat (xK X o) s) := rRel.set hap (fun i hi => kSet_ne (by omega))
    have hSt : ∀ i, sSame (xK X o) (kBeat (xK X o) s) i := fun i => sSame.set (by omega) i
    have ok1 : sOk (xK (xSetK X o (kBeat (xK X o) s)) o) s := by rw [xK_same]; exact (hSt s).okS hk (kSet_ne (by omega))
    refine AT.aload_n M_221 rfl rfl ?_
    refine AT.r10_10 M_221 rfl h2 h4 ?_
    refine AT.iload_n M_221 rfl rfl ?_
    refine AT.ra_17 M_221 rfl rfl h2 h4 (by assumption) ?_
    refine AT.iconst M_221 rfl (v := 2) (by decide) ?_
    refine AT.irem M_221 rfl (by decide) rfl ?_
    try simp only [xK_same]
    refine AT.if_ne M_221 rfl (fun b20 => ?_) (fun b20 => ?_)
    · refine AT.vret M_221 rfl rfl ?_
      have hN0 : kTurn1N (xK X o) s = 0 := if_pos ⟨hup, Classical.not_not.mp b5⟩
      rw [hN0, show kTurn1 (xK X o) s = (kBeat (xK X o) s) from (if_pos ⟨hup, Classical.not_not.mp b5⟩).trans (if_neg b20)]
      exact ⟨rfl, q1.up (by omega) (by omega)⟩
    · refine AT.aload_n M_221 rfl rfl ?_
      refine AT.iload_n M_221 rfl rfl ?_
      refine AT.cv2u M_221 rfl M_202 rfl (Nat.le_of_ble_eq_true rfl) (xKd.of (sh_st h2 h4)) (by decide) (c_202 (m := m) (X := (xSetK X o (kBeat (xK X o) s))) h2 h4 hs ok1.wf (fun q hq => by rw [xK_same]; exact kNx_congr (kSet_ne (by omega)) (kSet_ne (by omega)) rfl (hN (Classical.not_not.mp b5) q hq))) (fun Y hc23 => ?_) (Nat.le_of_ble_eq_true rfl) rfl
      obtain ⟨r2, k2⟩ := hc23
      have r3 := r2.sm k2 q1.2.2 (fun i hi => kSnd_1 _ _ (by omega))
      rw [xK_same] at r3
      try simp only [xK_same, xSetK_idem, xD_setK]
      refine AT.popi M_221 rfl ?_
      refine AT.goto M_221 rfl ?_
      refine AT.vret M_221 rfl rfl ?_
      have hN0 : kTurn1N (xK X o) s = 0 := if_pos ⟨hup, Classical.not_not.mp b5⟩
      rw [hN0, show kTurn1 (xK X o) s = kSnd (kBeat (xK X o) s) s from (if_pos ⟨hup, Classical.not_not.mp b5⟩).trans (if_pos (Classical.not_not.mp b20))]
      exact ⟨rfl, (q1.tr r3).up (by omega) (by omega)⟩
theorem l_220a {o n m k : Nat} {J : Nat → KK → Prop} (h2 : 2 ≤ o) (h4 : o < 4) (hJ : kInv n J) (hJ2 : ∀ k K, J k K → kRf K) (hnm : n + 1 ≤ m) (hM : m ≤ 399980) {Q : PO → XS → Prop} : ∀ d q : Nat, q + d = 7 → ∀ X : XS, J (k + d) (xK X o) → aPr X o → rOkR X o → (∀ Z, rRel0 o m (kTurnsN d q (xK X o)) (kTurnsN d q (xK X o) * 7) X Z (kTurnsF d q (xK X o)) → aPr Z o → J k (kTurnsF d q (xK X o)) → AT 220 15 [some (.ref (bB o)), some (.int (Int32.ofNat 7))] [] Z Q) → AT 220 2 [some (.ref (bB o)), some (.int (Int32.ofNat q))] [] X Q
  | 0, q, hq, X, hX, hap, hR, hk => by
    refine AT.iload_n M_220 rfl rfl ?_
    refine AT.bipush M_220 rfl (v := 7) (by decide) ?_
    refine AT.icmp_ge M_220 rfl (fun b4 => ?_) (fun b4 => absurd (by rw [show q = 7 by omega]; exact Int32.le_refl _) b4)
    have e : q = 7 := by omega
    subst e
    exact hk X (rRel0.rf o m X) hap hX
  | d + 1, q, hq, X, hX, hap, hR, hk => by
    have hk : ∀ Z, rRel0 o m (kTurn1N (xK X o) q + kTurnsN d (q + 1) (kTurn1 (xK X o) q)) ((kTurn1N (xK X o) q + kTurnsN d (q + 1) (kTurn1 (xK X o) q)) * 7) X Z (kTurnsF d (q + 1) (kTurn1 (xK X o) q)) → aPr Z o → J k (kTurnsF d (q + 1) (kTurn1 (xK X o) q)) → AT 220 15 [some (.ref (bB o)), some (.int (Int32.ofNat 7))] [] Z Q := hk
    refine AT.iload_n M_220 rfl rfl ?_
    refine AT.bipush M_220 rfl (v := 7) (by decide) ?_
    refine AT.icmp_ge M_220 rfl (fun b4 => absurd ((i32_le (a := 7) (b := q) (by omega) (by omega)).mp b4) (by omega)) (fun b4 => ?_)
    refine AT.aload_n M_220 rfl rfl ?_
    refine AT.r10_2 M_220 rfl h2 h4 ?_
    refine AT.iload_n M_220 rfl rfl ?_
    refine AT.ra_4 M_220 rfl rfl h2 h4 (by omega) ?_
    refine AT.if_eq M_220 rfl (fun b9 => ?_) (fun b9 => ?_)
    · refine AT.iinc1 M_220 rfl rfl (i32_succ _) ?_
      refine AT.goto M_220 rfl ?_
      have e1 : kTurn1 (xK X o) q = xK X o := (if_neg (fun z => z.1 b9)).trans (if_neg (fun z => z.1 b9))
      have e2 : kTurn1N (xK X o) q = 0 := (if_neg (fun z => z.1 b9)).trans (if_neg (fun z => z.1 b9))
      rw [e1, e2] at hk
      refine l_220a h2 h4 hJ hJ2 hnm hM d (q + 1) (by omega) X (hJ.2.2.2.2 (k + d) _ hX) hap hR (fun Z z1 z2 z3 => hk Z (z1.up (by omega) (by omega)) z2 z3)
    · refine AT.aload_n M_220 rfl rfl ?_
      refine AT.iload_n M_220 rfl rfl ?_
      refine AT.cv2w M_220 rfl M_221 rfl (Nat.le_of_ble_eq_true rfl) (xKd.of (sh_st h2 h4)) (by decide) (c_221 (s := q) (m := m) h2 h4 (by omega) ((hJ.1 _ _ hX).1 q (by omega)).1 ((hJ.1 _ _ hX).1 q (by omega)).2.1 hR hap (by have := ((hJ.1 _ _ hX).1 q (by omega)).2.2.1; omega) b9 ((hJ.1 _ _ hX).1 q (by omega)).2.2.2) (fun Y hc12 => ?_) (Nat.le_of_ble_eq_true rfl) rfl
      have r1 := hc12
      refine AT.iinc1 M_220 rfl rfl (i32_succ _) ?_
      refine AT.goto M_220 rfl ?_
      refine l_220a h2 h4 hJ hJ2 hnm hM d (q + 1) (by omega) Y (by rw [r1.k]; exact hJ.2.1 (k + d) _ _ (by omega) hX) r1.2.2 (r1.1.ok (by omega) hR) (fun Z z1 z2 z3 => hk Z ?_ z2 ?_)
      · rw [r1.k] at z1
        exact (r1.1.tr z1).up (by omega) (by omega)
      · rw [r1.k] at z3; exact z3
theorem l_220b {o n m k : Nat} {J : Nat → KK → Prop} (h2 : 2 ≤ o) (h4 : o < 4) (hJ : kInv n J) (hJ2 : ∀ k K, J k K → kRf K) (hnm : n + 1 ≤ m) (hM : m ≤ 399980) : ∀ (c : Nat) (X : XS), J (k + 1 + c) (xK X o) → aPr X o → rOkR X o → c ≤ (xK X o).2.2.length → AT 220 18 [some (.ref (bB o)), some (.int (Int32.ofNat c))] [] X (fun o' Z => o' = .inl none ∧ rRel0 o m (kHandsN c (xK X o)) (kHandsN c (xK X o) * 7) X Z (kTick (kHandsF c (xK X o))) ∧ aPr Z o ∧ J k (xK Z o))
  | 0, X, hX, hap, hR, hc => by
    refine AT.iload_n M_220 rfl rfl ?_
    refine AT.if_le M_220 rfl (fun b19 => ?_) (fun b19 => absurd (Int32.le_refl _) b19)
    refine AT.aload_n M_220 rfl rfl ?_
    refine AT.dup M_220 rfl ?_
    refine AT.r10_0 M_220 rfl h2 h4 ?_
    refine AT.iconst M_220 rfl (v := 1) (by decide) ?_
    refine AT.iadd M_220 rfl rfl ?_
    refine AT.w10_0 M_220 rfl h2 h4 ?_
    refine AT.vret M_220 rfl rfl ?_
    exact ⟨rfl, rRel0.set o m X _, fun i hi => by rw [xK_same]; exact hap i hi, by rw [xK_same]; exact hJ.2.2.2.1 k _ hX⟩
  | c + 1, X, hX, hap, hR, hc => by
    refine AT.rep (fun hr9 => ?_)
    have h60 := (hr9.choose_spec.2.2.2.2.2.2.1 o h4).1
    have h0 : 0 < (xK X o).2.2.length := by omega
    obtain ⟨w, hu⟩ : ∃ w, (xK X o).2.2[0]? = some w := ⟨_, List.getElem?_eq_getElem h0⟩
    have hw := (hJ.1 _ _ hX).2 0 w hu
    have hr := (hJ2 _ _ hX).1 0 w hu
    have hf := (hJ.1 _ _ hX).1 (mS w) hw.1.2.1
    have hH0 : kHand0 (xK X o) = kHand (xK X o) 0 (mS w) (mF w) w := by
      unfold kHand0
      cases hl : (xK X o).2.2 with
      | nil => rw [hl] at hu; cases hu
      | cons a t => rw [hl] at hu; have : a = w := Option.some.inj hu; subst this; rfl
    have hH0N : kHand0N (xK X o) = kHandN (xK X o) 0 (mS w) (mF w) w := by
      unfold kHand0N
      cases hl : (xK X o).2.2 with
      | nil => rw [hl] at hu; cases hu
      | cons a t => rw [hl] at hu; have : a = w := Option.some.inj hu; subst this; rfl
    show AT 220 18 _ [] X (fun o' Z => o' = .inl none ∧ rRel0 o m (kHandsN (c + 1) (xK X o)) (kHandsN (c + 1) (xK X o) * 7) X Z (kTick (kHandsF c (kHand0 (xK X o)))) ∧ aPr Z o ∧ J k (xK Z o))
    refine AT.iload_n M_220 rfl rfl ?_
    refine AT.if_le M_220 rfl (fun b19 => absurd ((i32_le (a := c + 1) (b := 0) (by omega) (by omega)).mp b19) (by omega)) (fun b19 => ?_)
    refine AT.aload_n M_220 rfl rfl ?_
    refine AT.iconst M_220 rfl (v := 0) (by decide) ?_
    refine AT.cv2u M_220 rfl M_210 rfl (Nat.le_of_ble_eq_true rfl) (xKd.of (sh_st h2 h4)) (by decide) (c_210 (m := m) (n := n) (j := 0) (s := mS w) (f := mF w) (w := w) h2 h4 hw.1.2.1 hf.1 hf.2.1 hR hap (by have := hf.2.2.1; omega) hM (by omega) (by omega) hu hw.1.1 hw.1.2.2.1 hw.1.2.2.2.1 hw.1.2.2.2.2 hr.1 hr.2 ((hJ2 _ _ hX).2 _ _ hw.1.2.1 hw.1.2.2.2.1) hw.2) (fun Y hc22 => ?_) (Nat.le_of_ble_eq_true rfl) rfl
    obtain ⟨r1, a1⟩ := hc22
    rw [← hH0, ← hH0N] at r1
    refine AT.popi M_220 rfl ?_
    refine AT.iinc1 M_220 rfl rfl (i32_dec _) ?_
    refine AT.goto M_220 rfl ?_
    refine AT.mono (l_220b h2 h4 hJ hJ2 hnm hM c Y (by rw [r1.k]; exact hJ.2.2.1 (k + 1 + c) _ hX) a1 (r1.ok (by omega) hR) (by rw [r1.k, hH0]; have := kHand_len (s := mS w) (f := mF w) (w := w) h0; omega)) ?_
    rintro o' Z ⟨z1, z2, z3, z4⟩
    rw [r1.k] at z2
    exact ⟨z1, (r1.tr z2).up (by show _ ≤ kHand0N (xK X o) + kHandsN c (kHand0 (xK X o)); omega) (by show _ ≤ (kHand0N (xK X o) + kHandsN c (kHand0 (xK X o))) * 7; omega), z3, z4⟩
theorem c_220 {X : XS} {o n m k : Nat} {J : Nat → KK → Prop} (h2 : 2 ≤ o) (h4 : o < 4) (hJ : kInv n J) (hJ2 : ∀ k K, J k K → kRf K) (hnm : n + 1 ≤ m) (hM : m ≤ 399980) (hX : J (k + 68) (xK X o)) (hap : aPr X o) (hR : rOkR X o) : RU 220 [some (.ref (bB o)), none] X none (fun Z => rRel0 o m (kRoundN (xK X o)) (kRoundN (xK X o) * 7) X Z (kRound (xK X o)) ∧ aPr Z o ∧ J k (xK Z o)) := by
  refine AT.iconst M_220 rfl (v := 0) (by decide) ?_
  refine AT.ist1 M_220 rfl rfl ?_
  refine l_220a (k := k + 61) h2 h4 hJ hJ2 hnm hM 7 0 rfl X hX hap hR (fun Z z1 z2 z3 => ?_)
  refine AT.aload_n M_220 rfl rfl ?_
  refine AT.r10_22 M_220 rfl h2 h4 ?_
  refine AT.ist1 M_220 rfl rfl ?_
  rw [← z1.k] at z3
  refine AT.rep (fun hr9 => ?_)
  have h60 := (hr9.choose_spec.2.2.2.2.2.2.1 o h4).1
  refine AT.mono (l_220b (k := k) h2 h4 hJ hJ2 hnm hM _ Z (hJ.le z3 (by omega)) z2 (z1.ok (by omega) hR) (Nat.le_refl _)) ?_
  rintro o' ZZ ⟨y1, y2, y3, y4⟩
  rw [z1.k] at y2
  exact ⟨y1, (z1.tr y2).up (by show _ ≤ kTurnsN 7 0 (xK X o) + kHandsN _ _; omega) (by show _ ≤ (kTurnsN 7 0 (xK X o) + kHandsN _ _) * 7; omega), y3, y4⟩
