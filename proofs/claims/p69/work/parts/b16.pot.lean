/-! ===== HOW MANY BEGIN TO LEAD ===== -/
def h8 (l : List MSG) : Nat := l.countP (fun u => decide (u.1 1 = 8))
def wt (K : KK) (s : Nat) : Nat := if K.1 12 s 0 = 1 ∨ K.1 12 s 0 = 2 then 1 else 0
def phi (K : KK) : Nat := wt K 0 + wt K 1 + wt K 2 + wt K 3 + wt K 4 + wt K 5 + wt K 6 + h8 K.2.2
theorem wt_le (K : KK) (s : Nat) : wt K s ≤ 1 := by unfold wt; split <;> omega
theorem wt_0 {K : KK} {s : Nat} (h1 : ¬ K.1 12 s 0 = 1) (h2 : ¬ K.1 12 s 0 = 2) : wt K s = 0 := if_neg (fun z => z.elim h1 h2)
theorem wt_cg {K K' : KK} {s : Nat} (h : K'.1 12 s 0 = K.1 12 s 0) : wt K' s = wt K s := by unfold wt; rw [h]
/-- the messages that hurry don't become more, the row stays within its bound -/
def qM (K K' : KK) : Prop := h8 K'.2.2 ≤ h8 K.2.2 ∧ (K.2.2.length ≤ 60 → K'.2.2.length ≤ 60)
theorem qM.rf (K : KK) : qM K K := ⟨Nat.le_refl _, fun h => h⟩
theorem qM.tr {K K' K2 : KK} (h : qM K K') (k : qM K' K2) : qM K K2 := ⟨Nat.le_trans k.1 h.1, fun z => k.2 (h.2 z)⟩
theorem qM.eq {K K' : KK} (h : K'.2.2 = K.2.2) : qM K K' := by unfold qM; rw [h]; exact ⟨Nat.le_refl _, fun z => z⟩
theorem qM.send {K : KK} {u : MSG} (h : ¬ u.1 1 = 8) : qM K (kSend K u) := by
  unfold kSend
  split
  · rename_i hl
    refine ⟨?_, fun _ => ?_⟩
    · show h8 (K.2.2 ++ [u]) ≤ _
      unfold h8
      rw [List.countP_append, List.countP_cons_of_neg (by rw [decide_eq_true_eq]; exact h)]
      exact Nat.le_refl _
    · show (K.2.2 ++ [u]).length ≤ 60
      rw [List.length_append, List.length_singleton]; omega
  · exact qM.eq rfl
theorem mLog_k (K : KK) (s q : Nat) : ¬ (mLog K s q).1 1 = 8 := by
  unfold mLog
  split
  · show ¬ (5 : Int32) = 8; decide
  · show ¬ (7 : Int32) = 8; decide
theorem qM.allF (s : Nat) (mm : Int32) : ∀ (n q : Nat) (K : KK), qM K (kAllF s mm n q K)
  | 0, _, K => qM.rf K
  | n + 1, q, K => by
    unfold kAllF
    split
    · exact (qM.send (mLog_k K s q)).tr (qM.allF s mm n (q + 1) _)
    · exact qM.allF s mm n (q + 1) _
theorem qM.askF (s : Nat) (mm kd tm : Int32) (h : ¬ kd = 8) : ∀ (n q : Nat) (K : KK), qM K (kAskF s mm kd tm n q K)
  | 0, _, K => qM.rf K
  | n + 1, q, K => by
    unfold kAskF
    split
    · exact (qM.send (u := mAsk K s q kd tm) h).tr (qM.askF s mm kd tm h n (q + 1) _)
    · exact qM.askF s mm kd tm h n (q + 1) _
theorem kLk_m (K : KK) (s : Nat) : (kLk K s).2 = K.2 := by
  unfold kLk kLook kStep
  split
  · exact kComm_2 K s _ _
  · exact kComm_2 K s _ _
theorem kLk_12 (K : KK) (s i : Nat) : ((kLk K s).1 12 i 0 = K.1 12 i 0 ∨ (i = s ∧ (kLk K s).1 12 i 0 = 0)) := by
  unfold kLk kLook kStep
  split
  · by_cases e : i = s
    · refine Or.inr ⟨e, ?_⟩
      rw [e, kSet_ne (by omega), kSet_at]
    · refine Or.inl ?_
      rw [kSet_ne (by omega), kSet_ne (by omega), kComm_1 (by omega) (by omega) (by omega)]
  · exact Or.inl (kComm_1 (by omega) (by omega) (by omega))
theorem wt_lk (K : KK) (s i : Nat) : wt (kLk K s) i ≤ wt K i := by
  rcases kLk_12 K s i with z | ⟨-, z⟩
  · rw [wt_cg z]; exact Nat.le_refl _
  · rw [wt_0 (by rw [z]; decide) (by rw [z]; decide)]; exact Nat.zero_le _
/-- server s does something: n begin to lead, at most m more could -/
def pS (s n m : Nat) (K K' : KK) : Prop := (∀ i, ¬ i = s → K'.1 12 i 0 = K.1 12 i 0) ∧ qM K K' ∧ n + wt K' s ≤ wt K s + m
theorem pS.ph {s n m : Nat} {K K' : KK} (hs : s < 7) (h : pS s n m K K') : n + phi K' ≤ phi K + m ∧ (K.2.2.length ≤ 60 → K'.2.2.length ≤ 60) := by
  obtain ⟨h1, h2, h3⟩ := h
  have hw : ∀ i, ¬ i = s → wt K' i = wt K i := fun i hi => wt_cg (h1 i hi)
  have h4 := h2.1
  refine ⟨?_, h2.2⟩
  unfold phi
  rcases (by omega : s = 0 ∨ s = 1 ∨ s = 2 ∨ s = 3 ∨ s = 4 ∨ s = 5 ∨ s = 6) with rfl | rfl | rfl | rfl | rfl | rfl | rfl
  · rw [hw 1 (by decide), hw 2 (by decide), hw 3 (by decide), hw 4 (by decide), hw 5 (by decide), hw 6 (by decide)]; omega
  · rw [hw 0 (by decide), hw 2 (by decide), hw 3 (by decide), hw 4 (by decide), hw 5 (by decide), hw 6 (by decide)]; omega
  · rw [hw 0 (by decide), hw 1 (by decide), hw 3 (by decide), hw 4 (by decide), hw 5 (by decide), hw 6 (by decide)]; omega
  · rw [hw 0 (by decide), hw 1 (by decide), hw 2 (by decide), hw 4 (by decide), hw 5 (by decide), hw 6 (by decide)]; omega
  · rw [hw 0 (by decide), hw 1 (by decide), hw 2 (by decide), hw 3 (by decide), hw 5 (by decide), hw 6 (by decide)]; omega
  · rw [hw 0 (by decide), hw 1 (by decide), hw 2 (by decide), hw 3 (by decide), hw 4 (by decide), hw 6 (by decide)]; omega
  · rw [hw 0 (by decide), hw 1 (by decide), hw 2 (by decide), hw 3 (by decide), hw 4 (by decide), hw 5 (by decide)]; omega
/-- a leader of this moment: no weight -/
theorem kLeadA_p (K : KK) (s : Nat) : (∀ i, ¬ i = s → (kLeadA K s).1 12 i 0 = K.1 12 i 0) ∧ qM K (kLeadA K s) ∧ wt (kLeadA K s) s = 0 := by
  have e3 : ∀ i, (kSnd (kLd K s) s).1 12 i 0 = if i = s then 3 else K.1 12 i 0 := fun i => by
    rw [kSnd_1 _ _ (by omega)]
    show (kLead K s).1 12 i 0 = _
    by_cases e : i = s
    · subst e
      rw [kLead_v, if_neg (by omega), if_neg (by omega), if_neg (by omega), if_neg (by omega), if_pos ⟨rfl, rfl, rfl⟩, if_pos rfl]
    · rw [kLead_1 (by omega), if_neg e]
  refine ⟨fun i hi => ?_, ?_, ?_⟩
  · unfold kLeadA
    rcases kLk_12 (kSnd (kLd K s) s) s i with z | ⟨z, -⟩
    · rw [z, e3, if_neg hi]
    · exact absurd z hi
  · unfold kLeadA
    exact ((qM.eq (K := K) (K' := kLd K s) rfl).tr (qM.allF s _ 7 0 _)).tr (qM.eq (by rw [kLk_m]; rfl))
  · have := wt_lk (kSnd (kLd K s) s) s s
    have e0 : wt (kSnd (kLd K s) s) s = 0 := wt_0 (by rw [e3, if_pos rfl]; decide) (by rw [e3, if_pos rfl]; decide)
    unfold kLeadA
    omega
theorem kStand_12 (K : KK) (s i : Nat) (hi : ¬ i = s) : (kStand K s).1 12 i 0 = K.1 12 i 0 := kStand_1 (by omega)
theorem kStandA_p (K : KK) (s : Nat) : (∀ i, ¬ i = s → (kStandA K s).1 12 i 0 = K.1 12 i 0) ∧ qM K (kStandA K s) ∧ kStandN K s + wt (kStandA K s) s ≤ 1 := by
  unfold kStandA kStandN
  by_cases c : sMost (sMem K s) ((kStand K s).1 16 s 0) = true
  · rw [if_pos c, if_pos c]
    obtain ⟨a, b, d⟩ := kLeadA_p (kStand K s) s
    exact ⟨fun i hi => (a i hi).trans (kStand_12 K s i hi), (qM.eq (K := K) (K' := kStand K s) rfl).tr b, by omega⟩
  · rw [if_neg c, if_neg c]
    refine ⟨fun i hi => ?_, (qM.eq (K := K) (K' := kStand K s) rfl).tr (qM.askF s _ 3 _ (by decide) 7 0 _), ?_⟩
    · rw [kAskF_1 _ _ _ _ _ (by omega)]; exact kStand_12 K s i hi
    · have := wt_le (kAskF s (sMem K s) 3 ((kStand K s).1 5 s 0) 7 0 (kStand K s)) s; omega
theorem kSoundA_p (K : KK) (s : Nat) : pS s (kSoundN K s) 1 K (kSoundA K s) := by
  unfold kSoundA kSoundN
  by_cases c0 : Int32.ofNat (K.2.1 s).length < 48
  · rw [if_pos c0, if_pos c0]
    have st : ∀ i, ¬ i = s → (kStart K s 1).1 12 i 0 = K.1 12 i 0 := fun i hi => kStart_1 (by omega)
    by_cases c : sMost (sMem K s) ((kStart K s 1).1 16 s 0) = true
    · rw [if_pos c, if_pos c]
      obtain ⟨a, b, d⟩ := kStandA_p (kStart K s 1) s
      exact ⟨fun i hi => (a i hi).trans (st i hi), (qM.eq (K := K) (K' := kStart K s 1) rfl).tr b, by omega⟩
    · rw [if_neg c, if_neg c]
      refine ⟨fun i hi => ?_, (qM.eq (K := K) (K' := kStart K s 1) rfl).tr (qM.askF s _ 1 _ (by decide) 7 0 _), ?_⟩
      · rw [kAskF_1 _ _ _ _ _ (by omega)]; exact st i hi
      · have := wt_le (kAskF s (sMem K s) 1 ((kStart K s 1).1 5 s 0 + 1) 7 0 (kStart K s 1)) s; omega
  · rw [if_neg c0, if_neg c0]
    refine ⟨fun i _ => kSet_ne (by omega), qM.eq rfl, ?_⟩
    rw [wt_cg (K := K) (K' := kSet K 14 s 0 0) (kSet_ne (by omega))]; omega
theorem kOnYes_p {K : KK} {s : Nat} {w : MSG} {rl tm st : Int32} (hc : (rl = 1 ∧ st = 2) ∨ (rl = 2 ∧ st = 3)) : pS s (kOnYesN K s w rl tm st) 0 K (kOnYes K s w rl tm st) := by
  unfold kOnYes kOnYesN
  by_cases c : sYes K s w rl tm = true
  · rw [if_pos c, if_pos c]
    unfold sYes at c
    rw [Bool.and_eq_true, Bool.and_eq_true] at c
    have hr := of_decide_eq_true c.2.1
    have h1 : wt K s = 1 := if_pos (by rcases hc with z | z; (rw [hr, z.1]; exact Or.inl rfl); (rw [hr, z.1]; exact Or.inr rfl))
    have yy : ∀ i, (kYes K s w).1 12 i 0 = K.1 12 i 0 := fun i => kSet_ne (by omega)
    by_cases c2 : sMost (sMem K s) ((kYes K s w).1 16 s 0) = true
    · rw [if_pos c2, if_pos c2]
      rcases hc with z | z
      · rw [z.2, kRiseN_2, show kRise (kYes K s w) s 2 = kStandA (kYes K s w) s from rfl]
        obtain ⟨a, b, d⟩ := kStandA_p (kYes K s w) s
        exact ⟨fun i hi => (a i hi).trans (yy i), (qM.eq (K := K) (K' := kYes K s w) rfl).tr b, by omega⟩
      · rw [z.2, kRiseN_3, show kRise (kYes K s w) s 3 = kLeadA (kYes K s w) s from rfl]
        obtain ⟨a, b, d⟩ := kLeadA_p (kYes K s w) s
        exact ⟨fun i hi => (a i hi).trans (yy i), (qM.eq (K := K) (K' := kYes K s w) rfl).tr b, by omega⟩
    · rw [if_neg c2, if_neg c2]
      exact ⟨fun i _ => yy i, qM.eq rfl, by rw [wt_cg (yy s)]; omega⟩
  · rw [if_neg c, if_neg c]
    exact ⟨fun _ _ => rfl, qM.rf K, by omega⟩
theorem kObey_p (K : KK) (s : Nat) (x : Int32) : (∀ i, ¬ i = s → (kObey K s x).1 12 i 0 = K.1 12 i 0) ∧ (kObey K s x).1 12 s 0 = 0 := by
  refine ⟨fun i hi => kObey_1 (by omega), ?_⟩
  unfold kObey
  rw [kSet_ne (by omega), kSet_ne (by omega), kSet_at]
/-- from K to K' roles are kept but for s, who may have none -/
theorem pS.no {K K' : KK} {s : Nat} (h : ∀ i, K'.1 12 i 0 = K.1 12 i 0) (hm : qM K K') : pS s 0 0 K K' := ⟨fun i _ => h i, hm, by rw [wt_cg (h s)]; omega⟩
theorem kOnEnt_p (K : KK) (s : Nat) (w : MSG) : pS s 0 0 K (kOnEnt K s w) := by
  obtain ⟨o1, o2⟩ := kObey_p K s (w.1 2)
  unfold kOnEnt
  split
  · exact pS.no (fun i => kSend_1 _ _ (by omega)) (qM.send (by show ¬ (6 : Int32) = 8; decide))
  · have main : ∀ K', (∀ i, K'.1 12 i 0 = (kObey K s (w.1 2)).1 12 i 0) → qM (kObey K s (w.1 2)) K' → pS s 0 0 K K' := fun K' h1 h2 => ⟨fun i hi => (h1 i).trans (o1 i hi), (qM.eq (K := K) (K' := kObey K s (w.1 2)) rfl).tr h2, by
      have e0 : K'.1 12 s 0 = 0 := (h1 s).trans o2
      rw [wt_0 (K := K') (by rw [e0]; decide) (by rw [e0]; decide)]; omega⟩
    unfold kOnEnt2 kEntT
    split
    · refine main _ (fun i => ?_) ?_
      · rw [kSend_1 _ _ (by omega), kCommTo_1 (by omega) (by omega) (by omega), (kAccs_1' s _ _ _).1]
      · refine (qM.eq (K' := kCommTo (kAccs s (kObey K s (w.1 2)) (w.1 6 + 1) w.2.2) s (kMin (w.1 8) (w.1 6 + w.1 9))) ?_).tr (qM.send (by show ¬ (6 : Int32) = 8; decide))
        show (kComm _ _ _ _).2.2 = _
        rw [kComm_2, (kAccs_1' s _ _ _).2.1]
    · exact main _ (fun i => kSend_1 _ _ (by omega)) (qM.send (by show ¬ (6 : Int32) = 8; decide))
theorem kInst_p (K : KK) (s : Nat) (r : Option ENT) : (∀ i, (kInst K s r).1 12 i 0 = K.1 12 i 0) ∧ (kInst K s r).2.2 = K.2.2 := by
  cases r with
  | none => exact ⟨fun _ => rfl, rfl⟩
  | some r =>
    show (∀ i, (if K.1 15 s 0 < r 0 then kTab (kSet (kCut K s (sCutN K s r) r) 15 s 0 (r 0)) s r else K).1 12 i 0 = _) ∧ (if K.1 15 s 0 < r 0 then kTab (kSet (kCut K s (sCutN K s r) r) 15 s 0 (r 0)) s r else K).2.2 = _
    split
    · exact ⟨fun i => by rw [kTab_1 (by omega), kSet_ne (by omega), kCut_1 (by omega)], rfl⟩
    · exact ⟨fun _ => rfl, rfl⟩
theorem kOnSnp_p (K : KK) (s : Nat) (w : MSG) : pS s 0 0 K (kOnSnp K s w) := by
  obtain ⟨o1, o2⟩ := kObey_p K s (w.1 2)
  obtain ⟨i1, i2⟩ := kInst_p (kObey K s (w.1 2)) s w.2.1
  unfold kOnSnp
  split
  · exact pS.no (fun i => kSend_1 _ _ (by omega)) (qM.send (by show ¬ (6 : Int32) = 8; decide))
  · have h1 : ∀ i, (kSend (kInst (kObey K s (w.1 2)) s w.2.1) (mRep w 6 (K.1 5 s 0) 1 (w.1 6))).1 12 i 0 = (kObey K s (w.1 2)).1 12 i 0 := fun i => by rw [kSend_1 _ _ (by omega), i1]
    refine ⟨fun i hi => (h1 i).trans (o1 i hi), (qM.eq (K := K) (K' := kInst (kObey K s (w.1 2)) s w.2.1) i2).tr (qM.send (by show ¬ (6 : Int32) = 8; decide)), ?_⟩
    have e0 := (h1 s).trans o2
    rw [wt_0 (by rw [e0]; decide) (by rw [e0]; decide)]; omega
theorem kLearn_m (K : KK) (s f : Nat) (x : Int32) : (kLearn K s f x).2 = K.2 := by
  unfold kLearn; split <;> rfl
theorem kOnAns_p (K : KK) (s f : Nat) (w : MSG) : pS s 0 0 K (kOnAns K s f w) := by
  unfold kOnAns
  split
  · split
    · exact pS.no (fun i => by rw [kSend_1 _ _ (by omega), kSet_ne (by omega)]) ((qM.eq (K := K) (K' := kSet K 2 s f (kMax (w.1 6) (K.1 3 s f) + 1)) rfl).tr (qM.send (mLog_k _ _ _)))
    · have e1 : ∀ i, (kLearn K s f (w.1 6)).1 12 i 0 = K.1 12 i 0 := fun i => kLearn_1 (by omega)
      have main : pS s 0 0 K (kLk (kLearn K s f (w.1 6)) s) := by
        refine ⟨fun i hi => ?_, qM.eq (by rw [kLk_m, kLearn_m]), ?_⟩
        · rcases kLk_12 (kLearn K s f (w.1 6)) s i with z | ⟨z, -⟩
          · rw [z, e1]
          · exact absurd z hi
        · have := wt_lk (kLearn K s f (w.1 6)) s s
          rw [wt_cg (e1 s)] at this
          omega
      unfold kAns6
      split
      · obtain ⟨a, b, c⟩ := main
        have e2 : ∀ i, (kSend (kLk (kLearn K s f (w.1 6)) s) (mLog (kLk (kLearn K s f (w.1 6)) s) s f)).1 12 i 0 = (kLk (kLearn K s f (w.1 6)) s).1 12 i 0 := fun i => kSend_1 _ _ (by omega)
        exact ⟨fun i hi => (e2 i).trans (a i hi), b.tr (qM.send (mLog_k _ _ _)), by rw [wt_cg (e2 s)]; exact c⟩
      · exact main
  · exact ⟨fun _ _ => rfl, qM.rf K, by omega⟩
/-- a message is carried out: one that hurries may make one lead -/
theorem kGo_p (K : KK) (s f : Nat) {w : MSG} (hw : mWf w) : pS s (kGoN K s w) (if w.1 1 = 8 then 1 else 0) K (kGo K s f w) := by
  unfold kGo kGoN
  by_cases c1 : w.1 1 = 1
  · rw [if_pos c1, if_pos c1, if_neg (by rw [c1]; decide)]
    exact pS.no (fun i => kSend_1 _ _ (by omega)) (qM.send (by show ¬ (2 : Int32) = 8; decide))
  rw [if_neg c1, if_neg c1]
  by_cases c2 : w.1 1 = 2
  · rw [if_pos c2, if_pos c2, if_neg (by rw [c2]; decide)]
    exact kOnYes_p (Or.inl ⟨rfl, rfl⟩)
  rw [if_neg c2, if_neg c2]
  by_cases c3 : w.1 1 = 3
  · rw [if_pos c3, if_pos c3, if_neg (by rw [c3]; decide)]
    have eg : ∀ i, (kGrant K s w).1 12 i 0 = K.1 12 i 0 := fun i => by
      unfold kGrant
      split
      · rw [kSet_ne (by omega), kSet_ne (by omega)]
      · rfl
    have em : (kGrant K s w).2.2 = K.2.2 := by unfold kGrant; split <;> rfl
    exact pS.no (fun i => by unfold kOnCal; rw [kSend_1 _ _ (by omega), eg]) ((qM.eq (K := K) (K' := kGrant K s w) em).tr (qM.send (by show ¬ (4 : Int32) = 8; decide)))
  rw [if_neg c3, if_neg c3]
  by_cases c4 : w.1 1 = 4
  · rw [if_pos c4, if_pos c4, if_neg (by rw [c4]; decide)]
    exact kOnYes_p (Or.inr ⟨rfl, rfl⟩)
  rw [if_neg c4, if_neg c4]
  by_cases c5 : w.1 1 = 5
  · rw [if_pos c5, if_pos c5, if_neg (by rw [c5]; decide)]
    exact kOnEnt_p K s w
  rw [if_neg c5, if_neg c5]
  by_cases c6 : w.1 1 = 6
  · rw [if_pos c6, if_pos c6, if_neg (by rw [c6]; decide)]
    exact kOnAns_p K s f w
  rw [if_neg c6, if_neg c6]
  by_cases c7 : w.1 1 = 7
  · rw [if_pos c7, if_pos c7, if_neg (by rw [c7]; decide)]
    exact kOnSnp_p K s w
  rw [if_neg c7, if_neg c7]
  by_cases c8 : sHur K s (sMem K s) w = true
  · rw [if_pos c8, if_pos c8]
    obtain ⟨a, b, d⟩ := kStandA_p K s
    have c9 : w.1 1 = 8 := by
      rcases hw.2.2.2.2 with z | z | z | z | z | z | z | z
      · exact absurd z c1
      · exact absurd z c2
      · exact absurd z c3
      · exact absurd z c4
      · exact absurd z c5
      · exact absurd z c6
      · exact absurd z c7
      · exact z
    rw [if_pos c9]; exact ⟨a, b, by omega⟩
  · rw [if_neg c8, if_neg c8]
    exact ⟨fun _ _ => rfl, qM.rf K, by omega⟩
theorem h8_drop : ∀ (l : List MSG) (j : Nat) (w : MSG), l[j]? = some w → h8 (l.eraseIdx j) + (if w.1 1 = 8 then 1 else 0) = h8 l
  | [], _, _, h => by cases h
  | x :: l, 0, w, h => by
    have e : x = w := Option.some.inj h
    subst e
    show l.countP _ + _ = (x :: l).countP _
    by_cases c : x.1 1 = 8
    · rw [if_pos c, List.countP_cons_of_pos (by rw [decide_eq_true_eq]; exact c)]
    · rw [if_neg c, List.countP_cons_of_neg (by rw [decide_eq_true_eq]; exact c)]
      rfl
  | x :: l, j + 1, w, h => by
    have ih := h8_drop l j w h
    show (x :: l.eraseIdx j).countP _ + _ = (x :: l).countP _
    unfold h8 at ih
    rw [List.countP_cons, List.countP_cons]
    omega
theorem phi_cg {K K' : KK} (h : ∀ i, K'.1 12 i 0 = K.1 12 i 0) : phi K' + h8 K.2.2 = phi K + h8 K'.2.2 := by
  unfold phi
  rw [wt_cg (h 0), wt_cg (h 1), wt_cg (h 2), wt_cg (h 3), wt_cg (h 4), wt_cg (h 5), wt_cg (h 6)]
  omega
theorem kEnter_p (K : KK) (s : Nat) (w : MSG) : pS s 0 0 K (kEnter K s w) := by
  unfold kEnter
  split
  · have e0 : (kTerm K s (w.1 4)).1 12 s 0 = 0 := by
      unfold kTerm
      rw [kSet_ne (by omega), kSet_at]
    exact ⟨fun i hi => kTerm_1 (by omega), qM.eq rfl, by rw [wt_0 (by rw [e0]; decide) (by rw [e0]; decide)]; omega⟩
  · exact ⟨fun _ _ => rfl, qM.rf K, by omega⟩
theorem kHand_p {K : KK} {j : Nat} {w : MSG} (hj : K.2.2[j]? = some w) (hw : mWf w) : kHandN K j (mS w) (mF w) w + phi (kHand K j (mS w) (mF w) w) ≤ phi K ∧ (K.2.2.length ≤ 60 → (kHand K j (mS w) (mF w) w).2.2.length ≤ 60) := by
  have hd := h8_drop _ _ _ hj
  have e1 := phi_cg (K := K) (K' := kDrop K j) (fun _ => rfl)
  have e2 : h8 (kDrop K j).2.2 = h8 (K.2.2.eraseIdx j) := rfl
  have hl : K.2.2.length ≤ 60 → (kDrop K j).2.2.length ≤ 60 := fun z => Nat.le_trans (List.length_eraseIdx_le K.2.2 j) z
  unfold kHand kHandN
  by_cases c : kArr K (mS w) (mF w) = true
  · rw [if_pos c, if_pos c]
    obtain ⟨p1, p2⟩ := (kEnter_p (kDrop K j) (mS w) w).ph hw.2.1
    obtain ⟨p3, p4⟩ := (kGo_p (kEnter (kDrop K j) (mS w) w) (mS w) (mF w) hw).ph hw.2.1
    exact ⟨by omega, fun z => p4 (p2 (hl z))⟩
  · rw [if_neg c, if_neg c]
    have e3 := phi_cg (K := kDrop K j) (K' := kLose (kDrop K j)) (fun i => kSet_ne (by omega))
    have e4 : h8 (kLose (kDrop K j)).2.2 = h8 (kDrop K j).2.2 := rfl
    exact ⟨by omega, hl⟩
theorem kTurn1_p (K : KK) (i : Nat) : pS i (kTurn1N K i) 1 K (kTurn1 K i) := by
  have b1 : ∀ x, (kBeat K i).1 12 x 0 = K.1 12 x 0 := fun x => kSet_ne (by omega)
  have w1 : ∀ x, (kWait K i).1 12 x 0 = K.1 12 x 0 := fun x => kSet_ne (by omega)
  have no : ∀ K', (∀ x, K'.1 12 x 0 = K.1 12 x 0) → qM K K' → pS i 0 1 K K' := fun K' h hm => ⟨fun x _ => h x, hm, by rw [wt_cg (h i)]; omega⟩
  unfold kTurn1 kTurn1N
  split
  · split
    · exact no _ (fun x => by rw [kSnd_1 _ _ (by omega), b1]) ((qM.eq (K := K) (K' := kBeat K i) rfl).tr (qM.allF i _ 7 0 _))
    · exact no _ b1 (qM.eq rfl)
  · split
    · split
      · exact no _ w1 (qM.eq rfl)
      · obtain ⟨a, b, d⟩ := kSoundA_p (kWait K i) i
        exact ⟨fun x hx => (a x hx).trans (w1 x), (qM.eq (K := K) (K' := kWait K i) rfl).tr b, by rw [wt_cg (w1 i)] at d; exact d⟩
    · exact no _ (fun _ => rfl) (qM.rf K)
section ROUNDS
variable {n : Nat} {J : Nat → KK → Prop}
theorem kTurns_p (hJ : kInv n J) {k : Nat} : ∀ (m q : Nat) (K : KK), q + m ≤ 7 → J (k + m) K → kTurnsN m q K + phi (kTurnsF m q K) ≤ phi K + m ∧ (K.2.2.length ≤ 60 → (kTurnsF m q K).2.2.length ≤ 60) ∧ J k (kTurnsF m q K)
  | 0, _, K, _, h => ⟨by show 0 + phi K ≤ _; omega, fun z => z, h⟩
  | m + 1, q, K, hq, h => by
    obtain ⟨p1, p2⟩ := (kTurn1_p K q).ph (by omega)
    obtain ⟨a, b, c⟩ := kTurns_p hJ m (q + 1) (kTurn1 K q) (by omega) (hJ.2.1 _ _ _ (by omega) h)
    refine ⟨?_, fun z => b (p2 z), c⟩
    show kTurn1N K q + kTurnsN m (q + 1) (kTurn1 K q) + phi (kTurnsF m (q + 1) (kTurn1 K q)) ≤ _
    omega
theorem kHands_p (hJ : kInv n J) {k : Nat} : ∀ (m : Nat) (K : KK), J (k + m) K → kHandsN m K + phi (kHandsF m K) ≤ phi K ∧ (K.2.2.length ≤ 60 → (kHandsF m K).2.2.length ≤ 60) ∧ J k (kHandsF m K)
  | 0, K, h => ⟨by show 0 + phi K ≤ _; omega, fun z => z, h⟩
  | m + 1, K, h => by
    have one : kHand0N K + phi (kHand0 K) ≤ phi K ∧ (K.2.2.length ≤ 60 → (kHand0 K).2.2.length ≤ 60) := by
      cases e : K.2.2 with
      | nil =>
        have e1 : kHand0 K = K := by unfold kHand0; rw [e]
        have e2 : kHand0N K = 0 := by unfold kHand0N; rw [e]
        rw [e1, e2, e]; exact ⟨by omega, fun z => z⟩
      | cons w t =>
        have h0 : K.2.2[0]? = some w := by rw [e]; rfl
        rw [(kHand0_c e).1, (kHand0_c e).2, ← e]
        exact kHand_p h0 ((hJ.1 _ _ h).2 0 w h0).1
    obtain ⟨a, b, c⟩ := kHands_p hJ m (kHand0 K) (hJ.2.2.1 _ _ h)
    refine ⟨?_, fun z => b (one.2 z), c⟩
    have := one.1
    show kHand0N K + kHandsN m (kHand0 K) + phi (kHandsF m (kHand0 K)) ≤ _
    omega
theorem kRound_p (hJ : kInv n J) {k : Nat} {K : KK} (h : J (k + 68) K) (h60 : K.2.2.length ≤ 60) : kRoundN K + phi (kRound K) ≤ phi K + 7 ∧ (kRound K).2.2.length ≤ 60 ∧ J k (kRound K) := by
  obtain ⟨a1, a2, a3⟩ := kTurns_p hJ (k := k + 61) 7 0 K (by omega) (show J (k + 61 + 7) K from h)
  unfold kRound kRoundN
  obtain ⟨T, hT⟩ : ∃ T, T = kTurnsF 7 0 K := ⟨_, rfl⟩
  rw [← hT] at a1 a2 a3 ⊢
  have h6 := a2 h60
  obtain ⟨b1, b2, b3⟩ := kHands_p hJ (k := k + 61 - T.2.2.length) T.2.2.length T (by rw [show k + 61 - T.2.2.length + T.2.2.length = k + 61 by omega]; exact a3)
  obtain ⟨H, hH⟩ : ∃ H, H = kHandsF T.2.2.length T := ⟨_, rfl⟩
  rw [← hH] at b1 b2 b3 ⊢
  have e1 := phi_cg (K := H) (K' := kTick H) (fun i => kSet_ne (by omega))
  have e2 : (kTick H).2.2 = H.2.2 := rfl
  rw [e2] at e1 ⊢
  refine ⟨by omega, b2 h6, hJ.2.2.2.1 k H ?_⟩
  exact hJ.le b3 (by omega)
theorem kRnds_p (hJ : kInv n J) {k : Nat} : ∀ (N : Nat) (K : KK), J (k + 68 * N) K → K.2.2.length ≤ 60 → kRndsN N K + phi (kRnds N K) ≤ phi K + 7 * N ∧ (kRnds N K).2.2.length ≤ 60 ∧ J k (kRnds N K)
  | 0, K, h, h60 => ⟨by show 0 + phi K ≤ _; omega, h60, h⟩
  | N + 1, K, h, h60 => by
    obtain ⟨a1, a2, a3⟩ := kRound_p hJ (k := k + 68 * N) (by rw [show k + 68 * N + 68 = k + 68 * (N + 1) by omega]; exact h) h60
    obtain ⟨b1, b2, b3⟩ := kRnds_p hJ N (kRound K) a3 a2
    refine ⟨?_, b2, b3⟩
    show kRoundN K + kRndsN N (kRound K) + phi (kRnds N (kRound K)) ≤ _
    omega
theorem kUnt_p (hJ : kInv n J) {k : Nat} (p : KK → Bool) : ∀ (N : Nat) (K : KK), J (k + 68 * N) K → K.2.2.length ≤ 60 → kUntN p N K ≤ phi K + 7 * N
  | 0, K, h, h60 => Nat.zero_le _
  | N + 1, K, h, h60 => by
    obtain ⟨a1, a2, a3⟩ := kRound_p hJ (k := k + 68 * N) (by rw [show k + 68 * N + 68 = k + 68 * (N + 1) by omega]; exact h) h60
    have b := kUnt_p hJ p N (kRound K) a3 a2
    unfold kUntN
    split
    · omega
    · omega
theorem phi_le {K : KK} (h : K.2.2.length ≤ 60) : phi K ≤ 67 := by
  have := wt_le K 0
  have := wt_le K 1
  have := wt_le K 2
  have := wt_le K 3
  have := wt_le K 4
  have := wt_le K 5
  have := wt_le K 6
  have h8l : h8 K.2.2 ≤ K.2.2.length := List.countP_le_length
  unfold phi
  omega
end ROUNDS
