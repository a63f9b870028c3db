/-! ===== THE SERVERS AGREE: messages come ===== -/
section MSGS
variable {K : KK} {G : GG} {m0 : Int32} {A B k s : Nat}
/-- a reply -/
theorem uRep {w : MSG} {kd ix : Int32} {t : Nat} (b : Bool) (hw : uOk m0 A k G w) (hkd : kd = 2 ∨ kd = 4 ∨ kd = 6) (ht : t < 2147483648) (hb : t + k ≤ 1000000000 ∨ kd = 2 ∧ b = true ∧ t + k ≤ 1000000001)
    (h4 : kd = 4 → b = true → ∃ VL, gV G t (mS w) = some (mF w, VL)) (h6 : kd = 6 → (b = true → ∃ y : Nat, ix = Int32.ofNat y ∧ y ≤ gA G t (mS w)) ∧ (b = false → ∃ y : Nat, ix = Int32.ofNat y ∧ (y = 0 ∨ gD G t = some (mF w) ∧ y ≤ (gL G t).length))) : uOk m0 A k G (mRep w kd (Int32.ofNat t) (bI b) ix) := by
  obtain ⟨⟨w1, w2, w3, w4, w5⟩, o2, -⟩ := hw
  have e1 : mF (mRep w kd (Int32.ofNat t) (bI b) ix) = mS w := rfl
  have e2 : mS (mRep w kd (Int32.ofNat t) (bI b) ix) = mF w := rfl
  have e3 : mT (mRep w kd (Int32.ofNat t) (bI b) ix) = t := toN ht
  have ek : (mRep w kd (Int32.ofNat t) (bI b) ix).1 1 = kd := rfl
  have e5 : (mRep w kd (Int32.ofNat t) (bI b) ix).1 5 = bI b := rfl
  have nk : ∀ x : Int32, ¬ x = 2 → ¬ x = 4 → ¬ x = 6 → ¬ (mRep w kd (Int32.ofNat t) (bI b) ix).1 1 = x := fun x x1 x3 x6 z => by
    rw [ek] at z
    rcases hkd with y | y | y
    · exact x1 (z.symm.trans y)
    · exact x3 (z.symm.trans y)
    · exact x6 (z.symm.trans y)
  refine ⟨⟨w3, w4, w1, w2, ?_⟩, fun z => o2 z.symm, by rw [e3]; rfl, ⟨by rw [e3]; rcases hb with z | z <;> omega, fun z => ?_⟩, ?_, fun _ => rfl, fun z => absurd z (nk 3 (by decide) (by decide) (by decide)), fun z y => ?_, fun z => absurd z (nk 5 (by decide) (by decide) (by decide)), fun z => ?_, fun z => absurd z (nk 7 (by decide) (by decide) (by decide))⟩
  · rw [ek]
    rcases hkd with y | y | y
    · exact Or.inr (Or.inl y)
    · exact Or.inr (Or.inr (Or.inr (Or.inl y)))
    · exact Or.inr (Or.inr (Or.inr (Or.inr (Or.inr (Or.inl y)))))
  · rw [e3]
    rcases hb with y | ⟨y1, y2, y3⟩
    · exact y
    · unfold sBears at z
      rw [ek, e5, y1, y2] at z
      exact absurd z (by decide)
  · rw [e5]; cases b
    · exact Or.inl rfl
    · exact Or.inr rfl
  · rw [e3, e1, e2]
    refine h4 (ek.symm.trans z) ?_
    cases b with
    | true => rfl
    | false => exact absurd rfl y
  · rw [e3, e1, e2]
    obtain ⟨q1, q2⟩ := h6 (ek.symm.trans z)
    refine ⟨fun y => ?_, fun y => ?_⟩
    · refine q1 ?_
      cases b with
      | true => rfl
      | false => exact absurd rfl y
    · refine q2 ?_
      cases b with
      | true => exact absurd (show (1 : Int32) = 0 from y) (by decide)
      | false => rfl
theorem uOk.dn {u : MSG} (h : uOk m0 A (k + 1) G u) : uOk m0 A k G u := by
  obtain ⟨o1, o2, o3, o4, o5⟩ := h
  exact ⟨o1, o2, o3, ⟨by omega, fun z => by have := o4.2 z; omega⟩, o5⟩
/-- the term of a message is entered -/
theorem kAll.enter {w : MSG} (h : kAll m0 A B k K G) (hs : s < 7) (hw : uOk m0 A k G w) : kAll m0 A B k (kEnter K s w) G ∧ (sBears w = true → mT w ≤ kT (kEnter K s w) s) ∧ (kEnter K s w).2 = K.2 := by
  have hT := (h.2.1 s hs).2.1
  have hT2 := hT.2.1
  unfold kEnter
  by_cases c : K.1 5 s 0 < w.1 4 ∧ sBears w = true
  · rw [if_pos c]
    obtain ⟨o1, o2, o3, o4, o5⟩ := hw
    have hb := o4.2 c.2
    have hlt : kT K s < mT w := by
      have := c.1
      rw [hT.1, o3, i32_lt (by omega) (by omega)] at this
      exact this
    rw [o3]
    refine ⟨h.term hs hlt hb, fun _ => ?_, rfl⟩
    unfold kT kTerm
    rw [kSet_ne (by omega), kSet_ne (by omega), kSet_ne (by omega), kSet_at, toN (by omega)]
    exact Nat.le_refl _
  · rw [if_neg c]
    refine ⟨h, fun z => ?_, rfl⟩
    obtain ⟨o1, o2, o3, o4, o5⟩ := hw
    have hb := o4.2 z
    refine Nat.le_of_not_lt (fun y => c ⟨?_, z⟩)
    rw [hT.1, o3, i32_lt (by omega) (by omega)]
    exact y
theorem kAll.onSnd {w : MSG} (h : kAll m0 A B k K G) (hs : s < 7) (hw : uOk m0 A k G w) : kAll m0 A B k (kOnSnd K s w) G := by
  have hT := (h.2.1 s hs).2.1
  have hT2 := hT.2.1
  unfold kOnSnd
  refine h.send ?_
  by_cases c : sSnd K s w = true
  · rw [if_pos c, c, hw.2.2.1]
    have := hw.2.2.2.1.1
    exact uRep true hw (Or.inl rfl) (by omega) (Or.inr ⟨rfl, rfl, this⟩) (fun z => absurd z (by decide)) (fun z => absurd z (by decide))
  · rw [if_neg c, Bool.eq_false_iff.mpr c, hT.1]
    exact uRep false hw (Or.inl rfl) (by omega) (Or.inl hT.2.1) (fun z => absurd z (by decide)) (fun z => absurd z (by decide))
theorem kAll.onCal {w : MSG} (h : kAll m0 A B k K G) (hs : s < 7) (hw : uOk m0 A k G w) (h3 : w.1 1 = 3) (hS : mS w = s) : ∃ G', kAll m0 A B k (kOnCal K s w) G' ∧ gLe G G' := by
  obtain ⟨G', g1, g2, g3⟩ := h.grant hs h3 hw rfl
  have hT := (g1.2.1 s hs).2.1
  have hT2 := hT.2.1
  have eT : kT (kGrant K s w) s = kT K s := by
    unfold kT kGrant
    split
    · rw [kSet_ne (by omega), kSet_ne (by omega)]
    · rfl
  refine ⟨G', ?_, g2⟩
  unfold kOnCal
  rw [hT.1]
  exact g1.send (uRep (sGrant K s w) (hw.ex g2 h.1.2.2.2.2.2.2.2.2.1 hw.1.2.2.2.1) (Or.inr (Or.inl rfl)) (by omega) (Or.inl hT.2.1) (fun _ z => by rw [eT, hS]; exact g3 z) (fun z => absurd z (by decide)))
theorem kR_of {r : Nat} (hr : r < 2147483648) (h : K.1 12 s 0 = Int32.ofNat r) : kR K s = r := by unfold kR; rw [h]; exact toN hr
theorem kAll.onYes2 {w : MSG} (h : kAll m0 A B (k + 1) K G) (hs : s < 7) (hw : uOk m0 A (k + 1) G w) : ∃ G', kAll m0 A B k (kOnYes K s w 1 (K.1 5 s 0 + 1) 2) G' ∧ gLe G G' := by
  unfold kOnYes
  by_cases c : sYes K s w 1 (K.1 5 s 0 + 1) = true
  · rw [if_pos c]
    unfold sYes at c
    rw [Bool.and_eq_true, Bool.and_eq_true] at c
    have hr : kR K s = 1 := kR_of (by omega) (of_decide_eq_true c.2.1)
    have g1 := h.yes (w := w) hs hw.1.2.2.1 hw.1.2.2.2.1 (fun z => by rw [hr] at z; omega)
    by_cases c2 : sMost (sMem K s) ((kYes K s w).1 16 s 0) = true
    · rw [if_pos c2, show kRise (kYes K s w) s 2 = kStandA (kYes K s w) s from rfl]
      exact g1.standA hs ((h.2.1 s hs).2.2.2 (Or.inl hr))
    · rw [if_neg c2]; exact ⟨G, g1.dn, gLe.rf G⟩
  · rw [if_neg c]; exact ⟨G, h.dn, gLe.rf G⟩
theorem kAll.onYes4 {w : MSG} (h : kAll m0 A B k K G) (hs : s < 7) (hw : uOk m0 A k G w) (h4 : w.1 1 = 4) (hS : mS w = s) : ∃ G', kAll m0 A B k (kOnYes K s w 2 (K.1 5 s 0) 3) G' ∧ gLe G G' := by
  unfold kOnYes
  by_cases c : sYes K s w 2 (K.1 5 s 0) = true
  · rw [if_pos c]
    unfold sYes at c
    rw [Bool.and_eq_true, Bool.and_eq_true] at c
    have hr : kR K s = 2 := kR_of (by omega) (of_decide_eq_true c.2.1)
    have hT : mT w = kT K s := by unfold mT kT; rw [of_decide_eq_true c.2.2]
    have hv := hw.2.2.2.2.2.2.2.1 h4 (of_decide_eq_true c.1)
    rw [hT, hS] at hv
    have g1 := h.yes (w := w) hs hw.1.2.2.1 hw.1.2.2.2.1 (fun _ => hv)
    by_cases c2 : sMost (sMem K s) ((kYes K s w).1 16 s 0) = true
    · rw [if_pos c2, show kRise (kYes K s w) s 3 = kLeadA (kYes K s w) s from rfl]
      refine g1.leadA hs ?_ (g1.most hs (sMem_cg (K := K) (K' := kYes K s w) rfl (kSet_ne (by omega))).symm c2)
      unfold kR kYes at *
      rw [kSet_ne (by omega)]; exact hr
    · rw [if_neg c2]; exact ⟨G, g1, gLe.rf G⟩
  · rw [if_neg c]; exact ⟨G, h, gLe.rf G⟩
/-- next and matched of a leader -/
theorem kAll.nxt {K' : KK} {q nx mt : Nat} (h : kAll m0 A B k K G) (hs : s < 7) (hr : kR K s = 3) (hq : q < 7) (h1 : 1 ≤ nx) (h2 : nx ≤ (gF G s).length + 1) (h3 : mt ≤ (gF G s).length) (h4 : ¬ q = s → mt ≤ gA G (kT K s) q)
    (hK : K'.2 = K.2) (e2 : K'.1 2 s q = Int32.ofNat nx) (e3 : K'.1 3 s q = Int32.ofNat mt) (eo : ∀ f i j, ¬ ((f = 2 ∨ f = 3) ∧ i = s ∧ j = q) → K'.1 f i j = K.1 f i j) : kAll m0 A B k K' G := by
  obtain ⟨a, ⟨b1, b2, b3, b4, b5, b6⟩, c1, c2⟩ := h.2.1 s hs
  have hE : ∀ i, i < 7 → ¬ i = s → sEq K K' i := fun i _ e => ⟨fun f j _ => eo f i j (fun z => e z.2.1), by rw [hK]⟩
  have eT : kT K' s = kT K s := by unfold kT; rw [eo 5 s 0 (by omega)]
  have eR : kR K' s = kR K s := by unfold kR; rw [eo 12 s 0 (by omega)]
  refine h.upd hE (gLe.rf G) (fun _ _ => rfl) (h.1.cg (fun x hx => ?_) (fun x hx => ?_) (fun x hx => ?_) (fun x hx _ v _ hy => Or.inl ?_)) ⟨a.num (fun j => eo 18 s j (by omega)) (eo 15 s 0 (by omega)) (by rw [hK]) (by rw [eT]; exact Nat.le_refl _), ⟨by rw [eo 5 s 0 (by omega), eT]; exact b1, by rw [eT]; exact b2, by rw [eo 12 s 0 (by omega), eR]; exact b3, by rw [eR]; exact b4, by rw [eo 6 s 0 (by omega)]; exact b5, by rw [eo 16 s 0 (by omega)]; exact b6⟩, fun _ => ⟨by rw [eT]; exact (c1 hr).1, fun p hp => ?_⟩, fun z => by rw [hK]; rw [eR] at z; exact c2 z⟩ (fun u hu => Or.inl (by rw [hK] at hu; exact hu)) h.2.2.2
  · unfold kT; rw [eo 5 x 0 (by omega)]
  · unfold kR; rw [eo 12 x 0 (by omega)]
  · unfold kP; rw [eo 6 x 0 (by omega)]
  · unfold kY at hy ⊢; rw [← eo 16 x 0 (by omega)]; exact hy
  · rw [eT]
    by_cases e : p = q
    · rw [e]
      exact ⟨nx, mt, e2, h1, h2, e3, h3, h4⟩
    · obtain ⟨nx', mt', q1, q2, q3, q4, q5, q6⟩ := (c1 hr).2 p hp
      exact ⟨nx', mt', (eo 2 s p (by omega)).trans q1, q2, q3, (eo 3 s p (by omega)).trans q4, q5, q6⟩
theorem kMax_n {a b : Nat} (ha : a < 2147483648) (hb : b < 2147483648) : kMax (Int32.ofNat a) (Int32.ofNat b) = Int32.ofNat (max a b) := by
  unfold kMax
  by_cases c : a < b
  · rw [if_pos ((i32_lt ha hb).mpr c), Nat.max_eq_right (Nat.le_of_lt c)]
  · rw [if_neg (fun z => c ((i32_lt ha hb).mp z)), Nat.max_eq_left (by omega)]
/-- what a leader does at an answer: the state behind next and matched -/
theorem kAll.ansN {w : MSG} {f : Nat} (h : kAll m0 A B k K G) (hs : s < 7) (hw : uOk m0 A k G w) (h6 : w.1 1 = 6) (hS : mS w = s) (hF : mF w = f) (hr : K.1 12 s 0 = 3) (ht : w.1 4 = K.1 5 s 0) : (w.1 5 = 0 → kAll m0 A B k (kSet K 2 s f (kMax (w.1 6) (K.1 3 s f) + 1)) G) ∧ (¬ w.1 5 = 0 → kAll m0 A B k (kLearn K s f (w.1 6)) G) := by
  have hr3 : kR K s = 3 := kR_of (r := 3) (by omega) hr
  have hT : mT w = kT K s := by unfold mT kT; rw [ht]
  have hf7 : f < 7 := by rw [← hF]; exact hw.1.2.2.2.1
  have hne : ¬ f = s := by rw [← hF, ← hS]; exact hw.2.1
  obtain ⟨d1, d2⟩ := (h.1.2.2.1 s hs).1 hr3
  obtain ⟨a, b, c1, c2⟩ := h.2.1 s hs
  obtain ⟨nx, mt, q1, q2, q3, q4, q5, q6⟩ := (c1 hr3).2 f hf7
  have hB := h.2.2.2.2.2.2
  have aB := a.2.1
  have o10 := hw.2.2.2.2.2.2.2.2.2.1 h6
  rw [hT, hF] at o10
  refine ⟨fun z => ?_, fun z => ?_⟩
  · obtain ⟨y, y1, y2⟩ := o10.2 z
    rw [← d2] at y2
    have hy : y ≤ (gF G s).length := by omega
    rw [y1, q4, kMax_n (by omega) (by omega), i32_suc1]
    exact h.nxt (K' := kSet K 2 s f (Int32.ofNat (max y mt + 1))) (nx := max y mt + 1) (mt := mt) hs hr3 hf7 (by omega) (by omega) q5 q6 rfl (kSet_at _ _ _ _ _) ((kSet_ne (by omega)).trans q4) (fun f' i j hn => kSet_ne (by omega))
  · obtain ⟨y, y1, y2⟩ := o10.1 z
    have hy : y ≤ (gF G s).length := by
      rw [d2]
      by_cases e : gA G (kT K s) f = 0
      · omega
      · have := (h.1.2.2.2.2.2.1 _ _ hf7 e).2.2; omega
    unfold kLearn
    by_cases c : w.1 6 ≤ K.1 3 s f
    · rw [if_pos c]; exact h
    · rw [if_neg c, y1, i32_suc1]
      exact h.nxt (K' := kSet (kSet K 3 s f (Int32.ofNat y)) 2 s f (Int32.ofNat (y + 1))) (nx := y + 1) (mt := y) hs hr3 hf7 (by omega) (by omega) hy (fun _ => y2) rfl (kSet_at _ _ _ _ _) ((kSet_ne (by omega)).trans (kSet_at _ _ _ _ _)) (fun f' i j hn => (kSet_ne (by omega)).trans (kSet_ne (by omega)))
theorem kAll.onAns {w : MSG} {f : Nat} (h : kAll m0 A B k K G) (hs : s < 7) (hw : uOk m0 A k G w) (h6 : w.1 1 = 6) (hS : mS w = s) (hF : mF w = f) : ∃ G', kAll m0 A B k (kOnAns K s f w) G' ∧ gLe G G' := by
  have hf7 : f < 7 := by rw [← hF]; exact hw.1.2.2.2.1
  have hne : ¬ s = f := by rw [← hF, ← hS]; exact fun z => hw.2.1 z.symm
  unfold kOnAns
  by_cases c : K.1 12 s 0 = 3 ∧ w.1 4 = K.1 5 s 0
  · rw [if_pos c]
    obtain ⟨g1, g2⟩ := h.ansN hs hw h6 hS hF c.1 c.2
    have hr3 : kR K s = 3 := kR_of (r := 3) (by omega) c.1
    by_cases c2 : w.1 5 = 0
    · rw [if_pos c2]
      exact ⟨G, (g1 c2).send ((g1 c2).mlg hs (by unfold kR; rw [kSet_ne (by omega)]; exact hr3) hf7 hne), gLe.rf G⟩
    · rw [if_neg c2]
      have hr' : kR (kLearn K s f (w.1 6)) s = 3 := by
        unfold kR kLearn
        split
        · exact hr3
        · rw [kSet_ne (by omega), kSet_ne (by omega)]; exact hr3
      obtain ⟨G', g3, g9⟩ := (g2 c2).lk hs hr'
      unfold kAns6
      by_cases c3 : (kLk (kLearn K s f (w.1 6)) s).1 12 s 0 = 3 ∧ (kLk (kLearn K s f (w.1 6)) s).1 2 s f ≤ sLast (kLk (kLearn K s f (w.1 6)) s) s
      · rw [if_pos c3]
        exact ⟨G', g3.send (g3.mlg hs (kR_of (r := 3) (by omega) c3.1) hf7 hne), g9⟩
      · rw [if_neg c3]; exact ⟨G', g3, g9⟩
  · rw [if_neg c]; exact ⟨G, h, gLe.rf G⟩
end MSGS
