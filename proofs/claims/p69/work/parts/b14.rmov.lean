/-! ===== THE SERVERS AGREE: the moves ===== -/
section MOV
variable {K : KK} {G : GG} {m0 : Int32} {A B k s : Nat}
theorem kAll.ask (h : kAll m0 A B k K G) (c : Nat) (kd ky ex vl : Int32) : kAll m0 A B k (kAsk K c kd ky ex vl) G := by
  refine kAll.set ?_ (by unfold relF; omega)
  exact h.fr (fun x _ => ⟨fun f j hf => kRow_ne (fun z => by unfold relF at hf; omega), rfl⟩) (fun u hu => Or.inl hu)
theorem kAll.link (h : kAll m0 A B k K G) (i j : Nat) : kAll m0 A B k (kTurn K i j) G := by
  unfold kTurn
  exact (h.set (by unfold relF; omega)).set (by unfold relF; omega)
theorem kAll.losem (h : kAll m0 A B k K G) (j : Nat) : kAll m0 A B k (kLose (kDrop K j)) G := (h.drop j).lose
theorem kAll.twice {j : Nat} {u : MSG} (h : kAll m0 A B k K G) (hu : K.2.2[j]? = some u) : kAll m0 A B k (kSend K u) G := h.send (h.2.2.1 u (List.mem_of_getElem? hu))
theorem kAll.hur {j : Nat} (h : kAll m0 A B k K G) (hs : s < 7) (hj : j < 7) (hne : ¬ s = j) : kAll m0 A B k (kSend K (mHur K s j)) G := by
  have hT := (h.2.1 s hs).2.1
  have hT2 := hT.2.1
  have hT1 := hT.1
  have eF : mF (mHur K s j) = s := toN (n := s) (by omega)
  have eS : mS (mHur K s j) = j := toN (n := j) (by omega)
  have eT : mT (mHur K s j) = kT K s := rfl
  have nk : ∀ x : Int32, ¬ x = 8 → ¬ (mHur K s j).1 1 = x := fun x hx z => hx (show x = 8 from (show (8 : Int32) = x from z).symm)
  refine h.send ⟨⟨by rw [eS]; rfl, by rw [eS]; exact hj, by rw [eF]; rfl, by rw [eF]; exact hs, Or.inr (Or.inr (Or.inr (Or.inr (Or.inr (Or.inr (Or.inr rfl))))))⟩, by rw [eF, eS]; exact hne, by rw [eT]; exact hT1, ⟨by rw [eT]; omega, fun _ => by rw [eT]; exact hT2⟩, Or.inl rfl, fun _ => rfl, fun z => absurd z (nk 3 (by decide)), fun z => absurd z (nk 4 (by decide)), fun z => absurd z (nk 5 (by decide)), fun z => absurd z (nk 6 (by decide)), fun z => absurd z (nk 7 (by decide))⟩
/-- what is committed goes back to the snapshot -/
theorem kAll.back {K' : KK} (h : kAll m0 A B k K G) (hs : s < 7) (hn : K'.2 = K.2) (e15 : K'.1 15 s 0 = K.1 18 s 0) (eo : ∀ f i j, relF f → ¬ (f = 15 ∧ i = s ∧ j = 0) → K'.1 f i j = K.1 f i j) : kAll m0 A B k K' G := by
  obtain ⟨⟨⟨a, c, a1, a2, a3, a4, a5, a6, a7, a8, a9⟩, aB, aE⟩, ⟨b1, b2, b3, b4, b5, b6⟩, c1, c2⟩ := h.2.1 s hs
  have hE : ∀ i, i < 7 → ¬ i = s → sEq K K' i := fun i _ e => ⟨fun f j hf => eo f i j hf (fun z => e z.2.1), by rw [hn]⟩
  have rel : ∀ {f : Nat}, (f = 2 ∨ f = 3 ∨ f = 5 ∨ f = 6 ∨ f = 12 ∨ f = 15 ∨ f = 16 ∨ f = 18) → relF f := fun z => z
  have eT : kT K' s = kT K s := by unfold kT; rw [eo 5 s 0 (rel (by omega)) (by omega)]
  have eR : kR K' s = kR K s := by unfold kR; rw [eo 12 s 0 (rel (by omega)) (by omega)]
  have eP : kP K' s = kP K s := by unfold kP; rw [eo 6 s 0 (rel (by omega)) (by omega)]
  have eY : ∀ v, kY K' s v = kY K s v := fun v => by unfold kY; rw [eo 16 s 0 (rel (by omega)) (by omega)]
  refine h.upd hE (gLe.rf G) (fun _ _ => rfl) (h.1.cg (fun x hx => ?_) (fun x hx => ?_) (fun x hx => ?_) (fun x hx _ v _ hy => Or.inl ?_)) ⟨⟨⟨a, a, (eo 18 s 0 (rel (by omega)) (by omega)).trans a1, e15.trans a1, Nat.le_refl _, Nat.le_trans a3 a4, by rw [hn]; exact a5, (eo 18 s 1 (rel (by omega)) (by omega)).trans a6, (eo 18 s 2 (rel (by omega)) (by omega)).trans a7, by rw [eT]; exact a8.le a3, a9⟩, aB, aE⟩, ⟨by rw [eo 5 s 0 (rel (by omega)) (by omega), eT]; exact b1, by rw [eT]; exact b2, by rw [eo 12 s 0 (rel (by omega)) (by omega), eR]; exact b3, by rw [eR]; exact b4, by rw [eo 6 s 0 (rel (by omega)) (by omega)]; exact b5, ?_⟩, fun z => ?_, fun z => by rw [eR] at z; rw [hn]; exact c2 z⟩ (fun u hu => Or.inl (by rw [hn] at hu; exact hu)) h.2.2.2
  · by_cases e : x = s
    · rw [e]; exact eT
    · exact (hE x hx e).t
  · by_cases e : x = s
    · rw [e]; exact eR
    · exact (hE x hx e).r
  · by_cases e : x = s
    · rw [e]; exact eP
    · exact (hE x hx e).p
  · by_cases e : x = s
    · rw [e] at hy ⊢; rw [← eY]; exact hy
    · rw [← (hE x hx e).y]; exact hy
  · obtain ⟨y, y1, y2⟩ := b6
    exact ⟨y, y1, (eo 16 s 0 (rel (by omega)) (by omega)).trans y2⟩
  · rw [eR] at z
    rw [eT]
    refine ⟨(c1 z).1, fun q hq7 => ?_⟩
    obtain ⟨nx, mt, q1, q2, q3, q4, q5, q6⟩ := (c1 z).2 q hq7
    exact ⟨nx, mt, (eo 2 s q (rel (by omega)) (by omega)).trans q1, q2, q3, (eo 3 s q (rel (by omega)) (by omega)).trans q4, q5, q6⟩
theorem kAll.down (h : kAll m0 A B k K G) (hs : s < 7) : kAll m0 A B k (kDown K s) G := by
  have g := ((h.set (f := 4) (i := s) (j := 0) (v := 0) (by unfold relF; omega)).quit hs).set (f := 14) (i := s) (j := 0) (v := 0) (by unfold relF; omega)
  refine g.back (s := s) hs rfl ?_ (fun f i j hf hne => ?_)
  · show (kTab _ s _).1 15 s 0 = _
    exact (kTab_1 (by omega)).trans ((kSet_at _ _ _ _ _).trans rfl)
  · show (kTab _ s _).1 f i j = _
    rw [kTab_1 (fun z => by unfold relF at hf; omega), kSet_ne hne]
/-- a log is shortened: the snapshot is what is committed -/
theorem kAll.cut {A' B' : Nat} (h : kAll m0 A B k K G) (hs : s < 7) (hA : A ≤ A') (hB : A' + 48 ≤ B') (hB' : B' ≤ 12400) (hF : ∀ i, i < 7 → (gF G i).length ≤ A') (hL : ∀ t, ¬ gD G t = none → (gL G t).length ≤ A') : kAll m0 A' B' k (kCut K s (kC K s - kA K s) (sSnap K s (kC K s - kA K s))) G := by
  have up : kAll m0 A' B' k K G := by
    refine ⟨h.1, fun i hi => ?_, fun u hu => ?_, h.2.2.2.1, fun t ht => ⟨by have := hL t ht; omega, (h.2.2.2.2.1 t ht).2⟩, hB, hB'⟩
    · obtain ⟨⟨⟨a, c, a1, a2, a3, a4, a5, a6, a7, a8, a9⟩, aB, aE⟩, b, c⟩ := h.2.1 i hi
      exact ⟨⟨⟨a, _, a1, a2, a3, a4, a5, a6, a7, a8, by omega⟩, by have := hF i hi; omega, aE⟩, b, c⟩
    · obtain ⟨o1, o2, o3, o4, o5, o6, o7, o8, o9, o10, o11⟩ := h.2.2.1 u hu
      refine ⟨o1, o2, o3, o4, o5, o6, o7, o8, o9, o10, fun z => ?_⟩
      obtain ⟨r, y, q1, q2, q3, q4, q5, q6, q7⟩ := o11 z
      exact ⟨r, y, q1, q2, q3, q4, q5, by omega, q7⟩
  obtain ⟨⟨⟨a, c, a1, a2, a3, a4, a5, a6, a7, a8, a9⟩, aB, aE⟩, ⟨b1, b2, b3, b4, b5, b6⟩, c1, c2⟩ := up.2.1 s hs
  have ea := kA_of a1 (by omega)
  have ec := kC_of a2 (by omega)
  have hFs := hF s hs
  rw [ea, ec]
  obtain ⟨K', hK'⟩ : ∃ K', K' = kCut K s (c - a) (sSnap K s (c - a)) := ⟨_, rfl⟩
  have eo : ∀ f i j, ¬ (f = 18 ∧ i = s) → K'.1 f i j = K.1 f i j := fun f i j hn => by rw [hK']; exact kCut_1 hn
  have e18 : ∀ j, K'.1 18 s j = sSnap K s (c - a) j := fun j => by rw [hK']; exact if_pos ⟨rfl, rfl⟩
  have el : K'.2.1 s = (gF G s).drop c := by
    rw [hK']
    show (if s = s then (K.2.1 s).drop (c - a) else _) = _
    rw [if_pos rfl, a5, List.drop_drop]; congr 1; omega
  have hE : ∀ i, i < 7 → ¬ i = s → sEq K K' i := fun i _ e => ⟨fun f j hf => eo f i j (fun z => e z.2), by rw [hK']; exact if_neg e⟩
  have eT : kT K' s = kT K s := by unfold kT; rw [eo 5 s 0 (by omega)]
  have eR : kR K' s = kR K s := by unfold kR; rw [eo 12 s 0 (by omega)]
  rw [← hK']
  refine up.upd hE (gLe.rf G) (fun _ _ => rfl) (up.1.cg (fun x hx => ?_) (fun x hx => ?_) (fun x hx => ?_) (fun x hx _ v _ hy => Or.inl ?_)) ⟨⟨⟨c, c, (e18 0).trans a2, (eo 15 s 0 (by omega)).trans a2, Nat.le_refl _, a4, el, ?_, ?_, by rw [eT]; exact a8, by omega⟩, aB, aE⟩, ⟨by rw [eo 5 s 0 (by omega), eT]; exact b1, by rw [eT]; exact b2, by rw [eo 12 s 0 (by omega), eR]; exact b3, by rw [eR]; exact b4, by rw [eo 6 s 0 (by omega)]; exact b5, ?_⟩, fun z => ?_, fun z => ?_⟩ (fun u hu => Or.inl (by rw [hK'] at hu; exact hu)) up.2.2.2
  · by_cases e : x = s
    · rw [e]; exact eT
    · exact (hE x hx e).t
  · by_cases e : x = s
    · rw [e]; exact eR
    · exact (hE x hx e).r
  · unfold kP; rw [eo 6 x 0 (by omega)]
  · unfold kY at hy ⊢; rw [← eo 16 x 0 (by omega)]; exact hy
  · refine (e18 1).trans ?_
    show sTix K s (K.1 15 s 0) = _
    rw [a2]
    exact fu_tix a1 a5 a6 (by omega) a3 a4
  · refine (e18 2).trans ?_
    show sMemL ((K.2.1 s).take (c - a)) (K.1 18 s 2) = _
    have app : ∀ (l m : List ENT) (d : Int32), sMemL (l ++ m) d = sMemL m (sMemL l d) := fun l => by
      induction l with
      | nil => intro m d; rfl
      | cons x l ih => intro m d; exact ih m _
    rw [a5, a7, ← app, ← List.take_add]
    congr 2; omega
  · obtain ⟨y, y1, y2⟩ := b6
    exact ⟨y, y1, (eo 16 s 0 (by omega)).trans y2⟩
  · rw [eR] at z
    rw [eT]
    refine ⟨(c1 z).1, fun q hq7 => ?_⟩
    obtain ⟨nx, mt, q1, q2, q3, q4, q5, q6⟩ := (c1 z).2 q hq7
    exact ⟨nx, mt, (eo 2 s q (by omega)).trans q1, q2, q3, (eo 3 s q (by omega)).trans q4, q5, q6⟩
  · rw [eR] at z
    have := c2 z
    rw [el, List.length_drop]
    rw [a5, List.length_drop] at this
    omega
end MOV
