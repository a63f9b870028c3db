/-! ===== THE SERVERS AGREE: frames, messages ===== -/
theorem sEq.rf (K : KK) (i : Nat) : sEq K K i := ⟨fun _ _ _ => rfl, rfl⟩
theorem sEq.tr {K K' K2 : KK} {i : Nat} (h : sEq K K' i) (k : sEq K' K2 i) : sEq K K2 i := ⟨fun f j hf => (k.1 f j hf).trans (h.1 f j hf), k.2.trans h.2⟩
theorem sEq.set {K : KK} {f i j : Nat} {v : Int32} {x : Nat} (h : ¬ relF f ∨ ¬ x = i) : sEq K (kSet K f i j v) x := ⟨fun f' j' hf => kSet_ne (fun z => by
  rcases h with y | y
  · rw [z.1] at hf; exact y hf
  · exact y z.2.1), rfl⟩
theorem sEq.r {K K' : KK} {i : Nat} (h : sEq K K' i) : kR K' i = kR K i := by unfold kR; rw [h.1 12 0 (by unfold relF; omega)]
theorem sEq.p {K K' : KK} {i : Nat} (h : sEq K K' i) : kP K' i = kP K i := by unfold kP; rw [h.1 6 0 (by unfold relF; omega)]
theorem sEq.y {K K' : KK} {i : Nat} (h : sEq K K' i) (v : Nat) : kY K' i v = kY K i v := by unfold kY; rw [h.1 16 0 (by unfold relF; omega)]
theorem sEq.all {K K' : KK} {G G' : GG} {m0 : Int32} {A B k i : Nat} (hi : i < 7) (hE : sEq K K' i) (hG : gLe G G') (hC : iC m0 G) (hF : gF G' i = gF G i) (h : nA m0 A B K G i ∧ nB k K i ∧ nC K G i) : nA m0 A B K' G' i ∧ nB k K' i ∧ nC K' G' i := by
  obtain ⟨⟨⟨a, c, a1, a2, a3, a4, a5, a6, a7, a8, a9⟩, aB, aE⟩, ⟨b1, b2, b3, b4, b5, b6⟩, c1, c2⟩ := h
  have e : ∀ f j, relF f → K'.1 f i j = K.1 f i j := hE.1
  have r : ∀ {f : Nat}, (f = 2 ∨ f = 3 ∨ f = 5 ∨ f = 6 ∨ f = 12 ∨ f = 15 ∨ f = 16 ∨ f = 18) → relF f := fun z => z
  refine ⟨⟨⟨a, c, ?_, ?_, a3, ?_, ?_, ?_, ?_, ?_, a9⟩, ?_, ?_⟩, ⟨?_, ?_, ?_, ?_, ?_, ?_⟩, ?_, ?_⟩
  · rw [e 18 0 (r (by omega))]; exact a1
  · rw [e 15 0 (r (by omega))]; exact a2
  · rw [hF]; exact a4
  · rw [hE.2, hF]; exact a5
  · rw [e 18 1 (r (by omega)), hF]; exact a6
  · rw [e 18 2 (r (by omega)), hF]; exact a7
  · rw [hF, hE.t]; exact hG.cv hC a8
  · rw [hF]; exact aB
  · rw [hF]; exact aE
  · rw [hE.t, e 5 0 (r (by omega))]; exact b1
  · rw [hE.t]; exact b2
  · rw [hE.r, e 12 0 (r (by omega))]; exact b3
  · rw [hE.r]; exact b4
  · rw [e 6 0 (r (by omega))]; exact b5
  · rw [e 16 0 (r (by omega))]; exact b6
  · rw [hE.r, hE.t, hF]
    intro z
    refine ⟨Nat.le_trans (c1 z).1 (hG.2.2.2.1 _ _ hi), fun q hq => ?_⟩
    obtain ⟨nx, mt, q1, q2, q3, q4, q5, q6⟩ := (c1 z).2 q hq
    exact ⟨nx, mt, by rw [e 2 q (r (by omega))]; exact q1, q2, q3, by rw [e 3 q (r (by omega))]; exact q4, q5, fun y => Nat.le_trans (q6 y) (hG.2.2.2.1 _ _ hq)⟩
  · rw [hE.r, hE.2]; exact c2
/-- server s changes, and the messages -/
theorem kAll.upd {K K' : KK} {G G' : GG} {m0 : Int32} {A B k s : Nat} (h : kAll m0 A B k K G) (hE : ∀ i, i < 7 → ¬ i = s → sEq K K' i) (hG : gLe G G') (hF : ∀ i, ¬ i = s → gF G' i = gF G i)
    (hc : cI m0 (kT K') (kR K') (kP K') (kY K') G') (hn : nA m0 A B K' G' s ∧ nB k K' s ∧ nC K' G' s) (hm : ∀ u, u ∈ K'.2.2 → u ∈ K.2.2 ∨ uOk m0 A k G' u) (hg : gAll m0 A B G') : kAll m0 A B k K' G' := by
  obtain ⟨h1, h2, h3, h4⟩ := h
  have hC : iC m0 G := h1.2.2.2.2.2.2.2.2.1
  refine ⟨hc, fun i hi => ?_, fun u hu => ?_, hg⟩
  · by_cases e : i = s
    · rw [e]; exact hn
    · exact sEq.all hi (hE i hi e) hG hC (hF i e) (h2 i hi)
  · rcases hm u hu with z | z
    · have q := h3 u z
      exact q.ex hG hC q.1.2.2.2.1
    · exact z
theorem kAll.fr {K K' : KK} {G : GG} {m0 : Int32} {A B k : Nat} (h : kAll m0 A B k K G) (hE : ∀ i, i < 7 → sEq K K' i) (hm : ∀ u, u ∈ K'.2.2 → u ∈ K.2.2 ∨ uOk m0 A k G u) : kAll m0 A B k K' G := by
  obtain ⟨h1, h2, h3, h4⟩ := h
  have hC : iC m0 G := h1.2.2.2.2.2.2.2.2.1
  refine ⟨h1.cg (fun x hx => (hE x hx).t) (fun x hx => (hE x hx).r) (fun x hx => (hE x hx).p) (fun x hx _ v _ z => Or.inl (by rw [← (hE x hx).y]; exact z)), fun i hi => sEq.all hi (hE i hi) (gLe.rf G) hC rfl (h2 i hi), fun u hu => ?_, h4⟩
  rcases hm u hu with z | z
  · exact h3 u z
  · exact z
theorem kAll.set {K : KK} {G : GG} {m0 : Int32} {A B k f i j : Nat} {v : Int32} (h : kAll m0 A B k K G) (hf : ¬ relF f) : kAll m0 A B k (kSet K f i j v) G :=
  h.fr (fun x _ => sEq.set (Or.inl hf)) (fun u hu => Or.inl hu)
theorem kSend_net {K : KK} {u w : MSG} (h : w ∈ (kSend K u).2.2) : w ∈ K.2.2 ∨ w = u := by
  unfold kSend at h
  split at h
  · rcases List.mem_append.mp h with z | z
    · exact Or.inl z
    · exact Or.inr (List.mem_singleton.mp z)
  · exact Or.inl h
theorem sEq.send (K : KK) (u : MSG) (i : Nat) : sEq K (kSend K u) i := ⟨fun f j hf => kSend_1 K u (fun z => by rw [z] at hf; unfold relF at hf; omega), by rw [kSend_l]⟩
theorem kAll.send {K : KK} {G : GG} {m0 : Int32} {A B k : Nat} {u : MSG} (h : kAll m0 A B k K G) (hu : uOk m0 A k G u) : kAll m0 A B k (kSend K u) G :=
  h.fr (fun x _ => sEq.send K u x) (fun w hw => (kSend_net hw).imp id (fun z => by rw [z]; exact hu))
theorem kAll.net {K : KK} {G : GG} {m0 : Int32} {A B k : Nat} {l : List MSG} (h : kAll m0 A B k K G) (hl : ∀ u, u ∈ l → u ∈ K.2.2) : kAll m0 A B k (kNet K l) G :=
  h.fr (fun _ _ => ⟨fun _ _ _ => rfl, rfl⟩) (fun u hu => Or.inl (hl u hu))
theorem kAll.drop {K : KK} {G : GG} {m0 : Int32} {A B k : Nat} (h : kAll m0 A B k K G) (j : Nat) : kAll m0 A B k (kDrop K j) G := h.net (fun _ hu => List.mem_of_mem_eraseIdx hu)
theorem kAll.lose {K : KK} {G : GG} {m0 : Int32} {A B k : Nat} (h : kAll m0 A B k K G) : kAll m0 A B k (kLose K) G := h.set (by unfold relF; omega)
/-- fewer steps are left -/
theorem kAll.dn {K : KK} {G : GG} {m0 : Int32} {A B k : Nat} (h : kAll m0 A B (k + 1) K G) : kAll m0 A B k K G := by
  obtain ⟨h1, h2, h3, h4⟩ := h
  refine ⟨h1, fun s hs => ?_, fun u hu => ?_, h4⟩
  · obtain ⟨a, ⟨b1, b2, b3⟩, c⟩ := h2 s hs
    exact ⟨a, ⟨b1, by omega, b3⟩, c⟩
  · obtain ⟨o1, o2, o3, o4, o5⟩ := h3 u hu
    exact ⟨o1, o2, o3, ⟨by omega, fun z => by have := o4.2 z; omega⟩, o5⟩
/-! what a state says of a server, in short -/
section SRV
variable {K : KK} {G : GG} {m0 : Int32} {A B k s : Nat}
theorem kAll.ok (h : kAll m0 A B k K G) (hs : s < 7) : sOk K s ∧ kA K s + (K.2.1 s).length + 1 < 400000 ∧ (K.2.1 s).length ≤ B ∧ kA K s ≤ A ∧ kA K s + (K.2.1 s).length ≤ B ∧ sMem K s = sMemL (gF G s) m0 := by
  obtain ⟨h1, h2, h3, h4⟩ := h
  obtain ⟨⟨⟨a, c, a1, a2, a3, a4, a5, a6, a7, a8, a9⟩, aB, aE⟩, -, -⟩ := h2 s hs
  obtain ⟨⟨n, n1, n2⟩, -, -, hB⟩ := h4
  have ea := kA_of a1 (by omega)
  have ec := kC_of a2 (by omega)
  have el := fu_len a5
  refine ⟨⟨by rw [ea]; exact a1, by rw [ec]; exact a2, by rw [ea, ec]; exact a3, by rw [ea, ec, el]; omega, by rw [ea, el]; omega, fun e he => ?_, ?_⟩, by rw [ea, el]; omega, by rw [el]; omega, by rw [ea]; exact a9, by rw [ea, el]; omega, fu_mem a5 a7⟩
  · rw [a5] at he; exact (aE e (List.mem_of_mem_drop he)).2.1
  · rw [a7]
    exact sMemL_128 _ _ (fun e he => (aE e (List.mem_of_mem_take he)).2.1) ⟨n, n1, n2⟩
theorem kAll.nx (h : kAll m0 A B k K G) (hs : s < 7) (hr : K.1 12 s 0 = 3) {q : Nat} (hq : q < 7) : kNx K s q := by
  obtain ⟨h1, h2, h3, h4⟩ := h
  obtain ⟨⟨⟨a, c, a1, a2, a3, a4, a5, a6, a7, a8, a9⟩, aB, aE⟩, ⟨b1, b2, b3, b4, b5, b6⟩, c1, c2⟩ := h2 s hs
  have hB := h4.2.2.2
  have hr3 : kR K s = 3 := by unfold kR; rw [hr]; rfl
  obtain ⟨nx, mt, q1, q2, q3, q4, q5, q6⟩ := (c1 hr3).2 q hq
  intro hlt
  rw [a1, q1, i32_lt (by omega) (by omega)] at hlt
  exact ⟨a, nx - a - 1, a1, by rw [q1]; congr 1; omega, by rw [fu_len a5]; omega, by rw [fu_len a5]; omega⟩
end SRV
