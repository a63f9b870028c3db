/-! ===== ALL THAT IS KEPT beside the agreement ===== -/
def dnS (K : KK) (i : Nat) : Prop := K.1 4 i 0 = 0 → K.1 12 i 0 = 0 ∧ K.1 14 i 0 = 0 ∧ K.1 15 i 0 = K.1 18 i 0
def LD (led : Nat → Nat) (G : GG) : Prop := ∀ t, ¬ led t = 0 → gD G t = some (led t - 1)
theorem LD.up {led : Nat → Nat} {G G' : GG} (h : LD led G) (hG : gLe G G') : LD led G' := fun t ht => hG.1 _ _ (h t ht)
def NN (tl cl led : Nat → Nat) (S : Nat → Int32) (K : KK) (G : GG) : Prop := (∀ i, i < 7 → okS K i ∧ dnS K i ∧ tl i ≤ kT K i ∧ cl i ≤ kC K i) ∧ EV S K ∧ TB K G ∧ LD led G
theorem CLo.and {m0 : Int32} {A B s : Nat} {w : MSG} {P Q : KK → GG → KK → GG → Prop} (h : CLo m0 A B s w P) (k : CLo m0 A B s w Q) : CLo m0 A B s w (fun K G K' G' => P K G K' G' ∧ Q K G K' G') :=
  ⟨fun K G => ⟨h.1 K G, k.1 K G⟩, fun _ _ _ _ _ _ a b => ⟨h.2.1 _ _ _ _ _ _ a.1 b.1, k.2.1 _ _ _ _ _ _ a.2 b.2⟩, fun n K G K' G' a b c d => ⟨h.2.2 n K G K' G' a b c d, k.2.2 n K G K' G' a b c d⟩⟩
/-- what a server's step does -/
def stp (S : Nat → Int32) (s : Nat) (w : MSG) (K : KK) (G : GG) (K' : KK) (G' : GG) : Prop := stR s K K' ∧ (uV S w → EV S K → EV S K') ∧ (tU G w → TB K G → tU G' w ∧ TB K' G')
theorem stp.cl (S : Nat → Int32) (m0 : Int32) (A B : Nat) {s : Nat} (w : MSG) (hs : s < 7) : CLo m0 A B s w (stp S s w) := (stR.cl m0 A B w hs).and ((EV.cl S m0 A B w hs).and (TB.cl m0 A B w hs))
section KEEP
variable {m0 : Int32} {A B k s : Nat} {K K' : KK} {G G' : GG} {tl cl led : Nat → Nat} {S : Nat → Int32}
theorem NN.stp {w : MSG} (h : NN tl cl led S K G) (hup : ¬ K.1 4 s 0 = 0) (hG : gLe G G') (hw : uV S w) (hw2 : tU G w) (hp : stp S s w K G K' G') : NN tl cl led S K' G' := by
  obtain ⟨⟨p1, p2, p3, p4, p5⟩, p6, p7⟩ := hp
  refine ⟨fun i hi => ?_, p6 hw h.2.1, (p7 hw2 h.2.2.1).2, h.2.2.2.up hG⟩
  obtain ⟨a, b, c, d⟩ := h.1 i hi
  by_cases e : i = s
  · subst e
    exact ⟨p5 a, fun z => absurd z (by rw [p2 4 i 0 (by unfold frF; omega)]; exact hup), Nat.le_trans c p3, Nat.le_trans d p4⟩
  · refine ⟨a.cg (fun f j hf => p1 i f j e (by omega)), ?_, ?_, ?_⟩
    · unfold dnS
      rw [p1 i 4 0 e (by omega), p1 i 12 0 e (by omega), p1 i 14 0 e (by omega), p1 i 15 0 e (by omega), p1 i 18 0 e (by omega)]
      exact b
    · unfold kT; rw [p1 i 5 0 e (by omega)]; exact c
    · unfold kC; rw [p1 i 15 0 e (by omega)]; exact d
/-- what nobody looks at -/
theorem NN.fr (h : NN tl cl led S K G) (hl : K'.2.1 = K.2.1) (hu : ∀ u, u ∈ K'.2.2 → u ∈ K.2.2) (hn : ∀ f i j, ¬ (f = 30 ∨ f = 31 ∨ f = 32 ∨ f = 33 ∨ f = 34 ∨ f = 35 ∨ f = 36) → K'.1 f i j = K.1 f i j) : NN tl cl led S K' G := by
  refine ⟨fun i hi => ?_, h.2.1.fr (fun i _ e he => by rw [hl] at he; exact he) (fun i j => hn 18 i j (by omega)) (fun i j => hn 19 i j (by omega)) (fun u hu' => Or.inl (hu u hu')), h.2.2.1.fr (fun f i j hf => hn f i j (by omega)) (fun u hu' => Or.inl (hu u hu')), h.2.2.2⟩
  obtain ⟨a, b, c, d⟩ := h.1 i hi
  refine ⟨a.cg (fun f j hf => hn f i j (by omega)), ?_, ?_, ?_⟩
  · unfold dnS
    rw [hn 4 i 0 (by omega), hn 12 i 0 (by omega), hn 14 i 0 (by omega), hn 15 i 0 (by omega), hn 18 i 0 (by omega)]
    exact b
  · unfold kT; rw [hn 5 i 0 (by omega)]; exact c
  · unfold kC; rw [hn 15 i 0 (by omega)]; exact d
theorem NN.turn1 (h : kAll m0 A B (k + 1) K G) (hs : s < 7) (z : NN tl cl led S K G) : ∃ G', kAll m0 A B k (kTurn1 K s) G' ∧ NN tl cl led S (kTurn1 K s) G' := by
  obtain ⟨G', g1, g2, g3⟩ := (stp.cl S m0 A B (s := s) (mNew0 0 0 0 0) hs).turn1 h hs
  refine ⟨G', g1, ?_⟩
  rcases g3 with ⟨e1, e2⟩ | ⟨e1, e2⟩
  · rw [e1, e2]; exact z
  · exact z.stp e1 g2 (uV.z rfl) (tU.z rfl) e2
theorem NN.drop (z : NN tl cl led S K G) (j : Nat) : NN tl cl led S (kDrop K j) G := z.fr rfl (fun u hu => List.mem_of_mem_eraseIdx hu) (fun f i j' _ => rfl)
theorem NN.lose (z : NN tl cl led S K G) : NN tl cl led S (kLose K) G := z.fr rfl (fun u hu => hu) (fun f i j hf => kSet_ne (by omega))
theorem NN.hand {w : MSG} {j : Nat} (h : kAll m0 A B (k + 1) K G) (hj : K.2.2[j]? = some w) (z : NN tl cl led S K G) : ∃ G', kAll m0 A B k (kHand K j (mS w) (mF w) w) G' ∧ NN tl cl led S (kHand K j (mS w) (mF w) w) G' := by
  have hm : w ∈ K.2.2 := List.mem_of_getElem? hj
  have hw := h.2.2.1 w hm
  obtain ⟨G', g1, g2, g3⟩ := (stp.cl S m0 A B (s := mS w) w hw.1.2.1).hand h hj
  refine ⟨G', g1, ?_⟩
  rcases g3 with ⟨e1, e2⟩ | ⟨e1, e2⟩
  · refine (z.drop j).stp (s := mS w) ?_ g2 (z.2.1.2 w hm) (z.2.2.1.2 w hm) e2
    unfold kArr at e1
    rw [Bool.and_eq_true] at e1
    exact of_decide_eq_true e1.1
  · rw [e1, e2]; exact (z.drop j).lose
theorem NN.hand0 (h : kAll m0 A B (k + 1) K G) (z : NN tl cl led S K G) : ∃ G', kAll m0 A B k (kHand0 K) G' ∧ NN tl cl led S (kHand0 K) G' := by
  cases e : K.2.2 with
  | nil => unfold kHand0; rw [e]; exact ⟨G, h.dn, z⟩
  | cons w t => rw [(kHand0_c e).1]; exact NN.hand h (by rw [e]; rfl) z
/-- what the rounds keep -/
def JN (m0 : Int32) (A B : Nat) (tl cl led : Nat → Nat) (S : Nat → Int32) (P : (Nat → Nat → Nat → Int32) → Prop) (k : Nat) (K : KK) : Prop := (∃ G, kAll m0 A B k K G ∧ NN tl cl led S K G) ∧ P K.1
theorem JN.inv (m0 : Int32) (A B : Nat) (tl cl led : Nat → Nat) (S : Nat → Int32) {P : (Nat → Nat → Nat → Int32) → Prop} (hP : PFr P) : kInv B (JN m0 A B tl cl led S P) := by
  have st : ∀ (k : Nat) (K K' : KK), JN m0 A B tl cl led S P (k + 1) K → (∀ f i j, frF f → K'.1 f i j = K.1 f i j) → (∃ G', kAll m0 A B k K' G' ∧ NN tl cl led S K' G') → JN m0 A B tl cl led S P k K' := fun k K K' h hf hG => by
    exact ⟨hG, hP K K' hf h.2⟩
  refine ⟨fun k K h => ?_, fun k K i hi h => ?_, fun k K h => ?_, fun k K h => ?_, fun k K h => ?_⟩
  · obtain ⟨⟨G, g, -⟩, -⟩ := h; exact g.fit
  · exact st k K _ h (fun f a b hf => kTurn1_f hf) (by obtain ⟨⟨G, g, z⟩, -⟩ := h; exact NN.turn1 g hi z)
  · exact st k K _ h (fun f a b hf => kHand0_f hf) (by obtain ⟨⟨G, g, z⟩, -⟩ := h; exact NN.hand0 g z)
  · exact st k K _ h (fun f a b hf => kSet_ne (fun z => by unfold frF at hf; omega)) (by obtain ⟨⟨G, g, z⟩, -⟩ := h; exact ⟨G, g.dn.set (by unfold relF; omega), z.fr rfl (fun u hu => hu) (fun f i j hf => kSet_ne (by omega))⟩)
  · exact st k K _ h (fun _ _ _ _ => rfl) (by obtain ⟨⟨G, g, z⟩, -⟩ := h; exact ⟨G, g.dn, z⟩)
end KEEP
