/-! ===== THE SERVERS AGREE: more steps ===== -/
section STP
variable {m0 : Int32} {T R : Nat → Nat} {P : Nat → Option Nat} {Y : Nat → Nat → Bool} {G : GG}
theorem ag.ua {L M N : List ENT} {i : Nat} (h : ag L (M ++ N) i) (hi : i ≤ M.length) : ag L M i := by
  refine ⟨h.1, hi, ?_⟩
  rw [h.2.2, List.take_append_of_le_length hi]
/-- a leader appends an entry of its term -/
def gApp (G : GG) (t s : Nat) (e : ENT) : GG := (up1 (gF G) s (gL G t ++ [e]), up1 (gL G) t (gL G t ++ [e]), gE G, gD G, gW G, gV G, up2 (gA G) t s ((gL G t).length + 1), gC G)
theorem cI.app {s : Nat} {e : ENT} (h : cI m0 T R P Y G) (hs : s < 7) (h3 : R s = 3) (he : tm e = T s)
    (hm : e 1 = 4 → (∃ k n, gC G (T s) k n ∧ k ≤ (gL G (T s)).length ∧ n ≤ (gL G (T s)).length ∧ ∀ j' e', (gL G (T s))[j']? = some e' → e' 1 = 4 → j' < k) ∧ adj (cf m0 (gL G (T s) ++ [e])) (cf m0 (gL G (T s)))) : cI m0 T R P Y (gApp G (T s) s e) := by
  obtain ⟨d, f, r, v, p, a, s6, s7, c, m⟩ := h
  obtain ⟨a1, a2⟩ := (r s hs).1 h3
  have hd0 : ¬ gD G (T s) = none := by rw [a1]; exact fun z => by cases z
  have hlen := (d.len hd0).1
  have eL : ∀ t', ¬ t' = T s → gL (gApp G (T s) s e) t' = gL G t' := fun t' z => up1_n z
  have lT : gL (gApp G (T s) s e) (T s) = gL G (T s) ++ [e] := up1_s _ _ _
  have eF : ∀ x, ¬ x = s → gF (gApp G (T s) s e) x = gF G x := fun x z => up1_n z
  have lF : gF (gApp G (T s) s e) s = gL G (T s) ++ [e] := up1_s _ _ _
  have ext : ∀ t' M i, ag M (gL G t') i → ag M (gL (gApp G (T s) s e) t') i := fun t' M i q => by
    by_cases e1 : t' = T s
    · rw [e1] at q ⊢; rw [lT]; exact q.ap _
    · rw [eL _ e1]; exact q
  have unx : ∀ t' M i, ag M (gL (gApp G (T s) s e) t') i → i ≤ (gL G t').length → ag M (gL G t') i := fun t' M i q hi => by
    by_cases e1 : t' = T s
    · rw [e1] at q hi ⊢; rw [lT] at q; exact q.ua hi
    · rw [eL _ e1] at q; exact q
  have eEl : ∀ t', ¬ gD G t' = none → el (gApp G (T s) s e) t' = el G t' := fun t' z => by
    unfold el
    by_cases e1 : t' = T s
    · rw [e1, lT]
      exact List.take_append_of_le_length (Nat.le_of_lt hlen)
    · rw [eL _ e1]; rfl
  have vv : ∀ L, vL G L → vL (gApp G (T s) s e) L := fun L hL j x hx => by
    obtain ⟨b1, b2, b3⟩ := hL j x hx
    exact ⟨b1, b2, ext _ _ _ b3⟩
  have vF : vL (gApp G (T s) s e) (gL G (T s) ++ [e]) := fun j x hx => by
    rcases get_snoc hx with ⟨z1, z2⟩ | ⟨z1, z2⟩
    · obtain ⟨b1, b2, b3⟩ := vv _ (d.len hd0).2.1 j x z2
      exact ⟨b1, b2, b3.al _⟩
    · rw [z2, he, lT]
      refine ⟨hd0, ?_, ag.rf (by rw [List.length_append, List.length_singleton]; omega)⟩
      show gE G (T s) ≤ j
      omega
  have eA : ∀ t' u, u < 7 → gA G t' u ≤ gA (gApp G (T s) s e) t' u := fun t' u hu => by
    by_cases e1 : t' = T s ∧ u = s
    · rw [e1.1, e1.2, show gA (gApp G (T s) s e) (T s) s = (gL G (T s)).length + 1 from up2_s _ _ _ _]
      by_cases z : gA G (T s) s = 0
      · omega
      · have := (a (T s) s hs z).2.2; omega
    · rw [show gA (gApp G (T s) s e) t' u = gA G t' u from up2_n e1]; exact Nat.le_refl _
  have hbd : ∀ t' u i, u < 7 → i ≤ gA G t' u → ¬ i = 0 → i ≤ (gL G t').length := fun t' u i hu hi h0 => Nat.le_trans hi (a t' u hu (by omega)).2.2
  refine ⟨fun t' c' hc' => ?_, fun x hx => ?_, fun x hx => ?_, fun t' u c' VL hu => ?_, p, fun t' u hu h0 => ?_, fun u t' i hu hi hx => ?_, fun t t' u c' VL i hu g1 g2 g3 g4 => ?_, fun t' i n hc' => ?_, fun t' j x hd hj hx h9 => ?_⟩
  · obtain ⟨d1, d2, d3, d4, d5, d6, d7, d8, d9⟩ := d t' c' hc'
    have hdn : ¬ gD G t' = none := by rw [show gD G t' = some c' from hc']; exact fun z => by cases z
    rw [eEl _ hdn]
    by_cases e1 : t' = T s
    · subst e1
      rw [lT]
      refine ⟨d1, d2, d3, by rw [List.length_append]; exact Nat.lt_of_lt_of_le d4 (Nat.le_add_right _ _), d5, d6, d7, fun j x hx => ?_, vF⟩
      rcases get_snoc hx with ⟨z1, z2⟩ | ⟨z1, z2⟩
      · exact d8 j x z2
      · rw [z2]
        refine ⟨fun z => ?_, fun _ => he⟩
        have : j < gE G (T s) := z
        omega
    · rw [eL _ e1]
      exact ⟨d1, d2, d3, d4, d5, d6, d7, d8, vv _ d9⟩
  · by_cases e1 : x = s
    · subst e1
      rw [lF]
      refine ⟨vF, fun y hy => ?_⟩
      rcases List.mem_append.mp hy with z | z
      · exact (f x hs).2 y (by rw [a2]; exact z)
      · rw [List.mem_singleton.mp z, he]; exact Nat.le_refl _
    · rw [eF _ e1]
      exact ⟨vv _ (f x hx).1, (f x hx).2⟩
  · by_cases e1 : x = s
    · subst e1
      rw [lF, lT]
      exact ⟨fun _ => ⟨a1, rfl⟩, fun z => by rw [h3] at z; exact absurd z (by decide)⟩
    · rw [eF _ e1]
      refine ⟨fun z => ?_, (r x hx).2⟩
      obtain ⟨q1, q2⟩ := (r x hx).1 z
      have q3 : ¬ T x = T s := fun y => by rw [y, a1] at q1; exact e1 (Option.some.inj q1).symm
      rw [eL _ q3]
      exact ⟨q1, q2⟩
  · obtain ⟨v1, v2, v3, v4, v5, v6⟩ := v t' u c' VL hu
    exact ⟨v1, v2, v3, v4, vv _ v5, v6⟩
  · by_cases e1 : t' = T s ∧ u = s
    · obtain ⟨e2, e3⟩ := e1
      rw [e2, e3, lT, show gA (gApp G (T s) s e) (T s) s = (gL G (T s)).length + 1 from up2_s _ _ _ _, List.length_append, List.length_singleton]
      exact ⟨Nat.le_refl _, hd0, Nat.le_refl _⟩
    · rw [show gA (gApp G (T s) s e) t' u = gA G t' u from up2_n e1] at h0 ⊢
      obtain ⟨q1, q2, q3⟩ := a t' u hu h0
      refine ⟨q1, q2, ?_⟩
      by_cases e2 : t' = T s
      · rw [e2] at q3 ⊢; rw [lT, List.length_append]; exact Nat.le_trans q3 (Nat.le_add_right _ _)
      · rw [eL _ e2]; exact q3
  · by_cases e1 : t' = T s ∧ u = s
    · obtain ⟨e2, e3⟩ := e1
      rw [e2, e3] at hi ⊢
      rw [lF, lT]
      rw [show gA (gApp G (T s) s e) (T s) s = (gL G (T s)).length + 1 from up2_s _ _ _ _] at hi
      exact ag.rf (by rw [List.length_append, List.length_singleton]; exact hi)
    · rw [show gA (gApp G (T s) s e) t' u = gA G t' u from up2_n e1] at hi
      by_cases h0 : i = 0
      · rw [h0]; exact ag.z _ _
      · have hb := hbd t' u i hu hi h0
        have q := s6 u t' i hu hi (fun t2 q1 q2 q3 => by
          have q4 := hx t2 q1 q2 q3
          rw [eEl t2 q3] at q4
          exact unx _ _ _ q4 hb)
        refine ext _ _ _ ?_
        by_cases e2 : u = s
        · rw [e2] at q ⊢
          rw [lF, ← a2]
          exact q.al _
        · rw [eF _ e2]; exact q
  · have hu7 := (v t' u c' VL hu).1
    have htu := (v t' u c' VL hu).2.2.1
    have e1 : ¬ (t = T s ∧ u = s) := fun z => by rw [z.2] at htu; omega
    rw [show gA (gApp G (T s) s e) t u = gA G t u from up2_n e1] at g2
    by_cases h0 : i = 0
    · rw [h0]; exact ag.z _ _
    · have hb := hbd t u i hu7 g2 h0
      refine ext _ _ _ (s7 t t' u c' VL i hu g1 g2 (fun t2 q1 q2 q3 => ?_) ?_)
      · have q4 := g3 t2 q1 q2 q3
        rw [eEl t2 q3] at q4
        exact unx _ _ _ q4 hb
      · by_cases hdn : gD G t' = none
        · exact Or.inl hdn
        · rcases g4 with z | z | z
          · exact Or.inl z
          · exact Or.inr (Or.inl z)
          · rw [eEl t' hdn] at z
            exact Or.inr (Or.inr (unx _ _ _ z hb))
  · obtain ⟨b1, b2, b3, b4, QQ, b5, b6⟩ := c t' i n hc'
    by_cases e1 : t' = T s
    · subst e1
      rw [lT]
      refine ⟨b1, b2, b3, by rw [List.length_append]; exact Nat.le_trans b4 (Nat.le_add_right _ _), QQ, ?_, fun u hu hQ => Nat.le_trans (b6 u hu hQ) (eA _ u hu)⟩
      rw [List.take_append_of_le_length b4]
      exact b5
    · rw [eL _ e1]
      exact ⟨b1, b2, b3, b4, QQ, b5, fun u hu hQ => Nat.le_trans (b6 u hu hQ) (eA _ u hu)⟩
  · by_cases e1 : t' = T s
    · subst e1
      rw [lT] at hx ⊢
      rcases get_snoc hx with ⟨z1, z2⟩ | ⟨z1, z2⟩
      · obtain ⟨⟨k, n, c1, c2, c3, c4⟩, c5⟩ := m (T s) j x hd hj z2 h9
        refine ⟨⟨k, n, c1, c2, c3, fun j' e' q1 q2 q3 => ?_⟩, ?_⟩
        · rcases get_snoc q2 with ⟨y1, y2⟩ | ⟨y1, y2⟩
          · exact c4 j' e' q1 y2 q3
          · omega
        · rw [List.take_append_of_le_length (by omega), List.take_append_of_le_length (by omega)]
          exact c5
      · rw [z2] at h9
        obtain ⟨⟨k, n, c1, c2, c3, c4⟩, c5⟩ := hm h9
        refine ⟨⟨k, n, c1, by omega, by omega, fun j' e' q1 q2 q3 => ?_⟩, ?_⟩
        · rcases get_snoc q2 with ⟨y1, y2⟩ | ⟨y1, y2⟩
          · exact c4 j' e' y2 q3
          · omega
        · rw [z1, List.take_append_of_le_length (Nat.le_refl _), List.take_length, List.take_of_length_le (by rw [List.length_append, List.length_singleton]; exact Nat.le_refl _)]
          exact c5
    · rw [eL _ e1] at hx ⊢
      exact m t' j x hd hj hx h9
/-- entries of the leader are taken, up to e -/
def gAcc (G : GG) (t v e : Nat) (F : List ENT) : GG := (up1 (gF G) v F, gL G, gE G, gD G, gW G, gV G, up2 (gA G) t v (max (gA G t v) e), gC G)
theorem cI.acc {v e : Nat} {F : List ENT} (h : cI m0 T R P Y G) (hv : v < 7) (h2 : ¬ R v = 2) (h3 : ¬ R v = 3) (hd : ¬ gD G (T v) = none) (he : e ≤ (gL G (T v)).length)
    (hF1 : ag (gF G v) (gL G (T v)) e → F = gF G v) (hF2 : ¬ ag (gF G v) (gL G (T v)) e → F = (gL G (T v)).take e) : cI m0 T R P Y (gAcc G (T v) v e F) := by
  obtain ⟨d, f, r, w, p, a, s6, s7, c, m⟩ := h
  have lF : gF (gAcc G (T v) v e F) v = F := up1_s _ _ _
  have eF : ∀ x, ¬ x = v → gF (gAcc G (T v) v e F) x = gF G x := fun x z => up1_n z
  have hFt : ag F (gL G (T v)) e := by
    by_cases q : ag (gF G v) (gL G (T v)) e
    · rw [hF1 q]; exact q
    · rw [hF2 q]; exact ((ag.rf he).tk (Nat.le_refl _)).sy
  have hkeep : ∀ i, ag (gF G v) (gL G (T v)) i → ag F (gL G (T v)) i := fun i hi => by
    by_cases q : ag (gF G v) (gL G (T v)) e
    · rw [hF1 q]; exact hi
    · refine hFt.le ?_
      exact Nat.le_of_not_lt (fun z => q (hi.le (Nat.le_of_lt z)))
  have eA : ∀ t' u, gA G t' u ≤ gA (gAcc G (T v) v e F) t' u := fun t' u => by
    by_cases e1 : t' = T v ∧ u = v
    · rw [e1.1, e1.2, show gA (gAcc G (T v) v e F) (T v) v = _ from up2_s _ _ _ _]; omega
    · rw [show gA (gAcc G (T v) v e F) t' u = gA G t' u from up2_n e1]; exact Nat.le_refl _
  refine ⟨d, fun x hx => ?_, fun x hx => ?_, w, p, fun t' u hu h0 => ?_, fun u t' i hu hi hx => ?_, fun t t' u c' VL i hu g1 g2 g3 g4 => ?_, fun t' i n hc' => ?_, m⟩
  · by_cases e1 : x = v
    · subst e1
      rw [lF]
      by_cases q : ag (gF G x) (gL G (T x)) e
      · rw [hF1 q]; exact f x hx
      · rw [hF2 q]
        refine ⟨(d.len hd).2.1.tk _, fun y hy => ?_⟩
        obtain ⟨j, hj⟩ := List.getElem?_of_mem (List.mem_of_mem_take hy)
        exact d.le hd hj
    · rw [eF _ e1]; exact f x hx
  · by_cases e1 : x = v
    · subst e1
      exact ⟨fun z => absurd z h3, fun z => absurd z h2⟩
    · rw [eF _ e1]; exact r x hx
  · by_cases e1 : t' = T v ∧ u = v
    · obtain ⟨e2, e3⟩ := e1
      rw [e2, e3]
      refine ⟨Nat.le_refl _, hd, ?_⟩
      rw [show gA (gAcc G (T v) v e F) (T v) v = _ from up2_s _ _ _ _]
      show max (gA G (T v) v) e ≤ (gL G (T v)).length
      by_cases z : gA G (T v) v = 0
      · omega
      · have := (a (T v) v hv z).2.2; omega
    · rw [show gA (gAcc G (T v) v e F) t' u = gA G t' u from up2_n e1] at h0 ⊢
      exact a t' u hu h0
  · by_cases e1 : u = v
    · subst e1
      rw [lF]
      by_cases e2 : t' = T u
      · rw [e2] at hi ⊢
        rw [show gA (gAcc G (T u) u e F) (T u) u = _ from up2_s _ _ _ _] at hi
        by_cases q : i ≤ e
        · exact hFt.le q
        · exact hkeep i (s6 u (T u) i hu (by omega) (fun t2 q1 q2 _ => by omega))
      · rw [show gA (gAcc G (T u) u e F) t' u = gA G t' u from up2_n (fun z => e2 z.1)] at hi
        have q := s6 u t' i hu hi hx
        by_cases h0 : i = 0
        · rw [h0]; exact ag.z _ _
        · have hlt := (a t' u hu (by omega)).1
          have q2 : ag (el G (T u)) (gL G t') i := hx (T u) (by omega) (Nat.le_refl _) hd
          exact (hkeep i (q.tr q2.sy.ut)).tr (q2.sy.ut).sy
    · rw [eF _ e1]
      rw [show gA (gAcc G (T v) v e F) t' u = gA G t' u from up2_n (fun z => e1 z.2)] at hi
      exact s6 u t' i hu hi hx
  · have htu := (w t' u c' VL hu).2.2.1
    have e1 : ¬ (t = T v ∧ u = v) := fun z => by rw [z.2] at htu; omega
    rw [show gA (gAcc G (T v) v e F) t u = gA G t u from up2_n e1] at g2
    exact s7 t t' u c' VL i hu g1 g2 g3 g4
  · obtain ⟨b1, b2, b3, b4, QQ, b5, b6⟩ := c t' i n hc'
    exact ⟨b1, b2, b3, b4, QQ, b5, fun u hu hQ => Nat.le_trans (b6 u hu hQ) (eA _ u)⟩
/-- a leader commits -/
def gCom (G : GG) (t i : Nat) : GG := (gF G, gL G, gE G, gD G, gW G, gV G, gA G, fun t' i' n' => gC G t' i' n' ∨ (t' = t ∧ i' = i ∧ n' = (gL G t).length))
theorem cI.com {t i : Nat} (h : cI m0 T R P Y G) (hd : ¬ gD G t = none) (h1 : gE G t < i) (h2 : i ≤ (gL G t).length) (hq : ∃ Q : Nat → Bool, qMost (cf m0 (gL G t)) Q ∧ ∀ v, v < 7 → Q v = true → i ≤ gA G t v) : cI m0 T R P Y (gCom G t i) := by
  obtain ⟨d, f, r, w, p, a, s6, s7, c, m⟩ := h
  refine ⟨d, f, r, w, p, a, s6, s7, fun t' i' n hc' => ?_, fun t' j x hd hj hx h9 => ?_⟩
  · rcases hc' with z | ⟨z1, z2, z3⟩
    · exact c t' i' n z
    · subst z1; subst z2; subst z3
      refine ⟨hd, h1, h2, Nat.le_refl _, ?_⟩
      rw [show (gL (gCom G t' i') t').take (gL G t').length = gL G t' from List.take_length]
      exact hq
  · obtain ⟨⟨k, n, c1, c2⟩, c5⟩ := m t' j x hd hj hx h9
    exact ⟨⟨k, n, Or.inl c1, c2⟩, c5⟩
/-- what a server has committed is covered: some leader committed that far -/
def cov (G : GG) (L : List ENT) (t k : Nat) : Prop := k = 0 ∨ ∃ t1 i1 n1, gC G t1 i1 n1 ∧ t1 ≤ t ∧ k ≤ i1 ∧ ag L (gL G t1) k
theorem cov.le {L : List ENT} {t k k' : Nat} (h : cov G L t k) (hk : k' ≤ k) : cov G L t k' := by
  rcases h with z | ⟨t1, i1, n1, z1, z2, z3, z4⟩
  · exact Or.inl (by omega)
  · exact Or.inr ⟨t1, i1, n1, z1, z2, by omega, z4.le hk⟩
theorem cov.tt {L : List ENT} {t t' k : Nat} (h : cov G L t k) (ht : t ≤ t') : cov G L t' k := by
  rcases h with z | ⟨t1, i1, n1, z1, z2, z3, z4⟩
  · exact Or.inl z
  · exact Or.inr ⟨t1, i1, n1, z1, by omega, z3, z4⟩
theorem cov.mv {L M : List ENT} {t k : Nat} (h : cov G L t k) (ha : ag M L k) : cov G M t k := by
  rcases h with z | ⟨t1, i1, n1, z1, z2, z3, z4⟩
  · exact Or.inl z
  · exact Or.inr ⟨t1, i1, n1, z1, z2, z3, ha.tr z4⟩
/-- the leader of a later term has it -/
theorem cI.cov {L : List ENT} {t k : Nat} (h : cI m0 T R P Y G) (hd : ¬ gD G t = none) (hc : cov G L t k) : k = 0 ∨ ag L (gL G t) k := by
  obtain ⟨d, f, r, w, p, a, s6, s7, c, m⟩ := h
  rcases hc with z | ⟨t1, i1, n1, z1, z2, z3, z4⟩
  · exact Or.inl z
  · refine Or.inr ?_
    rcases Nat.lt_or_ge t1 t with z | z
    · have q := lcAll d w s7 c m t t1 n1 i1 z1 z hd
      exact z4.tr ((q.sy.ut).le z3)
    · have e : t1 = t := by omega
      rw [e] at z4; exact z4
end STP
