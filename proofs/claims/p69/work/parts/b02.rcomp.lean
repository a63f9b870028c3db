/-! ===== THE SERVERS AGREE: what is committed is in each later leader's log ===== -/
section STA
variable {m0 : Int32} {T : Nat → Nat} {G : GG}
theorem iD.le {t j : Nat} {e : ENT} (hD : iD m0 T G) (ht : ¬ gD G t = none) (h : (gL G t)[j]? = some e) : tm e ≤ t := by
  cases hc : gD G t with
  | none => exact absurd hc ht
  | some c =>
    have h1 := (hD t c hc).2.2.2.2.2.2.2.1 j e h
    by_cases hj : j < gE G t
    · exact Nat.le_of_lt (h1.1 hj)
    · exact Nat.le_of_eq (h1.2 (by omega))
theorem iD.own {t j : Nat} {e : ENT} (hD : iD m0 T G) (ht : ¬ gD G t = none) (h : (gL G t)[j]? = some e) (hj : gE G t ≤ j) : tm e = t := by
  cases hc : gD G t with
  | none => exact absurd hc ht
  | some c => exact ((hD t c hc).2.2.2.2.2.2.2.1 j e h).2 hj
theorem iD.old {t j : Nat} {e : ENT} (hD : iD m0 T G) (ht : ¬ gD G t = none) (h : (gL G t)[j]? = some e) (hj : j < gE G t) : tm e < t := by
  cases hc : gD G t with
  | none => exact absurd hc ht
  | some c => exact ((hD t c hc).2.2.2.2.2.2.2.1 j e h).1 hj
theorem iD.len {t : Nat} (hD : iD m0 T G) (ht : ¬ gD G t = none) : gE G t < (gL G t).length ∧ vL G (gL G t) ∧ 1 ≤ t := by
  cases hc : gD G t with
  | none => exact absurd hc ht
  | some c => exact ⟨(hD t c hc).2.2.2.1, (hD t c hc).2.2.2.2.2.2.2.2, (hD t c hc).2.1⟩
theorem el_len {t : Nat} (hD : iD m0 T G) (ht : ¬ gD G t = none) : (el G t).length = gE G t := by
  unfold el
  rw [List.length_take]
  have := (hD.len ht).1
  omega
/-- terms don't go down -/
theorem vL.mono {L : List ENT} {a b : Nat} {e e' : ENT} (hD : iD m0 T G) (h : vL G L) (ha : L[a]? = some e) (hb : L[b]? = some e') (hab : a ≤ b) : tm e ≤ tm e' := by
  obtain ⟨h1, h2, h3⟩ := h b e' hb
  have h4 := h3.get (j := a) (by omega)
  rw [ha] at h4
  exact hD.le h1 h4.symm
/-- a prefix is valid too -/
theorem vL.tk {L : List ENT} (h : vL G L) (n : Nat) : vL G (L.take n) := fun j e hj => by
  rw [List.getElem?_take] at hj
  by_cases c : j < n
  · rw [if_pos c] at hj
    obtain ⟨h1, h2, h3⟩ := h j e hj
    exact ⟨h1, h2, (h3.sy.tk (by omega)).sy⟩
  · rw [if_neg c] at hj; cases hj
theorem vL.el {t : Nat} (hD : iD m0 T G) (ht : ¬ gD G t = none) : vL G (el G t) := (hD.len ht).2.1.tk _
/-- where both logs have an entry of one term -/
theorem vL.both {L M : List ENT} {j j' : Nat} {e e' : ENT} (h : vL G L) (k : vL G M) (hj : L[j]? = some e) (hj' : M[j']? = some e') (ht : tm e = tm e') (hle : j ≤ j') : ag L M (j + 1) := by
  have h1 := (h j e hj).2.2
  have h2 := (k j' e' hj').2.2
  rw [ht] at h1
  exact h1.tr (h2.le (by omega)).sy
/-- an entry of members in a valid log: what its leader had committed -/
theorem vL.mem {L : List ENT} {j : Nat} {e : ENT} (hM : iM m0 G) (h : vL G L) (hj : L[j]? = some e) (h4 : e 1 = 4) : ∃ k n, gC G (tm e) k n ∧ k ≤ j ∧ n ≤ j ∧ (∀ j' e', j' < j → L[j']? = some e' → e' 1 = 4 → j' < k) ∧ adj (cf m0 (L.take (j + 1))) (cf m0 (L.take j)) := by
  obtain ⟨h1, h2, h3⟩ := h j e hj
  have h5 := h3.get (j := j) (by omega)
  rw [hj] at h5
  obtain ⟨⟨k, n, c1, c2, c3, c4⟩, c5⟩ := hM (tm e) j e h1 h2 h5.symm h4
  refine ⟨k, n, c1, c2, c3, fun j' e' hj' he' h4' => c4 j' e' hj' ?_ h4', ?_⟩
  · rw [← h3.get (j := j') (by omega)]; exact he'
  · rw [h3.2.2, (h3.le (Nat.le_succ j)).2.2]; exact c5
/-- the last entry of what was committed is of its leader's term -/
theorem iC.last {t i n : Nat} (hD : iD m0 T G) (hC : iC m0 G) (h : gC G t i n) : ∃ x, (gL G t)[i - 1]? = some x ∧ tm x = t ∧ 1 ≤ i ∧ i ≤ (gL G t).length := by
  obtain ⟨h1, h2, h3, h4, -⟩ := hC t i n h
  have hl : i - 1 < (gL G t).length := by omega
  refine ⟨_, List.getElem?_eq_getElem hl, ?_, by omega, by omega⟩
  exact hD.own h1 (List.getElem?_eq_getElem hl) (by omega)
/-- two logs whose changes of members were each in the other one before: their members are the same but for one -/
theorem cfAdj {L L' : List ENT} {p : Nat} (hD : iD m0 T G) (hM : iM m0 G) (hC : iC m0 G) (hL : vL G L) (hL' : vL G L') (hp : ag L L' p) (hm : ∀ q, ag L L' q → q ≤ p)
    (hA : ∀ j e, p ≤ j → L[j]? = some e → ∀ k n, gC G (tm e) k n → k ≤ j → n ≤ j → ag L' (gL G (tm e)) k)
    (hB : ∀ j e, p ≤ j → L'[j]? = some e → ∀ k n, gC G (tm e) k n → k ≤ j → n ≤ j → ag L (gL G (tm e)) k) : adj (cf m0 L) (cf m0 L') := by
  have one : ∀ (L L' : List ENT), vL G L → (∀ q, ag L L' q → q ≤ p) → (∀ j e, p ≤ j → L[j]? = some e → ∀ k n, gC G (tm e) k n → k ≤ j → n ≤ j → ag L' (gL G (tm e)) k) → ∀ j1 e1 j2 e2, p ≤ j1 → j1 < j2 → L[j1]? = some e1 → L[j2]? = some e2 → e1 1 = 4 → e2 1 = 4 → False := by
    intro L L' hL hm hA j1 e1 j2 e2 hp1 h12 h1 h2 h3 h4
    obtain ⟨k, n, c1, c2, c3, c4, -⟩ := hL.mem hM h2 h4
    have a1 := hA j2 e2 (by omega) h2 k n c1 c2 c3
    have a2 := ((hL j2 e2 h2).2.2.le (show k ≤ j2 + 1 by omega)).tr a1.sy
    have a3 := hm k a2
    have a4 := c4 j1 e1 h12 h1 h3
    omega
  have half : ∀ (L L' : List ENT), vL G L → p ≤ L.length → (∀ q, ag L L' q → q ≤ p) → (∀ j e, p ≤ j → L[j]? = some e → ∀ k n, gC G (tm e) k n → k ≤ j → n ≤ j → ag L' (gL G (tm e)) k) → (cf m0 L = cf m0 (L.take p)) ∨ (∃ j e, p ≤ j ∧ L[j]? = some e ∧ e 1 = 4 ∧ adj (cf m0 L) (cf m0 (L.take p))) := by
    intro L L' hL hpl hm hA
    by_cases h : ∃ j e, p ≤ j ∧ L[j]? = some e ∧ e 1 = 4
    · obtain ⟨j, e, h1, h2, h3⟩ := h
      refine Or.inr ⟨j, e, h1, h2, h3, ?_⟩
      obtain ⟨k, n, c1, c2, c3, c4, c5⟩ := hL.mem hM h2 h3
      have hj := (List.getElem?_eq_some_iff.mp h2).1
      have e1 : cf m0 L = cf m0 (L.take (j + 1)) := by
        unfold cf
        rw [← sMemL_no (m0 := m0) (L := L) (p := j + 1) L.length (by omega) (fun j' e' q1 q2 q3 q4 => one L L' hL hm hA j e j' e' h1 (by omega) h2 q3 h3 q4), List.take_length]
      have e2 : cf m0 (L.take j) = cf m0 (L.take p) := by
        unfold cf
        rw [sMemL_no (m0 := m0) (L := L) (p := p) j h1 (fun j' e' q1 q2 q3 q4 => one L L' hL hm hA j' e' j e q1 q2 q3 h2 q4 h3)]
      rw [e1, ← e2]
      exact c5
    · refine Or.inl ?_
      unfold cf
      rw [← sMemL_no (m0 := m0) (L := L) (p := p) L.length hpl (fun j' e' q1 q2 q3 q4 => h ⟨j', e', q1, q3, q4⟩), List.take_length]
  have hm' : ∀ q, ag L' L q → q ≤ p := fun q hq => hm q hq.sy
  have ep : cf m0 (L.take p) = cf m0 (L'.take p) := by rw [hp.2.2]
  rcases half L L' hL hp.1 hm hA with h1 | ⟨j, e, h1, h2, h3, h4⟩
  · rcases half L' L hL' hp.2.1 hm' hB with k1 | ⟨j', e', k1, k2, k3, k4⟩
    · rw [h1, k1, ep]; exact adj.rf _
    · rw [h1, ep]; exact k4.sy
  · rcases half L' L hL' hp.2.1 hm' hB with k1 | ⟨j', e', k1, k2, k3, k4⟩
    · rw [k1, ← ep]; exact h4
    · exfalso
      obtain ⟨k, n, c1, c2, c3, -, -⟩ := hL.mem hM h2 h3
      obtain ⟨k', n', d1, d2, d3, -, -⟩ := hL'.mem hM k2 k3
      have v1 := (hL j e h2).2.2
      have v2 := (hL' j' e' k2).2.2
      rcases Nat.lt_trichotomy (tm e) (tm e') with z | z | z
      · have a1 := hB j' e' k1 k2 k' n' d1 d2 d3
        have a2 := a1.tr (v2.le (show k' ≤ j' + 1 by omega)).sy
        have a3 := hm k' a2
        obtain ⟨x, x1, x2, x3, x4⟩ := hC.last hD d1
        rw [← a1.get (j := k' - 1) (by omega)] at x1
        have := hL.mono hD x1 h2 (by omega)
        omega
      · have a1 : ag L L' (min j j' + 1) := by
          rw [z] at v1
          exact (v1.le (by omega)).tr (v2.le (by omega)).sy
        have := hm _ a1
        omega
      · have a1 := hA j e h1 h2 k n c1 c2 c3
        have a2 := (v1.le (show k ≤ j + 1 by omega)).tr a1.sy
        have a3 := hm k a2
        obtain ⟨x, x1, x2, x3, x4⟩ := hC.last hD c1
        rw [← a1.get (j := k - 1) (by omega)] at x1
        have := hL'.mono hD x1 k2 (by omega)
        omega
/-- a log that could win: c's log in term t with the yeses Q; what a voter had said to have, its log had (hv) -/
def wn (m0 : Int32) (G : GG) (t c : Nat) (L : List ENT) (Q : Nat → Bool) : Prop := gV G t c = some (c, L) ∧ qMost (cf m0 L) Q ∧ (∀ v, v < 7 → Q v = true → ∃ VL, gV G t v = some (c, VL)) ∧ (∀ e, e ∈ L → tm e < t) ∧ vL G L
theorem lt_last {L : List ENT} {j : Nat} {e : ENT} (hD : iD m0 T G) (hL : vL G L) (hj : L[j]? = some e) : ∃ x, L[L.length - 1]? = some x ∧ ltm L = tm x ∧ tm e ≤ ltm L ∧ 0 < L.length := by
  have hl := (List.getElem?_eq_some_iff.mp hj).1
  have h1 : L[L.length - 1]? = some (L[L.length - 1]'(by omega)) := List.getElem?_eq_getElem (by omega)
  have h2 : ltm L = tm (L[L.length - 1]'(by omega)) := by
    unfold ltm
    rw [List.getLast?_eq_getElem?, h1]
  refine ⟨_, h1, h2, ?_, by omega⟩
  rw [h2]
  exact hL.mono hD hj h1 (by omega)
theorem ltm_pos {L : List ENT} (h : 0 < ltm L) : ∃ x, L[L.length - 1]? = some x ∧ ltm L = tm x ∧ 0 < L.length := by
  unfold ltm at h ⊢
  rw [List.getLast?_eq_getElem?] at h ⊢
  cases hx : L[L.length - 1]? with
  | none => rw [hx] at h; exact absurd h (by decide)
  | some x => exact ⟨x, rfl, rfl, by have := (List.getElem?_eq_some_iff.mp hx).1; omega⟩
/-- one step: if it holds of the logs before, and of smaller commits, it holds of this one -/
theorem lcStep {t i n t' c : Nat} {L' : List ENT} {Q' : Nat → Bool} (hD : iD m0 T G) (hV : iV T G) (hC : iC m0 G) (hM : iM m0 G) (hc : gC G t i n) (htt : t < t') (hw : wn m0 G t' c L' Q')
    (ih1 : ∀ t2 k n2, gC G t2 k n2 → t2 < t → ag (el G t) (gL G t2) k) (ih2 : ∀ t2, t < t2 → t2 < t' → ¬ gD G t2 = none → ag (el G t2) (gL G t) i)
    (ih3 : ∀ t2 k n2, gC G t2 k n2 → (t2 < t ∨ t2 = t ∧ n2 < n) → ag L' (gL G t2) k)
    (hv : ∀ v VL, v < 7 → Q' v = true → gV G t' v = some (c, VL) → i ≤ gA G t v → ag VL (gL G t) i) : ag L' (gL G t) i := by
  refine Classical.byContradiction (fun hno => ?_)
  obtain ⟨w1, w2, w3, w4, w5⟩ := hw
  obtain ⟨g1, g2, g3, g4, Q, g5, g6⟩ := hC t i n hc
  have vt := (hD.len g1).2.1
  have hLn : ((gL G t).take n).length = n := by rw [List.length_take]; omega
  have toL : ∀ {M : List ENT} {q : Nat}, ag M (gL G t) q → q ≤ n → ag ((gL G t).take n) M q := fun h hq => (h.tk hq).sy
  obtain ⟨p, p1, p2⟩ := ag_max ((gL G t).take n) L'
  have hpi : p < i := Nat.lt_of_not_le (fun z => hno (p1.sy.ut.le z))
  have big : ∀ t2 j e, ¬ gD G t2 = none → t ≤ t2 → t2 < t' → gE G t2 ≤ j → p ≤ j → ag L' (gL G t2) (j + 1) → L'[j]? = some e → False := by
    intro t2 j e b1 b2 b3 b4 b5 b6 b7
    by_cases e2 : t2 = t
    · subst e2
      by_cases b8 : j + 1 ≤ n
      · have := p2 _ (toL b6 b8); omega
      · have := p2 n (toL (b6.le (by omega)) (Nat.le_refl _)); omega
    · have a1 := ih2 t2 (by omega) b3 b1
      have a2 := a1.1
      rw [el_len hD b1] at a2
      exact hno ((b6.le (by omega)).tr a1.sy.ut.sy)
  have hadj := cfAdj (m0 := m0) hD hM hC (vt.tk n) w5 p1 p2 (fun j e h1 h2 k n2 h3 h4 h5 => by
      rw [List.getElem?_take] at h2
      by_cases q : j < n
      · rw [if_pos q] at h2
        have := hD.le g1 h2
        refine ih3 (tm e) k n2 h3 ?_
        rcases Nat.lt_or_ge (tm e) t with z | z
        · exact Or.inl z
        · exact Or.inr ⟨by omega, by omega⟩
      · rw [if_neg q] at h2; cases h2)
    (fun j e h1 h2 k n2 h3 h4 h5 => by
      obtain ⟨b1, b2, b3⟩ := w5 j e h2
      have b4 := w4 e (List.mem_of_getElem? h2)
      rcases Nat.lt_or_ge (tm e) t with z | z
      · have a1 := ih1 (tm e) k n2 h3 z
        have a2 := a1.1
        rw [el_len hD g1] at a2
        exact ((a1.sy.ut).tk (by omega)).sy
      · exact (big (tm e) j e b1 z b4 b2 h1 b3 h2).elim)
  obtain ⟨v, v1, v2, v3⟩ := qMeet g5 w2 hadj
  obtain ⟨VL, v4⟩ := w3 v v1 v3
  have v5 := hv v VL v1 v3 v4 (g6 v v1 v2)
  obtain ⟨-, -, -, -, u1, CL, u2, u3⟩ := hV t' v c VL v4
  rw [w1] at u2
  have u4 : L' = CL := (Prod.mk.inj (Option.some.inj u2)).2
  subst u4
  obtain ⟨x, x1, x2, x3, x4⟩ := hC.last hD hc
  rw [← v5.get (j := i - 1) (by omega)] at x1
  obtain ⟨y, y1, y2, y3, y4⟩ := lt_last hD u1 x1
  have t1 := (hD.len g1).2.2
  rw [x2] at y3
  have hv1 := v5.1
  rcases u3 with z | ⟨z1, z2⟩
  · obtain ⟨q, q1, q2, q3⟩ := ltm_pos (L := L') (by omega)
    obtain ⟨r1, r2, r3⟩ := w5 _ q q1
    have r4 := w4 q (List.mem_of_getElem? q1)
    have a1 := ih2 (tm q) (by omega) r4 r1
    have a2 := a1.1
    rw [el_len hD r1] at a2
    exact hno ((r3.le (by omega)).tr a1.sy.ut.sy)
  · obtain ⟨q, q1, q2, q3⟩ := ltm_pos (L := L') (by omega)
    have a1 := u1.both w5 y1 q1 (by omega) (by omega)
    exact hno ((a1.sy.le (by omega)).tr v5)
/-- LEADER COMPLETENESS -/
theorem lcAll (hD : iD m0 T G) (hV : iV T G) (h7 : i7 G) (hC : iC m0 G) (hM : iM m0 G) : ∀ (t' t n i : Nat), gC G t i n → t < t' → ¬ gD G t' = none → ag (el G t') (gL G t) i := by
  intro t'
  induction t' using Nat.strongRecOn with
  | _ t' iht =>
    intro t
    induction t using Nat.strongRecOn with
    | _ t ihu =>
      intro n
      induction n using Nat.strongRecOn with
      | _ n ihn =>
        intro i hc htt hd
        cases hc2 : gD G t' with
        | none => exact absurd hc2 hd
        | some c =>
          obtain ⟨d1, d2, d3, d4, d5, d6, d7, d8, d9⟩ := hD t' c hc2
          have hw : wn m0 G t' c (el G t') (gW G t') := ⟨d5, d6, d7, (fun e he => by
            obtain ⟨j, hj⟩ := List.getElem?_of_mem he
            unfold el at hj
            rw [List.getElem?_take] at hj
            by_cases q : j < gE G t'
            · rw [if_pos q] at hj; exact (d8 j e hj).1 q
            · rw [if_neg q] at hj; cases hj), vL.el hD hd⟩
          have ih2 : ∀ t2, t < t2 → t2 < t' → ¬ gD G t2 = none → ag (el G t2) (gL G t) i := fun t2 h1 h2 h3 => iht t2 h2 t n i hc h1 h3
          exact lcStep hD hV hC hM hc htt hw (fun t2 k n2 h1 h2 => iht t htt t2 n2 k h1 h2 (hC t i n hc).1) ih2
            (fun t2 k n2 h1 h2 => by
              rcases h2 with z | ⟨z1, z2⟩
              · exact ihu t2 z n2 k h1 (by omega) hd
              · subst z1; exact ihn n2 z2 k h1 htt hd)
            (fun v VL h1 h2 h3 h4 => h7 t t' v c VL i h3 htt h4 ih2 (Or.inr (Or.inl h2)))
/-- the same for a log that could win -/
theorem lcWin {t' c : Nat} {L' : List ENT} {Q' : Nat → Bool} (hD : iD m0 T G) (hV : iV T G) (h7 : i7 G) (hC : iC m0 G) (hM : iM m0 G) (hw : wn m0 G t' c L' Q') : ∀ (t n i : Nat), gC G t i n → t < t' → ag L' (gL G t) i := by
  intro t
  induction t using Nat.strongRecOn with
  | _ t ihu =>
    intro n
    induction n using Nat.strongRecOn with
    | _ n ihn =>
      intro i hc htt
      have ih2 : ∀ t2, t < t2 → ¬ gD G t2 = none → ag (el G t2) (gL G t) i := fun t2 h1 h3 => lcAll hD hV h7 hC hM t2 t n i hc h1 h3
      exact lcStep hD hV hC hM hc htt hw (fun t2 k n2 h1 h2 => lcAll hD hV h7 hC hM t t2 n2 k h1 h2 (hC t i n hc).1) (fun t2 h1 _ h3 => ih2 t2 h1 h3)
        (fun t2 k n2 h1 h2 => by
          rcases h2 with z | ⟨z1, z2⟩
          · exact ihu t2 z n2 k h1 (by omega)
          · subst z1; exact ihn n2 z2 k h1 htt)
        (fun v VL h1 h2 h3 h4 => h7 t t' v c VL i h3 htt h4 (fun t2 q1 _ q3 => ih2 t2 q1 q3) (by
          by_cases hd : gD G t' = none
          · exact Or.inl hd
          · exact Or.inr (Or.inr (ih2 t' htt hd))))
/-- ELECTION SAFETY: who could win in a term that has a leader is that one -/
theorem esAll {t' c c2 : Nat} {L' : List ENT} {Q' : Nat → Bool} (hD : iD m0 T G) (hV : iV T G) (h7 : i7 G) (hC : iC m0 G) (hM : iM m0 G) (hw : wn m0 G t' c L' Q') (h2 : gD G t' = some c2) : c = c2 := by
  obtain ⟨d1, d2, d3, d4, d5, d6, d7, d8, d9⟩ := hD t' c2 h2
  have hd : ¬ gD G t' = none := by rw [h2]; exact fun z => by cases z
  obtain ⟨p, p1, p2⟩ := ag_max (el G t') L'
  have hadj := cfAdj (m0 := m0) hD hM hC (vL.el hD hd) hw.2.2.2.2 p1 p2
    (fun j e h1 h2 k n h3 h4 h5 => by
      refine lcWin hD hV h7 hC hM hw (tm e) n k h3 ?_
      unfold el at h2
      rw [List.getElem?_take] at h2
      by_cases q : j < gE G t'
      · rw [if_pos q] at h2; exact (d8 j e h2).1 q
      · rw [if_neg q] at h2; cases h2)
    (fun j e h1 h2 k n h3 h4 h5 => lcAll hD hV h7 hC hM t' (tm e) n k h3 (hw.2.2.2.1 e (List.mem_of_getElem? h2)) hd)
  obtain ⟨v, v1, v2, v3⟩ := qMeet d6 hw.2.1 hadj
  obtain ⟨A, a1⟩ := d7 v v1 v2
  obtain ⟨B, b1⟩ := hw.2.2.1 v v1 v3
  rw [a1] at b1
  exact ((Prod.mk.inj (Option.some.inj b1)).1).symm
end STA
