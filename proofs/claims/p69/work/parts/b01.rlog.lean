/-! ===== THE SERVERS AGREE: logs, terms, quorums ===== -/
def tm (e : ENT) : Nat := (e 0).toNatClampNeg
/-- both logs have the first i entries, and they are the same -/
def ag (L M : List ENT) (i : Nat) : Prop := i ≤ L.length ∧ i ≤ M.length ∧ L.take i = M.take i
theorem ag.rf {L : List ENT} {i : Nat} (h : i ≤ L.length) : ag L L i := ⟨h, h, rfl⟩
theorem ag.sy {L M : List ENT} {i : Nat} (h : ag L M i) : ag M L i := ⟨h.2.1, h.1, h.2.2.symm⟩
theorem ag.tr {L M N : List ENT} {i : Nat} (h : ag L M i) (k : ag M N i) : ag L N i := ⟨h.1, k.2.1, h.2.2.trans k.2.2⟩
theorem ag.le {L M : List ENT} {i j : Nat} (h : ag L M i) (hj : j ≤ i) : ag L M j := by
  refine ⟨Nat.le_trans hj h.1, Nat.le_trans hj h.2.1, ?_⟩
  have e := congrArg (List.take j) h.2.2
  rw [List.take_take, List.take_take, Nat.min_eq_left hj] at e
  exact e
theorem ag.z (L M : List ENT) : ag L M 0 := ⟨Nat.zero_le _, Nat.zero_le _, rfl⟩
theorem ag.get {L M : List ENT} {i j : Nat} (h : ag L M i) (hj : j < i) : L[j]? = M[j]? := by
  have e := congrArg (fun l : List ENT => l[j]?) h.2.2
  rw [List.getElem?_take, List.getElem?_take, if_pos hj, if_pos hj] at e
  exact e
theorem ag.tk {L M : List ENT} {i e : Nat} (h : ag L M i) (he : i ≤ e) : ag L (M.take e) i := by
  refine ⟨h.1, ?_, ?_⟩
  · rw [List.length_take]; have := h.2.1; omega
  · rw [List.take_take, Nat.min_eq_left he]; exact h.2.2
theorem ag.ut {L M : List ENT} {i e : Nat} (h : ag L (M.take e) i) : ag L M i := by
  have h2 := h.2.1
  rw [List.length_take] at h2
  refine ⟨h.1, by omega, ?_⟩
  have e3 := h.2.2
  rw [List.take_take, Nat.min_eq_left (by omega)] at e3
  exact e3
theorem ag.ap {L M : List ENT} {i : Nat} (h : ag L M i) (N : List ENT) : ag L (M ++ N) i := by
  refine ⟨h.1, by rw [List.length_append]; have := h.2.1; omega, ?_⟩
  rw [List.take_append_of_le_length h.2.1]; exact h.2.2
theorem ag_max (L M : List ENT) : ∃ p, ag L M p ∧ ∀ q, ag L M q → q ≤ p := by
  have h : ∀ n, n ≤ L.length → ∃ p, p ≤ n ∧ ag L M p ∧ ∀ q, q ≤ n → ag L M q → q ≤ p := by
    intro n
    induction n with
    | zero => exact fun _ => ⟨0, Nat.le_refl _, ag.z _ _, fun q hq _ => hq⟩
    | succ n ih =>
      intro hn
      by_cases c : ag L M (n + 1)
      · exact ⟨n + 1, Nat.le_refl _, c, fun q hq _ => hq⟩
      · obtain ⟨p, h1, h2, h3⟩ := ih (by omega)
        refine ⟨p, by omega, h2, fun q hq ha => ?_⟩
        by_cases e : q = n + 1
        · rw [e] at ha; exact absurd ha c
        · exact h3 q (by omega) ha
  obtain ⟨p, -, h2, h3⟩ := h L.length (Nat.le_refl _)
  exact ⟨p, h2, fun q hq => h3 q hq.1 hq⟩
/-! quorums -/
def bn (b : Bool) : Nat := if b = true then 1 else 0
def cn (p : Nat → Bool) : Nat := bn (p 0) + bn (p 1) + bn (p 2) + bn (p 3) + bn (p 4) + bn (p 5) + bn (p 6)
def qMost (m Q : Nat → Bool) : Prop := cn m < 2 * cn (fun v => Q v && m v)
/-- the same, but for one at most -/
def adj (f g : Nat → Bool) : Prop := ∃ b, ∀ v, v < 7 → ¬ v = b → f v = g v
theorem adj.rf (f : Nat → Bool) : adj f f := ⟨0, fun _ _ _ => rfl⟩
theorem adj.sy {f g : Nat → Bool} (h : adj f g) : adj g f := by
  obtain ⟨b, hb⟩ := h
  exact ⟨b, fun v h1 h2 => (hb v h1 h2).symm⟩
theorem bn_le {q1 q2 m1 m2 : Bool} (hq : ¬ (q1 = true ∧ q2 = true)) : 2 * (bn (q1 && m1) + bn (q2 && m2)) ≤ bn m1 + bn m2 + 1 := by
  revert hq; cases q1 <;> cases q2 <;> cases m1 <;> cases m2 <;> decide
theorem bn_le0 {q1 q2 m1 m2 : Bool} (hq : ¬ (q1 = true ∧ q2 = true)) (hm : m1 = m2) : 2 * (bn (q1 && m1) + bn (q2 && m2)) ≤ bn m1 + bn m2 := by
  subst hm; revert hq; cases q1 <;> cases q2 <;> cases m1 <;> decide
theorem qMeet {m1 m2 Q1 Q2 : Nat → Bool} (h1 : qMost m1 Q1) (h2 : qMost m2 Q2) (ha : adj m1 m2) : ∃ v, v < 7 ∧ Q1 v = true ∧ Q2 v = true := by
  refine Classical.byContradiction (fun hn => ?_)
  have hq : ∀ v, v < 7 → ¬ (Q1 v = true ∧ Q2 v = true) := fun v hv z => hn ⟨v, hv, z⟩
  obtain ⟨b, hb⟩ := ha
  have k : ∀ v, v < 7 → 2 * (bn (Q1 v && m1 v) + bn (Q2 v && m2 v)) ≤ bn (m1 v) + bn (m2 v) + (if v = b then 1 else 0) := fun v hv => by
    by_cases e : v = b
    · rw [if_pos e]; exact bn_le (hq v hv)
    · rw [if_neg e]; exact bn_le0 (hq v hv) (hb v hv e)
  have s : (if 0 = b then 1 else 0) + (if 1 = b then 1 else 0) + (if 2 = b then 1 else 0) + (if 3 = b then 1 else 0) + (if 4 = b then 1 else 0) + (if 5 = b then 1 else 0) + (if 6 = b then 1 else 0) ≤ 1 := by
    rcases (by omega : b = 0 ∨ b = 1 ∨ b = 2 ∨ b = 3 ∨ b = 4 ∨ b = 5 ∨ b = 6 ∨ 7 ≤ b) with e | e | e | e | e | e | e | e
    · subst e; decide
    · subst e; decide
    · subst e; decide
    · subst e; decide
    · subst e; decide
    · subst e; decide
    · subst e; decide
    · rw [if_neg (by omega), if_neg (by omega), if_neg (by omega), if_neg (by omega), if_neg (by omega), if_neg (by omega), if_neg (by omega)]; decide
  have k0 := k 0 (by omega)
  have k1 := k 1 (by omega)
  have k2 := k 2 (by omega)
  have k3 := k 3 (by omega)
  have k4 := k 4 (by omega)
  have k5 := k 5 (by omega)
  have k6 := k 6 (by omega)
  unfold qMost cn at h1 h2
  dsimp only at h1 h2
  omega
/-! members by logs -/
def cf (m0 : Int32) (L : List ENT) : Nat → Bool := sBit (sMemL L m0)
theorem sMemL_no {m0 : Int32} {L : List ENT} {p : Nat} : ∀ q, p ≤ q → (∀ j e, p ≤ j → j < q → L[j]? = some e → ¬ e 1 = 4) → sMemL (L.take q) m0 = sMemL (L.take p) m0
  | 0, hq, _ => by rw [show p = 0 by omega]
  | q + 1, hq, h => by
    by_cases e : p = q + 1
    · rw [e]
    · have ih := sMemL_no (m0 := m0) (L := L) (p := p) q (by omega) (fun j x h1 h2 => h j x h1 (by omega))
      rw [List.take_add_one]
      cases hx : L[q]? with
      | none => rw [Option.toList_none, List.append_nil]; exact ih
      | some x =>
        rw [Option.toList_some, sMemL_app, if_neg (h q x (by omega) (by omega) hx)]
        exact ih
/-! ===== the ghost of a run: full logs, leaders' logs by terms, how long they were at first, who leads in a term, who voted for him then, votes with the voters' logs, what was said to be had, what was committed ===== -/
abbrev GG : Type := (Nat → List ENT) × (Nat → List ENT) × (Nat → Nat) × (Nat → Option Nat) × (Nat → Nat → Bool) × (Nat → Nat → Option (Nat × List ENT)) × (Nat → Nat → Nat) × (Nat → Nat → Nat → Prop)
def gF (G : GG) : Nat → List ENT := G.1
def gL (G : GG) : Nat → List ENT := G.2.1
def gE (G : GG) : Nat → Nat := G.2.2.1
def gD (G : GG) : Nat → Option Nat := G.2.2.2.1
def gW (G : GG) : Nat → Nat → Bool := G.2.2.2.2.1
def gV (G : GG) : Nat → Nat → Option (Nat × List ENT) := G.2.2.2.2.2.1
def gA (G : GG) : Nat → Nat → Nat := G.2.2.2.2.2.2.1
def gC (G : GG) : Nat → Nat → Nat → Prop := G.2.2.2.2.2.2.2
def el (G : GG) (t : Nat) : List ENT := (gL G t).take (gE G t)
/-- each entry has all that is ahead of it from the leader of its term -/
def vL (G : GG) (L : List ENT) : Prop := ∀ j e, L[j]? = some e → ¬ gD G (tm e) = none ∧ gE G (tm e) ≤ j ∧ ag L (gL G (tm e)) (j + 1)
def ltm (L : List ENT) : Nat := match L.getLast? with | some e => tm e | none => 0
/-- a log is as good as another -/
def gd (L M : List ENT) : Prop := ltm M < ltm L ∨ (ltm M = ltm L ∧ M.length ≤ L.length)
def iD (m0 : Int32) (T : Nat → Nat) (G : GG) : Prop := ∀ t c, gD G t = some c → c < 7 ∧ 1 ≤ t ∧ t ≤ T c ∧ gE G t < (gL G t).length ∧ gV G t c = some (c, el G t) ∧ qMost (cf m0 (el G t)) (gW G t) ∧ (∀ v, v < 7 → gW G t v = true → ∃ VL, gV G t v = some (c, VL)) ∧ (∀ j e, (gL G t)[j]? = some e → (j < gE G t → tm e < t) ∧ (gE G t ≤ j → tm e = t)) ∧ vL G (gL G t)
def iF (T : Nat → Nat) (G : GG) : Prop := ∀ s, s < 7 → vL G (gF G s) ∧ ∀ e, e ∈ gF G s → tm e ≤ T s
def iR (T R : Nat → Nat) (Y : Nat → Nat → Bool) (G : GG) : Prop := ∀ s, s < 7 → (R s = 3 → gD G (T s) = some s ∧ gF G s = gL G (T s)) ∧ (R s = 2 → 1 ≤ T s ∧ ¬ gD G (T s) = some s ∧ gV G (T s) s = some (s, gF G s) ∧ (∀ e, e ∈ gF G s → tm e < T s) ∧ ∀ v, v < 7 → Y s v = true → ∃ VL, gV G (T s) v = some (s, VL))
def iV (T : Nat → Nat) (G : GG) : Prop := ∀ t v c VL, gV G t v = some (c, VL) → v < 7 ∧ c < 7 ∧ t ≤ T v ∧ t ≤ T c ∧ vL G VL ∧ ∃ CL, gV G t c = some (c, CL) ∧ gd CL VL
def iP (T : Nat → Nat) (P : Nat → Option Nat) (G : GG) : Prop := ∀ v, v < 7 → (P v = none → gV G (T v) v = none) ∧ ∀ c, P v = some c → ∃ VL, gV G (T v) v = some (c, VL)
def iA (T : Nat → Nat) (G : GG) : Prop := ∀ t v, v < 7 → ¬ gA G t v = 0 → t ≤ T v ∧ ¬ gD G t = none ∧ gA G t v ≤ (gL G t).length
def i6 (T : Nat → Nat) (G : GG) : Prop := ∀ v t i, v < 7 → i ≤ gA G t v → (∀ t', t < t' → t' ≤ T v → ¬ gD G t' = none → ag (el G t') (gL G t) i) → ag (gF G v) (gL G t) i
def i7 (G : GG) : Prop := ∀ t t' v c VL i, gV G t' v = some (c, VL) → t < t' → i ≤ gA G t v → (∀ t'', t < t'' → t'' < t' → ¬ gD G t'' = none → ag (el G t'') (gL G t) i) → (gD G t' = none ∨ gW G t' v = true ∨ ag (el G t') (gL G t) i) → ag VL (gL G t) i
def iC (m0 : Int32) (G : GG) : Prop := ∀ t i n, gC G t i n → ¬ gD G t = none ∧ gE G t < i ∧ i ≤ n ∧ n ≤ (gL G t).length ∧ ∃ Q : Nat → Bool, qMost (cf m0 ((gL G t).take n)) Q ∧ ∀ v, v < 7 → Q v = true → i ≤ gA G t v
def iM (m0 : Int32) (G : GG) : Prop := ∀ t j e, ¬ gD G t = none → gE G t ≤ j → (gL G t)[j]? = some e → e 1 = 4 → (∃ k n, gC G t k n ∧ k ≤ j ∧ n ≤ j ∧ ∀ j' e', j' < j → (gL G t)[j']? = some e' → e' 1 = 4 → j' < k) ∧ adj (cf m0 ((gL G t).take (j + 1))) (cf m0 ((gL G t).take j))
/-- ALL THAT HOLDS: T terms, R roles, P votes, Y yeses of the servers -/
def cI (m0 : Int32) (T R : Nat → Nat) (P : Nat → Option Nat) (Y : Nat → Nat → Bool) (G : GG) : Prop := iD m0 T G ∧ iF T G ∧ iR T R Y G ∧ iV T G ∧ iP T P G ∧ iA T G ∧ i6 T G ∧ i7 G ∧ iC m0 G ∧ iM m0 G
