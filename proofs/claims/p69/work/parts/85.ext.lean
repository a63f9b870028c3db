/-! ===== ONLY SOME NUMBERS COUNT ===== -/
def kRl (f i j : Nat) : Prop := (((4 ≤ f ∧ f ≤ 6) ∨ (12 ≤ f ∧ f ≤ 17)) ∧ i < 7 ∧ j = 0) ∨ (f = 19 ∧ i < 7 ∧ j < 16) ∨ ((f = 2 ∨ f = 3) ∧ i < 7 ∧ j < 7) ∨ (f = 30 ∧ i < 7 ∧ j = 0) ∨ ((f = 32 ∨ f = 33) ∧ i = 0 ∧ j = 0) ∨ ((f = 35 ∨ f = 36) ∧ i < 4 ∧ j = 0) ∨ (f = 18 ∧ i < 7 ∧ j < 19) ∨ (f = 34 ∧ i < 4 ∧ j < 7)
/-- the same where it counts -/
def kAgr (K1 K2 : KK) : Prop := (∀ f i j, kRl f i j → K2.1 f i j = K1.1 f i j) ∧ (∀ i, i < 7 → K2.2.1 i = K1.2.1 i) ∧ K2.2.2 = K1.2.2
theorem loc_rl {o f i j a k : Nat} (h : loc o f i j a k) (hp : xPriv f = false) : kRl f i j := by
  have hf : f ≠ 10 ∧ f ≠ 11 ∧ f ≠ 31 ∧ f ≠ 20 ∧ f ≠ 40 ∧ f ≠ 41 ∧ f ≠ 42 := by
    refine ⟨?_, ?_, ?_, ?_, ?_, ?_, ?_⟩ <;> rintro rfl <;> exact absurd hp (by decide)
  unfold kRl
  rcases h with ⟨ho, h⟩ | ⟨h1, h2, h⟩
  · dsimp only [locC] at h
    rcases h with h | h | h | h | h | h | h | h | h | h <;> omega
  · dsimp only [locR] at h
    rcases h with h | h | h | h | h | h | h | h | h | h | h | h | h | h | h | h | h <;> omega
theorem Rep.agr {X : XS} {g : PS} {o : Nat} {K : KK} (h : Rep X g) (hA : kAgr (xK X o) K) : Rep (xSetK X o K) g := by
  obtain ⟨a1, a2, a3, a4, a5, a6, a7, a8, a9, a10, a11, a12, a13, a14, a15⟩ := h
  obtain ⟨b1, b2, b3⟩ := hA
  have e1 : ∀ o', (xK (xSetK X o K) o').2.2 = (xK X o').2.2 := fun o' => by
    rw [xK_setK]; split
    · rename_i z; rw [z]; exact b3
    · rfl
  have e2 : ∀ o' i, i < 7 → (xK (xSetK X o K) o').2.1 i = (xK X o').2.1 i := fun o' i hi => by
    rw [xK_setK]; split
    · rename_i z; rw [z]; exact b2 i hi
    · rfl
  have e3 : ∀ o' f i j, kRl f i j → (xK (xSetK X o K) o').1 f i j = (xK X o').1 f i j := fun o' f i j hi => by
    rw [xK_setK]; split
    · rename_i z; rw [z]; exact b1 f i j hi
    · rfl
  refine ⟨a1, a2, fun o' f i j a k hl => ?_, a4, a5, ⟨fun o' ho => ⟨?_, fun i hi => ?_⟩, fun o' ho ho2 => ⟨?_, fun i hi => ?_⟩⟩, fun o' ho => ⟨?_, fun i hi => ?_, fun c hc => ?_⟩, fun o' i ho hi => ?_, fun o' i ho ho2 hi => ?_, a10, fun o' i ho hi => ?_, fun o' c ho hc => ?_, fun o' ho => ?_, fun o' ho ho2 => ?_, a15⟩
  · have z : xN (xSetK X o K) o' f i j = xN X o' f i j := by
      unfold xN
      by_cases hp : xPriv f = true
      · rw [if_pos hp, if_pos hp]; rfl
      · rw [if_neg hp, if_neg hp]
        exact e3 o' f i j (loc_rl hl (by simpa using hp))
    rw [z]; exact a3 o' f i j a k hl
  · rw [e1]; exact (a6.1 o' ho).1
  · rw [e2 o' i hi]; exact (a6.1 o' ho).2 i hi
  · rw [e1]; exact (a6.2 o' ho ho2).1
  · rw [e2 o' i hi]; exact (a6.2 o' ho ho2).2 i hi
  · rw [e1]; exact (a7 o' ho).1
  · rw [e3 o' 4 i 0 (by unfold kRl; omega)]; exact (a7 o' ho).2.1 i hi
  · rw [e3 o' 35 c 0 (by unfold kRl; omega)]; exact (a7 o' ho).2.2 c hc
  · have := a8 o' i ho hi
    rw [← e2 o' i hi] at this
    exact this
  · have := a9 o' i ho ho2 hi
    rw [← e2 o' i hi] at this
    exact this
  · obtain ⟨p, q1, r, q2, q3⟩ := a11 o' i ho hi
    exact ⟨p, q1, r, q2, fun k hk => (q3 k hk).trans (e3 o' 18 i k (by unfold kRl; omega)).symm⟩
  · have := a12 o' c ho hc
    rw [e3 o' 34 c 3 (by unfold kRl; omega)]
    refine ⟨this.1, fun z => ?_⟩
    obtain ⟨q, q1, r, q2, q3⟩ := this.2 z
    exact ⟨q, q1, r, q2, fun k h1 h6 => (q3 k h1 h6).trans (e3 o' 34 c k (by unfold kRl; omega)).symm⟩
  · have := a13 o' ho
    rw [← e1 o'] at this
    exact this
  · have := a14 o' ho ho2
    rw [← e1 o'] at this
    exact this
theorem kAgr.rf (K : KK) : kAgr K K := ⟨fun _ _ _ _ => rfl, fun _ _ => rfl, rfl⟩
/-- a private number of state o beside: the cut links -/
def xCutL (X : XS) (o : Nat) (v : Int32) : XS := xSetD X (dSetV (xD X) o 31 0 0 v)
