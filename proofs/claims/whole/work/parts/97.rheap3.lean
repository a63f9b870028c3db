/-! ===== THE REFERENCE'S CELLS: rows that were made ===== -/
section RHS
variable {X : XS} {g : PS} {o : Nat}
/-- cells from 512 on are none of the fixed ones -/
theorem ge_apart {p : Nat} (h : 512 ≤ p) : (∀ o' f' i' j' k', ¬ loc o' f' i' j' p k') ∧ (∀ k' b', ¬ srf p k' b') ∧ (p ≠ 388 ∧ p ≠ 511 ∧ p ≠ 0) ∧
    (∀ o' i', (o' < 2 → p ≠ aB o' + 3 ∧ (i' < 7 → p ≠ aS o' i') ∧ (i' < 4 → p ≠ aC o' i') ∧ p ≠ aB o' + 4 ∧ (i' < 61 → p ≠ aM o' i' ∧ p ≠ aM o' i' + 1)) ∧ (2 ≤ o' → o' < 4 → p ≠ bB o' ∧ p ≠ bB o' + 31 ∧ p ≠ bB o' + 32)) := by
  refine ⟨fun o' f' i' j' k' hl => ?_, fun k' b' hs => ?_, by omega, fun o' i' => ⟨fun z => ?_, fun z1 z2 => ?_⟩⟩
  · have := (loc_stat hl).1.1; omega
  · have := (srf_lo hs).1; omega
  · dsimp only [aB, aS, aC, aM]
    refine ⟨by omega, fun z => by omega, fun z => by omega, by omega, fun z => ⟨by omega, by omega⟩⟩
  · dsimp only [bB]; omega
/-- a part of a row that was made is written -/
theorem Rep.frW {p n : Nat} {e v : ENT} {Pk : Nat → Prop} {M : Nat → Nat → Value} (h : Rep X g) (h5 : 512 ≤ p) (hE : dE (xD X) p = (100 + n, e))
    (hM : ∀ a k, ¬ (a = p ∧ Pk k) → M a k = pM g a k) (hM2 : ∀ k, Pk k → M p k = .int (v k)) (hv : ∀ k, k < n → ¬ Pk k → v k = e k) : Rep (xSetD X (dFr (xD X) p n v)) (pSet g M) := by
  obtain ⟨p1, p2, p3, p4⟩ := ge_apart h5
  obtain ⟨a1, a2, a3, a4, a5, a6, a7, a8, a9, a10, a11, a12, a13, a14, a15⟩ := h
  have hM' : ∀ x y, ¬ (fun x y => x = p ∧ Pk y) x y → M x y = pM g x y := hM
  have eE : ∀ q, dE (dFr (xD X) p n v) q = if q = p then (100 + n, v) else dE (xD X) q := fun _ => rfl
  have eN : ∀ q t e', t < 100 → dE (xD X) q = (t, e') → dE (dFr (xD X) p n v) q = (t, e') := fun q t e' ht hq => by
    rw [eE, if_neg (fun z => by rw [z, hE] at hq; have := congrArg Prod.fst hq; have : 100 + n = t := this; omega)]
    exact hq
  have eA : ∀ o' i', o' < 4 → i' < 7 → dA (xD X) o' i' ≠ p := fun o' i' ho' hi' z => by
    have := (a10 o' i' ho' hi').2.1
    rw [z, hE] at this
    have : 100 + n = 0 := this
    omega
  refine ⟨a1, a2, a3.frm hM' (fun o' f' i' j' a' k' hl z => p1 o' f' i' j' k' (by rw [← z.1]; exact hl)), a4.frm hM' (fun a' k' b' hs z => p2 k' b' (by rw [← z.1]; exact hs)), a5.frm hM' (fun k' => ⟨fun z => p3.1 z.1.symm, fun z => p3.2.1 z.1.symm, fun z => p3.2.2 z.1.symm⟩),
    a6.frm hM' (fun o' i' => ⟨fun z1 z => ((p4 o' 0).1 z1).1 z.1.symm, fun z1 z2 => ⟨fun z => ((p4 o' i').1 z1).2.1 z2 z.1.symm, fun z => ((p4 o' i').1 z1).2.1 z2 z.1.symm⟩, fun z1 z2 => ⟨fun z => ((p4 o' 0).2 z1 z2).1 z.1.symm, fun _ z => ((p4 o' 0).2 z1 z2).2.1 z.1.symm⟩⟩),
    a7, fun o' i' ho hi' => ?_, fun o' i' h1 h3 hi' => ?_, fun o' i' ho' hi' => ?_, fun o' i' ho hi' => ?_, fun o' c ho hc => ?_, fun o' ho => ?_, a14, ?_, fun q hq => ?_⟩
  · obtain ⟨c1, c2, c3, c4, c5, c6, c7, c8, c9⟩ := a8 o' i' ho hi'
    exact ⟨(hM _ _ (fun z => ((p4 o' i').1 ho).2.1 hi' z.1.symm)).trans c1, c2, c3, c4, c5, c6, c7, fun j hj hj2 => (hM _ _ (fun z => eA o' i' (by omega) hi' z.1)).trans (c8 j hj hj2), fun j e' he => ⟨eN _ _ _ (by omega) (c9 j e' he).1, (c9 j e' he).2⟩⟩
  · obtain ⟨c1, c2, c3, c4, c5, c6, c7⟩ := a9 o' i' h1 h3 hi'
    exact ⟨(hM _ _ (fun z => ((p4 o' 0).2 h1 h3).2.2 z.1.symm)).trans c1, c2, c3, c4, c5, fun k hk => (hM _ _ (fun z => eA o' i' h3 hi' z.1)).trans (c6 k hk), c7⟩
  · obtain ⟨b1, b2, b3⟩ := a10 o' i' ho' hi'
    exact ⟨b1, by show (dE (dFr (xD X) p n v) (dA (xD X) o' i')).1 = 0; rw [eE, if_neg (eA o' i' ho' hi')]; exact b2, b3⟩
  · obtain ⟨q, q1, r, q2, q3⟩ := a11 o' i' ho hi'
    exact ⟨q, (hM _ _ (fun z => ((p4 o' i').1 ho).2.1 hi' z.1.symm)).trans q1, r, eN _ _ _ (by omega) q2, q3⟩
  · have e1 : M (aC o' c) 0 = pM g (aC o' c) 0 := hM _ _ (fun z => ((p4 o' c).1 ho).2.2.1 hc z.1.symm)
    obtain ⟨b1, b2⟩ := a12 o' c ho hc
    refine ⟨fun z => e1.trans (b1 z), fun z => ?_⟩
    obtain ⟨q, q1, r, q2, q3⟩ := b2 z
    exact ⟨q, e1.trans q1, r, eN _ _ _ (by omega) q2, q3⟩
  · obtain ⟨b1, b2, b3, b4, b5, b6⟩ := a13 o' ho
    refine ⟨(hM _ _ (fun z => ((p4 o' 0).1 ho).1 z.1.symm)).trans b1, fun j hj => (hM _ _ (fun z => ((p4 o' 0).1 ho).2.2.2.1 z.1.symm)).trans (b2 j hj), b3, b4, fun q hq => ?_, b6⟩
    obtain ⟨c1, c2, c3, c4, c5, c6⟩ := b5 q hq
    have m1 : ∀ k, M (aM o' q) k = pM g (aM o' q) k := fun k => hM _ _ (fun z => (((p4 o' q).1 ho).2.2.2.2 hq).1 z.1.symm)
    have m2 : ∀ k, M (aM o' q + 1) k = pM g (aM o' q + 1) k := fun k => hM _ _ (fun z => (((p4 o' q).1 ho).2.2.2.2 hq).2 z.1.symm)
    refine ⟨fun k k1 k2 => (m1 k).trans (c1 k k1 k2), c2, fun y => (m1 10).trans (c3 y), fun r hr => ?_, ⟨c5.1, c5.2.mv m2 (fun q e' => eN q 1 e' (by omega))⟩, fun j e' he => ?_⟩
    · obtain ⟨q', d1, r', d2, d3⟩ := c4 r hr
      exact ⟨q', (m1 10).trans d1, r', eN _ _ _ (by omega) d2, d3⟩
    · obtain ⟨q', d1, d2⟩ := c6 j e' he
      exact ⟨q', (m2 j).trans d1, eN _ _ _ (by omega) d2⟩
  · show (dE (dFr (xD X) p n v) 0).1 = 0
    rw [eE, if_neg (by omega)]
    exact a15.1
  · have hq0 : (dE (dFr (xD X) p n v) q).1 ≠ 0 := hq
    rw [eE] at hq0
    by_cases eq : q = p
    · subst eq
      have hz := a15.2 q (by rw [hE]; show 100 + n ≠ 0; omega)
      have ho := hz.2.2
      unfold oOk at ho
      rw [hE] at ho
      have ho5 := ho.2.2.2.2 (by show 100 ≤ 100 + n; omega)
      refine ⟨hz.1, hz.2.1, ?_⟩
      show oOk (dFr (xD X) q n v) _ q
      unfold oOk
      rw [eE, if_pos rfl]
      refine ⟨fun z => ?_, fun z => ?_, fun z => ?_, fun _ z => ?_, fun _ => ⟨ho5.1, ho5.2.1, fun k hk => ?_⟩⟩
      · have : 100 + n = 1 := z; omega
      · have : 100 + n = 2 := z; omega
      · have : 100 + n = 3 := z; omega
      · have : 100 + n < 100 := z; omega
      · have hk2 : k < 100 + n - 100 := hk
        by_cases hp : Pk k
        · exact hM2 k hp
        · exact ((hM _ _ (fun z => hp z.2)).trans (ho5.2.2 k hk)).trans (congrArg Value.int (hv k (by omega) hp).symm)
    · rw [if_neg eq] at hq0
      obtain ⟨b1, b2, b3⟩ := a15.2 q hq0
      refine ⟨b1, b2, ?_⟩
      show oOk (dFr (xD X) p n v) _ q
      have eq1 : dE (dFr (xD X) p n v) q = dE (xD X) q := by rw [eE, if_neg eq]
      have m0 : ∀ k, pM (pSet g M) q k = pM g q k := fun k => hM _ _ (fun z => eq z.1)
      have ek : pK (pSet g M) = pK g := rfl
      have el : pL (pSet g M) = pL g := rfl
      obtain ⟨h1, h2, h3, h4, h6⟩ := b3
      unfold oOk
      rw [eq1]
      refine ⟨fun z => ?_, fun z => ?_, fun z => ?_, h4, fun z => ?_⟩
      · obtain ⟨d1, d2, d3, d4⟩ := h1 z
        refine ⟨d1, (m0 0).trans d2, (m0 1).trans d3, ?_⟩
        rcases d4 with ⟨y1, y2, q', y3, r', y4, y5⟩ | ⟨y1, y2, y3, y4⟩
        · exact Or.inl ⟨y1, (m0 3).trans y2, q', (m0 2).trans y3, r', eN _ _ _ (by omega) y4, y5⟩
        · exact Or.inr ⟨y1, (m0 2).trans y2, (m0 3).trans y3, y4⟩
      · simp only [m0, ek]; exact h2 z
      · obtain ⟨d1, d2, d3, d4, d5, d6, d7, d8, d9, d10, d11⟩ := h3 z
        have e1 : ∀ j k, 1 ≤ j → j ≤ 4 → pM (pSet g M) (q + j) k = pM g (q + j) k := fun j k j1 j2 => hM _ _ (fun y => by
          have := d11 j j1 j2
          rw [y.1, hE] at this
          have : 100 + n = 9 := this
          omega)
        refine ⟨d1, fun k hk => (m0 k).trans (d2 k hk), (m0 3).trans d3, d4, fun k hk => ⟨(e1 1 k (by omega) (by omega)).trans (d5 k hk).1, (d5 k hk).2⟩, d6, d7, d8, fun k hk => (e1 2 k (by omega) (by omega)).trans (d9 k hk), fun k hk => ⟨(e1 3 k (by omega) (by omega)).trans (d10 k hk).1, (e1 4 k (by omega) (by omega)).trans (d10 k hk).2⟩, fun k k1 k2 => ?_⟩
        have := d11 k k1 k2
        rw [eE, if_neg (fun y => by rw [y, hE] at this; have : 100 + n = 9 := this; omega)]
        exact this
      · simp only [m0, ek, el]; exact h6 z
/-- a row that was made becomes a log's row -/
def dLogR (D : XD) (o i p n : Nat) (e : ENT) : XD := (fun a => if a = p then (0, fun _ => 0) else D.1 a, fun a b => if a = o ∧ b = i then p else D.2.1 a b, fun a b => if a = o ∧ b = i then n else D.2.2.1 a b, D.2.2.2.1, fun a b c d => if a = o ∧ b = 42 ∧ c = i then e d else D.2.2.2.2.1 a b c d, D.2.2.2.2.2)
theorem Rep.logR {p n i : Nat} {e : ENT} (h : Rep X g) (h2 : 2 ≤ o) (h4 : o < 4) (hi : i < 7) (h5 : 512 ≤ p) (hE : dE (xD X) p = (100 + n, e)) (hn : 7 * ((xK X o).2.1 i).length ≤ n)
    (hl : ∀ j e', ((xK X o).2.1 i)[j]? = some e' → ∀ k, k < 7 → e (7 * j + k) = e' k) : Rep (xSetD X (dLogR (xD X) o i p n e)) (pPut g (bB o + 32) i (.ref p)) := by
  obtain ⟨a1, a2, a3, a4, a5, a6, a7, a8, a9, a10, a11, a12, a13, a14, a15⟩ := h
  have hM := hMp g (bB o + 32) i (.ref p)
  have hpo := a15.2 p (by rw [hE]; show 100 + n ≠ 0; omega)
  have ho5 : pK g p = 12 ∧ pL g p = 100 + n - 100 ∧ ∀ k, k < 100 + n - 100 → pM g p k = .int (e k) := by
    have := hpo.2.2
    unfold oOk at this
    rw [hE] at this
    exact this.2.2.2.2 (by show 100 ≤ 100 + n; omega)
  have eE : ∀ q, dE (dLogR (xD X) o i p n e) q = if q = p then (0, fun _ => 0) else dE (xD X) q := fun _ => rfl
  have eN : ∀ q t e', 1 ≤ t → t < 100 → dE (xD X) q = (t, e') → dE (dLogR (xD X) o i p n e) q = (t, e') := fun q t e' h1 ht hq => by
    rw [eE, if_neg (fun z => by rw [z, hE] at hq; have := congrArg Prod.fst hq; have : 100 + n = t := this; omega)]
    exact hq
  have eV : ∀ o' f' i' j', dV (dLogR (xD X) o i p n e) o' f' i' j' = if o' = o ∧ f' = 42 ∧ i' = i then e j' else dV (xD X) o' f' i' j' := fun _ _ _ _ => rfl
  have eA : ∀ o' i', dA (dLogR (xD X) o i p n e) o' i' = if o' = o ∧ i' = i then p else dA (xD X) o' i' := fun _ _ => rfl
  have eR : ∀ o' i', dR (dLogR (xD X) o i p n e) o' i' = if o' = o ∧ i' = i then n else dR (xD X) o' i' := fun _ _ => rfl
  have eAp : ∀ o' i', o' < 4 → i' < 7 → dA (xD X) o' i' ≠ p := fun o' i' ho' hi' z => by
    have := (a10 o' i' ho' hi').2.1
    rw [z, hE] at this
    have : 100 + n = 0 := this
    omega
  have hst : stat (bB o + 32) := by unfold stat; dsimp only [bB]; omega
  have nl : ∀ o' i' k', o' < 4 → i' < 7 → ¬ (fun x y => x = bB o + 32 ∧ y = i) (dA (xD X) o' i') k' := fun o' i' k' ho' hi' z => by
    have hz : dA (xD X) o' i' = bB o + 32 := z.1
    rcases Nat.lt_or_ge o' 2 with z2 | z2
    · rcases (a8 o' i' z2 hi').2.2.2.1 with y | y
      · rw [y] at hz; dsimp only [aS, bB] at hz; omega
      · rw [hz] at y; dsimp only [bB] at y; omega
    · rcases (a9 o' i' z2 ho' hi').2.2.2.1 with y | y
      · rw [y] at hz; dsimp only [bB] at hz; omega
      · rw [hz] at y; dsimp only [bB] at y; omega
  refine ⟨a1, a2, fun o' f i' j a k hl' => ?_, a4.frm hM (fun a k b hs z => ?_), a5.frm hM (fun k => ⟨fun z => ?_, fun z => ?_, fun z => ?_⟩), a6.frm hM (fun o' i' => ⟨fun z1 z => ?_, fun z1 z2 => ⟨fun z => ?_, fun z => ?_⟩, fun z1 z2 => ⟨fun z => ?_, fun _ z => ?_⟩⟩), a7, fun o' i' ho hi' => ?_, fun o' i' h1 h3 hi' => ?_, fun o' i' ho' hi' => ?_, fun o' i' ho hi' => ?_, fun o' c ho hc => ?_, fun o' ho => ?_, fun o' h1 h3 j' u hu q hq => ?_, ?_, fun q hq => ?_⟩
  · refine (hM a k (fun z => ?_)).trans ((a3 o' f i' j a k hl').trans (congrArg Value.int ?_))
    · exact ((loc_oth hl' o 0).2.2.2 h2 h4).2.2.1 z.1
    · unfold xN
      split
      · show _ = dV (dLogR (xD X) o i p n e) o' f i' j
        rw [eV]
        split
        · rename_i z
          obtain ⟨z1, z2, z3⟩ := z
          subst z2
          exfalso
          rcases hl' with ⟨-, hl'⟩ | ⟨-, -, hl'⟩
          · unfold locC at hl'; omega
          · unfold locR at hl'; omega
        · rfl
      · rfl
  · rcases hs with ⟨o', ho, hs⟩ | ⟨o', h1, h3, hs⟩ | hs | hs
    · have := srfC_rng hs; have := z.1; dsimp only [bB] at this; omega
    · have h9 := z.1
      exact ((srfR_oth hs o i).2 (by have := srfR_rng hs; dsimp only [bB] at this h9; omega)).2.1 h9
    · have := z.1; dsimp only [bB] at this; omega
    · have := z.1; dsimp only [bB] at this; omega
  · have := z.1; dsimp only [bB] at this; omega
  · have := z.1; dsimp only [bB] at this; omega
  · have := z.1; dsimp only [bB] at this; omega
  · have := z.1; dsimp only [aB, bB] at this; omega
  · have := z.1; dsimp only [aS, bB] at this; omega
  · have := z.1; dsimp only [aS, bB] at this; omega
  · have := z.1; dsimp only [bB] at this; omega
  · have := z.1; dsimp only [bB] at this; omega
  · have hne : ¬ (o' = o ∧ i' = i) := by omega
    obtain ⟨c1, c2, c3, c4, c5, c6, c7, c8, c9⟩ := a8 o' i' ho hi'
    show _ ∧ _
    simp only [xD_setD, eA, eR, if_neg hne]
    exact ⟨(hM _ _ (fun z => by have := z.1; dsimp only [aS, bB] at this; omega)).trans c1, c2, c3, c4, c5, c6, c7, fun j hj hj2 => (hM _ _ (nl o' i' j (by omega) hi')).trans (c8 j hj hj2), fun j e' he => ⟨eN _ _ _ (by omega) (by omega) (c9 j e' he).1, (c9 j e' he).2⟩⟩
  · simp only [xD_setD, eA, eR]
    by_cases z : o' = o ∧ i' = i
    · obtain ⟨z1, z2⟩ := z
      subst z1; subst z2
      rw [if_pos ⟨rfl, rfl⟩, if_pos ⟨rfl, rfl⟩]
      refine ⟨if_pos ⟨rfl, rfl⟩, ho5.1, ho5.2.1.trans (by omega), Or.inr h5, hn, fun k hk => ?_, fun j e' he k hk => ?_⟩
      · rw [eV, if_pos ⟨rfl, rfl, rfl⟩]
        exact (hM _ _ (fun y => by have := y.1; dsimp only [bB] at this; omega)).trans (ho5.2.2 k (by omega))
      · rw [eV, if_pos ⟨rfl, rfl, rfl⟩]
        exact hl j e' he k hk
    · rw [if_neg z, if_neg z]
      obtain ⟨c1, c2, c3, c4, c5, c6, c7⟩ := a9 o' i' h1 h3 hi'
      refine ⟨(hM _ _ (fun y => z ⟨by have := y.1; dsimp only [bB] at this; omega, y.2⟩)).trans c1, c2, c3, c4, c5, fun k hk => ?_, fun j e' he k hk => ?_⟩
      · rw [eV, if_neg (fun y => z ⟨y.1, y.2.2⟩)]
        exact (hM _ _ (nl o' i' k h3 hi')).trans (c6 k hk)
      · rw [eV, if_neg (fun y => z ⟨y.1, y.2.2⟩)]
        exact c7 j e' he k hk
  · obtain ⟨b1, b2, b3⟩ := a10 o' i' ho' hi'
    simp only [xD_setD, eA, eE]
    refine ⟨?_, ?_, fun o9 i9 ho9 hi9 hz => ?_⟩
    · split
      · exact hpo.1
      · exact b1
    · split
      · rw [if_pos rfl]
      · rw [if_neg (eAp o' i' ho' hi')]; exact b2
    · by_cases z : o' = o ∧ i' = i
      · rw [if_pos z] at hz
        by_cases z9 : o9 = o ∧ i9 = i
        · exact ⟨z.1.trans z9.1.symm, z.2.trans z9.2.symm⟩
        · rw [if_neg z9] at hz
          exact absurd hz.symm (eAp o9 i9 ho9 hi9)
      · rw [if_neg z] at hz
        by_cases z9 : o9 = o ∧ i9 = i
        · rw [if_pos z9] at hz
          exact absurd hz (eAp o' i' ho' hi')
        · rw [if_neg z9] at hz
          exact b3 o9 i9 ho9 hi9 hz
  · obtain ⟨q, q1, r, q2, q3⟩ := a11 o' i' ho hi'
    exact ⟨q, (hM _ _ (fun z => by have := z.1; dsimp only [aS, bB] at this; omega)).trans q1, r, eN _ _ _ (by omega) (by omega) q2, q3⟩
  · have e1 : pU (pM g) (bB o + 32) i (.ref p) (aC o' c) 0 = pM g (aC o' c) 0 := hM _ _ (fun z => by have := z.1; dsimp only [aC, bB] at this; omega)
    obtain ⟨b1, b2⟩ := a12 o' c ho hc
    refine ⟨fun z => e1.trans (b1 z), fun z => ?_⟩
    obtain ⟨q, q1, r, q2, q3⟩ := b2 z
    exact ⟨q, e1.trans q1, r, eN _ _ _ (by omega) (by omega) q2, q3⟩
  · obtain ⟨b1, b2, b3, b4, b5, b6⟩ := a13 o' ho
    refine ⟨(hM _ _ (fun z => by have := z.1; dsimp only [aB, bB] at this; omega)).trans b1, fun j hj => (hM _ _ (fun z => by have := z.1; dsimp only [aB, bB] at this; omega)).trans (b2 j hj), b3, b4, fun q hq => ?_, b6⟩
    obtain ⟨c1, c2, c3, c4, c5, c6⟩ := b5 q hq
    have m1 : ∀ k, pU (pM g) (bB o + 32) i (.ref p) (aM o' q) k = pM g (aM o' q) k := fun k => hM _ _ (fun z => by have := z.1; dsimp only [aM, bB] at this; omega)
    have m2 : ∀ k, pU (pM g) (bB o + 32) i (.ref p) (aM o' q + 1) k = pM g (aM o' q + 1) k := fun k => hM _ _ (fun z => by have := z.1; dsimp only [aM, bB] at this; omega)
    refine ⟨fun k k1 k2 => (m1 k).trans (c1 k k1 k2), c2, fun y => (m1 10).trans (c3 y), fun r hr => ?_, ⟨c5.1, c5.2.mv m2 (fun q e' => eN q 1 e' (by omega) (by omega))⟩, fun j e' he => ?_⟩
    · obtain ⟨q', d1, r', d2, d3⟩ := c4 r hr
      exact ⟨q', (m1 10).trans d1, r', eN _ _ _ (by omega) (by omega) d2, d3⟩
    · obtain ⟨q', d1, d2⟩ := c6 j e' he
      exact ⟨q', (m2 j).trans d1, eN _ _ _ (by omega) (by omega) d2⟩
  · show dV (dLogR (xD X) o i p n e) _ _ _ _ = _
    rw [eV, if_neg (fun z => by omega)]
    exact a14 o' h1 h3 j' u hu q hq
  · show (dE (dLogR (xD X) o i p n e) 0).1 = 0
    rw [eE, if_neg (by omega)]
    exact a15.1
  · have hq0 : (dE (dLogR (xD X) o i p n e) q).1 ≠ 0 := hq
    rw [eE] at hq0
    by_cases eq : q = p
    · rw [if_pos eq] at hq0; exact absurd rfl hq0
    · rw [if_neg eq] at hq0
      obtain ⟨b1, b2, b3⟩ := a15.2 q hq0
      refine ⟨b1, b2, ?_⟩
      show oOk (dLogR (xD X) o i p n e) _ q
      have eq1 : dE (dLogR (xD X) o i p n e) q = dE (xD X) q := by rw [eE, if_neg eq]
      have qs : ∀ k, pM (pPut g (bB o + 32) i (.ref p)) q k = pM g q k := fun k => hM _ _ (fun z => b2 (by rw [show q = bB o + 32 from z.1]; exact hst))
      have ek : pK (pPut g (bB o + 32) i (.ref p)) = pK g := rfl
      have el : pL (pPut g (bB o + 32) i (.ref p)) = pL g := rfl
      obtain ⟨d1, d2, d3, d4, d6⟩ := b3
      unfold oOk
      rw [eq1]
      refine ⟨fun z => ?_, fun z => ?_, fun z => ?_, d4, fun z => ?_⟩
      · obtain ⟨y1, y2, y3, y4⟩ := d1 z
        refine ⟨y1, (qs 0).trans y2, (qs 1).trans y3, ?_⟩
        rcases y4 with ⟨w1, w2, q', w3, r', w4, w5⟩ | ⟨w1, w2, w3, w4⟩
        · exact Or.inl ⟨w1, (qs 3).trans w2, q', (qs 2).trans w3, r', eN _ _ _ (by omega) (by omega) w4, w5⟩
        · exact Or.inr ⟨w1, (qs 2).trans w2, (qs 3).trans w3, w4⟩
      · simp only [qs, ek]; exact d2 z
      · obtain ⟨y1, y2, y3, y4, y5, y6, y7, y8, y9, y10, y11⟩ := d3 z
        have e1 : ∀ j k, 1 ≤ j → j ≤ 4 → pM (pPut g (bB o + 32) i (.ref p)) (q + j) k = pM g (q + j) k := fun j k j1 j2 => hM _ _ (fun y => by
          have h9 := (a15.2 (q + j) (by rw [y11 j j1 j2]; omega)).2.1
          exact h9 (by rw [show q + j = bB o + 32 from y.1]; exact hst))
        refine ⟨y1, fun k hk => (qs k).trans (y2 k hk), (qs 3).trans y3, y4, fun k hk => ⟨(e1 1 k (by omega) (by omega)).trans (y5 k hk).1, (y5 k hk).2⟩, y6, y7, y8, fun k hk => (e1 2 k (by omega) (by omega)).trans (y9 k hk), fun k hk => ⟨(e1 3 k (by omega) (by omega)).trans (y10 k hk).1, (e1 4 k (by omega) (by omega)).trans (y10 k hk).2⟩, fun k k1 k2 => ?_⟩
        have := y11 k k1 k2
        rw [eE, if_neg (fun y => by rw [y, hE] at this; have : 100 + n = 9 := this; omega)]
        exact this
      · simp only [qs, ek, el]; exact d6 z
end RHS
