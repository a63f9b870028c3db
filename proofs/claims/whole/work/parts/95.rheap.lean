/-! ===== THE REFERENCE'S CELLS ===== -/
section RHP
variable {X : XS} {g : PS} {o : Nat}
theorem shr {a kd ln : Nat} (h2 : 2 ≤ o) (h4 : o < 4) (h : shpR o a kd ln) : shp a kd ln := Or.inr (Or.inl ⟨o, h2, h4, h⟩)
theorem sfr {a k b : Nat} (h2 : 2 ≤ o) (h4 : o < 4) (h : srfR o a k b) : srf a k b := Or.inr (Or.inl ⟨o, h2, h4, h⟩)
theorem lor {f i j a k : Nat} (h2 : 2 ≤ o) (h4 : o < 4) (h : locR o f i j a k) : loc o f i j a k := Or.inr ⟨h2, h4, h⟩
def dRowV (D : XD) (o f i : Nat) (v : Nat → Int32) : XD := (D.1, D.2.1, D.2.2.1, D.2.2.2.1, fun a b c d => if a = o ∧ b = f ∧ c = i then v d else D.2.2.2.2.1 a b c d, D.2.2.2.2.2)
theorem dRowV_V (D : XD) (o f i : Nat) (v : Nat → Int32) (a b c d : Nat) : dV (dRowV D o f i v) a b c d = if a = o ∧ b = f ∧ c = i then v d else dV D a b c d := rfl
/-- a part of a row of private numbers is written (40 told, 41 the row of messages) -/
theorem Rep.rowV {f b n : Nat} {Pk : Nat → Prop} {M : Nat → Nat → Value} {v : Nat → Int32} (h : Rep X g) (hb : ∀ k, k < n → loc o f 0 k b k) (hf : f = 40 ∨ f = 41) (hP : ∀ k, Pk k → k < n)
    (hM : ∀ a k, ¬ (a = b ∧ Pk k) → M a k = pM g a k) (hM2 : ∀ k, Pk k → M b k = .int (v k)) (hv : ∀ k, ¬ Pk k → v k = dV (xD X) o f 0 k)
    (hpo : f = 41 → ∀ j u, (xK X o).2.2[j]? = some u → ∀ k, k < 36 → v (36 * j + k) = mRow u k) : Rep (xSetD X (dRowV (xD X) o f 0 v)) (pSet g M) := by
  obtain ⟨a1, a2, a3, a4, a5, a6, a7, a8, a9, a10, a11, a12, a13, a14, a15⟩ := h
  have hM : ∀ x y, ¬ (fun x y => x = b ∧ Pk y) x y → M x y = pM g x y := hM
  have hp : xPriv f = true := by rcases hf with rfl | rfl <;> decide
  have st : ∀ k, Pk k → stat b ∧ b ≠ 388 ∧ b ≠ 511 ∧ b ≠ 0 := fun k hk => loc_stat (hb k (hP k hk))
  have ot : ∀ k, Pk k → nOth b k := fun k hk => loc_oth (hb k (hP k hk))
  have eV : ∀ o' f' i' j', dV (xD (xSetD X (dRowV (xD X) o f 0 v))) o' f' i' j' = if o' = o ∧ f' = f ∧ i' = 0 then v j' else dV (xD X) o' f' i' j' := fun _ _ _ _ => rfl
  have hA : ∀ o' i', o' < 4 → i' < 7 → ∀ k', ¬ (fun x y => x = b ∧ Pk y) (dA (xD X) o' i') k' := fun o' i' ho' hi k' z => by
    have q := ot k' z.2 o' i'
    have s := (st k' z.2).1.1
    have hz : dA (xD X) o' i' = b := z.1
    rcases Nat.lt_or_ge o' 2 with z2 | z2
    · rcases (a8 o' i' z2 hi).2.2.2.1 with y | y
      · exact (q.1 z2 hi).2 (by rw [← hz]; exact y)
      · omega
    · rcases (a9 o' i' z2 ho' hi).2.2.2.1 with y | y
      · exact (q.2.2.2 z2 ho').2.2.2 hi (by rw [← hz]; exact y)
      · omega
  refine ⟨a1, a2, fun o' f' i' j' a' k' hl' => ?_, a4.frm hM (fun a' k' b' hs z => loc_srf (hb k' (hP k' z.2)) (by rw [z.1] at hs; exact hs)), a5.frm hM (fun k' => ⟨fun z => (st _ z.2).2.1 z.1.symm, fun z => (st _ z.2).2.2.1 z.1.symm, fun z => (st _ z.2).2.2.2 z.1.symm⟩), ?_, a7, ?_, fun o' i' h1 h2 hi => ?_, a10.frm, ?_, ?_, ?_, fun o' h1 h2 => ?_, ?_⟩
  · show M a' k' = _
    by_cases e : a' = b ∧ Pk k'
    · obtain ⟨e1, e2⟩ := e
      subst e1
      rw [hM2 k' e2]
      obtain ⟨q1, q2, q3, q4⟩ := loc_inj hl' (hb k' (hP k' e2))
      unfold xN
      rw [q2, if_pos hp, eV, if_pos ⟨q1, rfl, q3⟩, q4]
    · rw [hM a' k' e]
      refine (a3 o' f' i' j' a' k' hl').trans (congrArg Value.int ?_)
      unfold xN
      split
      · rw [eV]
        split
        · rename_i z
          obtain ⟨z1, z2, z3⟩ := z
          rw [z1, z2, z3]
          refine (hv j' (fun y => e ?_)).symm
          rw [z1, z2, z3] at hl'
          obtain ⟨w1, w2⟩ := loc_fun hl' (hb j' (hP j' y))
          exact ⟨w1, by rw [w2]; exact y⟩
        · rfl
      · rfl
  · exact a6.frm hM (fun o' i' => ⟨fun z1 z => ((ot _ z.2 o' 0).2.2.1 z1).1 ⟨z.1.symm, Or.inr rfl⟩, fun z1 z2 => ⟨fun z => ((ot _ z.2 o' i').1 z1 z2).1 ⟨z.1.symm, Or.inr (Or.inr (Or.inl rfl))⟩, fun z => ((ot _ z.2 o' i').1 z1 z2).1 ⟨z.1.symm, Or.inl rfl⟩⟩,
      fun z1 z2 => ⟨fun z => ((ot _ z.2 o' 0).2.2.2 z1 z2).1 ⟨z.1.symm, rfl⟩, fun _ z => ((ot _ z.2 o' 0).2.2.2 z1 z2).2.1 z.1.symm⟩⟩)
  · exact a8.frm hM (fun o' i' ho' hi => ⟨fun z => ((ot _ z.2 o' i').1 ho' hi).1 ⟨z.1.symm, Or.inr (Or.inl rfl)⟩, hA o' i' (by omega) hi⟩)
  · obtain ⟨c1, c2, c3, c4, c5, c6, c7⟩ := a9.frm hM (fun o' i' ho' ho2 hi => ⟨fun z => ((ot _ z.2 o' 0).2.2.2 ho' ho2).2.2.1 z.1.symm, hA o' i' ho2 hi⟩) o' i' h1 h2 hi
    refine ⟨c1, c2, c3, c4, c5, fun q hq => (c6 q hq).trans (congrArg Value.int ?_), fun j' e he q hq => ?_⟩
    · rw [eV, if_neg (fun z => by omega)]
    · rw [eV, if_neg (fun z => by omega)]; exact c7 j' e he q hq
  · exact a11.frm hM (fun o' i' ho' hi z => ((ot _ z.2 o' i').1 ho' hi).1 ⟨z.1.symm, Or.inr (Or.inr (Or.inr rfl))⟩)
  · exact a12.frm hM (fun o' i' ho' hi z => ((ot _ z.2 o' i').2.1 ho' hi) ⟨z.1.symm, rfl⟩)
  · exact a13.frm a7 hM (fun o' q ho' => ⟨fun z => ((ot _ z.2 o' 0).2.2.1 ho').1 ⟨z.1.symm, Or.inl rfl⟩, fun _ z => ((ot _ z.2 o' 0).2.2.1 ho').2.1 z.1.symm, fun hq k' => ⟨fun z => (((ot _ z.2 o' q).2.2.1 ho').2.2 hq).1 z.1.symm, fun z => (((ot _ z.2 o' q).2.2.1 ho').2.2 hq).2 z.1.symm⟩⟩)
  · intro j' u hu q hq
    rw [eV]
    split
    · rename_i z
      obtain ⟨z1, z2, z3⟩ := z
      subst z1
      exact hpo z2.symm j' u hu q hq
    · exact a14 o' h1 h2 j' u hu q hq
  · exact a15.frm hM (fun a' ha k' z => (a15.2 a' ha).2.1 (by rw [show a' = b from z.1]; exact (st _ z.2).1))
theorem nOth_of_ge {a : Nat} (h : 512 ≤ a) (k : Nat) : nOth a k := by
  intro o' i'
  dsimp only [aB, aS, aC, aM, bB]
  refine ⟨fun y1 y2 => ⟨by omega, by omega⟩, fun y1 y2 => by omega, fun y1 => ⟨by omega, by omega, fun y2 => ⟨by omega, by omega⟩⟩, fun y1 y2 => ⟨by omega, by omega, by omega, fun y3 => by omega⟩⟩
/-- where a log of the reference lies, nothing else does -/
theorem rLr_apart {i : Nat} (h : Rep X g) (h2 : 2 ≤ o) (h4 : o < 4) (hi : i < 7) : (∀ o' f' i' j' k', ¬ loc o' f' i' j' (dA (xD X) o i) k') ∧ (∀ k' b', ¬ srf (dA (xD X) o i) k' b') ∧ (dA (xD X) o i ≠ 388 ∧ dA (xD X) o i ≠ 511 ∧ dA (xD X) o i ≠ 0) ∧
    (∀ o' i', (o' < 2 → dA (xD X) o i ≠ aB o' + 3 ∧ (i' < 7 → dA (xD X) o i ≠ aS o' i') ∧ (i' < 4 → dA (xD X) o i ≠ aC o' i') ∧ dA (xD X) o i ≠ aB o' + 4 ∧ (i' < 61 → dA (xD X) o i ≠ aM o' i' ∧ dA (xD X) o i ≠ aM o' i' + 1)) ∧ (2 ≤ o' → o' < 4 → dA (xD X) o i ≠ bB o' ∧ dA (xD X) o i ≠ bB o' + 31 ∧ dA (xD X) o i ≠ bB o' + 32)) := by
  have hL := (h.2.2.2.2.2.2.2.2.1 o i h2 h4 hi).2.2.2.1
  rcases hL with e | e
  · rw [e]
    refine ⟨fun o' f' i' j' k' hl => ?_, fun k' b' hs => ?_, by dsimp only [bB]; omega, fun o' i' => ⟨fun z => ?_, fun z1 z2 => ?_⟩⟩
    · exact ((loc_oth hl o i).2.2.2 h2 h4).2.2.2 hi rfl
    · rcases hs with ⟨o', ho, hs⟩ | ⟨o', h1, h3, hs⟩ | hs | hs
      · have := srfC_rng hs; dsimp only [bB] at this; omega
      · exact ((srfR_oth hs o i).2 (by have := srfR_rng hs; dsimp only [bB] at this; omega)).2.2 hi rfl
      · dsimp only [bB] at hs; omega
      · dsimp only [bB] at hs; omega
    · dsimp only [aB, aS, aC, aM, bB]
      refine ⟨by omega, fun z => by omega, fun z => by omega, by omega, fun z => ⟨by omega, by omega⟩⟩
    · dsimp only [bB]; omega
  · refine ⟨fun o' f' i' j' k' hl => ?_, fun k' b' hs => ?_, by omega, fun o' i' => ⟨fun z => ?_, fun z1 z2 => ?_⟩⟩
    · have := (loc_stat hl).1.1; omega
    · have := (srf_lo hs).1; omega
    · dsimp only [aB, aS, aC, aM]
      refine ⟨by omega, fun z => by omega, fun z => by omega, by omega, fun z => ⟨by omega, by omega⟩⟩
    · dsimp only [bB]; omega
/-- a part of the row of a log of the reference is written -/
theorem Rep.rowL {i : Nat} {Pk : Nat → Prop} {M : Nat → Nat → Value} {v : Nat → Int32} (h : Rep X g) (h2 : 2 ≤ o) (h4 : o < 4) (hi : i < 7)
    (hM : ∀ a k, ¬ (a = dA (xD X) o i ∧ Pk k) → M a k = pM g a k) (hM2 : ∀ k, Pk k → M (dA (xD X) o i) k = .int (v k)) (hv : ∀ k, ¬ Pk k → v k = dV (xD X) o 42 i k)
    (hlo : ∀ j e, ((xK X o).2.1 i)[j]? = some e → ∀ k, k < 7 → v (7 * j + k) = e k) : Rep (xSetD X (dRowV (xD X) o 42 i v)) (pSet g M) := by
  obtain ⟨p1, p2, p3, p4⟩ := rLr_apart h h2 h4 hi
  obtain ⟨a1, a2, a3, a4, a5, a6, a7, a8, a9, a10, a11, a12, a13, a14, a15⟩ := h
  have hM : ∀ x y, ¬ (fun x y => x = dA (xD X) o i ∧ Pk y) x y → M x y = pM g x y := hM
  have eV : ∀ o' f' i' j', dV (xD (xSetD X (dRowV (xD X) o 42 i v))) o' f' i' j' = if o' = o ∧ f' = 42 ∧ i' = i then v j' else dV (xD X) o' f' i' j' := fun _ _ _ _ => rfl
  refine ⟨a1, a2, fun o' f' i' j' a' k' hl' => ?_, a4.frm hM (fun a' k' b' hs z => p2 k' b' (by rw [← z.1]; exact hs)), a5.frm hM (fun k' => ⟨fun z => p3.1 z.1.symm, fun z => p3.2.1 z.1.symm, fun z => p3.2.2 z.1.symm⟩), ?_, a7, ?_, fun o' i' h1 h3 hi' => ?_, a10.frm, ?_, ?_, ?_, fun o' h1 h2 => ?_, ?_⟩
  · show M a' k' = _
    rw [hM a' k' (fun z => p1 o' f' i' j' k' (by rw [← z.1]; exact hl'))]
    refine (a3 o' f' i' j' a' k' hl').trans (congrArg Value.int ?_)
    unfold xN
    split
    · rw [eV]
      split
      · rename_i z
        obtain ⟨z1, z2, z3⟩ := z
        subst z2
        exfalso
        rcases hl' with ⟨-, hl'⟩ | ⟨-, -, hl'⟩
        · unfold locC at hl'; omega
        · unfold locR at hl'; omega
      · rfl
    · rfl
  · exact a6.frm hM (fun o' i' => ⟨fun z1 z => ((p4 o' 0).1 z1).1 z.1.symm, fun z1 z2 => ⟨fun z => ((p4 o' i').1 z1).2.1 z2 z.1.symm, fun z => ((p4 o' i').1 z1).2.1 z2 z.1.symm⟩,
      fun z1 z2 => ⟨fun z => ((p4 o' 0).2 z1 z2).1 z.1.symm, fun _ z => ((p4 o' 0).2 z1 z2).2.1 z.1.symm⟩⟩)
  · exact a8.frm hM (fun o' i' ho' hi' => ⟨fun z => ((p4 o' i').1 ho').2.1 hi' z.1.symm, fun k' z => by
      have := ((a10 o' i' (by omega) hi').2.2 o i h4 hi z.1).1
      omega⟩)
  · obtain ⟨c1, c2, c3, c4, c5, c6, c7⟩ := a9 o' i' h1 h3 hi'
    have e1 : M (bB o' + 32) i' = pM g (bB o' + 32) i' := hM _ _ (fun z => ((p4 o' 0).2 h1 h3).2.2 z.1.symm)
    refine ⟨e1.trans c1, c2, c3, c4, c5, fun q hq => ?_, fun j' e he q hq => ?_⟩
    · rw [eV]
      by_cases e : o' = o ∧ i' = i
      · obtain ⟨e1, e2⟩ := e
        subst e1; subst e2
        rw [if_pos ⟨rfl, rfl, rfl⟩]
        by_cases hk : Pk q
        · exact hM2 q hk
        · rw [hv q hk]; exact (hM _ _ (fun z => hk z.2)).trans (c6 q hq)
      · rw [if_neg (fun z => e ⟨z.1, z.2.2⟩)]
        exact (hM _ _ (fun z => e ((a10 o' i' h3 hi').2.2 o i h4 hi z.1))).trans (c6 q hq)
    · rw [eV]
      by_cases e : o' = o ∧ i' = i
      · obtain ⟨e1, e2⟩ := e
        subst e1; subst e2
        rw [if_pos ⟨rfl, rfl, rfl⟩]
        exact hlo j' _ he q hq
      · rw [if_neg (fun z => e ⟨z.1, z.2.2⟩)]
        exact c7 j' _ he q hq
  · exact a11.frm hM (fun o' i' ho' hi z => ((p4 o' i').1 ho').2.1 hi z.1.symm)
  · exact a12.frm hM (fun o' i' ho' hi z => ((p4 o' i').1 ho').2.2.1 hi z.1.symm)
  · exact a13.frm a7 hM (fun o' q ho' => ⟨fun z => ((p4 o' 0).1 ho').1 z.1.symm, fun _ z => ((p4 o' 0).1 ho').2.2.2.1 z.1.symm, fun hq k' => ⟨fun z => (((p4 o' q).1 ho').2.2.2.2 hq).1 z.1.symm, fun z => (((p4 o' q).1 ho').2.2.2.2 hq).2 z.1.symm⟩⟩)
  · intro j' u hu q hq
    rw [eV, if_neg (fun z => by omega)]
    exact a14 o' h1 h2 j' u hu q hq
  · exact a15.frm hM (fun a' ha k' z => ha (by rw [show a' = dA (xD X) o i from z.1]; exact (a10 o i h4 hi).2.1))
end RHP
