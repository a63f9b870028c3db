/-! ===== SNAPSHOTS ARE MADE ===== -/
/-- snapshot r and its table are made in the cells p, ..., p + 4 -/
def dSnap (D : XD) (p : Nat) (r : ENT) : XD := dExt D (fun a => if a = p then (3, r) else if p < a ∧ a ≤ p + 4 then (9, fun _ => 0) else dE D a) (dC D + 4) (dZ D + (pF 8 + 16))
theorem Rep.snp {X : XS} {g g' : PS} {p : Nat} {r : ENT} (h : Rep X g) (ht : (dE (xD X) p).1 = 17) (hN : pN g = p + 1) (hN' : pN g' = pN g + 4) (hC : pC g' = pC g + 4) (hZ : pZ g' = pZ g + (pF 8 + 16))
    (h1 : ∀ a, a < p → pK g' a = pK g a ∧ pL g' a = pL g a ∧ ∀ k, pM g' a k = pM g a k)
    (h2 : pK g' p = 7 ∧ pL g' p = pL g p ∧ (∀ k, k < 3 → pM g' p k = .int (r k)) ∧ pM g' p 3 = .ref (p + 1) ∧ ∀ k, 4 ≤ k → pM g' p k = pM g p k)
    (h3 : pK g' (p + 1) = 8 ∧ ∀ k, k < 3 → pM g' (p + 1) k = .ref (p + 2 + k) ∧ pK g' (p + 2 + k) = 12) (h4 : pL g' (p + 2) = 8 ∧ pL g' (p + 3) = 4 ∧ pL g' (p + 4) = 4)
    (h5 : (∀ k, k < 8 → pM g' (p + 2) k = .int (r (3 + k))) ∧ ∀ k, k < 4 → pM g' (p + 3) k = .int (r (11 + k)) ∧ pM g' (p + 4) k = .int (r (15 + k))) : Rep (xSetD X (dSnap (xD X) p r)) g' := by
  have ht' : 10 ≤ (dE (xD X) p).1 ∧ (dE (xD X) p).1 < 100 := by omega
  obtain ⟨gP, hgP⟩ : ∃ gP : PS, gP = pPut (pPut (pPut (pPut g p 0 (pM g' p 0)) p 1 (pM g' p 1)) p 2 (pM g' p 2)) p 3 (pM g' p 3) := ⟨_, rfl⟩
  have hP : Rep X gP := by rw [hgP]; exact (((h.pput ht').pput ht').pput ht').pput ht'
  have nP : pN gP = pN g := by rw [hgP]; rfl
  have cP : pC gP = pC g := by rw [hgP]; rfl
  have zP : pZ gP = pZ g := by rw [hgP]; rfl
  have kP : pK gP = pK g := by rw [hgP]; rfl
  have lP : pL gP = pL g := by rw [hgP]; rfl
  have mP : ∀ a, a ≠ p → ∀ k, pM gP a k = pM g a k := fun a ha k => by
    rw [hgP, pM_put_ne ha, pM_put_ne ha, pM_put_ne ha, pM_put_ne ha]
  have mP2 : ∀ k, pM gP p k = pM g' p k := fun k => by
    rw [hgP]
    simp only [pM_put]
    by_cases e3 : k = 3
    · subst e3; rw [if_pos ⟨trivial, rfl⟩]
    rw [if_neg (fun z => e3 z.2)]
    by_cases e2 : k = 2
    · subst e2; rw [if_pos ⟨trivial, rfl⟩]
    rw [if_neg (fun z => e2 z.2)]
    by_cases e1 : k = 1
    · subst e1; rw [if_pos ⟨trivial, rfl⟩]
    rw [if_neg (fun z => e1 z.2)]
    by_cases e0 : k = 0
    · subst e0; rw [if_pos ⟨trivial, rfl⟩]
    rw [if_neg (fun z => e0 z.2)]
    exact (h2.2.2.2.2 k (by omega)).symm
  have kpp : pK g p = 7 := xKd.new (ci := 7) ht (by decide) g h
  have hx : Rep (xSetD X (dExt (xD X) (fun a => if p < a ∧ a ≤ p + 4 then (9, fun _ => 0) else dE (xD X) a) (dC (xD X) + 4) (dZ (xD X) + (pF 8 + 16)))) g' := by
    refine hP.ext (fun a ha => ?_) (by omega) (by have := h.1.2.1; omega) ⟨by have := h.1.2.2.1; omega, by have := h.1.2.2.2; omega⟩ (fun a ha => if_neg (by omega)) (fun a ha hz => ?_)
    · rw [kP, lP]
      by_cases e : a = p
      · subst e
        exact ⟨h2.1.trans kpp.symm, h2.2.1, fun k => (mP2 k).symm⟩
      · have q := h1 a (by omega)
        exact ⟨q.1, q.2.1, fun k => (q.2.2 k).trans (mP a e k).symm⟩
    · by_cases e : p < a ∧ a ≤ p + 4
      · refine ⟨by omega, ?_⟩
        have eE : dE (dExt (xD X) (fun a => if p < a ∧ a ≤ p + 4 then (9, fun _ => 0) else dE (xD X) a) (dC (xD X) + 4) (dZ (xD X) + (pF 8 + 16))) a = (9, fun _ => 0) := if_pos e
        unfold oOk
        rw [eE]
        exact ⟨fun z => absurd (show (9 : Nat) = 1 from z) (by decide), fun z => absurd (show (9 : Nat) = 2 from z) (by decide), fun z => absurd (show (9 : Nat) = 3 from z) (by decide), fun z => absurd (show 10 ≤ 9 from z) (by decide), fun z => absurd (show 100 ≤ 9 from z) (by decide)⟩
      · rw [if_neg e] at hz
        have := (h.2.2.2.2.2.2.2.2.2.2.2.2.2.2.2 a hz).1
        omega
  have hf := hx.setE (E := fun a => if a = p then (3, r) else if p < a ∧ a ≤ p + 4 then (9, fun _ => 0) else dE (xD X) a) (fun a => ?_)
  · exact hf
  · by_cases e : a = p
    · subst e
      refine Or.inr ⟨?_, by rw [if_pos rfl]; show (3 : Nat) ≠ 0; decide, ?_⟩
      · show 10 ≤ (if a < a ∧ a ≤ a + 4 then ((9 : Nat), (fun _ => 0 : ENT)) else dE (xD X) a).1
        rw [if_neg (by omega)]; omega
      · unfold oOk
        have eE : ∀ D : XD, ∀ c z, dE (dExt D (fun x => if x = a then (3, r) else if a < x ∧ x ≤ a + 4 then (9, fun _ => 0) else dE (xD X) x) c z) a = (3, r) := fun D c z => if_pos rfl
        rw [eE]
        refine ⟨fun z => absurd (show (3 : Nat) = 1 from z) (by decide), fun z => absurd (show (3 : Nat) = 2 from z) (by decide), fun _ => ⟨h2.1, h2.2.2.1, h2.2.2.2.1, h3.1, h3.2, h4.1, h4.2.1, h4.2.2, h5.1, h5.2, fun k k1 k2 => ?_⟩, fun z => absurd (show 10 ≤ 3 from z) (by decide), fun z => absurd (show 100 ≤ 3 from z) (by decide)⟩
        show (if a + k = a then ((3 : Nat), r) else if a < a + k ∧ a + k ≤ a + 4 then (9, fun _ => 0) else dE (xD X) (a + k)).1 = 9
        rw [if_neg (by omega), if_pos (by omega)]
    · exact Or.inl (if_neg e)
