/-! ===== WHAT THE LAW ASKS, in a state where all is kept ===== -/
section SAYS
variable {m0 : Int32} {A B k s : Nat} {K : KK} {G : GG} {tl cl led : Nat → Nat} {S : Nat → Int32}
/-- a server's numbers -/
theorem kAll.num (h : kAll m0 A B k K G) (hs : s < 7) : ∃ a c : Nat, K.1 18 s 0 = Int32.ofNat a ∧ K.1 15 s 0 = Int32.ofNat c ∧ kA K s = a ∧ kC K s = c ∧ a ≤ c ∧ c ≤ (gF G s).length ∧ (gF G s).length ≤ 12400 ∧ sLast K s = Int32.ofNat (gF G s).length ∧ sLastT K s = Int32.ofNat (ltm (gF G s)) ∧ K.1 5 s 0 = Int32.ofNat (kT K s) ∧ kT K s ≤ 1000000000 ∧
    (∀ x, a ≤ x → x ≤ (gF G s).length → sTix K s (Int32.ofNat x) = tAt (gF G s) x) ∧ (∀ p, a ≤ p → p < (gF G s).length → sEnt K s (Int32.ofNat (p + 1)) = (gF G s)[p]?) := by
  obtain ⟨⟨⟨a, c, a1, a2, a3, a4, a5, a6, a7, a8, a9⟩, aB, aE⟩, b, -⟩ := h.2.1 s hs
  have hB := h.2.2.2.2.2.2
  refine ⟨a, c, a1, a2, kA_of a1 (by omega), kC_of a2 (by omega), a3, a4, by omega, fu_last a1 a5 (by omega), fu_lt a5 (by omega) a6 aE, b.1, by have := b.2.1; omega, fun x h1 h2 => fu_tix a1 a5 a6 (by omega) h1 h2, fun p h1 h2 => ?_⟩
  rw [fu_ent a1 a5 (by omega) (by omega) (by omega), if_pos h1]
theorem kAll.cov (h : kAll m0 A B k K G) (hs : s < 7) : cov G (gF G s) (kT K s) (kC K s) := by
  obtain ⟨⟨⟨a, c, a1, a2, a3, a4, a5, a6, a7, a8, a9⟩, aB, aE⟩, -⟩ := h.2.1 s hs
  have hB := h.2.2.2.2.2.2
  rw [kC_of a2 (by omega)]; exact a8
theorem kAll.lastT (h : kAll m0 A B k K G) (hs : s < 7) : ltm (gF G s) ≤ kT K s := by
  have hF := (h.1.2.1 s hs).2
  unfold ltm
  cases hl : (gF G s).getLast? with
  | none => exact Nat.zero_le _
  | some e => exact hF e (List.mem_of_getLast? hl)
/-- the terms of a log don't fall -/
theorem kAll.tmono (h : kAll m0 A B k K G) (hs : s < 7) {i j : Nat} {e e' : ENT} (hi : (gF G s)[i]? = some e) (hj : (gF G s)[j]? = some e') (hij : i ≤ j) : tm e ≤ tm e' := by
  obtain ⟨v1, v2, v3⟩ := (h.1.2.1 s hs).1 j e' hj
  have hg : (gL G (tm e'))[i]? = some e := by rw [← v3.get (j := i) (by omega)]; exact hi
  exact h.1.1.le v1 hg
theorem kAll.tAt_le (h : kAll m0 A B k K G) (hs : s < 7) {x : Nat} (hx : x + 1 ≤ (gF G s).length) : tAt (gF G s) x ≤ tAt (gF G s) (x + 1) := by
  have aE := (h.2.1 s hs).1.2.2
  obtain ⟨e', e1, e2, e3⟩ := tAt_get (L := gF G s) (x := x) (by omega)
  rw [e3, (aE _ e2).1]
  cases x with
  | zero =>
    show (0 : Int32) ≤ _
    rw [show (0 : Int32) = Int32.ofNat 0 from rfl, i32_le (by omega) (tm_lt _)]
    exact Nat.zero_le _
  | succ n =>
    obtain ⟨e, f1, f2, f3⟩ := tAt_get (L := gF G s) (x := n) (by omega)
    rw [f3, (aE _ f2).1, i32_le (tm_lt _) (tm_lt _)]
    exact h.tmono hs f1 e1 (by omega)
/-- two logs with the same term at an index are the same up to it -/
theorem kAll.same (h : kAll m0 A B k K G) {a b : Nat} (ha : a < 7) (hb : b < 7) {j : Nat} (h1 : j < (gF G a).length) (h2 : j < (gF G b).length) (ht : tAt (gF G a) (j + 1) = tAt (gF G b) (j + 1)) : ag (gF G a) (gF G b) (j + 1) := by
  obtain ⟨e, e1, e2, e3⟩ := tAt_get (L := gF G a) (x := j) h1
  obtain ⟨f, f1, f2, f3⟩ := tAt_get (L := gF G b) (x := j) h2
  have aE := ((h.2.1 a ha).1.2.2 _ e2).1
  have bE := ((h.2.1 b hb).1.2.2 _ f2).1
  rw [e3, f3, aE, bE, i32_eq (tm_lt _) (tm_lt _)] at ht
  have v1 := ((h.1.2.1 a ha).1 j e e1).2.2
  have v2 := ((h.1.2.1 b hb).1 j f f1).2.2
  rw [← ht] at v2
  exact v1.tr v2.sy
/-- what both have committed is the same -/
theorem kAll.comm (h : kAll m0 A B k K G) {a b : Nat} (ha : a < 7) (hb : b < 7) : ag (gF G a) (gF G b) (min (kC K a) (kC K b)) := by
  have ca := (h.cov ha).le (Nat.min_le_left _ (kC K b))
  have cb := (h.cov hb).le (Nat.min_le_right (kC K a) _)
  rcases ca with z | ⟨t1, i1, n1, z1, z2, z3, z4⟩
  · rw [z]; exact ag.z _ _
  · rcases cb with y | ⟨t2, i2, n2, y1, y2, y3, y4⟩
    · rw [y]; exact ag.z _ _
    · have e := h.cEq z1 y1 z3 y3
      exact z4.tr (ag.tr ⟨z4.2.1, y4.2.1, e⟩ y4.sy)
theorem sAgrN_ge {K : KK} {a b : Nat} : ∀ (f x y : Nat), y ≤ x + f → (∀ i, x < i → i ≤ y → sTix K a (Int32.ofNat i) = sTix K b (Int32.ofNat i)) → y ≤ sAgrN K K a b f x
  | 0, x, y, h, _ => by unfold sAgrN; omega
  | f + 1, x, y, h, ht => by
    unfold sAgrN
    by_cases c : y ≤ x
    · have key : ∀ f x, x ≤ sAgrN K K a b f x := fun f => by
        induction f with
        | zero => exact fun x => Nat.le_refl _
        | succ f ih => intro x; unfold sAgrN; split; exact Nat.le_trans (Nat.le_succ x) (ih (x + 1)); exact Nat.le_refl _
      split
      · exact Nat.le_trans c (Nat.le_trans (Nat.le_succ x) (key f (x + 1)))
      · exact c
    · rw [if_pos (ht (x + 1) (by omega) (by omega))]
      exact sAgrN_ge f (x + 1) y (by omega) (fun i h1 h2 => ht i (by omega) h2)
theorem sAgrN_le {K : KK} {a b : Nat} : ∀ (f x : Nat), sAgrN K K a b f x ≤ x + f
  | 0, x => Nat.le_refl _
  | f + 1, x => by
    unfold sAgrN
    split
    · have := sAgrN_le (K := K) (a := a) (b := b) f (x + 1); omega
    · omega
end SAYS
