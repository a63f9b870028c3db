/-! ===== A WIDER ROW FOR A LOG ===== -/
/-- the log of server s of state o lies in cell p, of n places, now; it cost n slots -/
def dWide (D : XD) (o s p n : Nat) : XD := (D.1, fun a b => if a = o ∧ b = s then p else D.2.1 a b, fun a b => if a = o ∧ b = s then n else D.2.2.1 a b, fun a b c => if a = o ∧ b = s ∧ D.2.2.1 o s ≤ c then 0 else D.2.2.2.1 a b c, D.2.2.2.2.1, D.2.2.2.2.2.1, D.2.2.2.2.2.2.1, dC D + 1, dZ D + n)
theorem Rep.wide {X : XS} {g : PS} {o s n : Nat} {Wd : Nat → Value} (h : Rep X g) (ho : o < 2) (hs : s < 7) (hn : n = 2 * dR (xD X) o s) (hn2 : dR (xD X) o s < 1048576) (hR : ∃ a, dR (xD X) o s = a ∧ 2 * a ≤ 1048576)
    (hw : ∀ j, j < dR (xD X) o s → Wd j = pM g (dA (xD X) o s) j) : Rep (xSetD X (dWide (xD X) o s (pN g) n)) (pPut (pNew g 16 n n Wd) (aS o s) 7 (.ref (pN g))) := by
  obtain ⟨v, hv⟩ : ∃ v : Value, v = .ref (pN g) := ⟨_, rfl⟩
  have hN := h.1.1
  have h1 : Rep (xSetD X (dExt (xD X) (dE (xD X)) (dC (xD X) + 1) (dZ (xD X) + n))) (pNew g 16 n n Wd) := by
    refine h.ext (fun a ha => ⟨?_, ?_, fun k => ?_⟩) (Nat.le_succ _) (by show pC g + 1 ≤ _; have := h.1.2.1; omega) (by have h2 := h.1.2.2; exact ⟨Nat.add_le_add_right h2.1 n, congrArg (· + 1) h2.2⟩) (fun _ _ => rfl) (fun a ha hz => absurd (h.2.2.2.2.2.2.2.2.2.2.2.2.2.2.2 a hz).1 (by omega))
    · rw [pK_new, if_neg (by omega)]
    · rw [pL_new, if_neg (by omega)]
    · rw [pM_new, if_neg (by omega)]
  have hf := h1.fS (v := v) (c := 7) ho hs (by omega)
  rw [← hv]
  have c0 := h.2.2.2.2.2.2.2.1 o s ho hs
  have l0 := h.2.2.2.2.2.2.2.2.2.1
  obtain ⟨b1, b2, b3, b4, -, b6, b7, b8, b9, b10⟩ := hf
  obtain ⟨a1, a2, a3, a4, a5, a6, a7, a8, a9, a10, a11, a12, a13, a14, a15⟩ := h1
  have e0 : (dE (xD X) (pN g)).1 = 0 := by
    rcases Nat.eq_zero_or_pos (dE (xD X) (pN g)).1 with z | z
    · exact z
    · have := (h.2.2.2.2.2.2.2.2.2.2.2.2.2.2.2 (pN g) (by omega)).1
      omega
  refine ⟨a1, a2, b1, b2, b3, b4 (by omega), a7, fun o' i ho' hi => ?_, fun o' i h1 h2 hi => ?_, fun o' i ho' hi => ?_, b7 (by omega), b8, b9, a14, b10⟩
  · by_cases e : o' = o ∧ i = s
    · obtain ⟨rfl, rfl⟩ := e
      obtain ⟨x1, x2, x3, x4, x5, x6, x7, x8, x9⟩ := c0
      have dA' : dA (xD (xSetD X (dWide (xD X) o' i (pN g) n))) o' i = pN g := if_pos ⟨rfl, rfl⟩
      have dR' : dR (xD (xSetD X (dWide (xD X) o' i (pN g) n))) o' i = n := if_pos ⟨rfl, rfl⟩
      rw [dA', dR']
      refine ⟨by rw [hv]; exact if_pos ⟨rfl, rfl⟩, if_pos rfl, if_pos rfl, Or.inr hN, by show ((xK X o').2.1 i).length ≤ n; omega, by omega, by omega, fun j hj hj2 => ?_, fun j e he => ?_⟩
      · have hq : dQ (xD (xSetD X (dWide (xD X) o' i (pN g) n))) o' i j = if dR (xD X) o' i ≤ j then 0 else dQ (xD X) o' i j := by
          show (if o' = o' ∧ i = i ∧ dR (xD X) o' i ≤ j then 0 else dQ (xD X) o' i j) = _
          simp only [true_and]
        rw [hq] at hj ⊢
        by_cases hlt : dR (xD X) o' i ≤ j
        · rw [if_pos hlt] at hj; exact absurd rfl hj
        · rw [if_neg hlt] at hj ⊢
          refine (hMp (pNew g 16 n n Wd) (aS o' i) 7 v _ _ (fun z => ?_)).trans ?_
          · have e1 : pN g = aS o' i := z.1
            dsimp only [aS] at e1; omega
          · rw [pM_new, if_pos rfl, hw j (by omega)]
            exact x8 j hj (by omega)
      · have h9 := x9 j e he
        have hjl : j < ((xK X o').2.1 i).length := (List.getElem?_eq_some_iff.mp he).1
        have hq : dQ (xD (xSetD X (dWide (xD X) o' i (pN g) n))) o' i j = dQ (xD X) o' i j := if_neg (fun z => by have := z.2.2; have : dR (xD X) o' i ≤ j := this; omega)
        rw [hq]
        exact h9
    · have dA' : dA (xD (xSetD X (dWide (xD X) o s (pN g) n))) o' i = dA (xD X) o' i := if_neg e
      have dR' : dR (xD (xSetD X (dWide (xD X) o s (pN g) n))) o' i = dR (xD X) o' i := if_neg e
      have dQ' : ∀ j, dQ (xD (xSetD X (dWide (xD X) o s (pN g) n))) o' i j = dQ (xD X) o' i j := fun j => if_neg (fun z => e ⟨z.1, z.2.1⟩)
      obtain ⟨x1, x2, x3, x4, x5, x6, x7, x8, x9⟩ := a8 o' i ho' hi
      rw [dA', dR']
      refine ⟨(hMp (pNew g 16 n n Wd) (aS o s) 7 v _ _ (fun z => e ?_)).trans x1, x2, x3, x4, x5, x6, x7, fun j hj hj2 => ?_, fun j e he => by rw [dQ']; exact x9 j e he⟩
      · have z1 : aS o' i = aS o s := z.1
        dsimp only [aS] at z1
        have := apS (c := 0) (c' := 0) ho' ho hi hs (by omega) (by omega) (by omega)
        exact ⟨this.1, this.2.1⟩
      · rw [dQ'] at hj ⊢
        refine (hMp (pNew g 16 n n Wd) (aS o s) 7 v _ _ (fun z => ?_)).trans (x8 j hj hj2)
        have z1 : dA (xD X) o' i = aS o s := z.1
        rcases x4 with y | y
        · have y' : dA (xD X) o' i = aS o' i + 7 := y
          dsimp only [aS] at y' z1
          have := apS (c := 7) (c' := 0) ho' ho hi hs (by omega) (by omega) (by omega)
          omega
        · have y' : 388 ≤ dA (xD X) o' i := y
          dsimp only [aS] at z1; omega
  · have e : ¬ (o' = o ∧ i = s) := by omega
    have dA' : dA (xD (xSetD X (dWide (xD X) o s (pN g) n))) o' i = dA (xD X) o' i := if_neg e
    have dR' : dR (xD (xSetD X (dWide (xD X) o s (pN g) n))) o' i = dR (xD X) o' i := if_neg e
    rw [dA', dR']
    exact b6 o' i h1 h2 hi
  · by_cases e : o' = o ∧ i = s
    · obtain ⟨rfl, rfl⟩ := e
      have dA' : dA (xD (xSetD X (dWide (xD X) o' i (pN g) n))) o' i = pN g := if_pos ⟨rfl, rfl⟩
      rw [dA']
      refine ⟨by show pN g < pN g + 1; omega, e0, fun o2 i2 h3 h4 h5 => ?_⟩
      by_cases e2 : o2 = o' ∧ i2 = i
      · exact ⟨e2.1.symm, e2.2.symm⟩
      · have d2 : dA (xD (xSetD X (dWide (xD X) o' i (pN g) n))) o2 i2 = dA (xD X) o2 i2 := if_neg e2
        rw [d2] at h5
        have := (l0 o2 i2 h3 h4).1
        omega
    · have dA' : dA (xD (xSetD X (dWide (xD X) o s (pN g) n))) o' i = dA (xD X) o' i := if_neg e
      rw [dA']
      have q1 := l0 o' i ho' hi
      refine ⟨by show dA (xD X) o' i < pN g + 1; have := q1.1; omega, q1.2.1, fun o2 i2 h3 h4 h5 => ?_⟩
      by_cases e2 : o2 = o ∧ i2 = s
      · obtain ⟨rfl, rfl⟩ := e2
        have d2 : dA (xD (xSetD X (dWide (xD X) o2 i2 (pN g) n))) o2 i2 = pN g := if_pos ⟨rfl, rfl⟩
        rw [d2] at h5
        have := q1.1
        omega
      · have d2 : dA (xD (xSetD X (dWide (xD X) o s (pN g) n))) o2 i2 = dA (xD X) o2 i2 := if_neg e2
        rw [d2] at h5
        exact q1.2.2 o2 i2 h3 h4 h5
