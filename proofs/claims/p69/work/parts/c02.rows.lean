/-! ===== THE LAW'S OWN ROWS beside what the heap says ===== -/
theorem Rep.put13 {X : XS} {g : PS} {p k : Nat} {v : Value} (h : Rep X g) (hp8 : 388 ≤ p) (hk : pK g p = 13) : Rep X (pPut g p k v) := by
  obtain ⟨a1, a2, a3, a4, a5, a6, a7, a8, a9, a10, a11, a12, a13, a14, a15⟩ := h
  have b2 : ¬ stat p := fun z => by unfold stat at z; omega
  have hA : ∀ o i, o < 2 → i < 7 → ∀ k', ¬ (fun x y => x = p ∧ y = k) (dA (xD X) o i) k' := fun o i ho hi k' z => by
    have h16 := (a8 o i ho hi).2.1
    rw [show dA (xD X) o i = p from z.1, hk] at h16
    omega
  have hp0 : p ≠ 0 := by omega
  have hM := hMp g p k v
  refine ⟨a1, a2, a3.frm hM (fun o f i j a k' hl z => b2 (by rw [← show a = p from z.1]; exact (loc_stat hl).1)), a4.frm hM (fun a k' b hl z => ?_), a5.frm hM (fun k' => ⟨fun z => by have := z.1; omega, fun z => by have := z.1; omega, fun z => hp0 z.1.symm⟩), a6.frm hM (fun o i => ⟨fun ho z => ?_, fun ho hi => ⟨fun z => ?_, fun z => ?_⟩, fun h1 h2 => ⟨fun z => ?_, fun hi z => ?_⟩⟩), a7,
    a8.frm hM (fun o i ho hi => ⟨fun z => ?_, hA o i (by omega) hi⟩), a9.frm hM (fun o i h1 h2 hi => ⟨fun z => ?_, hA o i h2 hi⟩), a10.frm, a11.frm hM (fun o i ho hi z => ?_), a12.frm hM (fun o c ho hc z => ?_), a13.frm a7 hM (fun o q ho => ⟨fun z => ?_, fun hq z => ?_, fun hq k' => ⟨fun z => ?_, fun z => ?_⟩⟩), a14, ⟨a15.1, fun q hq => ⟨(a15.2 q hq).1, (a15.2 q hq).2.1, ?_⟩⟩⟩
  · have e : a = p := z.1
    rcases hl with ⟨o, ho, hl⟩ | ⟨o, h1, h2, hl⟩ | hl | hl
    · rcases hl with h | h | h | h | ⟨q, h⟩ | ⟨q, hq, h | h | h | h⟩ <;> dsimp only [aB, aS, aC, aM] at h <;> rcases (show o = 0 ∨ o = 1 by omega) with rfl | rfl <;> omega
    · have := srfR_rng hl; omega
    · omega
    · omega
  · have e : aB o + 3 = p := z.1
    dsimp only [aB] at e; rcases (show o = 0 ∨ o = 1 by omega) with rfl | rfl <;> omega
  · have e : aS o i = p := z.1
    dsimp only [aS] at e; rcases (show o = 0 ∨ o = 1 by omega) with rfl | rfl <;> omega
  · have e : aS o i = p := z.1
    dsimp only [aS] at e; rcases (show o = 0 ∨ o = 1 by omega) with rfl | rfl <;> omega
  · have e : bB o = p := z.1
    dsimp only [bB] at e; omega
  · have e : bB o + 31 = p := z.1
    dsimp only [bB] at e; omega
  · have e : aS o i = p := z.1
    dsimp only [aS] at e; rcases (show o = 0 ∨ o = 1 by omega) with rfl | rfl <;> omega
  · have e : bB o + 32 = p := z.1
    dsimp only [bB] at e; omega
  · have e : aS o i = p := z.1
    dsimp only [aS] at e; rcases (show o = 0 ∨ o = 1 by omega) with rfl | rfl <;> omega
  · have e : aC o c = p := z.1
    dsimp only [aC] at e; rcases (show o = 0 ∨ o = 1 by omega) with rfl | rfl <;> omega
  · have e : aB o + 3 = p := z.1
    dsimp only [aB] at e; rcases (show o = 0 ∨ o = 1 by omega) with rfl | rfl <;> omega
  · have e : aB o + 4 = p := z.1
    dsimp only [aB] at e; rcases (show o = 0 ∨ o = 1 by omega) with rfl | rfl <;> omega
  · have e : aM o q = p := z.1
    dsimp only [aM] at e; rcases (show o = 0 ∨ o = 1 by omega) with rfl | rfl <;> omega
  · have e : aM o q + 1 = p := z.1
    dsimp only [aM] at e; rcases (show o = 0 ∨ o = 1 by omega) with rfl | rfl <;> omega
  · obtain ⟨c1, c2, c3, c4, c5⟩ := (a15.2 q hq).2.2
    have ek : pK (pPut g p k v) = pK g := rfl
    have el : pL (pPut g p k v) = pL g := rfl
    have em : ∀ a, pK g a ≠ 13 → ∀ y, pM (pPut g p k v) a y = pM g a y := fun a ha y => pM_put_ne (fun z => ha (by rw [z]; exact hk)) y
    refine ⟨fun z => ?_, fun z => ?_, fun z => ?_, fun z1 z2 => c4 z1 z2, fun z => ?_⟩
    · have c := c1 z
      simp only [em q (by rw [c.1]; omega), ek]
      exact c
    · have c := c2 z
      simp only [em q (by rw [c.1]; omega), ek]
      exact c
    · have c := c3 z
      have e0 := em q (by rw [c.1]; omega)
      have e1 := em (q + 1) (by rw [c.2.2.2.1]; omega)
      have e2 : ∀ x, x < 3 → ∀ y, pM (pPut g p k v) (q + 2 + x) y = pM g (q + 2 + x) y := fun x hx => em (q + 2 + x) (by rw [(c.2.2.2.2.1 x hx).2]; omega)
      have e3 := e2 1 (by omega)
      have e4 := e2 2 (by omega)
      have e5 := e2 0 (by omega)
      obtain ⟨a1, a2, a3, a4, a5, a6, a7, a8, a9, a10, a11⟩ := c
      exact ⟨a1, fun x hx => (e0 x).trans (a2 x hx), (e0 3).trans a3, a4, fun x hx => ⟨(e1 x).trans (a5 x hx).1, (a5 x hx).2⟩, a6, a7, a8, fun x hx => (e5 x).trans (a9 x hx), fun x hx => ⟨(e3 x).trans (a10 x hx).1, (e4 x).trans (a10 x hx).2⟩, a11⟩
    · have c := c5 z
      simp only [em q (by rw [c.1]; omega), ek, el]
      exact c
/-- a row of the law's is made -/
def dLaw (D : XD) (n : Nat) : XD := dExt D (dE D) (dC D + 1) (dZ D + n)
theorem Rep.new13 {X : XS} {g : PS} {n : Nat} {row : Nat → Value} (h : Rep X g) : Rep (xSetD X (dLaw (xD X) n)) (pNew g 13 n n row) := by
  refine Rep.ext h (fun a ha => ⟨by rw [pK_new, if_neg (by omega)], by rw [pL_new, if_neg (by omega)], fun k => by rw [pM_new, if_neg (by omega)]⟩) (Nat.le_succ _) ?_ ⟨?_, ?_⟩ (fun _ _ => rfl) (fun a ha hE => ?_)
  · rw [pC_new]; have := h.1.2.1; omega
  · rw [pZ_new]; have := h.1.2.2.1; omega
  · rw [pN_new]; have := h.1.2.2.2; omega
  · exact absurd (h.2.2.2.2.2.2.2.2.2.2.2.2.2.2.2 a hE).1 (by omega)
/-- the row at p of n numbers f -/
def r13 (p n : Nat) (f : Nat → Int32) (g : PS) : Prop := 388 ≤ p ∧ p < pN g ∧ pK g p = 13 ∧ pL g p = n ∧ ∀ j, pM g p j = .int (f j)
theorem r13.mv {p n : Nat} {f : Nat → Int32} {g g' : PS} (h : r13 p n f g) (k : k13 g g') : r13 p n f g' := by
  obtain ⟨h0, h1, h2, h3, h4⟩ := h
  obtain ⟨k1, k2, k3⟩ := k.2 p h1 h2
  exact ⟨h0, Nat.lt_of_lt_of_le h1 k.1, k1, k2.trans h3, fun j => (k3 j).trans (h4 j)⟩
def fUp (f : Nat → Int32) (k : Nat) (v : Int32) : Nat → Int32 := fun j => if j = k then v else f j
theorem r13.up {p n k : Nat} {f : Nat → Int32} {g : PS} {v : Int32} (h : r13 p n f g) : r13 p n (fUp f k v) (pPut g p k (.int v)) := by
  obtain ⟨h0, h1, h2, h3, h4⟩ := h
  refine ⟨h0, h1, h2, h3, fun j => ?_⟩
  rw [pM_put]
  unfold fUp
  by_cases e : j = k
  · rw [if_pos ⟨rfl, e⟩, if_pos e]
  · rw [if_neg (fun z => e z.2), if_neg e]; exact h4 j
theorem r13.ot {p p' n k : Nat} {f : Nat → Int32} {g : PS} {v : Value} (h : r13 p n f g) (hne : p ≠ p') : r13 p n f (pPut g p' k v) := by
  obtain ⟨h0, h1, h2, h3, h4⟩ := h
  exact ⟨h0, h1, h2, h3, fun j => (pM_put_ne hne j).trans (h4 j)⟩
