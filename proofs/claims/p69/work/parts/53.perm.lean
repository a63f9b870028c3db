/-! ===== THE ROW OF MESSAGES IN ANOTHER ORDER ===== -/
def dSetP (D : XD) (o : Nat) (P : Nat → Nat) : XD := (D.1, D.2.1, D.2.2.1, D.2.2.2.1, D.2.2.2.2.1, fun a j => if a = o then P j else D.2.2.2.2.2.1 a j, D.2.2.2.2.2.2)
theorem Rep.perm {X : XS} {g : PS} {o n : Nat} {P : Nat → Nat} {M : Nat → Nat → Value} (h : Rep X g) (ho : o < 2) (hn : n ≤ 60) (hP : ∀ j, j < 61 → P j < 61) (hPi : ∀ j j', j < 61 → j' < 61 → P j = P j' → j = j') (hM : ∀ a k, ¬ ((a = aB o + 3 ∧ (k = 2 ∨ k = 3)) ∨ a = aB o + 4) → M a k = pM g a k)
    (m2 : M (aB o + 3) 2 = .ref (aM o (P 60))) (m3 : M (aB o + 3) 3 = .int (Int32.ofNat n)) (m4 : ∀ j, j < 60 → M (aB o + 4) j = .ref (aM o (P j))) : Rep (xSetK (xSetD X (dSetP (xD X) o P)) o (kNet (xK X o) (lMsg (dSetP (xD X) o P) o n))) (pSet g M) := by
  obtain ⟨a1, a2, a3, a4, a5, a6, a7, a8, a9, a10, a11, a12, a13, a14, a15⟩ := h
  have h2 : o = 0 ∨ o = 1 := by omega
  have hA : ∀ o' i, o' < 2 → i < 7 → ∀ k, ¬ (fun x y => (x = aB o + 3 ∧ (y = 2 ∨ y = 3)) ∨ x = aB o + 4) (dA (xD X) o' i) k := (fun o' i ho' hi k z => by
      have hz : dA (xD X) o' i = 2 + 193 * o + 3 ∨ dA (xD X) o' i = 2 + 193 * o + 4 := by
        rcases z with z | z
        · exact Or.inl z.1
        · exact Or.inr z
      rcases Nat.lt_or_ge o' 2 with z2 | z2
      · rcases (a8 o' i z2 hi).2.2.2.1 with y | y
        · dsimp only [aS] at y
          rcases h2 with rfl | rfl <;> rcases (show o' = 0 ∨ o' = 1 by omega) with rfl | rfl <;> omega
        · rcases h2 with rfl | rfl <;> omega
      · rcases (a9 o' i z2 ho' hi).2.2.2.1 with y | y
        · dsimp only [bB] at y
          rcases h2 with rfl | rfl <;> omega
        · rcases h2 with rfl | rfl <;> omega)
  have hK1 : ∀ o', (xK (xSetK (xSetD X (dSetP (xD X) o P)) o (kNet (xK X o) (lMsg (dSetP (xD X) o P) o n))) o').1 = (xK X o').1 := fun o' => by
    rw [xK_setK]; split
    · rename_i z; rw [z]; rfl
    · rfl
  have hK2 : ∀ o', (xK (xSetK (xSetD X (dSetP (xD X) o P)) o (kNet (xK X o) (lMsg (dSetP (xD X) o P) o n))) o').2.1 = (xK X o').2.1 := fun o' => by
    rw [xK_setK]; split
    · rename_i z; rw [z]; rfl
    · rfl
  have hK4 : ∀ o', o' ≠ o → xK (xSetK (xSetD X (dSetP (xD X) o P)) o (kNet (xK X o) (lMsg (dSetP (xD X) o P) o n))) o' = xK X o' := fun o' z => by
    rw [xK_setK]; exact if_neg z
  refine ⟨a1, a2, ?_, a4.frm hM (fun a k b hl z => ?_), a5.frm hM (fun k => by dsimp only [aB]; omega), ⟨fun o' ho' => ⟨?_, fun i hi => ?_⟩, fun o' h1 h2' => ?_⟩, fun o' ho' => ?_, ?_, ?_, a10, ?_, ?_, ?_, ?_, a15.frm hM (fun a ha k z => (a15.2 a ha).2.1 ?_)⟩
  · have q3 := a3.frm hM (fun o' f i j a k hl z => by
      have y := (loc_oth hl o 0).2.2.1 ho
      rcases z with z | z
      · exact y.1 z
      · exact y.2.1 z)
    intro o' f i j a k hl
    refine (q3 o' f i j a k hl).trans (congrArg Value.int ?_)
    unfold xN
    rw [hK1]
    rfl
  · rcases hl with ⟨o', ho', hl⟩ | ⟨o', h1, h3, hl⟩ | hl | hl
    · rcases z with z | z
      · exact (srfC_oth ho' hl o 0 ho).2.2.1 ⟨z.1, by omega⟩
      · exact (srfC_oth ho' hl o 0 ho).2.2.2.1 z
    · have := srfR_rng hl; dsimp only [aB] at z; omega
    · dsimp only [aB] at z; omega
    · dsimp only [aB] at z; omega
  · by_cases e : o' = o
    · subst e
      have e3 : (xK (xSetK (xSetD X (dSetP (xD X) o' P)) o' (kNet (xK X o') (lMsg (dSetP (xD X) o' P) o' n))) o').2.2.length = n := by rw [xK_same]; exact lMsg_len _ _ _
      rw [e3]
      exact m3
    · rw [hK4 o' e]
      exact (hM _ _ (fun z => e (by dsimp only [aB] at z; omega))).trans (a6.1 o' ho').1
  · rw [hK2]
    refine ⟨(hM _ _ (fun z => by dsimp only [aB, aS] at z; rcases h2 with rfl | rfl <;> rcases (show o' = 0 ∨ o' = 1 by omega) with rfl | rfl <;> omega)).trans ((a6.1 o' ho').2 i hi).1, (hM _ _ (fun z => by dsimp only [aB, aS] at z; rcases h2 with rfl | rfl <;> rcases (show o' = 0 ∨ o' = 1 by omega) with rfl | rfl <;> omega)).trans ((a6.1 o' ho').2 i hi).2⟩
  · rw [hK4 o' (by omega)]
    refine ⟨(hM _ _ (fun z => by dsimp only [aB, bB] at z; omega)).trans (a6.2 o' h1 h2').1, fun i hi => (hM _ _ (fun z => by dsimp only [aB, bB] at z; omega)).trans ((a6.2 o' h1 h2').2 i hi)⟩
  · rw [hK1]
    refine ⟨?_, (a7 o' ho').2⟩
    by_cases e : o' = o
    · subst e
      rw [xK_same]
      show (lMsg _ o' n).length ≤ 60
      rw [lMsg_len]; exact hn
    · rw [hK4 o' e]; exact (a7 o' ho').1
  · have q8 := a8.frm hM (fun o' i ho' hi => ⟨fun z => by dsimp only [aB, aS] at z; rcases h2 with rfl | rfl <;> rcases (show o' = 0 ∨ o' = 1 by omega) with rfl | rfl <;> omega, hA o' i (by omega) hi⟩)
    unfold rLc at q8 ⊢
    simp only [hK2]
    exact q8
  · have q9 := a9.frm hM (fun o' i h1 h2 hi => ⟨fun z => by dsimp only [aB, bB] at z; omega, hA o' i h2 hi⟩)
    unfold rLr at q9 ⊢
    simp only [hK2]
    exact q9
  · have q11 := a11.frm hM (fun o' i ho' hi z => by dsimp only [aB, aS] at z; rcases h2 with rfl | rfl <;> rcases (show o' = 0 ∨ o' = 1 by omega) with rfl | rfl <;> omega)
    unfold rSn at q11 ⊢
    simp only [hK1]
    exact q11
  · have q12 := a12.frm hM (fun o' i ho' hi z => by dsimp only [aB, aC] at z; rcases h2 with rfl | rfl <;> rcases (show o' = 0 ∨ o' = 1 by omega) with rfl | rfl <;> omega)
    unfold rRq at q12 ⊢
    simp only [hK1]
    exact q12
  · intro o' ho'
    obtain ⟨b1, b2, b3, b4, b5, b6⟩ := a13 o' ho'
    have nm : ∀ q, q < 61 → ∀ k, M (aM o' q) k = pM g (aM o' q) k ∧ M (aM o' q + 1) k = pM g (aM o' q + 1) k := fun q hq k =>
      ⟨hM _ _ (fun z => by dsimp only [aB, aM] at z; rcases h2 with rfl | rfl <;> rcases (show o' = 0 ∨ o' = 1 by omega) with rfl | rfl <;> omega), hM _ _ (fun z => by dsimp only [aB, aM] at z; rcases h2 with rfl | rfl <;> rcases (show o' = 0 ∨ o' = 1 by omega) with rfl | rfl <;> omega)⟩
    have b5' : ∀ q, q < 61 → mAt (xD X) (pSet g M) (aM o' q) (dH (xD X) o' q) := fun q hq => by
      obtain ⟨c1, c2, c3, c4, c5, c6⟩ := b5 q hq
      refine ⟨fun k k1 k2 => (nm q hq k).1.trans (c1 k k1 k2), c2, fun y => (nm q hq 10).1.trans (c3 y), fun r hr => ?_, ⟨c5.1, c5.2.mv (fun j => (nm q hq j).2) (fun _ _ z => z)⟩, fun j e' he' => ?_⟩
      · obtain ⟨p, d1, d2⟩ := c4 r hr
        exact ⟨p, (nm q hq 10).1.trans d1, d2⟩
      · obtain ⟨p, d1, d2⟩ := c6 j e' he'
        exact ⟨p, (nm q hq j).2.trans d1, d2⟩
    by_cases e : o' = o
    · subst e
      have eP : ∀ j, dP (xD (xSetK (xSetD X (dSetP (xD X) o' P)) o' (kNet (xK X o') (lMsg (dSetP (xD X) o' P) o' n)))) o' j = P j := fun j => if_pos rfl
      refine ⟨by rw [eP]; exact m2, fun j hj => by rw [eP]; exact m4 j hj, fun j hj => by rw [eP]; exact hP j hj, fun j j' hj hj' z => by rw [eP, eP] at z; exact hPi j j' hj hj' z, b5', fun j w hw => ?_⟩
      rw [xK_same] at hw
      exact (lMsg_get _ _ _ _ _ hw).2
    · have eP : ∀ j, dP (xD (xSetK (xSetD X (dSetP (xD X) o P)) o (kNet (xK X o) (lMsg (dSetP (xD X) o P) o n)))) o' j = dP (xD X) o' j := fun j => if_neg e
      refine ⟨?_, fun j hj => ?_, fun j hj => by rw [eP]; exact b3 j hj, fun j j' hj hj' z => by rw [eP, eP] at z; exact b4 j j' hj hj' z, b5', fun j w hw => ?_⟩
      · rw [eP]
        exact (hM _ _ (fun z => e (by dsimp only [aB] at z; omega))).trans b1
      · rw [eP]
        exact (hM _ _ (fun z => e (by dsimp only [aB] at z; omega))).trans (b2 j hj)
      · rw [hK4 o' e] at hw
        rw [eP]
        exact b6 j w hw
  · intro o' h1 h3
    rw [hK4 o' (by omega)]
    exact a14 o' h1 h3
  · unfold stat
    have z' : a = 2 + 193 * o + 3 ∨ a = 2 + 193 * o + 4 := by
      rcases z with z | z
      · exact Or.inl z.1
      · exact Or.inr z
    rcases h2 with rfl | rfl <;> omega
