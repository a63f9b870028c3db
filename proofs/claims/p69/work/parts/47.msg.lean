/-! ===== MESSAGES ARE WRITTEN ===== -/
/-- cell q of state o holds message u -/
def dSetH (D : XD) (o q : Nat) (u : MSG) : XD := (D.1, D.2.1, D.2.2.1, D.2.2.2.1, D.2.2.2.2.1, D.2.2.2.2.2.1, fun a b => if a = o ∧ b = q then u else D.2.2.2.2.2.2.1 a b, D.2.2.2.2.2.2.2)
/-- the first n messages under way, by their cells -/
def lMsg (D : XD) (o n : Nat) : List MSG := (List.range n).map (fun j => dH D o (dP D o j))
theorem lMsg_len (D : XD) (o n : Nat) : (lMsg D o n).length = n := by
  unfold lMsg; rw [List.length_map, List.length_range]
theorem lMsg_get (D : XD) (o n j : Nat) (u : MSG) (h : (lMsg D o n)[j]? = some u) : j < n ∧ dH D o (dP D o j) = u := by
  have hj : j < n := by have := (List.getElem?_eq_some_iff.mp h).1; rw [lMsg_len] at this; exact this
  refine ⟨hj, ?_⟩
  unfold lMsg at h
  rw [List.getElem?_map, List.getElem?_range hj] at h
  exact Option.some.inj h
theorem Rep.net {X : XS} {g : PS} (h : Rep X g) {o : Nat} (ho : o < 2) : (xK X o).2.2 = lMsg (xD X) o (xK X o).2.2.length := by
  have h6 := (h.2.2.2.2.2.2.2.2.2.2.2.2.1 o ho).2.2.2.2.2
  refine List.ext_getElem? (fun j => ?_)
  cases hj : (xK X o).2.2[j]? with
  | none =>
    rw [List.getElem?_eq_none]
    rw [lMsg_len]
    exact List.getElem?_eq_none_iff.mp hj
  | some u =>
    have hl := (List.getElem?_eq_some_iff.mp hj).1
    unfold lMsg
    rw [List.getElem?_map, List.getElem?_range hl, ← h6 j u hj]
    rfl
def kMsg (K : KK) (D : XD) (o : Nat) : KK := kNet K (lMsg D o K.2.2.length)
theorem Rep.msg {X : XS} {g : PS} {o q : Nat} {u : MSG} {M : Nat → Nat → Value} (h : Rep X g) (ho : o < 2) (hq : q < 61) (hM : ∀ a k, ¬ ((a = aM o q ∧ 1 ≤ k) ∨ a = aM o q + 1) → M a k = pM g a k) (hu : mAt (xD X) (pSet g M) (aM o q) u) : Rep (xSetK (xSetD X (dSetH (xD X) o q u)) o (kMsg (xK X o) (dSetH (xD X) o q u) o)) (pSet g M) := by
  obtain ⟨a1, a2, a3, a4, a5, a6, a7, a8, a9, a10, a11, a12, a13, a14, a15⟩ := h
  have hA : ∀ o' i, o' < 2 → i < 7 → ∀ k, ¬ (fun x y => (x = aM o q ∧ 1 ≤ y) ∨ x = aM o q + 1) (dA (xD X) o' i) k := (fun o' i ho' hi k z => by
      have hz : 8 + 193 * o ≤ dA (xD X) o' i ∧ dA (xD X) o' i < 130 + 193 * o := by
        rcases z with z | z
        · have z1 := z.1; dsimp only [aM] at z1; omega
        · have z1 : dA (xD X) o' i = aM o q + 1 := z
          dsimp only [aM] at z1; omega
      rcases Nat.lt_or_ge o' 2 with z2 | z2
      · rcases (a8 o' i z2 hi).2.2.2.1 with y | y
        · dsimp only [aS] at y
          rcases (show o = 0 ∨ o = 1 by omega) with rfl | rfl <;> rcases (show o' = 0 ∨ o' = 1 by omega) with rfl | rfl <;> omega
        · rcases (show o = 0 ∨ o = 1 by omega) with rfl | rfl <;> omega
      · rcases (a9 o' i z2 ho' hi).2.2.2.1 with y | y
        · dsimp only [bB] at y
          rcases (show o = 0 ∨ o = 1 by omega) with rfl | rfl <;> omega
        · rcases (show o = 0 ∨ o = 1 by omega) with rfl | rfl <;> omega)
  have hK1 : ∀ o', (xK (xSetK (xSetD X (dSetH (xD X) o q u)) o (kMsg (xK X o) (dSetH (xD X) o q u) o)) o').1 = (xK X o').1 := fun o' => by
    rw [xK_setK]; split
    · rename_i z; rw [z]; rfl
    · rfl
  have hK2 : ∀ o', (xK (xSetK (xSetD X (dSetH (xD X) o q u)) o (kMsg (xK X o) (dSetH (xD X) o q u) o)) o').2.1 = (xK X o').2.1 := fun o' => by
    rw [xK_setK]; split
    · rename_i z; rw [z]; rfl
    · rfl
  have hK3 : ∀ o', (xK (xSetK (xSetD X (dSetH (xD X) o q u)) o (kMsg (xK X o) (dSetH (xD X) o q u) o)) o').2.2.length = (xK X o').2.2.length := fun o' => by
    rw [xK_setK]; split
    · rename_i z; rw [z]; exact lMsg_len _ _ _
    · rfl
  have hK4 : ∀ o', o' ≠ o → xK (xSetK (xSetD X (dSetH (xD X) o q u)) o (kMsg (xK X o) (dSetH (xD X) o q u) o)) o' = xK X o' := fun o' z => by
    rw [xK_setK]; exact if_neg z
  refine ⟨a1, a2, ?_, a4.frm hM (fun a k b hl z => ?_), a5.frm hM (fun k => by dsimp only [aM]; omega), ?_, fun o' ho' => ?_, ?_, ?_, a10, ?_, ?_, ?_, ?_, a15.frm hM (fun a ha k z => (a15.2 a ha).2.1 ?_)⟩
  · have q3 := a3.frm hM (fun o' f i j a k hl z => by
      have y := ((loc_oth hl o q).2.2.1 ho).2.2 hq
      rcases z with z | z
      · exact y.1 z.1
      · exact y.2 z)
    intro o' f i j a k hl
    refine (q3 o' f i j a k hl).trans (congrArg Value.int ?_)
    unfold xN
    rw [hK1]
    rfl
  · rcases hl with ⟨o', ho', hl⟩ | ⟨o', h1, h2, hl⟩ | hl | hl
    · have y := (srfC_oth ho' hl o q ho).2.2.2.2.2 hq
      rcases z with z | z
      · exact y.1 z
      · exact y.2 z
    · have := srfR_rng hl; dsimp only [aM] at z; omega
    · dsimp only [aM] at z; omega
    · dsimp only [aM] at z; omega
  · have q6 := a6.frm hM (fun o' i => ⟨fun ho' z => by dsimp only [aM, aB] at z; rcases (show o = 0 ∨ o = 1 by omega) with rfl | rfl <;> rcases (show o' = 0 ∨ o' = 1 by omega) with rfl | rfl <;> omega, fun ho' hi => ⟨fun z => by dsimp only [aM, aS] at z; rcases (show o = 0 ∨ o = 1 by omega) with rfl | rfl <;> rcases (show o' = 0 ∨ o' = 1 by omega) with rfl | rfl <;> omega, fun z => by dsimp only [aM, aS] at z; rcases (show o = 0 ∨ o = 1 by omega) with rfl | rfl <;> rcases (show o' = 0 ∨ o' = 1 by omega) with rfl | rfl <;> omega⟩, fun h1 h2 => ⟨fun z => by dsimp only [aM, bB] at z; omega, fun hi z => by dsimp only [aM, bB] at z; omega⟩⟩)
    unfold rCt at q6 ⊢
    simp only [hK2, hK3]
    exact q6
  · rw [hK1, hK3]; exact a7 o' ho'
  · have q8 := a8.frm hM (fun o' i ho' hi => ⟨fun z => by dsimp only [aM, aS] at z; rcases (show o = 0 ∨ o = 1 by omega) with rfl | rfl <;> rcases (show o' = 0 ∨ o' = 1 by omega) with rfl | rfl <;> omega, hA o' i (by omega) hi⟩)
    unfold rLc at q8 ⊢
    simp only [hK2]
    exact q8
  · have q9 := a9.frm hM (fun o' i h1 h2 hi => ⟨fun z => by dsimp only [aM, bB] at z; omega, hA o' i h2 hi⟩)
    unfold rLr at q9 ⊢
    simp only [hK2]
    exact q9
  · have q11 := a11.frm hM (fun o' i ho' hi z => by dsimp only [aM, aS] at z; rcases (show o = 0 ∨ o = 1 by omega) with rfl | rfl <;> rcases (show o' = 0 ∨ o' = 1 by omega) with rfl | rfl <;> omega)
    unfold rSn at q11 ⊢
    simp only [hK1]
    exact q11
  · have q12 := a12.frm hM (fun o' i ho' hi z => by dsimp only [aM, aC] at z; rcases (show o = 0 ∨ o = 1 by omega) with rfl | rfl <;> rcases (show o' = 0 ∨ o' = 1 by omega) with rfl | rfl <;> omega)
    unfold rRq at q12 ⊢
    simp only [hK1]
    exact q12
  · intro o' ho'
    obtain ⟨b1, b2, b3, b4, b5, b6⟩ := a13 o' ho'
    refine ⟨(hM _ _ ?_).trans b1, fun j hj => (hM _ _ ?_).trans (b2 j hj), b3, b4, fun q' hq' => ?_, fun j w hw => ?_⟩
    · dsimp only [aM, aB]; rcases (show o = 0 ∨ o = 1 by omega) with rfl | rfl <;> rcases (show o' = 0 ∨ o' = 1 by omega) with rfl | rfl <;> omega
    · dsimp only [aM, aB]; rcases (show o = 0 ∨ o = 1 by omega) with rfl | rfl <;> rcases (show o' = 0 ∨ o' = 1 by omega) with rfl | rfl <;> omega
    · by_cases e : o' = o ∧ q' = q
      · obtain ⟨rfl, rfl⟩ := e
        have eh : dH (xD (xSetK (xSetD X (dSetH (xD X) o' q' u)) o' (kMsg (xK X o') (dSetH (xD X) o' q' u) o'))) o' q' = u := if_pos ⟨rfl, rfl⟩
        rw [eh]
        exact hu
      · have eh : dH (xD (xSetK (xSetD X (dSetH (xD X) o q u)) o (kMsg (xK X o) (dSetH (xD X) o q u) o))) o' q' = dH (xD X) o' q' := if_neg e
        rw [eh]
        have n1 : ∀ k, M (aM o' q') k = pM g (aM o' q') k := fun k => hM _ _ (fun z => e (by
          dsimp only [aM] at z; rcases (show o = 0 ∨ o = 1 by omega) with rfl | rfl <;> rcases (show o' = 0 ∨ o' = 1 by omega) with rfl | rfl
          · exact ⟨rfl, by omega⟩
          · omega
          · omega
          · exact ⟨rfl, by omega⟩))
        have n2 : ∀ k, M (aM o' q' + 1) k = pM g (aM o' q' + 1) k := fun k => hM _ _ (fun z => e (by
          dsimp only [aM] at z; rcases (show o = 0 ∨ o = 1 by omega) with rfl | rfl <;> rcases (show o' = 0 ∨ o' = 1 by omega) with rfl | rfl
          · exact ⟨rfl, by omega⟩
          · omega
          · omega
          · exact ⟨rfl, by omega⟩))
        obtain ⟨c1, c2, c3, c4, c5, c6⟩ := b5 q' hq'
        refine ⟨fun k k1 k2 => (n1 k).trans (c1 k k1 k2), c2, fun y => (n1 10).trans (c3 y), fun r hr => ?_, ⟨c5.1, c5.2.mv n2 (fun _ _ z => z)⟩, fun j e' he' => ?_⟩
        · obtain ⟨p, d1, d2⟩ := c4 r hr
          exact ⟨p, (n1 10).trans d1, d2⟩
        · obtain ⟨p, d1, d2⟩ := c6 j e' he'
          exact ⟨p, (n2 j).trans d1, d2⟩
    · by_cases e : o' = o
      · subst e
        rw [xK_same] at hw
        exact (lMsg_get _ _ _ _ _ hw).2
      · rw [hK4 o' e] at hw
        have eh : dH (xD (xSetK (xSetD X (dSetH (xD X) o q u)) o (kMsg (xK X o) (dSetH (xD X) o q u) o))) o' (dP (xD X) o' j) = dH (xD X) o' (dP (xD X) o' j) := if_neg (fun z => e z.1)
        exact eh.trans (b6 j w hw)
  · intro o' h1 h2
    rw [hK4 o' (by omega)]
    exact a14 o' h1 h2
  · unfold stat
    have z' : a = aM o q ∨ a = aM o q + 1 := by
      rcases z with z | z
      · exact Or.inl z.1
      · exact Or.inr z
    dsimp only [aM] at z'
    rcases (show o = 0 ∨ o = 1 by omega) with rfl | rfl <;> omega
