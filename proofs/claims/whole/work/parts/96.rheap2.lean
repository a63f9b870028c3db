/-! ===== THE REFERENCE'S CELLS: counts, new rows, copies ===== -/
section RHQ
variable {X : XS} {g : PS} {o : Nat}
/-- a log's size is written -/
theorem Rep.sizeR {i : Nat} {l' : List ENT} (h : Rep X g) (h2 : 2 ≤ o) (h4 : o < 4) (hi : i < 7) (hR : 7 * l'.length ≤ dR (xD X) o i) (hl : ∀ j e, l'[j]? = some e → ∀ k, k < 7 → dV (xD X) o 42 i (7 * j + k) = e k) :
    Rep (xSetK X o (kLog (xK X o) i l')) (pPut g (bB o + 31) i (.int (Int32.ofNat l'.length))) := by
  have hA := fun o' i' (ho' : o' < 4) (hi' : i' < 7) => h.2.2.2.2.2.2.2.2.2.1 o' i' ho' hi'
  obtain ⟨a1, a2, a3, a4, a5, a6, a7, a8, a9, a10, a11, a12, a13, a14, a15⟩ := h
  have hM := hMp g (bB o + 31) i (.int (Int32.ofNat l'.length))
  have e2 : ∀ o' i', (xK (xSetK X o (kLog (xK X o) i l')) o').2.1 i' = if o' = o ∧ i' = i then l' else (xK X o').2.1 i' := fun o' i' => by
    rw [xK_setK]
    by_cases e : o' = o
    · subst e
      rw [if_pos rfl, kLog_l]
      by_cases e2 : i' = i
      · rw [if_pos e2, if_pos ⟨rfl, e2⟩]
      · rw [if_neg e2, if_neg (fun z => e2 z.2)]
    · rw [if_neg e, if_neg (fun z => e z.1)]
  have e1 : ∀ o', (xK (xSetK X o (kLog (xK X o) i l')) o').1 = (xK X o').1 := fun o' => by
    rw [xK_setK]; split
    · rename_i z; rw [z]; rfl
    · rfl
  have e3 : ∀ o', (xK (xSetK X o (kLog (xK X o) i l')) o').2.2 = (xK X o').2.2 := fun o' => by
    rw [xK_setK]; split
    · rename_i z; rw [z]; rfl
    · rfl
  have hst : stat (bB o + 31) := by unfold stat; dsimp only [bB]; omega
  have nl : ∀ o' i' k', o' < 4 → i' < 7 → ¬ (fun x y => x = bB o + 31 ∧ y = i) (dA (xD X) o' i') k' := fun o' i' k' ho' hi' z => by
    have hz : dA (xD X) o' i' = bB o + 31 := z.1
    rcases Nat.lt_or_ge o' 2 with z2 | z2
    · rcases (a8 o' i' z2 hi').2.2.2.1 with y | y
      · rw [y] at hz; dsimp only [aS, bB] at hz; omega
      · rw [hz] at y; dsimp only [bB] at y; omega
    · rcases (a9 o' i' z2 ho' hi').2.2.2.1 with y | y
      · rw [y] at hz; dsimp only [bB] at hz; omega
      · rw [hz] at y; dsimp only [bB] at y; omega
  refine ⟨a1, a2, fun o' f i' j a k hl' => ?_, a4.frm hM (fun a k b hs z => ?_), a5.frm hM (fun k => ⟨fun z => ?_, fun z => ?_, fun z => ?_⟩), ⟨fun o' ho => ?_, fun o' h1 h3 => ?_⟩, fun o' ho => ?_, fun o' i' ho hi' => ?_, fun o' i' h1 h3 hi' => ?_, a10.frm, fun o' i' ho hi' => ?_, fun o' c ho hc => ?_, fun o' ho => ?_, fun o' h1 h3 => ?_, a15.frm hM (fun a ha k z => ?_)⟩
  · refine (hM a k (fun z => ?_)).trans ((a3 o' f i' j a k hl').trans (congrArg Value.int ?_))
    · have := (loc_oth hl' o 0).2.2.2 h2 h4
      exact this.2.1 z.1
    · unfold xN; rw [e1]; rfl
  · rcases hs with ⟨o', ho, hs⟩ | ⟨o', h1, h3, hs⟩ | hs | hs
    · have := srfC_rng hs; have := z.1; dsimp only [bB] at this; omega
    · have h9 := z.1
      exact ((srfR_oth hs o i).2 (by have := srfR_rng hs; dsimp only [bB] at this h9; omega)).1 h9
    · have := z.1; dsimp only [bB] at this; omega
    · have := z.1; dsimp only [bB] at this; omega
  · have := z.1; dsimp only [bB] at this; omega
  · have := z.1; dsimp only [bB] at this; omega
  · have := z.1; dsimp only [bB] at this; omega
  · obtain ⟨b1, b2⟩ := a6.1 o' ho
    refine ⟨(hM _ _ (fun z => by have := z.1; dsimp only [aB, bB] at this; omega)).trans (by rw [e3]; exact b1), fun i' hi' => ⟨?_, ?_⟩⟩
    · rw [e2, if_neg (by omega)]
      exact (hM _ _ (fun z => by have := z.1; dsimp only [aS, bB] at this; omega)).trans (b2 i' hi').1
    · exact (hM _ _ (fun z => by have := z.1; dsimp only [aS, bB] at this; omega)).trans (b2 i' hi').2
  · obtain ⟨b1, b2⟩ := a6.2 o' h1 h3
    refine ⟨(hM _ _ (fun z => by have := z.1; dsimp only [bB] at this; omega)).trans (by rw [e3]; exact b1), fun i' hi' => ?_⟩
    rw [e2]
    by_cases e : o' = o ∧ i' = i
    · obtain ⟨z1, z2⟩ := e
      subst z1; subst z2
      rw [if_pos ⟨rfl, rfl⟩]
      exact if_pos ⟨rfl, rfl⟩
    · rw [if_neg e]
      exact (hM _ _ (fun z => e ⟨by have := z.1; dsimp only [bB] at this; omega, z.2⟩)).trans (b2 i' hi')
  · have := a7 o' ho
    rw [e1, e3]
    exact this
  · have hne : ¬ (o' = o ∧ i' = i) := by omega
    obtain ⟨c1, c2, c3, c4, c5, c6, c7, c8, c9⟩ := a8 o' i' ho hi'
    rw [e2, if_neg hne]
    exact ⟨(hM _ _ (fun z => by have := z.1; dsimp only [aS, bB] at this; omega)).trans c1, c2, c3, c4, c5, c6, c7, fun j hj hj2 => (hM _ _ (nl o' i' j (by omega) hi')).trans (c8 j hj hj2), c9⟩
  · obtain ⟨c1, c2, c3, c4, c5, c6, c7⟩ := a9 o' i' h1 h3 hi'
    have d1 : pM (pPut g (bB o + 31) i (.int (Int32.ofNat l'.length))) (bB o' + 32) i' = pM g (bB o' + 32) i' := hM _ _ (fun z => by have := z.1; dsimp only [bB] at this; omega)
    rw [e2]
    by_cases e : o' = o ∧ i' = i
    · obtain ⟨z1, z2⟩ := e
      subst z1; subst z2
      rw [if_pos ⟨rfl, rfl⟩]
      exact ⟨d1.trans c1, c2, c3, c4, hR, fun k hk => (hM _ _ (nl o' i' k h3 hi')).trans (c6 k hk), hl⟩
    · rw [if_neg e]
      exact ⟨d1.trans c1, c2, c3, c4, c5, fun k hk => (hM _ _ (nl o' i' k h3 hi')).trans (c6 k hk), c7⟩
  · obtain ⟨p, q1, q2⟩ := a11 o' i' ho hi'
    rw [e1]
    exact ⟨p, (hM _ _ (fun z => by have := z.1; dsimp only [aS, bB] at this; omega)).trans q1, q2⟩
  · have q := a12 o' c ho hc
    rw [e1]
    have e9 : pM (pPut g (bB o + 31) i (.int (Int32.ofNat l'.length))) (aC o' c) 0 = pM g (aC o' c) 0 := hM _ _ (fun z => by have := z.1; dsimp only [aC, bB] at this; omega)
    rw [e9]
    exact q
  · have := a13.frm a7 hM (fun o' q ho' => ⟨fun z => by have := z.1; dsimp only [aB, bB] at this; omega, fun _ z => by have := z.1; dsimp only [aB, bB] at this; omega, fun hq k => ⟨fun z => by have := z.1; dsimp only [aM, bB] at this; omega, fun z => by have := z.1; dsimp only [aM, bB] at this; omega⟩⟩) o' ho
    rw [← e3 o'] at this
    exact this
  · have := a14 o' h1 h3
    rw [← e3 o'] at this
    exact this
  · have := (a15.2 a ha).2.1
    rw [z.1] at this
    exact this hst
/-- the number of messages is written -/
theorem Rep.manyR {l' : List MSG} (h : Rep X g) (h2 : 2 ≤ o) (h4 : o < 4) (hn : l'.length ≤ 60) (hl : ∀ j u, l'[j]? = some u → ∀ k, k < 36 → dV (xD X) o 41 0 (36 * j + k) = mRow u k) :
    Rep (xSetK X o (kNet (xK X o) l')) (pPut g (bB o) 22 (.int (Int32.ofNat l'.length))) := by
  obtain ⟨a1, a2, a3, a4, a5, a6, a7, a8, a9, a10, a11, a12, a13, a14, a15⟩ := h
  have hM := hMp g (bB o) 22 (.int (Int32.ofNat l'.length))
  have e2 : ∀ o', (xK (xSetK X o (kNet (xK X o) l')) o').2.1 = (xK X o').2.1 := fun o' => by
    rw [xK_setK]; split
    · rename_i z; rw [z]; rfl
    · rfl
  have e1 : ∀ o', (xK (xSetK X o (kNet (xK X o) l')) o').1 = (xK X o').1 := fun o' => by
    rw [xK_setK]; split
    · rename_i z; rw [z]; rfl
    · rfl
  have e3 : ∀ o', (xK (xSetK X o (kNet (xK X o) l')) o').2.2 = if o' = o then l' else (xK X o').2.2 := fun o' => by
    rw [xK_setK]; split
    · rfl
    · rfl
  have hst : stat (bB o) := by unfold stat; dsimp only [bB]; omega
  have nl : ∀ o' i' k', o' < 4 → i' < 7 → ¬ (fun x y => x = bB o ∧ y = 22) (dA (xD X) o' i') k' := fun o' i' k' ho' hi' z => by
    have hz : dA (xD X) o' i' = bB o := z.1
    rcases Nat.lt_or_ge o' 2 with z2 | z2
    · rcases (a8 o' i' z2 hi').2.2.2.1 with y | y
      · rw [y] at hz; dsimp only [aS, bB] at hz; omega
      · rw [hz] at y; dsimp only [bB] at y; omega
    · rcases (a9 o' i' z2 ho' hi').2.2.2.1 with y | y
      · rw [y] at hz; dsimp only [bB] at hz; omega
      · rw [hz] at y; dsimp only [bB] at y; omega
  refine ⟨a1, a2, fun o' f i' j a k hl' => ?_, a4.frm hM (fun a k b hs z => ?_), a5.frm hM (fun k => ⟨fun z => ?_, fun z => ?_, fun z => ?_⟩), ⟨fun o' ho => ?_, fun o' h1 h3 => ?_⟩, fun o' ho => ?_, fun o' i' ho hi' => ?_, fun o' i' h1 h3 hi' => ?_, a10.frm, fun o' i' ho hi' => ?_, fun o' c ho hc => ?_, fun o' ho => ?_, fun o' h1 h3 => ?_, a15.frm hM (fun a ha k z => ?_)⟩
  · refine (hM a k (fun z => ?_)).trans ((a3 o' f i' j a k hl').trans (congrArg Value.int ?_))
    · have := (loc_oth hl' o 0).2.2.2 h2 h4
      exact this.1 ⟨z.1, z.2⟩
    · unfold xN; rw [e1]; rfl
  · rcases hs with ⟨o', ho, hs⟩ | ⟨o', h1, h3, hs⟩ | hs | hs
    · have := srfC_rng hs; have := z.1; dsimp only [bB] at this; omega
    · have h9 := z.1
      have h8 := z.2
      exact (srfR_oth hs o 0).1 ⟨h9, Or.inl h8, by have := srfR_rng hs; dsimp only [bB] at this h9; omega⟩
    · have := z.1; dsimp only [bB] at this; omega
    · have := z.1; dsimp only [bB] at this; omega
  · have := z.1; dsimp only [bB] at this; omega
  · have := z.1; dsimp only [bB] at this; omega
  · have := z.1; dsimp only [bB] at this; omega
  · obtain ⟨b1, b2⟩ := a6.1 o' ho
    refine ⟨(hM _ _ (fun z => by have := z.1; dsimp only [aB, bB] at this; omega)).trans (by rw [e3, if_neg (by omega)]; exact b1), fun i' hi' => ⟨?_, ?_⟩⟩
    · rw [e2]
      exact (hM _ _ (fun z => by have := z.1; dsimp only [aS, bB] at this; omega)).trans (b2 i' hi').1
    · exact (hM _ _ (fun z => by have := z.1; dsimp only [aS, bB] at this; omega)).trans (b2 i' hi').2
  · obtain ⟨b1, b2⟩ := a6.2 o' h1 h3
    refine ⟨?_, fun i' hi' => (hM _ _ (fun z => by have := z.1; dsimp only [bB] at this; omega)).trans (by rw [e2]; exact b2 i' hi')⟩
    rw [e3]
    by_cases e : o' = o
    · subst e
      rw [if_pos rfl]
      exact if_pos ⟨rfl, rfl⟩
    · rw [if_neg e]
      exact (hM _ _ (fun z => e (by have := z.1; dsimp only [bB] at this; omega))).trans b1
  · have := a7 o' ho
    rw [e1, e3]
    refine ⟨?_, this.2⟩
    split
    · exact hn
    · exact this.1
  · obtain ⟨c1, c2, c3, c4, c5, c6, c7, c8, c9⟩ := a8 o' i' ho hi'
    rw [e2]
    exact ⟨(hM _ _ (fun z => by have := z.1; dsimp only [aS, bB] at this; omega)).trans c1, c2, c3, c4, c5, c6, c7, fun j hj hj2 => (hM _ _ (nl o' i' j (by omega) hi')).trans (c8 j hj hj2), c9⟩
  · obtain ⟨c1, c2, c3, c4, c5, c6, c7⟩ := a9 o' i' h1 h3 hi'
    rw [e2]
    exact ⟨(hM _ _ (fun z => by have := z.1; dsimp only [bB] at this; omega)).trans c1, c2, c3, c4, c5, fun k hk => (hM _ _ (nl o' i' k h3 hi')).trans (c6 k hk), c7⟩
  · obtain ⟨p, q1, q2⟩ := a11 o' i' ho hi'
    rw [e1]
    exact ⟨p, (hM _ _ (fun z => by have := z.1; dsimp only [aS, bB] at this; omega)).trans q1, q2⟩
  · have q := a12 o' c ho hc
    rw [e1]
    have e9 : pM (pPut g (bB o) 22 (.int (Int32.ofNat l'.length))) (aC o' c) 0 = pM g (aC o' c) 0 := hM _ _ (fun z => by have := z.1; dsimp only [aC, bB] at this; omega)
    rw [e9]
    exact q
  · have := a13.frm a7 hM (fun o' q ho' => ⟨fun z => by have := z.1; dsimp only [aB, bB] at this; omega, fun _ z => by have := z.1; dsimp only [aB, bB] at this; omega, fun hq k => ⟨fun z => by have := z.1; dsimp only [aM, bB] at this; omega, fun z => by have := z.1; dsimp only [aM, bB] at this; omega⟩⟩) o' ho
    rw [show (xK X o').2.2 = (xK (xSetK X o (kNet (xK X o) l')) o').2.2 from by rw [e3, if_neg (by omega)]] at this
    exact this
  · rw [e3]
    split
    · rename_i z; subst z; exact hl
    · exact a14 o' h1 h3
  · have := (a15.2 a ha).2.1
    rw [z.1] at this
    exact this hst
/-- a row of ints that was made -/
def dFr (D : XD) (p n : Nat) (e : ENT) : XD := dExt D (fun a => if a = p then (100 + n, e) else dE D a) (dC D) (dZ D)
def dNewI (D : XD) (n : Nat) : XD := dExt D (fun a => if a = dC D + 1 then (100 + n, fun _ => 0) else dE D a) (dC D + 1) (dZ D + n)
theorem Rep.newI {n : Nat} (h : Rep X g) : Rep (xSetD X (dNewI (xD X) n)) (pNew g 12 n n zI) := by
  have hN : pN g = dC (xD X) + 1 := h.1.2.2.2
  refine Rep.ext h (fun a ha => ⟨if_neg (by omega), if_neg (by omega), fun k => if_neg (by omega)⟩) (Nat.le_succ _) (by show pC g + 1 ≤ dC (xD X) + 1; have := h.1.2.1; omega) ⟨by show pZ g + n ≤ dZ (xD X) + n; have := h.1.2.2.1; omega, by show pN g + 1 = _; rw [hN]⟩ (fun a ha => ?_) (fun a ha hz => ?_)
  · show (if a = dC (xD X) + 1 then _ else _) = _
    rw [if_neg (by omega)]
  · have e : a = pN g := by
      by_cases e : a = dC (xD X) + 1
      · omega
      · exfalso
        have hz2 : ((if a = dC (xD X) + 1 then ((100 + n, fun _ => 0) : Nat × ENT) else dE (xD X) a)).1 ≠ 0 := hz
        rw [if_neg e] at hz2
        have := (h.2.2.2.2.2.2.2.2.2.2.2.2.2.2.2 a hz2).1
        omega
    subst e
    have eE : dE (dExt (xD X) (fun a => if a = dC (xD X) + 1 then (100 + n, fun _ => 0) else dE (xD X) a) (dC (xD X) + 1) (dZ (xD X) + n)) (pN g) = (100 + n, fun _ => 0) := if_pos hN
    refine ⟨by show pN g < pN g + 1; omega, ?_⟩
    unfold oOk
    rw [eE]
    refine ⟨fun z => ?_, fun z => ?_, fun z => ?_, fun _ z => ?_, fun _ => ⟨if_pos rfl, ?_, fun k _ => if_pos rfl⟩⟩
    · have : 100 + n = 1 := z; omega
    · have : 100 + n = 2 := z; omega
    · have : 100 + n = 3 := z; omega
    · have : 100 + n < 100 := z; omega
    · show (if pN g = pN g then n else _) = 100 + n - 100
      rw [if_pos rfl]; omega
end RHQ
