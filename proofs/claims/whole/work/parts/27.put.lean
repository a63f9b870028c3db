/-! ===== WRITES BESIDE THE NUMBERS ===== -/
theorem apS {o o' i i' c c' : Nat} (ho : o < 2) (ho' : o' < 2) (hi : i < 7) (hi' : i' < 7) (hc : c < 8) (hc' : c' < 8) (h : 135 + 193 * o + 8 * i + c = 135 + 193 * o' + 8 * i' + c') : o = o' ∧ i = i' ∧ c = c' := by
  rcases (show o = 0 ∨ o = 1 by omega) with rfl | rfl <;> rcases (show o' = 0 ∨ o' = 1 by omega) with rfl | rfl <;> omega
theorem srfC_oth {o' a k b : Nat} (ho : o' < 2) (h : srfC o' a k b) : ∀ o i, o < 2 → (i < 7 → ¬ (a = aS o i ∧ (k = 0 ∨ 4 ≤ k))) ∧ (i < 4 → ¬ (a = aC o i)) ∧ ¬ (a = aB o + 3 ∧ 2 ≤ k) ∧ a ≠ aB o + 4 ∧ a ≠ aB o + 5 ∧ (i < 61 → ¬ (a = aM o i ∧ 1 ≤ k) ∧ a ≠ aM o i + 1) := by
  intro o i ho1
  have z1 := srfC_rng h
  dsimp only [aS, aC, aB, aM]
  refine ⟨fun y1 z => ?_, fun y1 z => ?_, fun z => ?_, fun z => ?_, fun z => ?_, fun y1 => ⟨fun z => ?_, fun z => ?_⟩⟩
  all_goals
    have e : o' = o := by omega
    subst e
    clear z1
    rcases h with h | h | h | h | ⟨q, h⟩ | ⟨q, hq, h | h | h | h⟩ <;> dsimp only [aB, aS, aC, aM] at h <;> omega
theorem srfR_oth {o' a k b : Nat} (h : srfR o' a k b) : ∀ o i, ¬ (a = bB o ∧ (k = 22 ∨ k < 2) ∧ o = o') ∧ (o = o' → a ≠ bB o + 31 ∧ a ≠ bB o + 32 ∧ (i < 7 → a ≠ bB o + 33 + i)) := by
  intro o i
  dsimp only [bB, srfR] at *
  refine ⟨fun z => ?_, fun e => ⟨fun z => ?_, fun z => ?_, fun y z => ?_⟩⟩ <;> rcases h with h | h | h | h | h | h | h | h | h | h <;> omega
theorem srf_lo {a k b : Nat} (h : srf a k b) : a < 511 ∧ a ≠ 0 ∧ ¬ (a = 388 ∧ 2 ≤ k) := by
  rcases h with ⟨o, ho, h⟩ | ⟨o, h1, h2, h⟩ | h | h
  · have := srfC_rng h; omega
  · have := srfR_rng h
    rcases (show o = 2 ∨ o = 3 by omega) with rfl | rfl
    · omega
    · unfold srfR at h; dsimp only [bB] at h; omega
  · omega
  · omega
section PUT
variable {X : XS} {g : PS} {o s : Nat}
theorem hMp (g : PS) (a k : Nat) (v : Value) : ∀ x y, ¬ (fun x y => x = a ∧ y = k) x y → pU (pM g) a k v x y = pM g x y := fun x y h => if_neg h
/-- a server's snapshot is another one -/
theorem Rep.snap {p : Nat} {r : ENT} (h : Rep X g) (ho : o < 2) (hs : s < 7) (hp : dSn (xD X) p r) : Rep (xSetK X o (kRow (xK X o) 18 s r)) (pPut g (aS o s) 9 (.ref p)) := by
  obtain ⟨v, hv⟩ : ∃ v : Value, v = .ref p := ⟨_, rfl⟩
  rw [← hv]
  obtain ⟨a1, a2, a3, a4, a5, a6, a7, a8, a9, a10, a11, a12, a13, a14, a15⟩ := h
  have hA : ∀ o' i, o' < 4 → i < 7 → ∀ k, ¬ (fun x y => x = aS o s ∧ y = 9) (dA (xD X) o' i) k := (fun o' i ho' hi k z => by
      have hz : dA (xD X) o' i = aS o s := z.1
      dsimp only [aS] at hz
      rcases Nat.lt_or_ge o' 2 with z2 | z2
      · rcases (a8 o' i z2 hi).2.2.2.1 with y | y <;> try dsimp only [aS] at y
        · have := apS (c := 7) (c' := 0) z2 ho hi hs (by omega) (by omega) (by omega); omega
        · omega
      · rcases (a9 o' i z2 ho' hi).2.2.2.1 with y | y <;> (try dsimp only [bB] at y) <;> omega)
  have e2 : ∀ o', (xK (xSetK X o (kRow (xK X o) 18 s r)) o').2 = (xK X o').2 := fun o' => by
    rw [xK_setK]; split
    · rename_i z; rw [z]; rfl
    · rfl
  have e1 : ∀ o' f i j, f ≠ 18 → (xK (xSetK X o (kRow (xK X o) 18 s r)) o').1 f i j = (xK X o').1 f i j := fun o' f i j hf => by
    rw [xK_setK]; split
    · rename_i z; rw [z]; exact if_neg (fun z => hf z.1)
    · rfl
  have h18 : ∀ o' f i j a k, loc o' f i j a k → o' < 2 → f ≠ 18 := fun o' f i j a k hl ho' => by
    rcases hl with ⟨-, hl⟩ | ⟨h1, h2, -⟩
    · unfold locC at hl; omega
    · omega
  refine ⟨a1, a2, fun o' f i j a k hl => ?_, a4.frm (hMp g (aS o s) 9 v) (fun a k b hl z => by
      rcases hl with ⟨o', ho', hl⟩ | ⟨o', h1, h2, hl⟩ | hl | hl
      · exact ((srfC_oth ho' hl o s ho).1 hs) ⟨z.1, by omega⟩
      · have := srfR_rng hl; dsimp only [aS] at z; omega
      · dsimp only [aS] at z; omega
      · dsimp only [aS] at z; omega), a5.frm (hMp g (aS o s) 9 v) (fun k => by dsimp only [aS]; omega), ?_, fun o' ho' => ⟨by rw [e2]; exact (a7 o' ho').1, fun i hi => by rw [e1 _ _ _ _ (by decide)]; exact (a7 o' ho').2.1 i hi, fun c hc => by rw [e1 _ _ _ _ (by decide)]; exact (a7 o' ho').2.2 c hc⟩, ?_, ?_, a10.frm, fun o' i ho' hi => ?_, fun o' c ho' hc => ?_, ?_, ?_, a15.frm (hMp g (aS o s) 9 v) (fun a ha k z => (a15.2 a ha).2.1 (by
      rw [show a = aS o s from z.1]
      unfold stat
      dsimp only [aS]
      rcases (show o = 0 ∨ o = 1 by omega) with rfl | rfl <;> omega))⟩
  · have q := a3.frm (hMp g (aS o s) 9 v) (fun o' f i j a k hl z => ((loc_oth hl o s).1 ho hs).1 ⟨z.1, by omega⟩)
    refine (q o' f i j a k hl).trans (congrArg Value.int ?_)
    unfold xN
    split
    · rfl
    · rw [xK_setK]
      split
      · rename_i z1 z2
        subst z2
        exact (if_neg (fun z => h18 o' f i j a k hl ho z.1)).symm
      · rfl
  · have q := a6.frm (hMp g (aS o s) 9 v) (fun o' i => ⟨fun ho' z => by dsimp only [aS, aB] at z; omega, fun ho' hi => ⟨fun z => by dsimp only [aS] at z; omega, fun z => by dsimp only [aS] at z; omega⟩, fun h1 h2 => ⟨fun z => by dsimp only [aS, bB] at z; omega, fun hi z => by dsimp only [aS, bB] at z; omega⟩⟩)
    unfold rCt at q ⊢
    simp only [e2]
    exact q
  · have q := a8.frm (hMp g (aS o s) 9 v) (fun o' i ho' hi => ⟨fun z => by dsimp only [aS] at z; omega, hA o' i (by omega) hi⟩)
    unfold rLc at q ⊢
    simp only [e2]
    exact q
  · have q := a9.frm (hMp g (aS o s) 9 v) (fun o' i h1 h2 hi => ⟨fun z => by dsimp only [aS, bB] at z; omega, hA o' i h2 hi⟩)
    unfold rLr at q ⊢
    simp only [e2]
    exact q
  · by_cases e : o' = o ∧ i = s
    · obtain ⟨rfl, rfl⟩ := e
      refine ⟨p, ?_, ?_⟩
      · rw [hv]; exact if_pos ⟨rfl, rfl⟩
      · obtain ⟨r', h1, h2⟩ := hp
        refine ⟨r', h1, fun k hk => (h2 k hk).trans ?_⟩
        rw [xK_setK, if_pos rfl]
        exact (if_pos ⟨rfl, rfl⟩).symm
    · obtain ⟨q, h1, r', h2, h3⟩ := a11 o' i ho' hi
      refine ⟨q, ?_, r', h2, fun k hk => (h3 k hk).trans ?_⟩
      · refine (hMp g (aS o s) 9 v _ _ (fun z => e ?_)).trans h1
        have z1 : aS o' i = aS o s := z.1
        dsimp only [aS] at z1
        have := apS (c := 0) (c' := 0) ho' ho hi hs (by omega) (by omega) (by omega)
        exact ⟨this.1, this.2.1⟩
      · rw [xK_setK]
        split
        · rename_i z
          subst z
          exact (if_neg (fun z => e ⟨rfl, z.2⟩)).symm
        · rfl
  · have q := a12.frm (hMp g (aS o s) 9 v) (fun o' c' ho' hc z => by dsimp only [aS, aC] at z; omega)
    rw [e1 _ _ _ _ (by decide)]
    refine ⟨(q o' c ho' hc).1, fun z => ?_⟩
    obtain ⟨p', h1, r', h2, h3⟩ := (q o' c ho' hc).2 z
    exact ⟨p', h1, r', h2, fun k k1 k2 => (h3 k k1 k2).trans (e1 _ _ _ _ (by decide)).symm⟩
  · have q := a13.frm a7 (hMp g (aS o s) 9 v) (fun o' q ho' => ⟨fun z => by dsimp only [aS, aB] at z; omega, fun _ z => by dsimp only [aS, aB] at z; omega, fun hq k => ⟨fun z => by dsimp only [aS, aM] at z; omega, fun z => by dsimp only [aS, aM] at z; omega⟩⟩)
    unfold rNt at q ⊢
    simp only [e2]
    exact q
  · unfold rPo at a14 ⊢
    simp only [e2]
    exact a14
end PUT
