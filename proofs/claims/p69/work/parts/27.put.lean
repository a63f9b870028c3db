/-! ===== WRITES BESIDE THE NUMBERS ===== -/
theorem apS {o o' i i' c c' : Nat} (ho : o < 2) (ho' : o' < 2) (hi : i < 7) (hi' : i' < 7) (hc : c < 8) (hc' : c' < 8) (h : 135 + 193 * o + 8 * i + c = 135 + 193 * o' + 8 * i' + c') : o = o' ∧ i = i' ∧ c = c' := by
  rcases (show o = 0 ∨ o = 1 by omega) with rfl | rfl <;> rcases (show o' = 0 ∨ o' = 1 by omega) with rfl | rfl <;> omega
theorem srfC_oth {o' a k b : Nat} (ho : o' < 2) (h : srfC o' a k b) : ∀ o i, o < 2 → (i < 7 → ¬ (a = aS o i ∧ (k = 0 ∨ 4 ≤ k))) ∧ (i < 4 → ¬ (a = aC o i)) ∧ ¬ (a = aB o + 3 ∧ 2 ≤ k) ∧ a ≠ aB o + 4 ∧ a ≠ aB o + 5 ∧ (i < 61 → ¬ (a = aM o i ∧ 1 ≤ k) ∧ a ≠ aM o i + 1) := by
  intro o i ho1
  have z1 := srfC_rng h
  dsimp only [aS, aC, aB, aM]
  refine ⟨fun y1 z => ?_, fun y1 z => ?_, fun z => ?_, fun z => ?_, fun z => ?_, fun y1 => ⟨fun z => ?_, fun z => ?_⟩⟩
  all_goals
    have e : o' = o := by omega
    subst e
    clear z1
    rcases h with h | h | h | h | ⟨q, h⟩ | ⟨q, hq, h | h | h | h⟩ <;> dsimp only [aB, aS, aC, aM] at h <;> omega
theorem srfR_oth {o' a k b : Nat} (h : srfR o' a k b) : ∀ o i, ¬ (a = bB o ∧ (k = 22 ∨ k < 2) ∧ o = o') ∧ (o = o' → a ≠ bB o + 31 ∧ a ≠ bB o + 32 ∧ (i < 7 → a ≠ bB o + 33 + i)) := by
  intro o i
  dsimp only [bB, srfR] at *
  refine ⟨fun z => ?_, fun e => ⟨fun z => ?_, fun z => ?_, fun y z => ?_⟩⟩ <;> rcases h with h | h | h | h | h | h | h | h | h | h <;> omega
theorem srf_lo {a k b : Nat} (h : srf a k b) : a < 388 ∧ a ≠ 0 ∧ ¬ (a = 1 ∧ 2 ≤ k) := by
  rcases h with ⟨o, ho, h⟩ | ⟨o, h1, h2, h⟩ | h | h
  · have := srfC_rng h; omega
  · have := srfR_rng h
    rcases (show o = 2 ∨ o = 3 by omega) with rfl | rfl
    · omega
    · unfold srfR at h; dsimp only [bB] at h; omega
  · omega
  · omega
/-- the cell of an entry of a log's row is another one -/
def dSetQ (D : XD) (o i j p : Nat) : XD := (D.1, D.2.1, D.2.2.1, fun a b c => if a = o ∧ b = i ∧ c = j then p else D.2.2.2.1 a b c, D.2.2.2.2)
section PUT
variable {X : XS} {g : PS} {o s : Nat}
theorem hMp (g : PS) (a k : Nat) (v : Value) : ∀ x y, ¬ (fun x y => x = a ∧ y = k) x y → pU (pM g) a k v x y = pM g x y := fun x y h => if_neg h
/-- a server's snapshot is another one -/
theorem Rep.snap {p : Nat} {r : ENT} (h : Rep X g) (ho : o < 2) (hs : s < 7) (hp : dSn (xD X) p r) : Rep (xSetK X o (kRow (xK X o) 18 s r)) (pPut g (aS o s) 9 (.ref p)) := by
  obtain ⟨v, hv⟩ : ∃ v : Value, v = .ref p := ⟨_, rfl⟩
  rw [← hv]
  obtain ⟨a1, a2, a3, a4, a5, a6, a7, a8, a9, a10, a11, a12, a13, a14, a15⟩ := h
  have hA : ∀ o' i, o' < 2 → i < 7 → ∀ k, ¬ (fun x y => x = aS o s ∧ y = 9) (dA (xD X) o' i) k := (fun o' i ho' hi k z => by
      have hz : dA (xD X) o' i = aS o s := z.1
      dsimp only [aS] at hz
      rcases Nat.lt_or_ge o' 2 with z2 | z2
      · rcases (a8 o' i z2 hi).2.2.2.1 with y | y <;> try dsimp only [aS] at y
        · have := apS (c := 7) (c' := 0) z2 ho hi hs (by omega) (by omega) (by omega); omega
        · omega
      · rcases (a9 o' i z2 ho' hi).2.2.2.1 with y | y <;> (try dsimp only [bB] at y) <;> omega)
  have e2 : ∀ o', (xK (xSetK X o (kRow (xK X o) 18 s r)) o').2 = (xK X o').2 := fun o' => by
    rw [xK_setK]; split
    · rename_i z; rw [z]; rfl
    · rfl
  have e1 : ∀ o' f i j, f ≠ 18 → (xK (xSetK X o (kRow (xK X o) 18 s r)) o').1 f i j = (xK X o').1 f i j := fun o' f i j hf => by
    rw [xK_setK]; split
    · rename_i z; rw [z]; exact if_neg (fun z => hf z.1)
    · rfl
  have h18 : ∀ o' f i j a k, loc o' f i j a k → o' < 2 → f ≠ 18 := fun o' f i j a k hl ho' => by
    rcases hl with ⟨-, hl⟩ | ⟨h1, h2, -⟩
    · unfold locC at hl; omega
    · omega
  refine ⟨a1, a2, fun o' f i j a k hl => ?_, a4.frm (hMp g (aS o s) 9 v) (fun a k b hl z => by
      rcases hl with ⟨o', ho', hl⟩ | ⟨o', h1, h2, hl⟩ | hl | hl
      · exact ((srfC_oth ho' hl o s ho).1 hs) ⟨z.1, by omega⟩
      · have := srfR_rng hl; dsimp only [aS] at z; omega
      · dsimp only [aS] at z; omega
      · dsimp only [aS] at z; omega), a5.frm (hMp g (aS o s) 9 v) (fun k => by dsimp only [aS]; omega), ?_, fun o' ho' => ⟨by rw [e2]; exact (a7 o' ho').1, fun i hi => by rw [e1 _ _ _ _ (by decide)]; exact (a7 o' ho').2.1 i hi, fun c hc => by rw [e1 _ _ _ _ (by decide)]; exact (a7 o' ho').2.2 c hc⟩, ?_, ?_, a10.frm, fun o' i ho' hi => ?_, fun o' c ho' hc => ?_, ?_, ?_, a15.frm (hMp g (aS o s) 9 v) (fun a ha k z => (a15.2 a ha).2.1 (by
      rw [show a = aS o s from z.1]
      unfold stat
      dsimp only [aS]
      rcases (show o = 0 ∨ o = 1 by omega) with rfl | rfl <;> omega))⟩
  · have q := a3.frm (hMp g (aS o s) 9 v) (fun o' f i j a k hl z => ((loc_oth hl o s).1 ho hs).1 ⟨z.1, by omega⟩)
    refine (q o' f i j a k hl).trans (congrArg Value.int ?_)
    unfold xN
    split
    · rfl
    · rw [xK_setK]
      split
      · rename_i z1 z2
        subst z2
        exact (if_neg (fun z => h18 o' f i j a k hl ho z.1)).symm
      · rfl
  · have q := a6.frm (hMp g (aS o s) 9 v) (fun o' i => ⟨fun ho' z => by dsimp only [aS, aB] at z; omega, fun ho' hi => ⟨fun z => by dsimp only [aS] at z; omega, fun z => by dsimp only [aS] at z; omega⟩, fun h1 h2 => ⟨fun z => by dsimp only [aS, bB] at z; omega, fun hi z => by dsimp only [aS, bB] at z; omega⟩⟩)
    unfold rCt at q ⊢
    simp only [e2]
    exact q
  · have q := a8.frm (hMp g (aS o s) 9 v) (fun o' i ho' hi => ⟨fun z => by dsimp only [aS] at z; omega, hA o' i (by omega) hi⟩)
    unfold rLc at q ⊢
    simp only [e2]
    exact q
  · have q := a9.frm (hMp g (aS o s) 9 v) (fun o' i h1 h2 hi => ⟨fun z => by dsimp only [aS, bB] at z; omega, hA o' i h2 hi⟩)
    unfold rLr at q ⊢
    simp only [e2]
    exact q
  · by_cases e : o' = o ∧ i = s
    · obtain ⟨rfl, rfl⟩ := e
      refine ⟨p, ?_, ?_⟩
      · rw [hv]; exact if_pos ⟨rfl, rfl⟩
      · obtain ⟨r', h1, h2⟩ := hp
        refine ⟨r', h1, fun k hk => (h2 k hk).trans ?_⟩
        rw [xK_setK, if_pos rfl]
        exact (if_pos ⟨rfl, rfl⟩).symm
    · obtain ⟨q, h1, r', h2, h3⟩ := a11 o' i ho' hi
      refine ⟨q, ?_, r', h2, fun k hk => (h3 k hk).trans ?_⟩
      · refine (hMp g (aS o s) 9 v _ _ (fun z => e ?_)).trans h1
        have z1 : aS o' i = aS o s := z.1
        dsimp only [aS] at z1
        have := apS (c := 0) (c' := 0) ho' ho hi hs (by omega) (by omega) (by omega)
        exact ⟨this.1, this.2.1⟩
      · rw [xK_setK]
        split
        · rename_i z
          subst z
          exact (if_neg (fun z => e ⟨rfl, z.2⟩)).symm
        · rfl
  · have q := a12.frm (hMp g (aS o s) 9 v) (fun o' c' ho' hc z => by dsimp only [aS, aC] at z; omega)
    rw [e1 _ _ _ _ (by decide)]
    refine ⟨(q o' c ho' hc).1, fun z => ?_⟩
    obtain ⟨p', h1, r', h2, h3⟩ := (q o' c ho' hc).2 z
    exact ⟨p', h1, r', h2, fun k k1 k2 => (h3 k k1 k2).trans (e1 _ _ _ _ (by decide)).symm⟩
  · have q := a13.frm a7 (hMp g (aS o s) 9 v) (fun o' q ho' => ⟨fun z => by dsimp only [aS, aB] at z; omega, fun _ z => by dsimp only [aS, aB] at z; omega, fun hq k => ⟨fun z => by dsimp only [aS, aM] at z; omega, fun z => by dsimp only [aS, aM] at z; omega⟩⟩)
    unfold rNt at q ⊢
    simp only [e2]
    exact q
  · unfold rPo at a14 ⊢
    simp only [e2]
    exact a14
theorem Rep.fS {c : Nat} {v : Value} (h : Rep X g) (ho : o < 2) (hs : s < 7) (hc : c = 7 ∨ c = 8 ∨ c = 9) : rNm X (pPut g (aS o s) c v) ∧ rSf (pPut g (aS o s) c v) ∧ rOn X (pPut g (aS o s) c v) ∧ (c ≠ 8 → rCt X (pPut g (aS o s) c v)) ∧ (c ≠ 7 → rLc X (pPut g (aS o s) c v)) ∧ rLr X (pPut g (aS o s) c v) ∧ (c ≠ 9 → rSn X (pPut g (aS o s) c v)) ∧ rRq X (pPut g (aS o s) c v) ∧ rNt X (pPut g (aS o s) c v) ∧ rOb X (pPut g (aS o s) c v) := by
  obtain ⟨a1, a2, a3, a4, a5, a6, a7, a8, a9, a10, a11, a12, a13, a14, a15⟩ := h
  have hA : ∀ o' i, o' < 2 → i < 7 → ∀ k, ¬ (fun x y => x = aS o s ∧ y = c) (dA (xD X) o' i) k := (fun o' i ho' hi k z => by
      have hz : dA (xD X) o' i = aS o s := z.1
      dsimp only [aS] at hz
      rcases Nat.lt_or_ge o' 2 with z2 | z2
      · rcases (a8 o' i z2 hi).2.2.2.1 with y | y <;> try dsimp only [aS] at y
        · have := apS (c := 7) (c' := 0) z2 ho hi hs (by omega) (by omega) (by omega); omega
        · omega
      · rcases (a9 o' i z2 ho' hi).2.2.2.1 with y | y <;> (try dsimp only [bB] at y) <;> omega)
  exact ⟨a3.frm (hMp g (aS o s) c v) (fun o' f i j a k hl z => ((loc_oth hl o s).1 ho hs).1 ⟨z.1, by omega⟩), a4.frm (hMp g (aS o s) c v) (fun a k b hl z => by
      rcases hl with ⟨o', ho', hl⟩ | ⟨o', h1, h2, hl⟩ | hl | hl
      · exact ((srfC_oth ho' hl o s ho).1 hs) ⟨z.1, by omega⟩
      · have := srfR_rng hl; dsimp only [aS] at z; omega
      · dsimp only [aS] at z; omega
      · dsimp only [aS] at z; omega), a5.frm (hMp g (aS o s) c v) (fun k => by dsimp only [aS]; omega), fun hc8 => a6.frm (hMp g (aS o s) c v) (fun o' i => ⟨fun ho' z => by dsimp only [aS, aB] at z; omega, fun ho' hi => ⟨fun z => by dsimp only [aS] at z; omega, fun z => by dsimp only [aS] at z; omega⟩, fun h1 h2 => ⟨fun z => by dsimp only [aS, bB] at z; omega, fun hi z => by dsimp only [aS, bB] at z; omega⟩⟩), fun hc7 => a8.frm (hMp g (aS o s) c v) (fun o' i ho' hi => ⟨fun z => by dsimp only [aS] at z; omega, hA o' i (by omega) hi⟩), a9.frm (hMp g (aS o s) c v) (fun o' i h1 h2 hi => ⟨fun z => by dsimp only [aS, bB] at z; omega, hA o' i h2 hi⟩), fun hc9 => a11.frm (hMp g (aS o s) c v) (fun o' i ho' hi z => by dsimp only [aS] at z; omega), a12.frm (hMp g (aS o s) c v) (fun o' c' ho' hc z => by dsimp only [aS, aC] at z; omega), a13.frm a7 (hMp g (aS o s) c v) (fun o' q ho' => ⟨fun z => by dsimp only [aS, aB] at z; omega, fun _ z => by dsimp only [aS, aB] at z; omega, fun hq k => ⟨fun z => by dsimp only [aS, aM] at z; omega, fun z => by dsimp only [aS, aM] at z; omega⟩⟩), a15.frm (hMp g (aS o s) c v) (fun a ha k z => (a15.2 a ha).2.1 (by
      rw [show a = aS o s from z.1]
      unfold stat
      dsimp only [aS]
      rcases (show o = 0 ∨ o = 1 by omega) with rfl | rfl <;> omega))⟩
/-- how many entries a log has; they lie there -/
theorem Rep.cnt {l' : List ENT} (h : Rep X g) (ho : o < 2) (hs : s < 7) (h1 : l'.length ≤ dR (xD X) o s) (h2 : ∀ j e, l'[j]? = some e → dE (xD X) (dQ (xD X) o s j) = (1, e) ∧ dQ (xD X) o s j ≠ 0) : Rep (xSetK X o (kLog (xK X o) s l')) (pPut g (aS o s) 8 (.int (Int32.ofNat l'.length))) := by
  obtain ⟨v, hv⟩ : ∃ v : Value, v = .int (Int32.ofNat l'.length) := ⟨_, rfl⟩
  rw [← hv]
  have hf := h.fS (v := v) (c := 8) ho hs (by omega)
  obtain ⟨b1, b2, b3, -, b5, b6, b7, b8, b9, b10⟩ := hf
  obtain ⟨a1, a2, a3, a4, a5, a6, a7, a8, a9, a10, a11, a12, a13, a14, a15⟩ := h
  have e1 : ∀ o', (xK (xSetK X o (kLog (xK X o) s l')) o').1 = (xK X o').1 := fun o' => by
    rw [xK_setK]; split
    · rename_i z; rw [z]; rfl
    · rfl
  have e3 : ∀ o', (xK (xSetK X o (kLog (xK X o) s l')) o').2.2 = (xK X o').2.2 := fun o' => by
    rw [xK_setK]; split
    · rename_i z; rw [z]; rfl
    · rfl
  have e2 : ∀ o' i, ¬ (o' = o ∧ i = s) → (xK (xSetK X o (kLog (xK X o) s l')) o').2.1 i = (xK X o').2.1 i := fun o' i hn => by
    rw [xK_setK]; split
    · rename_i z; subst z; exact if_neg (fun z => hn ⟨rfl, z⟩)
    · rfl
  have e4 : (xK (xSetK X o (kLog (xK X o) s l')) o).2.1 s = l' := by rw [xK_setK, if_pos rfl]; exact if_pos rfl
  refine ⟨a1, a2, fun o' f i j a k hl => ?_, b2, b3, ⟨fun o' ho' => ⟨?_, fun i hi => ⟨?_, ?_⟩⟩, fun o' h1 h2 => ⟨?_, fun i hi => ?_⟩⟩, fun o' ho' => ⟨by rw [e3]; exact (a7 o' ho').1, by rw [e1]; exact (a7 o' ho').2⟩, fun o' i ho' hi => ?_, fun o' i h1 h2 hi => ?_, a10.frm, ?_, ?_, ?_, ?_, b10⟩
  · refine (b1 o' f i j a k hl).trans (congrArg Value.int ?_)
    unfold xN
    rw [e1]; rfl
  · rw [e3]
    exact (hMp g (aS o s) 8 v _ _ (fun z => by have z1 : aB o' + 3 = aS o s := z.1; dsimp only [aS, aB] at z1; omega)).trans (a6.1 o' ho').1
  · by_cases e : o' = o ∧ i = s
    · obtain ⟨rfl, rfl⟩ := e
      rw [e4, ← hv]
      exact if_pos ⟨rfl, rfl⟩
    · rw [e2 o' i e]
      refine (hMp g (aS o s) 8 v _ _ (fun z => e ?_)).trans ((a6.1 o' ho').2 i hi).1
      have z1 : aS o' i = aS o s := z.1
      dsimp only [aS] at z1
      have := apS (c := 0) (c' := 0) ho' ho hi hs (by omega) (by omega) (by omega)
      exact ⟨this.1, this.2.1⟩
  · exact (hMp g (aS o s) 8 v _ _ (fun z => by have := z.2; omega)).trans ((a6.1 o' ho').2 i hi).2
  · rw [e3]
    exact (hMp g (aS o s) 8 v _ _ (fun z => by have := z.2; omega)).trans (a6.2 o' h1 h2).1
  · rw [e2 o' i (by omega)]
    exact (hMp g (aS o s) 8 v _ _ (fun z => by have z1 : bB o' + 31 = aS o s := z.1; dsimp only [aS, bB] at z1; omega)).trans ((a6.2 o' h1 h2).2 i hi)
  · obtain ⟨c1, c2, c3, c4, c5, c6, c7, c8, c9⟩ := b5 (by omega) o' i ho' hi
    by_cases e : o' = o ∧ i = s
    · obtain ⟨rfl, rfl⟩ := e
      rw [e4]
      exact ⟨c1, c2, c3, c4, h1, c6, c7, c8, h2⟩
    · rw [e2 o' i e]
      exact ⟨c1, c2, c3, c4, c5, c6, c7, c8, c9⟩
  · rw [e2 o' i (by omega)]
    exact b6 o' i h1 h2 hi
  · have q := b7 (by omega)
    unfold rSn at q ⊢
    simp only [e1]
    exact q
  · unfold rRq at b8 ⊢
    simp only [e1]
    exact b8
  · unfold rNt at b9 ⊢
    simp only [e3]
    exact b9
  · unfold rPo at a14 ⊢
    simp only [e3]
    exact a14
/-- private numbers -/
theorem Rep.putV {f i j a k : Nat} {v : Int32} (h : Rep X g) (hl : loc o f i j a k) (hp : xPriv f = true) (h41 : f ≠ 41 ∧ f ≠ 42) : Rep (xSetD X (dSetV (xD X) o f i j v)) (pPut g a k (.int v)) := by
  obtain ⟨a1, a2, a3, a4, a5, a6, a7, a8, a9, a10, a11, a12, a13, a14, a15⟩ := h
  have hM : ∀ x y, ¬ (fun x y => x = a ∧ y = k) x y → pU (pM g) a k (.int v) x y = pM g x y := fun x y h => if_neg h
  have st := loc_stat hl
  have ot := loc_oth hl
  have eV : ∀ o' f' i' j', dV (xD (xSetD X (dSetV (xD X) o f i j v))) o' f' i' j' = if o' = o ∧ f' = f ∧ i' = i ∧ j' = j then v else dV (xD X) o' f' i' j' := fun _ _ _ _ => rfl
  have hA : ∀ o' i', o' < 2 → i' < 7 → ∀ k', ¬ (fun x y => x = a ∧ y = k) (dA (xD X) o' i') k' := fun o' i' ho' hi k' z => by
    have q := ot o' i'
    have s := st.1.1
    have hz : dA (xD X) o' i' = a := z.1
    rcases Nat.lt_or_ge o' 2 with z2 | z2
    · rcases (a8 o' i' z2 hi).2.2.2.1 with y | y
      · exact (q.1 z2 hi).2 (by rw [← hz]; exact y)
      · omega
    · rcases (a9 o' i' z2 ho' hi).2.2.2.1 with y | y
      · exact (q.2.2.2 z2 ho').2.2.2 hi (by rw [← hz]; exact y)
      · omega
  refine ⟨a1, a2, fun o' f' i' j' a' k' hl' => ?_, a4.frm hM (fun a' k' b' hs z => loc_srf hl (by rw [z.1, z.2] at hs; exact hs)), a5.frm hM (fun k' => ⟨fun z => st.2.1 z.1.symm, fun z => st.2.2.1 z.1.symm, fun z => st.2.2.2 z.1.symm⟩), ?_, a7, ?_, fun o' i' h1 h2 hi => ?_, a10.frm, ?_, ?_, ?_, fun o' h1 h2 => ?_, ?_⟩
  · show pU (pM g) a k (.int v) a' k' = _
    unfold pU
    by_cases e : a' = a ∧ k' = k
    · rw [if_pos e]
      rw [e.1, e.2] at hl'
      obtain ⟨q1, q2, q3, q4⟩ := loc_inj hl' hl
      unfold xN
      rw [q2, if_pos hp, eV, if_pos ⟨q1, rfl, q3, q4⟩]
    · rw [if_neg e]
      refine (a3 o' f' i' j' a' k' hl').trans (congrArg Value.int ?_)
      unfold xN
      split
      · rw [eV, if_neg (fun z => e (by obtain ⟨z1, z2, z3, z4⟩ := z; rw [z1, z2, z3, z4] at hl'; exact loc_fun hl' hl))]
      · rfl
  · exact a6.frm hM (fun o' i' => ⟨fun z1 z => ((ot o' 0).2.2.1 z1).1 ⟨z.1.symm, Or.inr z.2.symm⟩, fun z1 z2 => ⟨fun z => ((ot o' i').1 z1 z2).1 ⟨z.1.symm, Or.inr (Or.inr (Or.inl z.2.symm))⟩, fun z => ((ot o' i').1 z1 z2).1 ⟨z.1.symm, Or.inl z.2.symm⟩⟩,
      fun z1 z2 => ⟨fun z => ((ot o' 0).2.2.2 z1 z2).1 ⟨z.1.symm, z.2.symm⟩, fun _ z => ((ot o' 0).2.2.2 z1 z2).2.1 z.1.symm⟩⟩)
  · exact a8.frm hM (fun o' i' ho' hi => ⟨fun z => ((ot o' i').1 ho' hi).1 ⟨z.1.symm, Or.inr (Or.inl z.2.symm)⟩, hA o' i' (by omega) hi⟩)
  · obtain ⟨c1, c2, c3, c4, c5, c6, c7⟩ := a9.frm hM (fun o' i' ho' ho2 hi => ⟨fun z => ((ot o' 0).2.2.2 ho' ho2).2.2.1 z.1.symm, hA o' i' ho2 hi⟩) o' i' h1 h2 hi
    refine ⟨c1, c2, c3, c4, c5, fun q hq => (c6 q hq).trans (congrArg Value.int ?_), fun j' e he q hq => ?_⟩
    · rw [eV, if_neg (fun z => h41.2 z.2.1.symm)]
    · rw [eV, if_neg (fun z => h41.2 z.2.1.symm)]; exact c7 j' e he q hq
  · exact a11.frm hM (fun o' i' ho' hi z => ((ot o' i').1 ho' hi).1 ⟨z.1.symm, Or.inr (Or.inr (Or.inr z.2.symm))⟩)
  · exact a12.frm hM (fun o' i' ho' hi z => ((ot o' i').2.1 ho' hi) ⟨z.1.symm, z.2.symm⟩)
  · exact a13.frm a7 hM (fun o' q ho' => ⟨fun z => ((ot o' 0).2.2.1 ho').1 ⟨z.1.symm, Or.inl z.2.symm⟩, fun _ z => ((ot o' 0).2.2.1 ho').2.1 z.1.symm, fun hq k' => ⟨fun z => (((ot o' q).2.2.1 ho').2.2 hq).1 z.1.symm, fun z => (((ot o' q).2.2.1 ho').2.2 hq).2 z.1.symm⟩⟩)
  · intro j' u hu q hq
    rw [eV, if_neg (fun z => h41.1 z.2.1.symm)]
    exact a14 o' h1 h2 j' u hu q hq
  · exact a15.frm hM (fun a' ha k' z => (a15.2 a' ha).2.1 (by rw [show a' = a from z.1]; exact st.1))
/-- an entry is put into a log's row -/
theorem Rep.logput {j p : Nat} {l' : List ENT} (h : Rep X g) (ho : o < 2) (hs : s < 7) (hj : j < dR (xD X) o s) (hp : p ≠ 0) (hlen : l'.length = ((xK X o).2.1 s).length) (h2 : ∀ q e, l'[q]? = some e → dE (xD X) (if q = j then p else dQ (xD X) o s q) = (1, e)) :
    Rep (xSetK (xSetD X (dSetQ (xD X) o s j p)) o (kLog (xK X o) s l')) (pPut g (dA (xD X) o s) j (.ref p)) := by
  obtain ⟨v, hv⟩ : ∃ v : Value, v = .ref p := ⟨_, rfl⟩
  rw [← hv]
  obtain ⟨a1, a2, a3, a4, a5, a6, a7, a8, a9, a10, a11, a12, a13, a14, a15⟩ := h
  obtain ⟨X', hX'⟩ : ∃ X', X' = xSetK (xSetD X (dSetQ (xD X) o s j p)) o (kLog (xK X o) s l') := ⟨_, rfl⟩
  rw [← hX']
  have hM : ∀ x y, ¬ (fun x y => x = dA (xD X) o s ∧ y = j) x y → pU (pM g) (dA (xD X) o s) j v x y = pM g x y := fun x y h => if_neg h
  obtain ⟨c1, c2, c3, c4, c5, c6, c7, c8, c9⟩ := a8 o s ho hs
  have hb : ∀ y, (y = dA (xD X) o s → (y = aS o s + 7 ∨ 388 ≤ y)) := fun y e => by rw [e]; exact c4
  have e1 : ∀ o', (xK X' o').1 = (xK X o').1 := fun o' => by
    rw [hX', xK_setK]; split
    · rename_i z; rw [z]; rfl
    · rfl
  have e3 : ∀ o', (xK X' o').2.2 = (xK X o').2.2 := fun o' => by
    rw [hX', xK_setK]; split
    · rename_i z; rw [z]; rfl
    · rfl
  have e2 : ∀ o' i, ¬ (o' = o ∧ i = s) → (xK X' o').2.1 i = (xK X o').2.1 i := fun o' i hn => by
    rw [hX', xK_setK]; split
    · rename_i z; subst z; exact if_neg (fun z => hn ⟨rfl, z⟩)
    · rfl
  have e4 : (xK X' o).2.1 s = l' := by rw [hX', xK_setK, if_pos rfl]; exact if_pos rfl
  have eL : ∀ o' i, ((xK X' o').2.1 i).length = ((xK X o').2.1 i).length := fun o' i => by
    by_cases e : o' = o ∧ i = s
    · obtain ⟨rfl, rfl⟩ := e; rw [e4, hlen]
    · rw [e2 o' i e]
  have dq : ∀ o' i q, dQ (xD X') o' i q = if o' = o ∧ i = s ∧ q = j then p else dQ (xD X) o' i q := fun o' i q => by rw [hX']; rfl
  have dv : dV (xD X') = dV (xD X) := by rw [hX']; rfl
  have de : dE (xD X') = dE (xD X) := by rw [hX']; rfl
  have da : dA (xD X') = dA (xD X) := by rw [hX']; rfl
  have dr : dR (xD X') = dR (xD X) := by rw [hX']; rfl
  have dp : dP (xD X') = dP (xD X) := by rw [hX']; rfl
  have dh : dH (xD X') = dH (xD X) := by rw [hX']; rfl
  have dn : ∀ q r, dSn (xD X') q r ↔ dSn (xD X) q r := fun q r => by unfold dSn; rw [de]
  have dq' : ∀ q r, dRq (xD X') q r ↔ dRq (xD X) q r := fun q r => by unfold dRq; rw [de]
  have hstat : ∀ y k, (fun x y => x = dA (xD X) o s ∧ y = j) y k → y < 388 → y = aS o s + 7 := fun y k z hy => by
    rcases hb y z.1 with q | q
    · exact q
    · omega
  refine ⟨?_, a2, fun o' f i j' a k hl => ?_, a4.frm hM (fun a k b hl z => ?_), ?_, ⟨fun o' ho' => ⟨?_, fun i hi => ⟨?_, ?_⟩⟩, fun o' h1 h2 => ⟨?_, fun i hi => ?_⟩⟩, fun o' ho' => ⟨by rw [e3]; exact (a7 o' ho').1, by rw [e1]; exact (a7 o' ho').2⟩, fun o' i ho' hi => ?_, fun o' i h1 h2 hi => ?_, ?_, ?_, ?_, fun o' ho' => ?_, ?_, ?_⟩
  · rw [hX']; exact a1
  · have st := loc_stat hl
    have ot := (loc_oth hl o s).1 ho hs
    refine (hM a k (fun z => ot.2 (hstat a k z st.1.1))).trans ((a3 o' f i j' a k hl).trans (congrArg Value.int ?_))
    unfold xN
    rw [dv, e1]
  · have lo := srf_lo hl
    have q := hstat a k z (by omega)
    rcases hl with ⟨o', ho', hl⟩ | ⟨o', h1, h2, hl⟩ | hl | hl
    · have r1 := srfC_rng hl
      rcases hl with h | h | h | h | ⟨q9, h⟩ | ⟨q9, hq9, h | h | h | h⟩ <;> dsimp only [aB, aS, aC, aM] at h q <;> first
        | omega
        | (have := apS (c := 7) (c' := 0) ho ho' hs hq9 (by omega) (by omega) (by omega); omega)
        | (have := apS (c := 7) (c' := 1) ho ho' hs hq9 (by omega) (by omega) (by omega); omega)
    · have := srfR_rng hl; dsimp only [aS] at q; omega
    · dsimp only [aS] at q; omega
    · dsimp only [aS] at q; omega
  · have q := a5.frm (M := pU (pM g) (dA (xD X) o s) j v) hM (fun k => by
      refine ⟨fun z => ?_, fun z => ?_, fun z => ?_⟩ <;> have q := hstat _ _ z (by omega) <;> dsimp only [aS] at q <;> omega)
    rw [hX']; exact q
  · rw [e3]
    exact (hM _ _ (fun z => by have q := hstat _ _ z (by dsimp only [aB]; omega); dsimp only [aS, aB] at q; omega)).trans (a6.1 o' ho').1
  · rw [eL]
    exact (hM _ _ (fun z => by
      have q := hstat _ _ z (by dsimp only [aS]; omega)
      dsimp only [aS] at q
      have := apS (c := 0) (c' := 7) ho' ho hi hs (by omega) (by omega) (by omega)
      omega)).trans ((a6.1 o' ho').2 i hi).1
  · exact (hM _ _ (fun z => by
      have q := hstat _ _ z (by dsimp only [aS]; omega)
      dsimp only [aS] at q
      have := apS (c := 0) (c' := 7) ho' ho hi hs (by omega) (by omega) (by omega)
      omega)).trans ((a6.1 o' ho').2 i hi).2
  · rw [e3]
    exact (hM _ _ (fun z => by have q := hstat _ _ z (by dsimp only [bB]; omega); dsimp only [aS, bB] at q; omega)).trans (a6.2 o' h1 h2).1
  · rw [eL]
    exact (hM _ _ (fun z => by have q := hstat _ _ z (by dsimp only [bB]; omega); dsimp only [aS, bB] at q; omega)).trans ((a6.2 o' h1 h2).2 i hi)
  · rw [da, dr, eL]
    obtain ⟨x1, x2, x3, x4, x5, x6, x7, x8, x9⟩ := a8 o' i ho' hi
    refine ⟨(hM _ _ (fun z => ?_)).trans x1, x2, x3, x4, x5, x6, x7, fun q hq hq2 => ?_, fun q e he => ?_⟩
    · have q := hstat _ _ z (by dsimp only [aS]; omega)
      dsimp only [aS] at q
      have := apS (c := 0) (c' := 7) ho' ho hi hs (by omega) (by omega) (by omega)
      omega
    · rw [dq] at hq ⊢
      by_cases e : o' = o ∧ i = s ∧ q = j
      · rw [if_pos e, ← hv]
        obtain ⟨rfl, rfl, rfl⟩ := e
        exact if_pos ⟨rfl, rfl⟩
      · rw [if_neg e] at hq ⊢
        refine (hM _ _ (fun z => e ?_)).trans (x8 q hq hq2)
        obtain ⟨z1, z2⟩ := (a10 o' i (by omega) hi).2.2 o s (by omega) hs z.1
        exact ⟨z1, z2, z.2⟩
    · rw [de, dq]
      by_cases e0 : o' = o ∧ i = s
      · obtain ⟨rfl, rfl⟩ := e0
        rw [e4] at he
        have h3 := h2 q e he
        by_cases e5 : q = j
        · rw [if_pos e5] at h3
          rw [if_pos ⟨rfl, rfl, e5⟩]
          exact ⟨h3, hp⟩
        · rw [if_neg e5] at h3
          rw [if_neg (fun z => e5 z.2.2)]
          have hql : q < ((xK X o').2.1 i).length := by
            have := (List.getElem?_eq_some_iff.mp he).1
            omega
          exact ⟨h3, (c9 q _ (List.getElem?_eq_getElem hql)).2⟩
      · rw [e2 o' i e0] at he
        rw [if_neg (fun z => e0 ⟨z.1, z.2.1⟩)]
        exact x9 q e he
  · rw [da, dr, eL, dv]
    obtain ⟨x1, x2, x3, x4, x5, x6, x7⟩ := a9 o' i h1 h2 hi
    refine ⟨(hM _ _ (fun z => ?_)).trans x1, x2, x3, x4, x5, fun q hq => (hM _ _ (fun z => ?_)).trans (x6 q hq), fun q e he => x7 q e (by rw [e2 o' i (by omega)] at he; exact he)⟩
    · have q := hstat _ _ z (by dsimp only [bB]; omega)
      dsimp only [aS, bB] at q
      omega
    · have z1 := ((a10 o' i h2 hi).2.2 o s (by omega) hs z.1).1
      omega
  · unfold rLa at a10 ⊢
    rw [da, de]
    exact a10
  · intro o' i ho' hi
    obtain ⟨q, q1, q2⟩ := a11 o' i ho' hi
    refine ⟨q, (hM _ _ (fun z => ?_)).trans q1, (dn _ _).mpr (by rw [e1]; exact q2)⟩
    have q := hstat _ _ z (by dsimp only [aS]; omega)
    dsimp only [aS] at q
    have := apS (c := 0) (c' := 7) ho' ho hi hs (by omega) (by omega) (by omega)
    omega
  · intro o' c ho' hc
    have hne : pM (pPut g (dA (xD X) o s) j v) (aC o' c) 0 = pM g (aC o' c) 0 := hM _ _ (fun z => by
      have q := hstat _ _ z (by dsimp only [aC]; omega)
      dsimp only [aS, aC] at q
      rcases Nat.lt_or_ge o 1 with e8 | e8 <;> rcases Nat.lt_or_ge o' 1 with e9 | e9 <;> omega)
    rw [hne, e1]
    refine ⟨(a12 o' c ho' hc).1, fun z => ?_⟩
    obtain ⟨q, q1, q2⟩ := (a12 o' c ho' hc).2 z
    exact ⟨q, q1, (dq' _ _).mpr q2⟩
  · rw [dp, dh, e3]
    obtain ⟨x1, x2, x3, x4, x5, x6⟩ := a13 o' ho'
    have hne : ∀ y k, y < aS o' 0 → aB o' ≤ y → pM (pPut g (dA (xD X) o s) j v) y k = pM g y k := fun y k h1 h3 => hM _ _ (fun z => by
      dsimp only [aS, aB] at h1 h3
      have q := hstat _ _ z (by omega)
      dsimp only [aS] at q
      rcases Nat.lt_or_ge o 1 with e8 | e8 <;> rcases Nat.lt_or_ge o' 1 with e9 | e9 <;> omega)
    refine ⟨(hne _ _ (by dsimp only [aS, aB]; omega) (by dsimp only [aB]; omega)).trans x1, fun q hq => (hne _ _ (by dsimp only [aS, aB]; omega) (by dsimp only [aB]; omega)).trans (x2 q hq), x3, x4, fun q hq => ?_, x6⟩
    obtain ⟨y1, y2, y3, y4, y5, y6⟩ := x5 q hq
    have n1 : ∀ k, pM (pPut g (dA (xD X) o s) j v) (aM o' q) k = pM g (aM o' q) k := fun k => hne _ _ (by dsimp only [aS, aM]; omega) (by dsimp only [aM, aB]; omega)
    have n2 : ∀ k, pM (pPut g (dA (xD X) o s) j v) (aM o' q + 1) k = pM g (aM o' q + 1) k := fun k => hne _ _ (by dsimp only [aS, aM]; omega) (by dsimp only [aM, aB]; omega)
    unfold mAt mSl
    simp only [n1, n2, dn, de]
    exact ⟨y1, y2, y3, y4, y5, y6⟩
  · unfold rPo at a14 ⊢
    simp only [e3, dv]
    exact a14
  · have q := a15.frm (M := pU (pM g) (dA (xD X) o s) j v) hM (fun a ha k z => ha (by rw [show a = dA (xD X) o s from z.1]; exact (a10 o s (by omega) hs).2.1))
    rw [hX']; exact q
end PUT
