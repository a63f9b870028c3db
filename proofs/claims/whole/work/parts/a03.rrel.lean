/-! ===== THE REFERENCE: what was thrown, the sum, the law's row; relations ===== -/
section TOP
variable {X : XS} {g : PS}
theorem top_apart {a k : Nat} (h : (a = 388 ∧ (k = 2 ∨ k = 3)) ∨ a = 511) : (∀ o' f' i' j' k', ¬ loc o' f' i' j' a k') ∧ (∀ b', ¬ srf a k b') ∧
    (∀ o' i', (o' < 2 → a ≠ aB o' + 3 ∧ (i' < 7 → a ≠ aS o' i') ∧ (i' < 4 → a ≠ aC o' i') ∧ a ≠ aB o' + 4 ∧ (i' < 61 → a ≠ aM o' i' ∧ a ≠ aM o' i' + 1)) ∧ (2 ≤ o' → o' < 4 → a ≠ bB o' ∧ a ≠ bB o' + 31 ∧ a ≠ bB o' + 32 ∧ (i' < 7 → a ≠ bB o' + 33 + i'))) := by
  refine ⟨fun o' f' i' j' k' hl => ?_, fun b' hs => ?_, fun o' i' => ⟨fun z => ?_, fun z1 z2 => ?_⟩⟩
  · have := loc_stat hl; omega
  · have := srf_lo hs; omega
  · dsimp only [aB, aS, aC, aM]
    refine ⟨by omega, fun z => by omega, fun z => by omega, by omega, fun z => ⟨by omega, by omega⟩⟩
  · dsimp only [bB]
    refine ⟨by omega, by omega, by omega, fun z => by omega⟩
theorem Rep.top {a k : Nat} {v : Value} {X' : XS} (h : Rep X g) (ha : (a = 388 ∧ (k = 2 ∨ k = 3)) ∨ a = 511) (h1 : xK X' = xK X) (h2 : xD X' = xD X) (h3 : rOn X' (pPut g a k v)) : Rep X' (pPut g a k v) := by
  obtain ⟨p1, p2, p4⟩ := top_apart ha
  obtain ⟨a1, a2, a3, a4, a5, a6, a7, a8, a9, a10, a11, a12, a13, a14, a15⟩ := h
  have hM := hMp g a k v
  have hA : ∀ o' i' k', o' < 4 → i' < 7 → ¬ (fun x y => x = a ∧ y = k) (dA (xD X) o' i') k' := fun o' i' k' ho' hi' z => by
    have hz : dA (xD X) o' i' = a := z.1
    rcases Nat.lt_or_ge o' 2 with z2 | z2
    · rcases (a8 o' i' z2 hi').2.2.2.1 with y | y
      · rw [y] at hz; dsimp only [aS] at hz; omega
      · omega
    · rcases (a9 o' i' z2 ho' hi').2.2.2.1 with y | y
      · exact ((p4 o' i').2 z2 ho').2.2.2 hi' (hz.symm.trans y)
      · omega
  have q : Rep X (pPut g a k v) ∨ True := Or.inr trivial
  have b3 : rNm X (pPut g a k v) := a3.frm hM (fun o' f' i' j' a' k' hl z => p1 o' f' i' j' k' (by rw [← z.1]; exact hl))
  have b6 : rCt X (pPut g a k v) := a6.frm hM (fun o' i' => ⟨fun z1 z => ((p4 o' 0).1 z1).1 z.1.symm, fun z1 z2 => ⟨fun z => ((p4 o' i').1 z1).2.1 z2 z.1.symm, fun z => ((p4 o' i').1 z1).2.1 z2 z.1.symm⟩, fun z1 z2 => ⟨fun z => ((p4 o' 0).2 z1 z2).1 z.1.symm, fun _ z => ((p4 o' 0).2 z1 z2).2.1 z.1.symm⟩⟩)
  have b8 : rLc X (pPut g a k v) := a8.frm hM (fun o' i' ho' hi => ⟨fun z => ((p4 o' i').1 ho').2.1 hi z.1.symm, fun k' => hA o' i' k' (by omega) hi⟩)
  have b9 : rLr X (pPut g a k v) := a9.frm hM (fun o' i' ho' ho2 hi => ⟨fun z => ((p4 o' 0).2 ho' ho2).2.2.1 z.1.symm, fun k' => hA o' i' k' ho2 hi⟩)
  have b11 : rSn X (pPut g a k v) := a11.frm hM (fun o' i' ho' hi z => ((p4 o' i').1 ho').2.1 hi z.1.symm)
  have b12 : rRq X (pPut g a k v) := a12.frm hM (fun o' i' ho' hi z => ((p4 o' i').1 ho').2.2.1 hi z.1.symm)
  have b13 : rNt X (pPut g a k v) := a13.frm a7 hM (fun o' q ho' => ⟨fun z => ((p4 o' 0).1 ho').1 z.1.symm, fun _ z => ((p4 o' 0).1 ho').2.2.2.1 z.1.symm, fun hq k' => ⟨fun z => (((p4 o' q).1 ho').2.2.2.2 hq).1 z.1.symm, fun z => (((p4 o' q).1 ho').2.2.2.2 hq).2 z.1.symm⟩⟩)
  have b15 : rOb X (pPut g a k v) := a15.frm hM (fun a' ha' k' z => (a15.2 a' ha').2.1 (by rw [show a' = a from z.1]; unfold stat; omega))
  have eN : ∀ o f i j, xN X' o f i j = xN X o f i j := fun o f i j => by unfold xN; rw [h1, h2]
  refine ⟨?_, a2, fun o f i j a' k' hl => ?_, a4.frm hM (fun a' k' b' hs z => p2 b' (by rw [← z.1, ← z.2]; exact hs)), h3, ?_, ?_, ?_, ?_, ?_, ?_, ?_, ?_, ?_, ?_⟩
  · show _ ∧ _ ∧ _ ∧ _
    rw [h2]; exact a1
  · rw [eN]; exact b3 o f i j a' k' hl
  · unfold rCt at b6 ⊢; rw [h1]; exact b6
  · unfold rWf at a7 ⊢; rw [h1]; exact a7
  · unfold rLc at b8 ⊢; rw [h1, h2]; exact b8
  · unfold rLr at b9 ⊢; rw [h1, h2]; exact b9
  · have := a10.frm (M := pU (pM g) a k v)
    unfold rLa at this ⊢; rw [h2]; exact this
  · unfold rSn at b11 ⊢; rw [h1, h2]; exact b11
  · unfold rRq at b12 ⊢; rw [h1, h2]; exact b12
  · unfold rNt at b13 ⊢; rw [h1, h2]; exact b13
  · unfold rPo at a14 ⊢; rw [h1, h2]; exact a14
  · unfold rOb at b15 ⊢; rw [h2]; exact b15
end TOP
theorem pPut_at (g : PS) (a k : Nat) (v : Value) : pM (pPut g a k v) a k = v := if_pos ⟨rfl, rfl⟩
theorem pPut_ne {g : PS} {a k x y : Nat} {v : Value} (h : ¬ (x = a ∧ y = k)) : pM (pPut g a k v) x y = pM g x y := if_neg h
section TOR
variable {m i pc ln r1 r2 r3 : Nat} {ls : PV} {st : List Value} {X : XS} {Q : PO → XS → Prop} {M : PMet}
theorem sh_mod : shp 388 11 0 := Or.inr (Or.inr (Or.inr (Or.inl ⟨rfl, rfl, rfl⟩)))
theorem AT.w11_2 {n : Nat} {v : Int32} (hM : qPT m = M) (hr : M.1[i]? = some (pc, .putfield n, ln, 11, 2, r3)) (k : AT m (i + 1) ls st (xSetT X v) Q) : AT m i ls (.int v :: .ref 388 :: st) X Q := by
  refine AT.write hM hr rfl (fun g hg => ⟨pPut g 388 2 (.int v), ?_, ?_⟩) k
  · show (if pK g 388 = 11 ∧ (2 : Nat) < pF 11 ∧ fits (pT 11 2) (.int v) = true then _ else _) = _
    rw [if_pos ⟨(hg.2.1 _ _ _ sh_mod).1, by decide, rfl⟩]
  · refine hg.top (Or.inl ⟨rfl, Or.inl rfl⟩) rfl rfl ?_
    obtain ⟨b1, b2, b3, b4, b5, b6⟩ := hg.2.2.2.2.1
    exact ⟨pPut_at _ _ _ _, (pPut_ne (by omega)).trans b2, (pPut_ne (by omega)).trans b3, b4, b5, fun q hq => (pPut_ne (by omega)).trans (b6 q hq)⟩
theorem AT.w11_3 {n : Nat} {v : Int64} (hM : qPT m = M) (hr : M.1[i]? = some (pc, .putfield n, ln, 11, 3, r3)) (k : AT m (i + 1) ls st (xSetS X v) Q) : AT m i ls (.long v :: .ref 388 :: st) X Q := by
  refine AT.write hM hr rfl (fun g hg => ⟨pPut g 388 3 (.long v), ?_, ?_⟩) k
  · show (if pK g 388 = 11 ∧ (3 : Nat) < pF 11 ∧ fits (pT 11 3) (.long v) = true then _ else _) = _
    rw [if_pos ⟨(hg.2.1 _ _ _ sh_mod).1, by decide, rfl⟩]
  · refine hg.top (Or.inl ⟨rfl, Or.inr rfl⟩) rfl rfl ?_
    obtain ⟨b1, b2, b3, b4, b5, b6⟩ := hg.2.2.2.2.1
    exact ⟨(pPut_ne (by omega)).trans b1, pPut_at _ _ _ _, (pPut_ne (by omega)).trans b3, b4, b5, fun q hq => (pPut_ne (by omega)).trans (b6 q hq)⟩
theorem AT.w511 {v : Int64} {y : Int32} (hM : qPT m = M) (hr : M.1[i]? = some (pc, .lastore, ln, r1, r2, r3)) (hy : y = Int32.ofNat 0) (k : AT m (i + 1) ls st (xSetO X v) Q) : AT m i ls (.long v :: .int y :: .ref 511 :: st) X Q := by
  subst hy
  refine AT.write hM hr rfl (fun g hg => ⟨pPut g 511 0 (.long v), ?_, ?_⟩) k
  · have h1 := hg.2.1 511 14 1 (Or.inr (Or.inr (Or.inr (Or.inr ⟨rfl, rfl, rfl⟩))))
    show (if pK g 511 = 14 ∧ ¬ (Int32.ofNat 0 < 0 ∨ pL g 511 ≤ (Int32.ofNat 0).toNatClampNeg) then some (i + 1, ls, st, pPut g 511 (Int32.ofNat 0).toNatClampNeg (.long v)) else none) = _
    rw [if_pos ⟨h1.1, by rw [h1.2 (by omega)]; exact i32_in (by omega) (by omega)⟩, (i32_ix (by omega)).1]
  · refine hg.top (Or.inr rfl) rfl rfl ?_
    obtain ⟨b1, b2, b3, b4, b5, b6⟩ := hg.2.2.2.2.1
    exact ⟨(pPut_ne (by omega)).trans b1, (pPut_ne (by omega)).trans b2, pPut_at _ _ _ _, b4, b5, fun q hq => (pPut_ne (by omega)).trans (b6 q hq)⟩
end TOR
/-- applied is what is committed -/
def aPr (X : XS) (o : Nat) : Prop := ∀ i, i < 7 → dV (xD X) o 20 i 0 = (xK X o).1 15 i 0
/-- from X to Y the reference's state o became K; what lies in the row of its told message is the same -/
def rRel0 (o n c z : Nat) (X Y : XS) (K : KK) : Prop := xF Y = xF X ∧ (∀ a, xK Y a = if a = o then K else xK X a) ∧ (∀ a b, ¬ a = o → dR (xD Y) a b = dR (xD X) a b) ∧ (∀ a f i j, ¬ a = o → dV (xD Y) a f i j = dV (xD X) a f i j) ∧
  dZ (xD Y) + 2 * rTot (xD X) o ≤ dZ (xD X) + 2 * rTot (xD Y) o + z ∧ 64 * dC (xD Y) + rTot (xD X) o ≤ 64 * dC (xD X) + rTot (xD Y) o + 64 * c ∧ (∀ b, b < 7 → dR (xD X) o b ≤ dR (xD Y) o b ∧ (dR (xD Y) o b ≤ dR (xD X) o b ∨ dR (xD Y) o b ≤ 14 * n))
def rTol (o : Nat) (X Y : XS) : Prop := ∀ j, dV (xD Y) o 40 0 j = dV (xD X) o 40 0 j
def rRel (o n c z : Nat) (X Y : XS) (K : KK) : Prop := rRel0 o n c z X Y K ∧ rTol o X Y ∧ aPr Y o
theorem rRel0.k {o n c z : Nat} {X Y : XS} {K : KK} (h : rRel0 o n c z X Y K) : xK Y o = K := by rw [h.2.1, if_pos rfl]
theorem rRel.k {o n c z : Nat} {X Y : XS} {K : KK} (h : rRel o n c z X Y K) : xK Y o = K := h.1.k
theorem rRel0.rf (o n : Nat) (X : XS) : rRel0 o n 0 0 X X (xK X o) := ⟨rfl, fun a => by by_cases e : a = o; (rw [if_pos e, e]); (rw [if_neg e]), fun _ _ _ => rfl, fun _ _ _ _ _ => rfl, Nat.le_refl _, Nat.le_refl _, fun _ _ => ⟨Nat.le_refl _, Or.inl (Nat.le_refl _)⟩⟩
theorem rRel0.tr {o n c z c' z' : Nat} {X Y Z : XS} {K K' : KK} (h : rRel0 o n c z X Y K) (k : rRel0 o n c' z' Y Z K') : rRel0 o n (c + c') (z + z') X Z K' := by
  obtain ⟨a1, a2, a3, a4, a5, a6, a7⟩ := h
  obtain ⟨b1, b2, b3, b4, b5, b6, b7⟩ := k
  refine ⟨b1.trans a1, fun a => ?_, fun a b ha => (b3 a b ha).trans (a3 a b ha), fun a f i j ha => (b4 a f i j ha).trans (a4 a f i j ha), by omega, by omega, fun b hb => ?_⟩
  · rw [b2 a]
    split
    · rfl
    · rename_i e; rw [a2 a, if_neg e]
  · have := a7 b hb
    have := b7 b hb
    omega
theorem rRel0.up {o n c z c' z' : Nat} {X Y : XS} {K : KK} (h : rRel0 o n c z X Y K) (hc : c ≤ c') (hz : z ≤ z') : rRel0 o n c' z' X Y K := by
  obtain ⟨a1, a2, a3, a4, a5, a6, a7⟩ := h
  exact ⟨a1, a2, a3, a4, by omega, by omega, a7⟩
theorem rTol.rf (o : Nat) (X : XS) : rTol o X X := fun _ => rfl
theorem rTol.tr {o : Nat} {X Y Z : XS} (h : rTol o X Y) (k : rTol o Y Z) : rTol o X Z := fun j => (k j).trans (h j)
theorem rRel.rf {o : Nat} (n : Nat) {X : XS} (h : aPr X o) : rRel o n 0 0 X X (xK X o) := ⟨rRel0.rf o n X, rTol.rf o X, h⟩
theorem rRel.tr {o n c z c' z' : Nat} {X Y Z : XS} {K K' : KK} (h : rRel o n c z X Y K) (k : rRel o n c' z' Y Z K') : rRel o n (c + c') (z + z') X Z K' := ⟨h.1.tr k.1, h.2.1.tr k.2.1, k.2.2⟩
theorem rRel.up {o n c z c' z' : Nat} {X Y : XS} {K : KK} (h : rRel o n c z X Y K) (hc : c ≤ c') (hz : z ≤ z') : rRel o n c' z' X Y K := ⟨h.1.up hc hz, h.2⟩
/-- only numbers change -/
theorem rRel0.set (o n : Nat) (X : XS) (K : KK) : rRel0 o n 0 0 X (xSetK X o K) K := ⟨rfl, fun _ => rfl, fun _ _ _ => rfl, fun _ _ _ _ _ => rfl, Nat.le_refl _, Nat.le_refl _, fun _ _ => ⟨Nat.le_refl _, Or.inl (Nat.le_refl _)⟩⟩
theorem rRel.set {o n : Nat} {X : XS} {K : KK} (h : aPr X o) (h15 : ∀ i, i < 7 → K.1 15 i 0 = (xK X o).1 15 i 0) : rRel o n 0 0 X (xSetK X o K) K :=
  ⟨rRel0.set o n X K, rTol.rf o X, fun i hi => by rw [xK_same, h15 i hi]; exact h i hi⟩
/-- private rows change -/
theorem rRel0.row {o n c z : Nat} {X Y : XS} {K : KK} (h : rRel0 o n c z X Y K) (f i : Nat) (v : Nat → Int32) : rRel0 o n c z X (xSetD Y (dRowV (xD Y) o f i v)) K := by
  obtain ⟨a1, a2, a3, a4, a5, a6, a7⟩ := h
  exact ⟨a1, a2, a3, fun a f' i' j' ha => (if_neg (fun z => ha z.1)).trans (a4 a f' i' j' ha), a5, a6, a7⟩
theorem rRel0.priv {o n c z : Nat} {X Y : XS} {K : KK} (h : rRel0 o n c z X Y K) (f i j : Nat) (v : Int32) : rRel0 o n c z X (xSetD Y (dSetV (xD Y) o f i j v)) K := by
  obtain ⟨a1, a2, a3, a4, a5, a6, a7⟩ := h
  exact ⟨a1, a2, a3, fun a f' i' j' ha => (if_neg (fun z => ha z.1)).trans (a4 a f' i' j' ha), a5, a6, a7⟩
