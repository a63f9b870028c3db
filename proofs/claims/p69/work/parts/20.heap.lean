/-! ===== READING THE HEAP BY X ===== -/
theorem i32_ix {q : Nat} (h : q < 2147483648) : (Int32.ofNat q).toNatClampNeg = q ∧ ¬ Int32.ofNat q < 0 := by
  have h1 : (Int32.ofNat q).toNatClampNeg = q := Int32.toNatClampNeg_ofNat_of_lt h
  have h2 : (0 : Int32) ≤ Int32.ofNat q := Int32.zero_le_ofNat_of_lt h
  exact ⟨h1, Int32.not_lt.mpr h2⟩
theorem i32_in {q n : Nat} (h : q < 2147483648) (hn : q < n) : ¬ (Int32.ofNat q < 0 ∨ n ≤ (Int32.ofNat q).toNatClampNeg) := by
  have h1 := i32_ix h
  rw [h1.1]
  rintro (z | z)
  · exact h1.2 z
  · omega
section ATH
variable {m i pc ln r1 r2 r3 : Nat} {ins : Instr} {ls : PV} {st : List Value} {X : XS} {Q : PO → XS → Prop} {M : PMet}
/-- a field of a cell whose kind X tells -/
theorem AT.gf {n a : Nat} {v : Value} (hM : qPT m = M) (hr : M.1[i]? = some (pc, .getfield n, ln, r1, r2, r3)) (hs : xKd X a r1) (h2 : r2 < pF r1) (hv : ∀ g, Rep X g → pM g a r2 = v) (k : AT m (i + 1) ls (v :: st) X Q) : AT m i ls (.ref a :: st) X Q :=
  AT.read hM hr rfl (fun g hg => by
    show (if pK g a = r1 ∧ r2 < pF r1 then some (i + 1, ls, pM g a r2 :: st, g) else none) = _
    rw [if_pos ⟨hs g hg, h2⟩, hv g hg]) k
/-- .. that is there in one of two ways, or with a witness -/
theorem AT.gfx {n a : Nat} {A : Type} {v : A → Value} {P : A → Prop} (hM : qPT m = M) (hr : M.1[i]? = some (pc, .getfield n, ln, r1, r2, r3)) (hs : xKd X a r1) (h2 : r2 < pF r1) (hv : ∀ g, Rep X g → ∃ p, P p ∧ pM g a r2 = v p) (k : ∀ p, P p → AT m (i + 1) ls (v p :: st) X Q) : AT m i ls (.ref a :: st) X Q := by
  intro g hg
  obtain ⟨p, h1, h3⟩ := hv g hg
  refine PW.plain hM hr rfl (q := (i + 1, ls, v p :: st, g)) ?_ (k p h1 g hg)
  show (if pK g a = r1 ∧ r2 < pF r1 then some (i + 1, ls, pM g a r2 :: st, g) else none) = _
  rw [if_pos ⟨hs g hg, h2⟩, h3]
/-- a number of a state -/
theorem AT.gn {n a o f i' j : Nat} {v : Int32} (hM : qPT m = M) (hr : M.1[i]? = some (pc, .getfield n, ln, r1, r2, r3)) (hs : shp a r1 0) (h2 : r2 < pF r1) (hl : loc o f i' j a r2) (hv : xN X o f i' j = v) (k : AT m (i + 1) ls (.int v :: st) X Q) : AT m i ls (.ref a :: st) X Q :=
  AT.gf hM hr (xKd.of hs) h2 (fun g hg => by rw [hg.2.2.1 _ _ _ _ _ _ hl, hv]) k
/-- a reference that stays -/
theorem AT.gr {n a b : Nat} (hM : qPT m = M) (hr : M.1[i]? = some (pc, .getfield n, ln, r1, r2, r3)) (hs : shp a r1 0) (h2 : r2 < pF r1) (hl : srf a r2 b) (k : AT m (i + 1) ls (.ref b :: st) X Q) : AT m i ls (.ref a :: st) X Q :=
  AT.gf hM hr (xKd.of hs) h2 (fun g hg => hg.2.2.2.1 _ _ _ hl) k
/-- an element -/
theorem AT.ia {a q kl : Nat} {y : Int32} {v : Value} (hM : qPT m = M) (hr : M.1[i]? = some (pc, .iaload, ln, r1, r2, r3)) (hy : y = Int32.ofNat q) (hq : q < kl) (hk : kl ≤ 100000000) (hs : ∀ g, Rep X g → (pK g a = 12 ∨ pK g a = 20) ∧ pL g a = kl) (hv : ∀ g, Rep X g → pM g a q = v) (k : AT m (i + 1) ls (v :: st) X Q) : AT m i ls (.int y :: .ref a :: st) X Q := by
  subst hy
  refine AT.read hM hr rfl (fun g hg => ?_) k
  show (if (pK g a = 12 ∨ pK g a = 20 ∨ pK g a = 13) ∧ ¬ (Int32.ofNat q < 0 ∨ pL g a ≤ (Int32.ofNat q).toNatClampNeg) then some (i + 1, ls, pM g a (Int32.ofNat q).toNatClampNeg :: st, g) else none) = _
  rw [if_pos ⟨(hs g hg).1.elim Or.inl (fun z => Or.inr (Or.inl z)), by rw [(hs g hg).2]; exact i32_in (by omega) hq⟩, (i32_ix (by omega)).1, hv g hg]
theorem AT.aax {a q kl : Nat} {y : Int32} {A : Type} {v : A → Value} {P : A → Prop} (hM : qPT m = M) (hr : M.1[i]? = some (pc, .aaload, ln, r1, r2, r3)) (hy : y = Int32.ofNat q) (hq : q < kl) (hk : kl ≤ 100000000) (hs : ∀ g, Rep X g → (15 ≤ pK g a ∧ pK g a ≤ 19) ∧ pL g a = kl) (hv : ∀ g, Rep X g → ∃ p, P p ∧ pM g a q = v p) (k : ∀ p, P p → AT m (i + 1) ls (v p :: st) X Q) : AT m i ls (.int y :: .ref a :: st) X Q := by
  subst hy
  intro g hg
  obtain ⟨p, h1, h3⟩ := hv g hg
  refine PW.plain hM hr rfl (q := (i + 1, ls, v p :: st, g)) ?_ (k p h1 g hg)
  show (if 15 ≤ pK g a ∧ pK g a ≤ 19 ∧ ¬ (Int32.ofNat q < 0 ∨ pL g a ≤ (Int32.ofNat q).toNatClampNeg) then some (i + 1, ls, pM g a (Int32.ofNat q).toNatClampNeg :: st, g) else none) = _
  rw [if_pos ⟨(hs g hg).1.1, (hs g hg).1.2, by rw [(hs g hg).2]; exact i32_in (by omega) hq⟩, (i32_ix (by omega)).1, h3]
/-- a number of a state, in an array of ints -/
theorem AT.in {a q kl o f i' j : Nat} {y v : Int32} (hM : qPT m = M) (hr : M.1[i]? = some (pc, .iaload, ln, r1, r2, r3)) (hy : y = Int32.ofNat q) (hs : shp a 12 kl) (hq : q < kl) (hk : kl ≤ 100000) (hl : loc o f i' j a q) (hv : xN X o f i' j = v) (k : AT m (i + 1) ls (.int v :: st) X Q) : AT m i ls (.int y :: .ref a :: st) X Q :=
  AT.ia hM hr hy hq (by omega) (fun g hg => ⟨Or.inl (hg.2.1 _ _ _ hs).1, (hg.2.1 _ _ _ hs).2 (by omega)⟩) (fun g hg => by rw [hg.2.2.1 _ _ _ _ _ _ hl, hv]) k
/-- a reference that stays, in an array -/
theorem AT.ar {a b q kd kl : Nat} {y : Int32} (hM : qPT m = M) (hr : M.1[i]? = some (pc, .aaload, ln, r1, r2, r3)) (hy : y = Int32.ofNat q) (hs : shp a kd kl) (hd : 15 ≤ kd ∧ kd ≤ 19) (hq : q < kl) (hk : kl ≤ 100000) (hl : srf a q b) (k : AT m (i + 1) ls (.ref b :: st) X Q) : AT m i ls (.int y :: .ref a :: st) X Q :=
  AT.aax (A := Unit) (v := fun _ => .ref b) (P := fun _ => True) hM hr hy hq (by omega) (fun g hg => ⟨by rw [(hg.2.1 _ _ _ hs).1]; exact hd, (hg.2.1 _ _ _ hs).2 (by omega)⟩) (fun g hg => ⟨(), trivial, hg.2.2.2.1 _ _ _ hl⟩) (fun _ _ => k)
/-- an array's length -/
theorem AT.al {a kl : Nat} (hM : qPT m = M) (hr : M.1[i]? = some (pc, .arraylength, ln, r1, r2, r3)) (hs : ∀ g, Rep X g → (12 ≤ pK g a ∧ pK g a ≤ 20) ∧ pL g a = kl) (k : AT m (i + 1) ls (.int (Int32.ofNat kl) :: st) X Q) : AT m i ls (.ref a :: st) X Q :=
  AT.read hM hr rfl (fun g hg => by
    show (if 12 ≤ pK g a ∧ pK g a ≤ 20 then some (i + 1, ls, .int (Int32.ofNat (pL g a)) :: st, g) else none) = _
    rw [if_pos (hs g hg).1, (hs g hg).2]) k
theorem AT.aln {a kd kl : Nat} (hM : qPT m = M) (hr : M.1[i]? = some (pc, .arraylength, ln, r1, r2, r3)) (hs : shp a kd kl) (hd : 12 ≤ kd ∧ kd ≤ 20) (k : AT m (i + 1) ls (.int (Int32.ofNat kl) :: st) X Q) : AT m i ls (.ref a :: st) X Q :=
  AT.al hM hr (fun g hg => ⟨by rw [(hg.2.1 _ _ _ hs).1]; exact hd, (hg.2.1 _ _ _ hs).2 hd.1⟩) k
/-- a number of a state is written: a field, an int's array, a boolean's -/
theorem AT.pn {n a o f i' j : Nat} {v : Int32} {X' : XS} (hM : qPT m = M) (hr : M.1[i]? = some (pc, .putfield n, ln, r1, r2, r3)) (hs : shp a r1 0) (h2 : r2 < pF r1) (hf : fits (pT r1 r2) (.int v) = true) (hl : loc o f i' j a r2) (hp : xPriv f = false) (hv : f = 4 ∨ f = 35 → v = 0 ∨ v = 1) (hX : xSetK X o (kSet (xK X o) f i' j v) = X') (k : AT m (i + 1) ls st X' Q) : AT m i ls (.int v :: .ref a :: st) X Q := by
  subst hX
  refine AT.write hM hr rfl (fun g hg => ⟨pPut g a r2 (.int v), ?_, hg.putK hl hp hv⟩) k
  show (if pK g a = r1 ∧ r2 < pF r1 ∧ fits (pT r1 r2) (.int v) = true then some (i + 1, ls, st, pPut g a r2 (.int v)) else none) = _
  rw [if_pos ⟨(hg.2.1 a r1 0 hs).1, h2, hf⟩]
theorem AT.sn {a q kl o f i' j : Nat} {y v : Int32} {X' : XS} (hM : qPT m = M) (hr : M.1[i]? = some (pc, .iastore, ln, 0, r2, r3)) (hy : y = Int32.ofNat q) (hs : shp a 12 kl) (hq : q < kl) (hk : kl ≤ 100000) (hl : loc o f i' j a q) (hp : xPriv f = false) (hv : f = 4 ∨ f = 35 → v = 0 ∨ v = 1) (hX : xSetK X o (kSet (xK X o) f i' j v) = X') (k : AT m (i + 1) ls st X' Q) : AT m i ls (.int v :: .int y :: .ref a :: st) X Q := by
  subst hX
  subst hy
  refine AT.write hM hr rfl (fun g hg => ⟨pPut g a q (.int v), ?_, hg.putK hl hp hv⟩) k
  show (if pK g a = 12 ∧ ¬ (Int32.ofNat q < 0 ∨ pL g a ≤ (Int32.ofNat q).toNatClampNeg) then some (i + 1, ls, st, pPut g a (Int32.ofNat q).toNatClampNeg (.int v)) else none) = _
  rw [if_pos ⟨(hg.2.1 _ _ _ hs).1, by rw [(hg.2.1 _ _ _ hs).2 (by omega)]; exact i32_in (by omega) hq⟩, (i32_ix (by omega)).1]
end ATH
