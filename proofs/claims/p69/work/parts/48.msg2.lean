/-! ===== MESSAGES: THE RULES ===== -/
def xMsg (X : XS) (o q : Nat) (u : MSG) : XS := xSetK (xSetD X (dSetH (xD X) o q u)) o (kMsg (xK X o) (dSetH (xD X) o q u) o)
def mSet (u : MSG) (k : Nat) (v : Int32) : MSG := (fun j => if j = k then v else u.1 j, u.2)
theorem shp_ment {o q : Nat} (ho : o < 2) (hq : q < 61) : shp (aM o q + 1) 16 4 := Or.inl ⟨o, ho, Or.inr (Or.inr (Or.inr (Or.inr (Or.inr (Or.inr (Or.inl ⟨q, hq, Or.inr ⟨rfl, rfl, rfl⟩⟩))))))⟩
theorem Rep.mat {X : XS} {g : PS} (h : Rep X g) {o q : Nat} (ho : o < 2) (hq : q < 61) : mAt (xD X) g (aM o q) (dH (xD X) o q) := (h.2.2.2.2.2.2.2.2.2.2.2.2.1 o ho).2.2.2.2.1 q hq
section ATM2
variable {m i pc ln r1 r2 r3 : Nat} {ls : PV} {st : List Value} {X : XS} {Q : PO → XS → Prop} {M : PMet} {o q : Nat}
theorem AT.p_3 {n k : Nat} {v : Int32} (hM : qPT m = M) (hr : M.1[i]? = some (pc, .putfield n, ln, 3, k, r3)) (ho : o < 2) (hq : q < 61) (k1 : 1 ≤ k) (k9 : k ≤ 9) (hk : k < pF 3) (hf : fits (pT 3 k) (.int v) = true) (h5 : k = 5 → v = 0 ∨ v = 1) (kk : AT m (i + 1) ls st (xMsg X o q (mSet (dH (xD X) o q) k v)) Q) : AT m i ls (.int v :: .ref (aM o q) :: st) X Q := by
  refine AT.write hM hr rfl (fun g hg => ⟨pPut g (aM o q) k (.int v), ?_, ?_⟩) kk
  · show (if pK g (aM o q) = 3 ∧ k < pF 3 ∧ fits (pT 3 k) (.int v) = true then some (i + 1, ls, st, pPut g (aM o q) k (.int v)) else none) = _
    rw [if_pos ⟨(hg.2.1 _ _ _ (shp_msg ho hq)).1, hk, hf⟩]
  · obtain ⟨c1, c2, c3, c4, c5, c6⟩ := hg.mat ho hq
    have e0 : ∀ j, j ≠ k → pM (pPut g (aM o q) k (.int v)) (aM o q) j = pM g (aM o q) j := fun j hj => if_neg (fun z => hj z.2)
    refine hg.msg (M := pU (pM g) (aM o q) k (.int v)) ho hq (fun a j hn => if_neg (fun z => hn (Or.inl ⟨z.1, by omega⟩))) ⟨fun j j1 j9 => ?_, ?_, fun y => (e0 10 (by omega)).trans (c3 y), fun r hr2 => ?_, ⟨c5.1, c5.2.mv (fun j => if_neg (fun z => by have := z.1; omega)) (fun _ _ z => z)⟩, fun j e he => ?_⟩
    · show (if aM o q = aM o q ∧ j = k then Value.int v else pM g (aM o q) j) = .int (if j = k then v else (dH (xD X) o q).1 j)
      by_cases e : j = k
      · rw [if_pos ⟨rfl, e⟩, if_pos e]
      · rw [if_neg (fun z => e z.2), if_neg e]; exact c1 j j1 j9
    · show (if 5 = k then v else (dH (xD X) o q).1 5) = 0 ∨ (if 5 = k then v else (dH (xD X) o q).1 5) = 1
      by_cases e : 5 = k
      · rw [if_pos e]; exact h5 e.symm
      · rw [if_neg e]; exact c2
    · obtain ⟨p, d1, d2⟩ := c4 r hr2
      exact ⟨p, (e0 10 (by omega)).trans d1, d2⟩
    · obtain ⟨p, d1, d2⟩ := c6 j e he
      exact ⟨p, (if_neg (fun z => by have := z.1; omega)).trans d1, d2⟩
theorem AT.p_3_10n {n : Nat} (hM : qPT m = M) (hr : M.1[i]? = some (pc, .putfield n, ln, 3, 10, r3)) (ho : o < 2) (hq : q < 61) (kk : AT m (i + 1) ls st (xMsg X o q ((dH (xD X) o q).1, none, (dH (xD X) o q).2.2)) Q) : AT m i ls (.null :: .ref (aM o q) :: st) X Q := by
  refine AT.write hM hr rfl (fun g hg => ⟨pPut g (aM o q) 10 .null, ?_, ?_⟩) kk
  · show (if pK g (aM o q) = 3 ∧ 10 < pF 3 ∧ fits (pT 3 10) .null = true then some (i + 1, ls, st, pPut g (aM o q) 10 .null) else none) = _
    rw [if_pos ⟨(hg.2.1 _ _ _ (shp_msg ho hq)).1, by decide, rfl⟩]
  · obtain ⟨c1, c2, c3, c4, c5, c6⟩ := hg.mat ho hq
    refine hg.msg (M := pU (pM g) (aM o q) 10 .null) ho hq (fun a j hn => if_neg (fun z => hn (Or.inl ⟨z.1, by omega⟩))) ⟨fun j j1 j9 => (if_neg (fun z => by have := z.2; omega)).trans (c1 j j1 j9), c2, fun y => if_pos ⟨rfl, rfl⟩, fun r hr2 => (by cases hr2), ⟨c5.1, c5.2.mv (fun j => if_neg (fun z => by have := z.1; omega)) (fun _ _ z => z)⟩, fun j e he => ?_⟩
    obtain ⟨p, d1, d2⟩ := c6 j e he
    exact ⟨p, (if_neg (fun z => by have := z.1; omega)).trans d1, d2⟩
theorem AT.p_3_10s {n p : Nat} {r : ENT} (hM : qPT m = M) (hr : M.1[i]? = some (pc, .putfield n, ln, 3, 10, r3)) (ho : o < 2) (hq : q < 61) (hp : dSn (xD X) p r) (kk : AT m (i + 1) ls st (xMsg X o q ((dH (xD X) o q).1, some r, (dH (xD X) o q).2.2)) Q) : AT m i ls (.ref p :: .ref (aM o q) :: st) X Q := by
  refine AT.write hM hr rfl (fun g hg => ⟨pPut g (aM o q) 10 (.ref p), ?_, ?_⟩) kk
  · show (if pK g (aM o q) = 3 ∧ 10 < pF 3 ∧ fits (pT 3 10) (.ref p) = true then some (i + 1, ls, st, pPut g (aM o q) 10 (.ref p)) else none) = _
    rw [if_pos ⟨(hg.2.1 _ _ _ (shp_msg ho hq)).1, by decide, rfl⟩]
  · obtain ⟨c1, c2, c3, c4, c5, c6⟩ := hg.mat ho hq
    refine hg.msg (M := pU (pM g) (aM o q) 10 (.ref p)) ho hq (fun a j hn => if_neg (fun z => hn (Or.inl ⟨z.1, by omega⟩))) ⟨fun j j1 j9 => (if_neg (fun z => by have := z.2; omega)).trans (c1 j j1 j9), c2, fun y => (by cases y), fun r' hr2 => ?_, ⟨c5.1, c5.2.mv (fun j => if_neg (fun z => by have := z.1; omega)) (fun _ _ z => z)⟩, fun j e he => ?_⟩
    · have e2 : r = r' := Option.some.inj hr2
      subst e2
      exact ⟨p, if_pos ⟨rfl, rfl⟩, hp⟩
    · obtain ⟨p', d1, d2⟩ := c6 j e he
      exact ⟨p', (if_neg (fun z => by have := z.1; omega)).trans d1, d2⟩
/-- what lies in the entries' row counts no more -/
theorem AT.clr (ho : o < 2) (hq : q < 61) (n : Nat) (kk : AT m i ls st (xMsg X o q ((dH (xD X) o q).1, (dH (xD X) o q).2.1, (dH (xD X) o q).2.2.take n)) Q) : AT m i ls st X Q := by
  intro g hg
  obtain ⟨c1, c2, c3, c4, c5, c6⟩ := hg.mat ho hq
  refine kk _ (hg.msg (M := pM g) ho hq (fun a j hn => rfl) ⟨c1, c2, c3, c4, ?_, fun j e he => ?_⟩)
  · refine ⟨?_, c5.2⟩
    show ((dH (xD X) o q).2.2.take n).length ≤ 4
    rw [List.length_take]; have := c5.1; omega
  · have he' : ((dH (xD X) o q).2.2.take n)[j]? = some e := he
    rw [List.getElem?_take] at he'
    split at he'
    · exact c6 j e he'
    · cases he'
/-- an entry is put into a message -/
theorem AT.s_ent {p j : Nat} {e : ENT} {y : Int32} (hM : qPT m = M) (hr : M.1[i]? = some (pc, .aastore, ln, r1, r2, r3)) (hy : y = Int32.ofNat j) (ho : o < 2) (hq : q < 61) (hj : j < 4) (hl : j ≤ (dH (xD X) o q).2.2.length) (hp : dE (xD X) p = (1, e)) (kk : AT m (i + 1) ls st (xMsg X o q ((dH (xD X) o q).1, (dH (xD X) o q).2.1, (dH (xD X) o q).2.2.take j ++ [e])) Q) : AT m i ls (.ref p :: .int y :: .ref (aM o q + 1) :: st) X Q := by
  subst hy
  refine AT.write hM hr rfl (fun g hg => ⟨pPut g (aM o q + 1) j (.ref p), ?_, ?_⟩) kk
  · have hs := hg.2.1 _ _ _ (shp_ment ho hq)
    have hk := (dE.ent hp hg).1
    show (if 15 ≤ pK g (aM o q + 1) ∧ pK g (aM o q + 1) ≤ 19 ∧ pK g p = pE (pK g (aM o q + 1)) ∧ ¬ (Int32.ofNat j < 0 ∨ pL g (aM o q + 1) ≤ (Int32.ofNat j).toNatClampNeg) then some (i + 1, ls, st, pPut g (aM o q + 1) (Int32.ofNat j).toNatClampNeg (.ref p)) else none) = _
    rw [hs.1, hs.2 (by decide), hk, if_pos ⟨by decide, by decide, rfl, i32_in (by omega) hj⟩, (i32_ix (by omega)).1]
  · obtain ⟨c1, c2, c3, c4, c5, c6⟩ := hg.mat ho hq
    have hlt : ((dH (xD X) o q).2.2.take j).length = j := by rw [List.length_take]; omega
    refine hg.msg (M := pU (pM g) (aM o q + 1) j (.ref p)) ho hq (fun a j' hn => if_neg (fun z => hn (Or.inr z.1))) ⟨fun j' j1 j9 => (if_neg (fun z => by have := z.1; omega)).trans (c1 j' j1 j9), c2, fun y => (if_neg (fun z => by have := z.1; omega)).trans (c3 y), fun r hr2 => ?_, ?_, fun j' e' he' => ?_⟩
    · obtain ⟨p', d1, d2⟩ := c4 r hr2
      exact ⟨p', (if_neg (fun z => by have := z.1; omega)).trans d1, d2⟩
    · refine ⟨?_, fun j' hj' => ?_⟩
      rotate_left
      · by_cases e1 : j' = j
        · exact Or.inr ⟨p, e, if_pos ⟨rfl, e1⟩, hp⟩
        · have e2 : pM (pSet g (pU (pM g) (aM o q + 1) j (.ref p))) (aM o q + 1) j' = pM g (aM o q + 1) j' := if_neg (fun z => e1 z.2)
          rw [e2]
          exact c5.2 j' hj'
      show ((dH (xD X) o q).2.2.take j ++ [e]).length ≤ 4
      rw [List.length_append, hlt]
      show j + 1 ≤ 4
      omega
    · have he2 : ((dH (xD X) o q).2.2.take j ++ [e])[j']? = some e' := he'
      by_cases e1 : j' = j
      · subst e1
        rw [List.getElem?_append_right (by omega), hlt, Nat.sub_self] at he2
        have e3 : e = e' := Option.some.inj he2
        subst e3
        exact ⟨p, if_pos ⟨rfl, rfl⟩, hp⟩
      · have hlt2 : j' < j := by
          have := (List.getElem?_eq_some_iff.mp he2).1
          rw [List.length_append, hlt] at this
          have : j' < j + 1 := this
          omega
        rw [List.getElem?_append_left (by omega), List.getElem?_take, if_pos hlt2] at he2
        obtain ⟨p', d1, d2⟩ := c6 j' e' he2
        exact ⟨p', (if_neg (fun z => e1 z.2)).trans d1, d2⟩
end ATM2
