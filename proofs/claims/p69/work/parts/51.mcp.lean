/-! ===== A MESSAGE IS COPIED ===== -/
theorem xMs.cell {X : XS} {o q : Nat} (ho : o < 2) (hq : q < 61) : xMs X (aM o q) (dH (xD X) o q) := fun g hg => ⟨(hg.2.1 _ _ _ (shp_msg ho hq)).1, hg.mat ho hq⟩
section ATS
variable {m i pc ln r1 r2 r3 : Nat} {ls : PV} {st : List Value} {X : XS} {Q : PO → XS → Prop} {M : PMet} {o q a : Nat} {u : MSG}
theorem AT.f_3_10n {n : Nat} (hM : qPT m = M) (hr : M.1[i]? = some (pc, .getfield n, ln, 3, 10, r3)) (hm : xMs X a u) (h : u.2.1 = none) (k : AT m (i + 1) ls (.null :: st) X Q) : AT m i ls (.ref a :: st) X Q := AT.gf hM hr (fun g hg => (hm g hg).1) (by decide) (fun g hg => (hm g hg).2.2.2.1 h) k
theorem AT.f_3_10s {n : Nat} {r : ENT} (hM : qPT m = M) (hr : M.1[i]? = some (pc, .getfield n, ln, 3, 10, r3)) (hm : xMs X a u) (h : u.2.1 = some r) (k : ∀ p, dSn (xD X) p r → AT m (i + 1) ls (.ref p :: st) X Q) : AT m i ls (.ref a :: st) X Q :=
  AT.gfx (v := fun p => Value.ref p) (P := fun p => dSn (xD X) p r) hM hr (fun g hg => (hm g hg).1) (by decide) (fun g hg => by obtain ⟨p, h1, h2⟩ := (hm g hg).2.2.2.2.1 r h; exact ⟨p, h2, h1⟩) k
/-- nothing or an entry -/
def vSl (X : XS) (x : Value) : Prop := x = .null ∨ ∃ p e, x = .ref p ∧ dE (xD X) p = (1, e)
theorem AT.a_slot {y : Int32} {j : Nat} (hM : qPT m = M) (hr : M.1[i]? = some (pc, .aaload, ln, r1, r2, r3)) (hy : y = Int32.ofNat j) (ho : o < 2) (hq : q < 61) (hj : j < 4) (k : ∀ x, vSl X x → (∀ e, (dH (xD X) o q).2.2[j]? = some e → ∃ p, x = .ref p ∧ dE (xD X) p = (1, e)) → AT m (i + 1) ls (x :: st) X Q) : AT m i ls (.int y :: .ref (aM o q + 1) :: st) X Q := by
  subst hy
  intro g hg
  have hs := hg.2.1 _ _ _ (shp_ment ho hq)
  obtain ⟨c1, c2, c3, c4, c5, c6⟩ := hg.mat ho hq
  refine PW.plain hM hr rfl (q := (i + 1, ls, pM g (aM o q + 1) j :: st, g)) ?_ (k _ (c5.2 j hj) (fun e he => ?_) g hg)
  · show (if 15 ≤ pK g (aM o q + 1) ∧ pK g (aM o q + 1) ≤ 19 ∧ ¬ (Int32.ofNat j < 0 ∨ pL g (aM o q + 1) ≤ (Int32.ofNat j).toNatClampNeg) then some (i + 1, ls, pM g (aM o q + 1) (Int32.ofNat j).toNatClampNeg :: st, g) else none) = _
    rw [hs.1, hs.2 (by decide), if_pos ⟨by decide, by decide, i32_in (by omega) hj⟩, (i32_ix (by omega)).1]
  · exact c6 j e he
theorem AT.s_slot {x : Value} {j : Nat} {y : Int32} {l : List ENT} (hM : qPT m = M) (hr : M.1[i]? = some (pc, .aastore, ln, r1, r2, r3)) (hy : y = Int32.ofNat j) (ho : o < 2) (hq : q < 61) (hj : j < 4) (hx : vSl X x) (hl : l.length ≤ 4) (hl2 : ∀ i' e, l[i']? = some e → (i' = j → ∃ p, x = .ref p ∧ dE (xD X) p = (1, e)) ∧ (i' ≠ j → (dH (xD X) o q).2.2[i']? = some e)) (kk : AT m (i + 1) ls st (xMsg X o q ((dH (xD X) o q).1, (dH (xD X) o q).2.1, l)) Q) : AT m i ls (x :: .int y :: .ref (aM o q + 1) :: st) X Q := by
  subst hy
  refine AT.write hM hr rfl (fun g hg => ⟨pPut g (aM o q + 1) j x, ?_, ?_⟩) kk
  · have hs := hg.2.1 _ _ _ (shp_ment ho hq)
    rcases hx with rfl | ⟨p, e, rfl, hp⟩
    · show (if 15 ≤ pK g (aM o q + 1) ∧ pK g (aM o q + 1) ≤ 18 ∧ ¬ (Int32.ofNat j < 0 ∨ pL g (aM o q + 1) ≤ (Int32.ofNat j).toNatClampNeg) then some (i + 1, ls, st, pPut g (aM o q + 1) (Int32.ofNat j).toNatClampNeg .null) else none) = _
      rw [hs.1, hs.2 (by decide), if_pos ⟨by decide, by decide, i32_in (by omega) hj⟩, (i32_ix (by omega)).1]
    · have hk := (dE.ent hp hg).1
      show (if 15 ≤ pK g (aM o q + 1) ∧ pK g (aM o q + 1) ≤ 19 ∧ pK g p = pE (pK g (aM o q + 1)) ∧ ¬ (Int32.ofNat j < 0 ∨ pL g (aM o q + 1) ≤ (Int32.ofNat j).toNatClampNeg) then some (i + 1, ls, st, pPut g (aM o q + 1) (Int32.ofNat j).toNatClampNeg (.ref p)) else none) = _
      rw [hs.1, hs.2 (by decide), hk, if_pos ⟨by decide, by decide, rfl, i32_in (by omega) hj⟩, (i32_ix (by omega)).1]
  · obtain ⟨c1, c2, c3, c4, c5, c6⟩ := hg.mat ho hq
    refine hg.msg (M := pU (pM g) (aM o q + 1) j x) ho hq (fun a j' hn => if_neg (fun z => hn (Or.inr z.1))) ⟨fun j' j1 j9 => (if_neg (fun z => by have := z.1; omega)).trans (c1 j' j1 j9), c2, fun y => (if_neg (fun z => by have := z.1; omega)).trans (c3 y), fun r hr2 => ?_, ⟨hl, fun j' hj' => ?_⟩, fun j' e' he' => ?_⟩
    · obtain ⟨p', d1, d2⟩ := c4 r hr2
      exact ⟨p', (if_neg (fun z => by have := z.1; omega)).trans d1, d2⟩
    · by_cases e1 : j' = j
      · have e2 : pM (pSet g (pU (pM g) (aM o q + 1) j x)) (aM o q + 1) j' = x := if_pos ⟨rfl, e1⟩
        rw [e2]; exact hx
      · have e2 : pM (pSet g (pU (pM g) (aM o q + 1) j x)) (aM o q + 1) j' = pM g (aM o q + 1) j' := if_neg (fun z => e1 z.2)
        rw [e2]; exact c5.2 j' hj'
    · have h2 := hl2 j' e' he'
      by_cases e1 : j' = j
      · obtain ⟨p, d1, d2⟩ := h2.1 e1
        exact ⟨p, (if_pos ⟨rfl, e1⟩).trans d1, d2⟩
      · obtain ⟨p, d1, d2⟩ := c6 j' e' (h2.2 e1)
        exact ⟨p, (if_neg (fun z => e1 z.2)).trans d1, d2⟩
end ATS
def mCopy (u w : MSG) : MSG := (fun j => if 1 ≤ j ∧ j ≤ 9 then w.1 j else u.1 j, w.2)
theorem dH_msg_o {X : XS} {o q o' q' : Nat} (u : MSG) (h : ¬ (o' = o ∧ q' = q)) : dH (xD (xMsg X o q u)) o' q' = dH (xD X) o' q' := if_neg h
theorem l_44 {X : XS} {o q o' q' : Nat} (ho : o < 2) (hq : q < 61) (ho2 : o' < 2) (hq2 : q' < 61) (hne : ¬ (o' = o ∧ q' = q)) {w : MSG} (hw : dH (xD X) o' q' = w) : ∀ n j : Nat, j + n = 4 → ∀ u : Nat → Int32, ∀ sn, AT 44 42 [some (.ref (aM o q)), some (.ref (aM o' q')), some (.int (Int32.ofNat j))] [] (xMsg X o q (u, sn, w.2.2.take j)) (fun o'' Y => o'' = .inl none ∧ Y = xMsg X o q (u, sn, w.2.2.take 4))
  | 0, j, hj, u, sn => by
    refine AT.iload_n M_44 rfl rfl ?_
    refine AT.iconst M_44 rfl (v := 4) (by decide) ?_
    refine AT.icmp_ge M_44 rfl (fun b => ?_) (fun b => ?_)
    · refine AT.vret M_44 rfl rfl ?_
      rw [show j = 4 by omega]
      exact ⟨rfl, rfl⟩
    · exact absurd (by rw [show j = 4 by omega]; exact Int32.le_refl _) b
  | n + 1, j, hj, u, sn => by
    have hd : ∀ v, dH (xD (xMsg X o q v)) o' q' = w := fun v => (dH_msg_o v hne).trans hw
    refine AT.iload_n M_44 rfl rfl ?_
    refine AT.iconst M_44 rfl (v := 4) (by decide) ?_
    refine AT.icmp_ge M_44 rfl (fun b => ?_) (fun b => ?_)
    · exact absurd ((i32_le (a := 4) (by omega) (by omega)).mp b) (by omega)
    refine AT.aload_n M_44 rfl rfl ?_
    refine AT.f_3_0 M_44 rfl ho hq ?_
    refine AT.iload_n M_44 rfl rfl ?_
    refine AT.aload_n M_44 rfl rfl ?_
    refine AT.f_3_0 M_44 rfl ho2 hq2 ?_
    refine AT.iload_n M_44 rfl rfl ?_
    refine AT.a_slot M_44 rfl rfl ho2 hq2 (by omega) (fun x hx hx2 => ?_)
    rw [hd] at hx2
    refine AT.s_slot (l := w.2.2.take (j + 1)) M_44 rfl rfl ho hq (by omega) hx (by rw [List.length_take]; omega) (fun i e he => ?_) ?_
    · rw [List.getElem?_take] at he
      split at he
      · rename_i hi
        refine ⟨fun z => hx2 e (by rw [← z]; exact he), fun z => ?_⟩
        rw [dH_msg]
        show (w.2.2.take j)[i]? = some e
        rw [List.getElem?_take, if_pos (by omega)]
        exact he
      · cases he
    rw [dH_msg, xMsg_idem]
    refine AT.iinc2 M_44 rfl rfl (i32_succ _) ?_
    refine AT.goto M_44 rfl ?_
    exact l_44 ho hq ho2 hq2 hne hw n (j + 1) (by omega) u sn
theorem c_44 {X : XS} {o q o' q' : Nat} (ho : o < 2) (hq : q < 61) (ho2 : o' < 2) (hq2 : q' < 61) (hne : ¬ (o' = o ∧ q' = q)) : RT 44 [some (.ref (aM o q)), some (.ref (aM o' q')), none] X none (xMsg X o q (mCopy (dH (xD X) o q) (dH (xD X) o' q'))) := by
  have hw : ∀ v, dH (xD (xMsg X o q v)) o' q' = dH (xD X) o' q' := fun v => dH_msg_o v hne
  have hm : ∀ v, xMs (xMsg X o q v) (aM o' q') (dH (xD X) o' q') := fun v => by have := xMs.cell (X := xMsg X o q v) ho2 hq2; rw [hw v] at this; exact this
  have h01 : ∀ g, Rep X g → (dH (xD X) o' q').1 5 = 0 ∨ (dH (xD X) o' q').1 5 = 1 := fun g hg => (hg.mat ho2 hq2).2.1
  intro g0 hg0
  replace h01 := h01 g0 hg0
  have hl4 : (dH (xD X) o' q').2.2.length ≤ 4 := (hg0.mat ho2 hq2).2.2.2.2.1.1
  revert g0
  refine AT.aload_n M_44 rfl rfl ?_
  refine AT.aload_n M_44 rfl rfl ?_
  refine AT.f_3_1 M_44 rfl (xMs.cell ho2 hq2) ?_
  refine AT.p_3 (k := 1) M_44 rfl ho hq (by decide) (by decide) (by decide) rfl (fun z => absurd z (by decide)) ?_
  refine AT.aload_n M_44 rfl rfl ?_
  refine AT.aload_n M_44 rfl rfl ?_
  refine AT.f_3_2 M_44 rfl (hm _) ?_
  refine AT.p_3 (k := 2) M_44 rfl ho hq (by decide) (by decide) (by decide) rfl (fun z => absurd z (by decide)) ?_
  rw [dH_msg, xMsg_idem]
  refine AT.aload_n M_44 rfl rfl ?_
  refine AT.aload_n M_44 rfl rfl ?_
  refine AT.f_3_3 M_44 rfl (hm _) ?_
  refine AT.p_3 (k := 3) M_44 rfl ho hq (by decide) (by decide) (by decide) rfl (fun z => absurd z (by decide)) ?_
  rw [dH_msg, xMsg_idem]
  refine AT.aload_n M_44 rfl rfl ?_
  refine AT.aload_n M_44 rfl rfl ?_
  refine AT.f_3_4 M_44 rfl (hm _) ?_
  refine AT.p_3 (k := 4) M_44 rfl ho hq (by decide) (by decide) (by decide) rfl (fun z => absurd z (by decide)) ?_
  rw [dH_msg, xMsg_idem]
  refine AT.aload_n M_44 rfl rfl ?_
  refine AT.aload_n M_44 rfl rfl ?_
  refine AT.f_3_5 M_44 rfl (hm _) ?_
  refine AT.p_3 (k := 5) M_44 rfl ho hq (by decide) (by decide) (by decide) (by rcases h01 with z | z <;> rw [z] <;> rfl) (fun _ => h01) ?_
  rw [dH_msg, xMsg_idem]
  refine AT.aload_n M_44 rfl rfl ?_
  refine AT.aload_n M_44 rfl rfl ?_
  refine AT.f_3_6 M_44 rfl (hm _) ?_
  refine AT.p_3 (k := 6) M_44 rfl ho hq (by decide) (by decide) (by decide) rfl (fun z => absurd z (by decide)) ?_
  rw [dH_msg, xMsg_idem]
  refine AT.aload_n M_44 rfl rfl ?_
  refine AT.aload_n M_44 rfl rfl ?_
  refine AT.f_3_7 M_44 rfl (hm _) ?_
  refine AT.p_3 (k := 7) M_44 rfl ho hq (by decide) (by decide) (by decide) rfl (fun z => absurd z (by decide)) ?_
  rw [dH_msg, xMsg_idem]
  refine AT.aload_n M_44 rfl rfl ?_
  refine AT.aload_n M_44 rfl rfl ?_
  refine AT.f_3_8 M_44 rfl (hm _) ?_
  refine AT.p_3 (k := 8) M_44 rfl ho hq (by decide) (by decide) (by decide) rfl (fun z => absurd z (by decide)) ?_
  rw [dH_msg, xMsg_idem]
  refine AT.aload_n M_44 rfl rfl ?_
  refine AT.aload_n M_44 rfl rfl ?_
  refine AT.f_3_9 M_44 rfl (hm _) ?_
  refine AT.p_3 (k := 9) M_44 rfl ho hq (by decide) (by decide) (by decide) rfl (fun z => absurd z (by decide)) ?_
  rw [dH_msg, xMsg_idem]
  refine AT.aload_n M_44 rfl rfl ?_
  refine AT.aload_n M_44 rfl rfl ?_
  have fin : ∀ (U : Nat → Int32), (∀ j, U j = if 1 ≤ j ∧ j ≤ 9 then (dH (xD X) o' q').1 j else (dH (xD X) o q).1 j) → AT 44 40 [some (.ref (aM o q)), some (.ref (aM o' q')), none] [] (xMsg X o q (U, (dH (xD X) o' q').2.1, (dH (xD X) o q).2.2)) (fun o'' Y => o'' = .inl none ∧ Y = xMsg X o q (mCopy (dH (xD X) o q) (dH (xD X) o' q'))) := fun U hU => by
    refine AT.clr ho hq 0 ?_
    rw [dH_msg, xMsg_idem, List.take_zero]
    refine AT.iconst M_44 rfl (v := 0) (by decide) ?_
    refine AT.ist2 M_44 rfl rfl ?_
    have h := l_44 (X := X) ho hq ho2 hq2 hne rfl 4 0 rfl U (dH (xD X) o' q').2.1
    rw [List.take_zero, List.take_of_length_le hl4] at h
    rw [show mCopy (dH (xD X) o q) (dH (xD X) o' q') = (U, (dH (xD X) o' q').2.1, (dH (xD X) o' q').2.2) from Prod.ext (funext fun j => (hU j).symm) rfl]
    exact h
  cases hs : (dH (xD X) o' q').2.1 with
  | none =>
    refine AT.f_3_10n M_44 rfl (hm _) hs ?_
    refine AT.p_3_10n M_44 rfl ho hq ?_
    rw [dH_msg, xMsg_idem, ← hs]
    exact fin (fun j => if j = 9 then (dH (xD X) o' q').1 9 else if j = 8 then (dH (xD X) o' q').1 8 else if j = 7 then (dH (xD X) o' q').1 7 else if j = 6 then (dH (xD X) o' q').1 6 else if j = 5 then (dH (xD X) o' q').1 5 else if j = 4 then (dH (xD X) o' q').1 4 else if j = 3 then (dH (xD X) o' q').1 3 else if j = 2 then (dH (xD X) o' q').1 2 else if j = 1 then (dH (xD X) o' q').1 1 else (dH (xD X) o q).1 j) (fun j => by
      rcases (show j = 0 ∨ j = 1 ∨ j = 2 ∨ j = 3 ∨ j = 4 ∨ j = 5 ∨ j = 6 ∨ j = 7 ∨ j = 8 ∨ j = 9 ∨ 10 ≤ j by omega) with rfl | rfl | rfl | rfl | rfl | rfl | rfl | rfl | rfl | rfl | h
      all_goals first | rfl | skip
      rw [if_neg (by omega), if_neg (by omega), if_neg (by omega), if_neg (by omega), if_neg (by omega), if_neg (by omega), if_neg (by omega), if_neg (by omega), if_neg (by omega), if_neg (by omega)])
  | some r =>
    refine AT.f_3_10s M_44 rfl (hm _) hs (fun p hp => ?_)
    refine AT.p_3_10s M_44 rfl ho hq hp ?_
    rw [dH_msg, xMsg_idem, ← hs]
    exact fin (fun j => if j = 9 then (dH (xD X) o' q').1 9 else if j = 8 then (dH (xD X) o' q').1 8 else if j = 7 then (dH (xD X) o' q').1 7 else if j = 6 then (dH (xD X) o' q').1 6 else if j = 5 then (dH (xD X) o' q').1 5 else if j = 4 then (dH (xD X) o' q').1 4 else if j = 3 then (dH (xD X) o' q').1 3 else if j = 2 then (dH (xD X) o' q').1 2 else if j = 1 then (dH (xD X) o' q').1 1 else (dH (xD X) o q).1 j) (fun j => by
      rcases (show j = 0 ∨ j = 1 ∨ j = 2 ∨ j = 3 ∨ j = 4 ∨ j = 5 ∨ j = 6 ∨ j = 7 ∨ j = 8 ∨ j = 9 ∨ 10 ≤ j by omega) with rfl | rfl | rfl | rfl | rfl | rfl | rfl | rfl | rfl | rfl | h
      all_goals first | rfl | skip
      rw [if_neg (by omega), if_neg (by omega), if_neg (by omega), if_neg (by omega), if_neg (by omega), if_neg (by omega), if_neg (by omega), if_neg (by omega), if_neg (by omega), if_neg (by omega)])
