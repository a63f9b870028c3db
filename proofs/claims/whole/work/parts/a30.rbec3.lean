/-! ===== THE REFERENCE: become ===== -/
theorem AT2.gfg {m i pc ln r1 r2 r3 : Nat} {ls : PV} {st : List Value} {X : XS} {Q : (PS → PS) × (PO → PS → Prop)} {M : PMet} {n a : Nat} {v : Value} (hM : qPT m = M) (hr : M.1[i]? = some (pc, .getfield n, ln, r1, r2, r3)) (hs : ∀ g, Rep X g → pK (Q.1 g) a = r1) (h2 : r2 < pF r1) (hv : ∀ g, Rep X g → pM (Q.1 g) a r2 = v) (k : AT2 m (i + 1) ls (v :: st) X Q) : AT2 m i ls (.ref a :: st) X Q := by
  intro g hg
  refine PW.plain hM hr rfl (q := (i + 1, ls, v :: st, Q.1 g)) ?_ (k g hg)
  show (if pK (Q.1 g) a = r1 ∧ r2 < pF r1 then some (i + 1, ls, pM (Q.1 g) a r2 :: st, Q.1 g) else none) = _
  rw [if_pos ⟨hs g hg, h2⟩, hv g hg]
theorem AT.dpost {X : XS} {o p : Nat} {Q : PO → XS → Prop} {x2 : Option Value} (h2 : 2 ≤ o) (h4 : o < 4) (p2 : 2 ≤ p) (p4 : p < 4) (hpo : ¬ p = o)
    (k : AT 181 168 [some (.ref (bB o)), some (.ref (bB p)), x2] [] (xSetK (xSetD X (dRowV (xD X) o 41 0 (vPut (dV (xD X) o 41 0) 0 (36 * (xK X p).2.2.length) (fun c => dV (xD X) p 41 0 c)))) o (kNet (xK X o) (xK X p).2.2)) Q) : AT 181 153 [some (.ref (bB o)), some (.ref (bB p)), x2] [] X Q := by
  refine AT.rep (fun hr9 => ?_)
  have h60 := (hr9.choose_spec.2.2.2.2.2.2.1 p p4).1
  have hpx := hr9.choose_spec.2.2.2.2.2.2.2.2.2.2.2.2.2.1 p p2 p4
  have hbp : ¬ bB p = bB o := by dsimp only [bB]; omega
  refine AT.aload_n M_181 rfl rfl ?_
  refine AT.aload_n M_181 rfl rfl ?_
  refine AT.r10_22 M_181 rfl p2 p4 ?_
  generalize hn : (xK X p).2.2.length = n at h60 k
  have hc : AT2 181 157 [some (.ref (bB o)), some (.ref (bB p)), x2] [] X (fun g => pPut g (bB o) 22 (.int (Int32.ofNat n)), fun o' g' => ∃ X', Rep X' g' ∧ Q o' X') := by
    refine AT2.aload_n M_181 rfl rfl ?_
    refine AT2.gfg (v := .ref (bB p + 56)) M_181 rfl (fun g hg => (hg.2.1 _ _ _ (sh_st p2 p4)).1) (by decide) (fun g hg => (if_neg (fun z => hbp z.1)).trans (hg.2.2.2.1 _ _ _ (sfr p2 p4 (Or.inr (Or.inr (Or.inr (Or.inr (Or.inr (Or.inl ⟨rfl, by omega, by omega, rfl⟩))))))))) ?_
    refine AT2.iconst M_181 rfl (v := 0) (by decide) ?_
    refine AT2.aload_n M_181 rfl rfl ?_
    refine AT2.gfg (v := .ref (bB o + 56)) M_181 rfl (fun g hg => (hg.2.1 _ _ _ (sh_st h2 h4)).1) (by decide) (fun g hg => (if_neg (fun z => absurd z.2 (by decide))).trans (hg.2.2.2.1 _ _ _ (sfr h2 h4 (Or.inr (Or.inr (Or.inr (Or.inr (Or.inr (Or.inl ⟨rfl, by omega, by omega, rfl⟩))))))))) ?_
    refine AT2.iconst M_181 rfl (v := 0) (by decide) ?_
    refine AT2.aload_n M_181 rfl rfl ?_
    refine AT2.gfg (v := .int (Int32.ofNat n)) M_181 rfl (fun g hg => (hg.2.1 _ _ _ (sh_st h2 h4)).1) (by decide) (fun g hg => if_pos ⟨rfl, rfl⟩) ?_
    refine AT2.bipush M_181 rfl (v := 36) (by decide) ?_
    refine AT2.imul M_181 rfl rfl ?_
    rw [i32_36]
    intro g hg
    have e1 := hg.2.1 _ _ _ (sh_post (o := p) p2 p4)
    have e2 := hg.2.1 _ _ _ (sh_post (o := o) h2 h4)
    have l1 := e1.2 (by omega)
    have l2 := e2.2 (by omega)
    refine PW.acp M_181 rfl rfl (q := (168, [some (.ref (bB o)), some (.ref (bB p)), x2], [], pCpy (pPut g (bB o) 22 (.int (Int32.ofNat n))) (bB p + 56) 0 (bB o + 56) 0 (36 * n))) ?_ (Or.inl (Nat.zero_le _)) ?_
    · unfold pAcp
      dsimp only
      rw [(i32_ix (show 36 * n < 2147483648 by omega)).1]
      exact if_pos ⟨Or.inl e1.1, e2.1.trans e1.1.symm, (i32_ix (by omega)).2, by decide, by decide, (show 0 + 36 * n ≤ pL g (bB p + 56) by rw [l1]; omega), (show 0 + 36 * n ≤ pL g (bB o + 56) by rw [l2]; omega)⟩
    have eH : pCpy (pPut g (bB o) 22 (.int (Int32.ofNat n))) (bB p + 56) 0 (bB o + 56) 0 (36 * n) = pPut (pSet g (fun u c => if u = bB o + 56 ∧ 0 ≤ c ∧ c < 0 + 36 * n then pM g (bB p + 56) (0 + (c - 0)) else pM g u c)) (bB o) 22 (.int (Int32.ofNat n)) := by
      show (g.1, g.2.1, _, g.2.2.2) = (g.1, g.2.1, _, g.2.2.2)
      refine Prod.ext rfl (Prod.ext rfl (Prod.ext (funext fun u => funext fun y => ?_) rfl))
      show (if u = bB o + 56 ∧ 0 ≤ y ∧ y < 0 + 36 * n then (if bB p + 56 = bB o ∧ 0 + (y - 0) = 22 then Value.int (Int32.ofNat n) else pM g (bB p + 56) (0 + (y - 0))) else if u = bB o ∧ y = 22 then Value.int (Int32.ofNat n) else pM g u y) = if u = bB o ∧ y = 22 then Value.int (Int32.ofNat n) else if u = bB o + 56 ∧ 0 ≤ y ∧ y < 0 + 36 * n then pM g (bB p + 56) (0 + (y - 0)) else pM g u y
      by_cases c1 : u = bB o + 56 ∧ 0 ≤ y ∧ y < 0 + 36 * n
      · rw [if_pos c1, if_neg (show ¬ (bB p + 56 = bB o ∧ 0 + (y - 0) = 22) by dsimp only [bB]; omega), if_neg (show ¬ (u = bB o ∧ y = 22) by omega), if_pos c1]
      · rw [if_neg c1, if_neg c1]
    show PW 181 168 _ [] (pCpy (pPut g (bB o) 22 (.int (Int32.ofNat n))) (bB p + 56) 0 (bB o + 56) 0 (36 * n)) _
    rw [eH]
    have r := Rep.post2 (o := o) (Pk := fun q => q < 36 * n) (w := vPut (dV (xD X) o 41 0) 0 (36 * n) (fun c => dV (xD X) p 41 0 c)) (l' := (xK X p).2.2) (M := fun u c => if u = bB o + 56 ∧ 0 ≤ c ∧ c < 0 + 36 * n then pM g (bB p + 56) (0 + (c - 0)) else pM g u c) hg h2 h4 (fun q hq => by omega) (fun a q z => if_neg (fun y => z ⟨y.1, by have := y.2.2; omega⟩))
      (fun q hq => (if_pos ⟨rfl, Nat.zero_le _, by omega⟩).trans (by
        rw [Nat.zero_add, Nat.sub_zero]
        unfold vPut
        rw [if_pos ⟨Nat.zero_le _, by omega⟩, Nat.sub_zero]
        exact hg.2.2.1 p 41 0 q (bB p + 56) q (lo_post p2 p4 (by omega))))
      (fun q hq => if_neg (by omega)) (by rw [hn]; exact h60) (fun j u hu c hc => by
        have hj := (List.getElem?_eq_some_iff.mp hu).1
        unfold vPut
        rw [if_pos (by omega), Nat.sub_zero]
        exact hpx j u hu c hc)
    rw [hn] at r
    exact k _ r
  intro g hg
  refine PW.plain M_181 rfl rfl (q := (157, [some (.ref (bB o)), some (.ref (bB p)), x2], [], pPut g (bB o) 22 (.int (Int32.ofNat n)))) ?_ (hc g hg)
  show (if pK g (bB o) = 10 ∧ (22 : Nat) < pF 10 ∧ fits (pT 10 22) (.int (Int32.ofNat n)) = true then _ else _) = _
  rw [if_pos ⟨(hg.2.1 _ _ _ (sh_st h2 h4)).1, by decide, rfl⟩]
