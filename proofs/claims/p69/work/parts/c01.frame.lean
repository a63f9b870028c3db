/-! ===== THE LAW'S OWN ROWS (cells of kind 13): the class leaves them alone ===== -/
/-- cells of kind 13 stay as they are -/
def k13 (g g' : PS) : Prop := pN g ≤ pN g' ∧ ∀ a, a < pN g → pK g a = 13 → pK g' a = 13 ∧ pL g' a = pL g a ∧ ∀ j, pM g' a j = pM g a j
theorem k13.rf (g : PS) : k13 g g := ⟨Nat.le_refl _, fun _ _ h => ⟨h, rfl, fun _ => rfl⟩⟩
theorem k13.tr {g g1 g2 : PS} (h : k13 g g1) (k : k13 g1 g2) : k13 g g2 := ⟨Nat.le_trans h.1 k.1, fun a ha hk => by
  obtain ⟨h1, h2, h3⟩ := h.2 a ha hk
  obtain ⟨k1, k2, k3⟩ := k.2 a (Nat.lt_of_lt_of_le ha h.1) h1
  exact ⟨k1, k2.trans h2, fun j => (k3 j).trans (h3 j)⟩⟩
theorem k13.put {g : PS} {a k : Nat} {v : Value} (h : pK g a ≠ 13) : k13 g (pPut g a k v) := ⟨Nat.le_refl _, fun x _ hk => ⟨hk, rfl, fun j => by
  rw [pM_put, if_neg (fun z => h (by rw [← z.1]; exact hk))]⟩⟩
theorem k13.new {g : PS} {kd ln z : Nat} {row : Nat → Value} : k13 g (pNew g kd ln z row) := ⟨Nat.le_succ _, fun x hx hk => ⟨by rw [pK_new, if_neg (by omega)]; exact hk, by rw [pL_new, if_neg (by omega)], fun j => by rw [pM_new, if_neg (by omega)]⟩⟩
theorem k13.thr (g : PS) : k13 g (pThr g) := ⟨Nat.le_succ _, fun x hx hk => ⟨(if_neg (by omega)).trans hk, rfl, fun _ => rfl⟩⟩
theorem k13.cpy {g : PS} {a i b j n : Nat} (h : pK g b ≠ 13) : k13 g (pCpy g a i b j n) := ⟨Nat.le_refl _, fun x _ hk => ⟨hk, rfl, fun q => if_neg (fun z => h (by rw [← z.1]; exact hk))⟩⟩
theorem pStep_h {ins : Instr} {nx r1 r2 : Nat} {ls : PV} {st : List Value} {g : PS} {q : PR} (h : pStep ins nx r1 r2 ls st g = some q) (hi : ins = .iastore → ¬ r1 = 1) : k13 g q.2.2.2 := by
  cases ins
  case putfield idx =>
    unfold pStep at h; dsimp only at h
    split at h
    · split at h
      · rename_i hP
        cases h
        exact k13.put (fun z => by have := pF_lt hP.2.1; have := hP.1; omega)
      · cases h
    · cases h
  case iastore =>
    unfold pStep at h; dsimp only at h
    split at h
    · split at h
      · rename_i hP
        cases h
        refine k13.put (fun z => ?_)
        have h1 := hP.1
        unfold pKd at h1
        rw [if_neg (hi rfl)] at h1
        omega
      · cases h
    · cases h
  case aastore =>
    unfold pStep at h; dsimp only at h
    split at h
    · split at h
      · rename_i hP
        cases h
        exact k13.put (fun z => by omega)
      · cases h
    · split at h
      · rename_i hP
        cases h
        exact k13.put (fun z => by omega)
      · cases h
    · cases h
  all_goals (simp only [pStep, pII, pI, pLL, pDD, pLdI, pLdL, pLdD, pLdA, pSt1, pSt2, pIf, reduceCtorEq] at h)
  all_goals (repeat' (split at h))
  all_goals first
    | (cases h; done)
    | (cases h; exact k13.rf _)
    | (cases h; exact k13.new)
theorem pAcp_h {nx : Nat} {ls : PV} {st : List Value} {g : PS} {q : PR} (h : pAcp nx ls st g = some q) : k13 g q.2.2.2 := by
  unfold pAcp at h
  split at h
  · split at h
    · rename_i hP
      cases h
      exact k13.cpy (fun z => by omega)
    · cases h
  · cases h
/-- methods that write no row of the law's -/
def mGood (m : Nat) : Bool := m != 378 && m != 325
noncomputable def rGood (r : PRow) : Bool := (match r.2.1 with | .iastore => r.2.2.2.1 != 1 | _ => true) && (pKind r.2.1 r.2.2.2.1 != 2 || mGood (r.2.2.2.1 - 10))
set_option maxRecDepth 100000 in
theorem mGood_ok : (List.range 381).all (fun m => !mGood m || (qRows m).all rGood) = true := by decide +kernel
theorem qRows_big {m : Nat} (h : ¬ m < 381) : qRows m = [] := by
  unfold qRows
  rw [List.getD_eq_getElem?_getD, List.getElem?_eq_none (by
    have : qRowsL.length = 381 := by decide +kernel
    omega)]
  rfl
theorem mGood_row {m i : Nat} {r : PRow} (hm : mGood m = true) (h : (qPT m).1[i]? = some r) : (r.2.1 = .iastore → ¬ r.2.2.2.1 = 1) ∧ (pKind r.2.1 r.2.2.2.1 = 2 → mGood (r.2.2.2.1 - 10) = true) := by
  have h' : (qRows m)[i]? = some r := h
  by_cases hl : m < 381
  · have h1 := List.all_eq_true.mp mGood_ok m (List.mem_range.mpr hl)
    rw [hm] at h1
    have h2 := List.all_eq_true.mp (by simpa using h1 : (qRows m).all rGood = true) r (List.mem_of_getElem? h')
    unfold rGood at h2
    rw [Bool.and_eq_true] at h2
    refine ⟨fun z => ?_, fun z => ?_⟩
    · have h3 := h2.1
      rw [z] at h3
      simpa using h3
    · have h3 := h2.2
      rw [z] at h3
      simpa using h3
  · rw [qRows_big hl] at h'
    simp at h'
theorem pRun_k13 : ∀ (n m i : Nat) (ls : PV) (st : List Value) (g : PS) (o : PO) (g' : PS), mGood m = true → pRun qPT n m i ls st g = some (o, g') → k13 g g'
  | 0, _, _, _, _, _, _, _, _, h => by cases h
  | n + 1, m, i, ls, st, g, o, g', hm, h => by
    have ih := pRun_k13 n
    unfold pRun at h
    cases hr : (qPT m).1[i]? with
    | none => rw [hr] at h; cases h
    | some rr =>
      rw [hr] at h
      obtain ⟨g1, g2⟩ := mGood_row hm hr
      dsimp only at h
      split at h
      · split at h
        · cases h
        · rename_i q hq
          exact (pStep_h hq g1).tr (ih _ _ _ _ _ _ _ hm h)
      · split at h
        · cases h
        · cases h; exact k13.rf _
      · rename_i hk
        have hc := g2 hk
        split at h
        · cases h
        · split at h
          · split at h
            · cases h
            · rename_i v g3 h1
              exact (ih _ _ _ _ _ _ _ hc h1).tr (ih _ _ _ _ _ _ _ hm h)
            · rename_i e g3 h1
              have k1 := ih _ _ _ _ _ _ _ hc h1
              split at h
              · split at h
                · split at h
                  · cases h; exact k1
                  · cases h
                · split at h
                  · cases h
                  · split at h
                    · cases h
                    · exact k1.tr (ih _ _ _ _ _ _ _ hm h)
              · cases h
          · cases h
      · split at h
        · cases h; exact k13.thr _
        · cases h
      · split at h
        · split at h
          · exact ih _ _ _ _ _ _ _ hm h
          · cases h
        · cases h
      · split at h
        · cases h
        · rename_i q hq
          split at h
          · exact (pAcp_h hq).tr (ih _ _ _ _ _ _ _ hm h)
          · cases h
      · split at h
        · cases h
        · split at h
          · cases h
          · exact ih _ _ _ _ _ _ _ hm h
      · split at h
        · split at h
          · exact ih _ _ _ _ _ _ _ hm h
          · cases h
        · cases h
      · cases h
/-- a run of a method that writes no row of the law's, said with that -/
theorem PW.k13 {m i : Nat} {ls : PV} {st : List Value} {g : PS} {Q : PO → PS → Prop} (hm : mGood m = true) (h : PW m i ls st g Q) : PW m i ls st g (fun o g' => Q o g' ∧ k13 g g') := by
  obtain ⟨n, o, g', h1, h2⟩ := h
  exact ⟨n, o, g', h1, h2, pRun_k13 n m i ls st g o g' hm h1⟩
