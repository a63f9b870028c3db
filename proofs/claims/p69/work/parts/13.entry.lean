/-! ===== A METHOD'S ENTRY, ITS CONTRACT ===== -/
theorem qEnt_len (b base : Nat) : ∀ av : List Value, (lg_sl (av.map (qSh b base))).length = (pEnt av).length
  | [] => rfl
  | v :: vs => by
    have ih := qEnt_len b base vs
    unfold lg_sl at ih ⊢
    unfold pEnt
    simp only [List.map_cons, List.flatMap_cons, List.length_append, qSh_cat]
    split <;> simp [ih] <;> omega
theorem qEnt_mem (b base : Nat) : ∀ (av : List Value) (k j : Nat) (v : Value), (pEnt av)[j]? = some (some v) → (k + j, qSh b base v) ∈ lv_args k (av.map (qSh b base))
  | [], _, _, _, h => by simp [pEnt] at h
  | w :: ws, k, j, v, h => by
    unfold pEnt at h
    simp only [List.map_cons, lv_args, qSh_cat]
    split at h
    · rename_i hc
      rw [if_pos hc]
      match j, h with
      | 0, h =>
        simp at h
        subst h
        exact List.mem_cons_self
      | 1, h => simp at h
      | j + 2, h =>
        simp only [List.getElem?_cons_succ] at h
        have h1 := qEnt_mem b base ws (k + 2) j v h
        rw [show k + 2 + j = k + (j + 2) by omega] at h1
        exact List.mem_cons_of_mem _ h1
    · rename_i hc
      rw [if_neg hc]
      match j, h with
      | 0, h =>
        simp at h
        subst h
        exact List.mem_cons_self
      | j + 1, h =>
        simp only [List.getElem?_cons_succ] at h
        have h1 := qEnt_mem b base ws (k + 1) j v h
        rw [show k + 1 + j = k + (j + 1) by omega] at h1
        exact List.mem_cons_of_mem _ h1
/-- the locals at the entry -/
theorem qEntry {b base nL : Nat} {av : List Value} (h : (pEnt av).length ≤ nL) : qLs b base nL ((lg_sl (av.map (qSh b base)) ++ List.replicate (nL - (lg_sl (av.map (qSh b base))).length) Slot.unset).toArray) (pEntry nL av) := by
  have h1 := lv_entry (av.map (qSh b base)) (n := nL) (by rw [qEnt_len]; exact h)
  refine ⟨h1.1, ?_, h1.2.1, fun i v hv => ?_⟩
  · unfold pEntry
    simp
    omega
  · unfold pEntry at hv
    have hv' : (pEnt av)[i]? = some (some v) := by
      by_cases hi : i < (pEnt av).length
      · rw [List.getElem?_append_left hi] at hv
        exact hv
      · rw [List.getElem?_append_right (by omega)] at hv
        rw [List.getElem?_replicate] at hv
        split at hv
        · cases Option.some.inj hv
        · cases hv
    have h2 := qEnt_mem b base av 0 i v hv'
    rw [Nat.zero_add] at h2
    exact h1.2.2 _ h2
/-- the word of a method's code -/
def qCode (y : MethodName) (cc : ByteArray) (maxL : Nat) (ret : Option FieldType) (hh : List (Nat × Nat × Nat × Nat)) : Cond := match hh with
  | [] => Cond.code y cc maxL ret
  | h :: t => Cond.codeWith y cc maxL ret (h :: t)
theorem qOfW {l : Launch} {y : MethodName} {ws' : List Cond} {rm : Room} {Pc : Array Value → State → Prop} {Qc : Array Value → State → Outcome → State → Prop} {mc ms : Nat} {free : Addr → Prop} {cc : ByteArray} {maxL : Nat} {ret : Option FieldType} {hh : List (Nat × Nat × Nat × Nat)}
    (hy : plainName y.cls = true)
    (body : ∀ p e s m args below meth c s₁, BodyLoose p l y (headSpec (qCode y cc maxL ret hh :: ws') rm) cc maxL ret e s m args below meth c s₁ → c.maxLocals = maxL → c.exceptionTable.toList = tableOf hh → Pc args s →
      W p l e rm s m args below meth c s.heap [] 0 0 (MQ below Qc args s mc ms free) (entryFrame m args maxL)) : Met l y (qCode y cc maxL ret hh :: ws') rm Pc Qc mc ms free := by
  refine MetFree.of_bodyS (code := cc) (maxLocals := maxL) (ret := ret) hy ?_ ?_
  · intro args s m h hn
    have hw := atoms_spec (ws := qCode y cc maxL ret hh :: ws') h _ List.mem_cons_self
    cases hh with
    | nil =>
      obtain ⟨meth, c, h1, h2, h3, h4, h5, h6, -, -⟩ := Cond.code_spec hn hw
      exact ⟨meth, c, h1, h2, h3, h4, h5, h6⟩
    | cons x t =>
      obtain ⟨m9, meth, c, hn9, h1, h2, h3, h4, -, h5, h6, -⟩ := Cond.codeWith_spec hw
      cases hn.symm.trans hn9
      exact ⟨meth, c, h1, h2, h3, h4, h5, h6⟩
  · intro p e s m args below meth c s₁ B hml hP _
    have hh0 : s₁.heap = s.heap := by rw [B.state]; rfl
    have hw := atoms_spec (ws := qCode y cc maxL ret hh :: ws') B.pre _ List.mem_cons_self
    have ht : c.exceptionTable.toList = tableOf hh := by
      cases hh with
      | nil =>
        obtain ⟨meth9, c9, h1, h2, -, -, -, -, h7, -⟩ := Cond.code_spec B.named hw
        cases Option.some.inj (h1.symm.trans B.method)
        cases Option.some.inj (h2.symm.trans (Stand.of_body B).code)
        rw [Array.isEmpty_iff.mp h7]
        rfl
      | cons x t => exact vx_table (x := y) B hw
    obtain ⟨t, a1, o, b1, b2, b3⟩ := body p e s m args below meth c s₁ B hml ht hP s₁ hh0 (Stand.of_body B)
    exact ⟨t, o, a1, b1, b2, ⟨b3.1, b3.2⟩⟩
/-- a method's start, its answer, its exception -/
def qPc (D : va_G) (dA : Nat → ClassId) (b base : Nat) (av : List Value) (g : PS) : Array Value → State → Prop := fun v U => v = (av.map (qSh b base)).toArray ∧ qCtx D dA base U ∧ qRel D dA b base g U.heap
def qQr (D : va_G) (dA : Nat → ClassId) (b base : Nat) (v : Option Value) (g' : PS) : Array Value → State → Outcome → State → Prop := fun _ st oc t => oc = .returned (v.map (qSh b base)) ∧ qRel D dA b base g' t.heap ∧ va_F (qA base) st t
def qXr (D : va_G) (dA : Nat → ClassId) (b base : Nat) (e : Nat) (g' : PS) : String → State → State → Prop := fun E st t => E = qEx e ∧ qRel D dA b base g' t.heap ∧ va_F (qA base) st t
theorem qPc_blind {D : va_G} {dA : Nat → ClassId} {b base : Nat} {av : List Value} {g : PS} : FrameBlind (qPc D dA b base av g) := fun a U gf mk h =>
  ⟨h.1, qCtx.moved (U := U.calling gf mk a) h.2.1 (State.WarmedH.refl U) h.2.1.2.2.2.2.1 (fun _ _ _ => rfl), h.2.2⟩
/-- the run only adds cells -/
theorem pStep_mono {ins : Instr} {nx r1 r2 : Nat} {ls : PV} {st : List Value} {g : PS} {q : PR} (h : pStep ins nx r1 r2 ls st g = some q) : pC g ≤ pC q.2.2.2 ∧ pZ g ≤ pZ q.2.2.2 := by
  have refl : pC g ≤ pC g ∧ pZ g ≤ pZ g := ⟨Nat.le_refl _, Nat.le_refl _⟩
  have hnew : ∀ kd ln z row, pC g ≤ pC (pNew g kd ln z row) ∧ pZ g ≤ pZ (pNew g kd ln z row) := fun kd ln z row => ⟨Nat.le_succ _, Nat.le_add_right _ _⟩
  have hmul : ∀ n k, pC g ≤ pC (pMul g n k) ∧ pZ g ≤ pZ (pMul g n k) := fun n k => ⟨Nat.le_add_right _ _, Nat.le_add_right _ _⟩
  unfold pStep at h
  split at h
  all_goals (try unfold pII at h)
  all_goals (try unfold pI at h)
  all_goals (try unfold pLL at h)
  all_goals (try unfold pDD at h)
  all_goals (try unfold pLdI at h)
  all_goals (try unfold pLdL at h)
  all_goals (try unfold pLdD at h)
  all_goals (try unfold pLdA at h)
  all_goals (try unfold pSt1 at h)
  all_goals (try unfold pSt2 at h)
  all_goals (try unfold pIf at h)
  all_goals (repeat' (split at h))
  all_goals (first | (cases h; done) | (cases h; exact refl) | (cases h; exact hnew _ _ _ _) | (cases h; exact hmul _ _) | skip)
  all_goals (try dsimp only at h)
  all_goals (try unfold pSt1 at h)
  all_goals (try unfold pSt2 at h)
  all_goals (try unfold pIf at h)
  all_goals (repeat' (split at h))
  all_goals (first | (cases h; done) | (cases h; exact refl) | (cases h; exact hnew _ _ _ _) | (cases h; exact hmul _ _))
theorem pRun_mono (PT : Nat → PMet) : ∀ (n m i : Nat) (ls : PV) (st : List Value) (g : PS) (o : PO) (g' : PS), pRun PT n m i ls st g = some (o, g') → pC g ≤ pC g' ∧ pZ g ≤ pZ g'
  | 0, _, _, _, _, _, _, _, h => by cases h
  | n + 1, m, i, ls, st, g, o, g', h => by
    have ih := pRun_mono PT n
    unfold pRun at h
    split at h
    · cases h
    · rename_i r hr
      split at h
      · -- plain
        split at h
        · cases h
        · rename_i q hq
          have h1 := pStep_mono hq
          have h2 := ih _ _ _ _ _ _ _ h
          exact ⟨Nat.le_trans h1.1 h2.1, Nat.le_trans h1.2 h2.2⟩
      · split at h
        · cases h
        · cases h
          exact ⟨Nat.le_refl _, Nat.le_refl _⟩
      · split at h
        · cases h
        · split at h
          · split at h
            · cases h
            · rename_i v g1 h1
              have h2 := ih _ _ _ _ _ _ _ h1
              have h3 := ih _ _ _ _ _ _ _ h
              exact ⟨Nat.le_trans h2.1 h3.1, Nat.le_trans h2.2 h3.2⟩
            · rename_i e g1 h1
              have h2 := ih _ _ _ _ _ _ _ h1
              split at h
              · split at h
                · split at h
                  · cases h
                    exact h2
                  · cases h
                · split at h
                  · cases h
                  · split at h
                    · cases h
                    · have h3 := ih _ _ _ _ _ _ _ h
                      exact ⟨Nat.le_trans h2.1 h3.1, Nat.le_trans h2.2 h3.2⟩
              · cases h
          · cases h
      · split at h
        · cases h
          exact ⟨Nat.le_add_right _ _, Nat.le_add_right _ _⟩
        · cases h
      · split at h
        · split at h
          · exact ih _ _ _ _ _ _ _ h
          · cases h
        · cases h
      · split at h
        · cases h
        · rename_i q hq
          split at h
          · have h2 := ih _ _ _ _ _ _ _ h
            unfold pAcp at hq
            split at hq
            · split at hq
              · cases hq
                exact h2
              · cases hq
            · cases hq
          · cases h
      · split at h
        · cases h
        · split at h
          · cases h
          · exact ih _ _ _ _ _ _ _ h
      · split at h
        · split at h
          · exact ih _ _ _ _ _ _ _ h
          · cases h
        · cases h
      · cases h
/-- who throws has no handlers -/
theorem pRun_inr (PT : Nat → PMet) : ∀ (n m i : Nat) (ls : PV) (st : List Value) (g : PS) (e : Nat) (g' : PS), pRun PT n m i ls st g = some (.inr e, g') → (PT m).2.2.2.1 = []
  | 0, _, _, _, _, _, _, _, h => by cases h
  | n + 1, m, i, ls, st, g, e, g', h => by
    have ih := pRun_inr PT n
    unfold pRun at h
    split at h
    · cases h
    · split at h
      · split at h
        · cases h
        · exact ih _ _ _ _ _ _ _ h
      · split at h
        · cases h
        · cases h
      · split at h
        · cases h
        · split at h
          · split at h
            · cases h
            · exact ih _ _ _ _ _ _ _ h
            · split at h
              · split at h
                · split at h
                  · rename_i hn
                    exact List.isEmpty_iff.mp hn
                  · cases h
                · split at h
                  · cases h
                  · split at h
                    · cases h
                    · exact ih _ _ _ _ _ _ _ h
              · cases h
          · cases h
      · split at h
        · rename_i hn
          exact List.isEmpty_iff.mp hn.2
        · cases h
      · split at h
        · split at h
          · exact ih _ _ _ _ _ _ _ h
          · cases h
        · cases h
      · split at h
        · cases h
        · split at h
          · exact ih _ _ _ _ _ _ _ h
          · cases h
      · split at h
        · cases h
        · split at h
          · cases h
          · exact ih _ _ _ _ _ _ _ h
      · split at h
        · split at h
          · exact ih _ _ _ _ _ _ _ h
          · cases h
        · cases h
      · cases h
