/-! ===== THE BEGINNING: the tree machine runs ===== -/
/-- instructions that leave the heap alone -/
def tPl (ins : Instr) : Bool := match ins with
  | .iconst _ | .bipush _ | .sipush _ | .aconst_null | .iload_n _ | .iload _ | .aload_n _ | .aload _ | .istore_n _ | .istore _ | .astore_n _ | .iinc _ _ | .isub | .ishl | .dup | .goto _ | .ifCond _ _ | .if_icmp _ _ | .ifnull _ => true
  | _ => false
def tG0 : PS := (fun _ => 50, fun _ => 0, fun _ _ => .null, 1, 0, 0)
theorem tPl_eq {ins : Instr} {nx r1 r2 : Nat} {ls : PV} {st : List Value} {g : PS} (h : tPl ins = true) : pStep ins nx r1 r2 ls st g = (pStep ins nx r1 r2 ls st tG0).map (fun q => (q.1, q.2.1, q.2.2.1, g)) := by
  unfold tPl at h
  split at h
  · rfl
  · rfl
  · rfl
  · rfl
  · show pLdI _ _ _ _ _ = _; unfold pStep pLdI; dsimp only; split <;> rfl
  · show pLdI _ _ _ _ _ = _; unfold pStep pLdI; dsimp only; split <;> rfl
  · show pLdA _ _ _ _ _ = _; unfold pStep pLdA; dsimp only; split <;> rfl
  · show pLdA _ _ _ _ _ = _; unfold pStep pLdA; dsimp only; split <;> rfl
  · unfold pStep pSt1; dsimp only; split
    · split <;> rfl
    · rfl
  · unfold pStep pSt1; dsimp only; split
    · split <;> rfl
    · rfl
  · unfold pStep pSt1; dsimp only; split
    · split <;> rfl
    · split <;> rfl
    · rfl
  · unfold pStep pSt1; dsimp only; split
    · split <;> rfl
    · rfl
  · unfold pStep pII; dsimp only; split <;> rfl
  · unfold pStep pII; dsimp only; split <;> rfl
  · unfold pStep; dsimp only; split
    · split <;> rfl
    · rfl
  · rfl
  · unfold pStep pI pIf; dsimp only; split
    · split <;> rfl
    · rfl
  · unfold pStep pII pIf; dsimp only; split
    · split <;> rfl
    · rfl
  · unfold pStep; dsimp only; split <;> rfl
  · cases h
abbrev TR : Type := Nat × PV × List Value × TH
/-- an object or array of the tree -/
def tCl (t : TH) (a : Nat) : Option TC := if a = 0 then none else tC t.1 a
theorem tCl_of {t : TH} {a : Nat} {c : TC} (h : tCl t a = some c) : ¬ a = 0 ∧ tC t.1 a = some c := by
  unfold tCl at h
  by_cases e : a = 0
  · rw [if_pos e] at h; cases h
  · rw [if_neg e] at h; exact ⟨e, h⟩
def tStep (ins : Instr) (nx r1 r2 : Nat) (ls : PV) (st : List Value) (t : TH) : Option TR :=
  if tPl ins = true then (pStep ins nx r1 r2 ls st tG0).map (fun q => (q.1, q.2.1, q.2.2.1, t)) else match ins with
  | .getfield _ => match st with
    | .ref a :: r => match tCl t a with | some c => if c.1 = r1 ∧ r2 < pF r1 then some (nx, ls, cM c r2 :: r, t) else none | none => none
    | _ => none
  | .putfield _ => match st with
    | v :: .ref a :: r => match tCl t a with | some c => if c.1 = r1 ∧ r2 < pF r1 ∧ fits (pT r1 r2) v = true then some (nx, ls, r, tWr t a c [(r2, v)]) else none | none => none
    | _ => none
  | .arraylength => match st with
    | .ref a :: r => match tCl t a with | some c => if 12 ≤ c.1 ∧ c.1 ≤ 20 then some (nx, ls, .int (Int32.ofNat c.2.1) :: r, t) else none | none => none
    | _ => none
  | .iaload => match st with
    | .int i :: .ref a :: r => match tCl t a with | some c => if (c.1 = 12 ∨ c.1 = 20 ∨ c.1 = 13) ∧ ¬ (i < 0 ∨ c.2.1 ≤ i.toNatClampNeg) then some (nx, ls, cM c i.toNatClampNeg :: r, t) else none | none => none
    | _ => none
  | .aaload => match st with
    | .int i :: .ref a :: r => match tCl t a with | some c => if 15 ≤ c.1 ∧ c.1 ≤ 19 ∧ ¬ (i < 0 ∨ c.2.1 ≤ i.toNatClampNeg) then some (nx, ls, cM c i.toNatClampNeg :: r, t) else none | none => none
    | _ => none
  | .iastore => match st with
    | .int x :: .int i :: .ref a :: r => match tCl t a with | some c => if c.1 = pKd r1 ∧ ¬ (i < 0 ∨ c.2.1 ≤ i.toNatClampNeg) then some (nx, ls, r, tWr t a c [(i.toNatClampNeg, .int x)]) else none | none => none
    | _ => none
  | .aastore => match st with
    | .ref v :: .int i :: .ref a :: r => match tCl t a with
      | some c => match tCl t v with
        | some cv => if 15 ≤ c.1 ∧ c.1 ≤ 19 ∧ cv.1 = pE c.1 ∧ ¬ (i < 0 ∨ c.2.1 ≤ i.toNatClampNeg) then some (nx, ls, r, tWr t a c [(i.toNatClampNeg, .ref v)]) else none
        | none => none
      | none => none
    | _ => none
  | .new _ => if r1 < 12 ∧ ¬ t.2.1 = 0 ∧ t.2.1 < 1024 then some (nx, ls, .ref t.2.1 :: st, tNw t r1 0 (r1, 0) (pF r1)) else none
  | .newarray ty => match ty with
    | .int => match st with | .int n :: r => if ¬ (n < 0 ∨ 100000000 < n.toNatClampNeg) ∧ ¬ t.2.1 = 0 ∧ t.2.1 < 1024 then some (nx, ls, .ref t.2.1 :: r, tNw t (pKd r1) n.toNatClampNeg (12, 0) n.toNatClampNeg) else none | _ => none
    | _ => none
  | .anewarray _ => match st with | .int n :: r => if ¬ (n < 0 ∨ 100000000 < n.toNatClampNeg ∨ ¬ (15 ≤ r1 ∧ r1 ≤ 18)) ∧ ¬ t.2.1 = 0 ∧ t.2.1 < 1024 then some (nx, ls, .ref t.2.1 :: r, tNw t r1 n.toNatClampNeg (13, 0) n.toNatClampNeg) else none | _ => none
  | _ => none
def tUp (L : Nat) (xs : Nat → Int32) (q : TR) : PR := (q.1, q.2.1, q.2.2.1, tS L xs q.2.2.2)
theorem cD_f (r1 : Nat) (h : r1 < 12) (k : Nat) : defaultValue (pT r1 k) = cD 0 (r1, 0) k := by
  unfold cD
  show _ = if r1 < 12 then defaultValue (pT r1 k) else _
  rw [if_pos h]
theorem tStep_ok {L : Nat} {xs : Nat → Int32} {ins : Instr} {nx r1 r2 : Nat} {ls : PV} {st : List Value} {t : TH} {q : TR} (h : tStep ins nx r1 r2 ls st t = some q) : pStep ins nx r1 r2 ls st (tS L xs t) = some (tUp L xs q) := by
  unfold tStep at h
  by_cases hp : tPl ins = true
  · rw [if_pos hp] at h
    rw [tPl_eq hp]
    cases hq : pStep ins nx r1 r2 ls st tG0 with
    | none => rw [hq] at h; cases h
    | some q' =>
      rw [hq] at h
      have := Option.some.inj h
      rw [← this]; rfl
  · rw [if_neg hp] at h
    split at h
    · -- getfield
      split at h
      · rename_i a r
        split at h
        · rename_i c hc
          obtain ⟨a1, a2⟩ := tCl_of hc
          split at h
          · rename_i h1
            rw [← Option.some.inj h]
            show (if pK (tS L xs t) a = r1 ∧ r2 < pF r1 then some (nx, ls, pM (tS L xs t) a r2 :: r, tS L xs t) else none) = _
            rw [tS_K a1 a2, if_pos h1, tS_M a1 a2]; rfl
          · cases h
        · cases h
      · cases h
    · -- putfield
      split at h
      · rename_i v a r
        split at h
        · rename_i c hc
          obtain ⟨a1, a2⟩ := tCl_of hc
          split at h
          · rename_i h1
            rw [← Option.some.inj h]
            show (if pK (tS L xs t) a = r1 ∧ r2 < pF r1 ∧ fits (pT r1 r2) v = true then some (nx, ls, r, pPut (tS L xs t) a r2 v) else none) = _
            rw [tS_K a1 a2, if_pos h1, ← tPut_eq a1 a2]; rfl
          · cases h
        · cases h
      · cases h
    · -- arraylength
      split at h
      · rename_i a r
        split at h
        · rename_i c hc
          obtain ⟨a1, a2⟩ := tCl_of hc
          split at h
          · rename_i h1
            rw [← Option.some.inj h]
            show (if 12 ≤ pK (tS L xs t) a ∧ pK (tS L xs t) a ≤ 20 then some (nx, ls, .int (Int32.ofNat (pL (tS L xs t) a)) :: r, tS L xs t) else none) = _
            rw [tS_K a1 a2, if_pos h1, tS_L a1 a2]; rfl
          · cases h
        · cases h
      · cases h
    · -- iaload
      split at h
      · rename_i i a r
        split at h
        · rename_i c hc
          obtain ⟨a1, a2⟩ := tCl_of hc
          split at h
          · rename_i h1
            rw [← Option.some.inj h]
            show (if (pK (tS L xs t) a = 12 ∨ pK (tS L xs t) a = 20 ∨ pK (tS L xs t) a = 13) ∧ ¬ (i < 0 ∨ pL (tS L xs t) a ≤ i.toNatClampNeg) then some (nx, ls, pM (tS L xs t) a i.toNatClampNeg :: r, tS L xs t) else none) = _
            rw [tS_K a1 a2, tS_L a1 a2, if_pos h1, tS_M a1 a2]; rfl
          · cases h
        · cases h
      · cases h
    · -- aaload
      split at h
      · rename_i i a r
        split at h
        · rename_i c hc
          obtain ⟨a1, a2⟩ := tCl_of hc
          split at h
          · rename_i h1
            rw [← Option.some.inj h]
            show (if 15 ≤ pK (tS L xs t) a ∧ pK (tS L xs t) a ≤ 19 ∧ ¬ (i < 0 ∨ pL (tS L xs t) a ≤ i.toNatClampNeg) then some (nx, ls, pM (tS L xs t) a i.toNatClampNeg :: r, tS L xs t) else none) = _
            rw [tS_K a1 a2, tS_L a1 a2, if_pos h1, tS_M a1 a2]; rfl
          · cases h
        · cases h
      · cases h
    · -- iastore
      split at h
      · rename_i x i a r
        split at h
        · rename_i c hc
          obtain ⟨a1, a2⟩ := tCl_of hc
          split at h
          · rename_i h1
            rw [← Option.some.inj h]
            show (if pK (tS L xs t) a = pKd r1 ∧ ¬ (i < 0 ∨ pL (tS L xs t) a ≤ i.toNatClampNeg) then some (nx, ls, r, pPut (tS L xs t) a i.toNatClampNeg (.int x)) else none) = _
            rw [tS_K a1 a2, tS_L a1 a2, if_pos h1, ← tPut_eq a1 a2]; rfl
          · cases h
        · cases h
      · cases h
    · -- aastore
      split at h
      · rename_i v i a r
        split at h
        · rename_i c hc
          obtain ⟨a1, a2⟩ := tCl_of hc
          split at h
          · rename_i cv hcv
            obtain ⟨v1, v2⟩ := tCl_of hcv
            split at h
            · rename_i h1
              rw [← Option.some.inj h]
              show (if 15 ≤ pK (tS L xs t) a ∧ pK (tS L xs t) a ≤ 19 ∧ pK (tS L xs t) v = pE (pK (tS L xs t) a) ∧ ¬ (i < 0 ∨ pL (tS L xs t) a ≤ i.toNatClampNeg) then some (nx, ls, r, pPut (tS L xs t) a i.toNatClampNeg (.ref v)) else none) = _
              rw [tS_K a1 a2, tS_K v1 v2, tS_L a1 a2, if_pos h1, ← tPut_eq a1 a2]; rfl
            · cases h
          · cases h
        · cases h
      · cases h
    · -- new
      split at h
      · rename_i h1
        rw [← Option.some.inj h]
        show (if r1 < 12 then some (nx, ls, Value.ref (pN (tS L xs t)) :: st, pNew (tS L xs t) r1 0 (pF r1) (fun k => defaultValue (pT r1 k))) else none) = _
        rw [if_pos h1.1, ← tNw_eq (d := (r1, 0)) h1.2.1 h1.2.2 (fun k => cD_f r1 h1.1 k)]; rfl
      · cases h
    · -- newarray
      split at h
      · split at h
        · rename_i n r
          split at h
          · rename_i h1
            rw [← Option.some.inj h]
            show (if n < 0 ∨ 100000000 < n.toNatClampNeg then none else some (nx, ls, Value.ref (pN (tS L xs t)) :: r, pNew (tS L xs t) (pKd r1) n.toNatClampNeg n.toNatClampNeg (fun _ => .int 0))) = _
            rw [if_neg h1.1, ← tNw_eq (d := (12, 0)) (row := fun _ => .int 0) h1.2.1 h1.2.2 (fun k => rfl)]; rfl
          · cases h
        · cases h
      · cases h
    · -- anewarray
      split at h
      · rename_i n r
        split at h
        · rename_i h1
          rw [← Option.some.inj h]
          show (if n < 0 ∨ 100000000 < n.toNatClampNeg ∨ ¬ (15 ≤ r1 ∧ r1 ≤ 18) then none else some (nx, ls, Value.ref (pN (tS L xs t)) :: r, pNew (tS L xs t) r1 n.toNatClampNeg n.toNatClampNeg (fun _ => .null))) = _
          rw [if_neg h1.1, ← tNw_eq (d := (13, 0)) (row := fun _ => .null) h1.2.1 h1.2.2 (fun k => rfl)]; rfl
        · cases h
      · cases h
    · cases h
/-- System.arraycopy -/
def tAcp (nx : Nat) (ls : PV) (st : List Value) (t : TH) : Option TR := match st with
  | .int n :: .int j :: .ref b :: .int i :: .ref a :: r => match tCl t a with
    | some c => match tCl t b with
      | some cb => if (c.1 = 12 ∨ c.1 = 14) ∧ cb.1 = c.1 ∧ ¬ n < 0 ∧ ¬ i < 0 ∧ ¬ j < 0 ∧ i.toNatClampNeg + n.toNatClampNeg ≤ c.2.1 ∧ j.toNatClampNeg + n.toNatClampNeg ≤ cb.2.1 then some (nx, ls, r, tWr t b cb (tPc c i.toNatClampNeg j.toNatClampNeg n.toNatClampNeg)) else none
      | none => none
    | none => none
  | _ => none
theorem tAcp_ok {L : Nat} {xs : Nat → Int32} {nx : Nat} {ls : PV} {st : List Value} {t : TH} {q : TR} (h : tAcp nx ls st t = some q) : pAcp nx ls st (tS L xs t) = some (tUp L xs q) := by
  unfold tAcp at h
  split at h
  · rename_i n j b i a r
    split at h
    · rename_i c hc
      obtain ⟨a1, a2⟩ := tCl_of hc
      split at h
      · rename_i cb hcb
        obtain ⟨b1, b2⟩ := tCl_of hcb
        split at h
        · rename_i h1
          rw [← Option.some.inj h]
          show (if (pK (tS L xs t) a = 12 ∨ pK (tS L xs t) a = 14) ∧ pK (tS L xs t) b = pK (tS L xs t) a ∧ ¬ n < 0 ∧ ¬ i < 0 ∧ ¬ j < 0 ∧ i.toNatClampNeg + n.toNatClampNeg ≤ pL (tS L xs t) a ∧ j.toNatClampNeg + n.toNatClampNeg ≤ pL (tS L xs t) b
            then some (nx, ls, r, pCpy (tS L xs t) a i.toNatClampNeg b j.toNatClampNeg n.toNatClampNeg) else none) = _
          rw [tS_K a1 a2, tS_K b1 b2, tS_L a1 a2, tS_L b1 b2, if_pos h1, ← tCpy_eq a1 a2 b1 b2]; rfl
        · cases h
      · cases h
    · cases h
  · cases h
def tRv (ins : Instr) (o : Nat) (av : List Value) (t : TH) : Bool := match ins with
  | .invokevirtual _ => match av with | .ref a :: _ => (match tCl t a with | some c => decide (c.1 = o ∧ o < 12) | none => false) | _ => false
  | .invokespecial _ => match av with | .ref _ :: _ => true | _ => false
  | _ => true
theorem tRv_ok {L : Nat} {xs : Nat → Int32} {ins : Instr} {o : Nat} {av : List Value} {t : TH} (h : tRv ins o av t = true) : pRv ins o av (tS L xs t) = true := by
  unfold tRv at h
  unfold pRv
  split at h
  · split at h
    · split at h
      · rename_i c hc
        obtain ⟨a1, a2⟩ := tCl_of hc
        dsimp only
        rw [tS_K a1 a2]; exact h
      · cases h
    · cases h
  · exact h
  · rename_i h1 h2
    split
    · exact absurd rfl (h1 _)
    · exact absurd rfl (h2 _)
    · rfl
/-- the run -/
def tRun (PT : Nat → Option PMet) : Nat → PMet → Nat → PV → List Value → TH → Option (Option Value × TH)
  | 0, _, _, _, _, _ => none
  | n + 1, M, i, ls, st, t => match M.1[i]? with
    | none => none
    | some r => match pKind r.2.1 r.2.2.2.1 with
      | 0 => match tStep r.2.1 (i + 1) r.2.2.2.1 r.2.2.2.2.1 ls st t with
        | none => none
        | some q => tRun PT n M q.1 q.2.1 q.2.2.1 q.2.2.2
      | 1 => match pRet M.2.2.2.2.1 r.2.1 st with
        | none => none
        | some v => some (v, t)
      | 2 => match PT (r.2.2.2.1 - 10) with
        | none => none
        | some Mc => match pPop Mc.2.2.1 st with
          | none => none
          | some q => if (q.2.length ≤ 4 ∨ (q.2.map fun v => v.category).sum ≤ 8) ∧ (pEnt q.1).length ≤ Mc.2.1 ∧ tRv r.2.1 Mc.2.2.2.2.2 q.1 t = true then match tRun PT n Mc 0 (pEntry Mc.2.1 q.1) [] t with
            | none => none
            | some p => tRun PT n M (i + 1) ls (p.1.toList ++ q.2) p.2
            else none
      | 4 => match st with
        | .ref _ :: rest => if rest.length ≤ 4 ∨ (rest.map fun v => v.category).sum ≤ 8 then tRun PT n M (i + 1) ls rest t else none
        | _ => none
      | 5 => match tAcp (i + 1) ls st t with
        | none => none
        | some q => if q.2.2.1.length ≤ 4 ∨ (q.2.2.1.map fun v => v.category).sum ≤ 8 then tRun PT n M q.1 q.2.1 q.2.2.1 q.2.2.2 else none
      | _ => none
theorem tRun_ok {L : Nat} {xs : Nat → Int32} {PT : Nat → Option PMet} (hPT : ∀ m M, PT m = some M → qPT m = M) : ∀ (n m : Nat) (M : PMet) (i : Nat) (ls : PV) (st : List Value) (t : TH) (p : Option Value × TH), qPT m = M → tRun PT n M i ls st t = some p → pRun qPT n m i ls st (tS L xs t) = some (.inl p.1, tS L xs p.2)
  | 0, _, _, _, _, _, _, _, _, h => by cases h
  | n + 1, m, M, i, ls, st, t, p, hM, h => by
    have ih := tRun_ok (L := L) (xs := xs) hPT n
    unfold tRun at h
    unfold pRun
    rw [hM]
    split at h
    · cases h
    · rename_i r hr
      rw [hr]
      dsimp only
      split at h
      · rename_i hk
        rw [hk]
        split at h
        · cases h
        · rename_i q hq
          rw [tStep_ok (L := L) (xs := xs) hq]
          exact ih _ _ _ _ _ _ _ hM h
      · rename_i hk
        rw [hk]
        split at h
        · cases h
        · rename_i v hv
          show (match pRet M.2.2.2.2.1 r.2.1 st with | none => none | some v => some (Sum.inl v, tS L xs t)) = _
          rw [hv, ← Option.some.inj h]
      · rename_i hk
        rw [hk]
        split at h
        · cases h
        · rename_i Mc hMc
          rw [hPT _ _ hMc]
          split at h
          · cases h
          · rename_i q hq
            rw [hq]
            dsimp only
            split at h
            · rename_i hc
              rw [if_pos ⟨hc.1, hc.2.1, tRv_ok hc.2.2⟩]
              split at h
              · cases h
              · rename_i p1 hp1
                rw [ih _ _ _ _ _ _ _ (hPT _ _ hMc) hp1]
                exact ih _ _ _ _ _ _ _ hM h
            · cases h
      · rename_i hk
        rw [hk]
        split at h
        · split at h
          · rename_i hc
            dsimp only
            rw [if_pos hc]
            exact ih _ _ _ _ _ _ _ hM h
          · cases h
        · cases h
      · rename_i hk
        rw [hk]
        split at h
        · cases h
        · rename_i q hq
          rw [tAcp_ok (L := L) (xs := xs) hq]
          split at h
          · rename_i hc
            exact (if_pos hc).trans (ih _ _ _ _ _ _ _ hM h)
          · cases h
      · cases h
