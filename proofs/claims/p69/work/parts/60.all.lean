/-! ===== ALL SERVERS ARE LOOKED AT ===== -/
/-- how many of the first n are so -/
def sCntF (p : Nat → Bool) : Nat → Int32
  | 0 => 0
  | n + 1 => sCntF p n + bI (p n)
/-- the newest of the first n: its number or none; ok: is it one, nw: is the second newer than the first -/
def sNew (ok : Nat → Bool) (nw : Nat → Nat → Bool) : Nat → Option Nat
  | 0 => none
  | n + 1 => if ok n = true then (match sNew ok nw n with | none => some n | some b => if nw b n = true then some n else some b) else sNew ok nw n
theorem sNew_lt {ok : Nat → Bool} {nw : Nat → Nat → Bool} : ∀ {n b : Nat}, sNew ok nw n = some b → b < n
  | 0, b, h => by cases h
  | n + 1, b, h => by
    unfold sNew at h
    split at h
    · split at h
      · cases h; omega
      · rename_i c hc
        have := sNew_lt hc
        split at h
        · cases h; omega
        · cases h; omega
    · have := sNew_lt h
      omega
theorem l_10 {X : XS} {o : Nat} (ho : o < 2) : ∀ n q : Nat, q + n = 7 → ∀ x5 : Option Value, AT 10 10 [some (.ref (aB o)), some (.int (sCntF (fun i => decide (¬ (xK X o).1 4 i 0 = 0)) q)), some (.ref (aB o + 1)), some (.int (Int32.ofNat 7)), some (.int (Int32.ofNat q)), x5] [] X (fun o' Y => o' = .inl (some (.int (sCntF (fun i => decide (¬ (xK X o).1 4 i 0 = 0)) 7))) ∧ Y = X)
  | 0, q, hq, x5 => by
    refine AT.iload M_10 rfl rfl ?_
    refine AT.iload_n M_10 rfl rfl ?_
    refine AT.icmp_ge M_10 rfl (fun b12 => ?_) (fun b12 => ?_)
    · refine AT.iload_n M_10 rfl rfl ?_
      refine AT.iret M_10 rfl rfl ?_
      rw [show q = 7 by omega]
      exact ⟨rfl, rfl⟩
    · exact absurd (by rw [show q = 7 by omega]; exact Int32.le_refl _) b12
  | n + 1, q, hq, x5 => by
    have hq7 : q < 7 := by omega
    refine AT.iload M_10 rfl rfl ?_
    refine AT.iload_n M_10 rfl rfl ?_
    refine AT.icmp_ge M_10 rfl (fun b12 => ?_) (fun b12 => ?_)
    · exact absurd ((i32_le (b := q) (a := 7) (by omega) (by omega)).mp b12) (by omega)
    · refine AT.aload_n M_10 rfl rfl ?_
      refine AT.iload M_10 rfl rfl ?_
      refine AT.a_svs M_10 rfl rfl (by assumption) (by assumption) ?_
      refine AT.ast5 M_10 rfl rfl ?_
      refine AT.iload_n M_10 rfl rfl ?_
      refine AT.aload M_10 rfl rfl ?_
      refine AT.f_6_4 M_10 rfl (by assumption) (by assumption) ?_
      refine AT.if_eq M_10 rfl (fun b20 => ?_) (fun b20 => ?_)
      · refine AT.iconst M_10 rfl (v := 0) (by decide) ?_
        have e : sCntF (fun i => decide (¬ (xK X o).1 4 i 0 = 0)) (q + 1) = sCntF (fun i => decide (¬ (xK X o).1 4 i 0 = 0)) q + 0 := by
          show sCntF _ q + bI (decide (¬ (xK X o).1 4 q 0 = 0)) = _
          rw [show (decide (¬ (xK X o).1 4 q 0 = 0)) = false from decide_eq_false (fun z => z b20)]
          rfl
        refine AT.iadd M_10 rfl e.symm ?_
        refine AT.ist1 M_10 rfl rfl ?_
        refine AT.iinc4 M_10 rfl rfl (i32_succ _) ?_
        refine AT.goto M_10 rfl ?_
        exact l_10 ho n (q + 1) (by omega) _
      · refine AT.iconst M_10 rfl (v := 1) (by decide) ?_
        refine AT.goto M_10 rfl ?_
        have e : sCntF (fun i => decide (¬ (xK X o).1 4 i 0 = 0)) (q + 1) = sCntF (fun i => decide (¬ (xK X o).1 4 i 0 = 0)) q + 1 := by
          show sCntF _ q + bI (decide (¬ (xK X o).1 4 q 0 = 0)) = _
          rw [show (decide (¬ (xK X o).1 4 q 0 = 0)) = true from decide_eq_true (b20)]
          rfl
        refine AT.iadd M_10 rfl e.symm ?_
        refine AT.ist1 M_10 rfl rfl ?_
        refine AT.iinc4 M_10 rfl rfl (i32_succ _) ?_
        refine AT.goto M_10 rfl ?_
        exact l_10 ho n (q + 1) (by omega) _
theorem c_10 {X : XS} {o : Nat} (ho : o < 2) : RT 10 [some (.ref (aB o)), none, none, none, none, none] X (some (.int (sCntF (fun i => decide (¬ (xK X o).1 4 i 0 = 0)) 7))) X := by
  refine AT.iconst M_10 rfl (v := 0) (by decide) ?_
  refine AT.ist1 M_10 rfl rfl ?_
  refine AT.aload_n M_10 rfl rfl ?_
  refine AT.f_1_0 M_10 rfl (by assumption) ?_
  refine AT.ast2 M_10 rfl rfl ?_
  refine AT.aload_n M_10 rfl rfl ?_
  refine AT.l_svs M_10 rfl (by assumption) ?_
  refine AT.ist3 M_10 rfl rfl ?_
  refine AT.iconst M_10 rfl (v := 0) (by decide) ?_
  refine AT.ist4 M_10 rfl rfl ?_
  exact l_10 ho 7 0 rfl _
theorem l_11 {X : XS} {o : Nat} (ho : o < 2) : ∀ n q : Nat, q + n = 7 → ∀ x5 : Option Value, AT 11 10 [some (.ref (aB o)), some (.int (sCntF (fun i => decide ((xK X o).1 12 i 0 = 3)) q)), some (.ref (aB o + 1)), some (.int (Int32.ofNat 7)), some (.int (Int32.ofNat q)), x5] [] X (fun o' Y => o' = .inl (some (.int (sCntF (fun i => decide ((xK X o).1 12 i 0 = 3)) 7))) ∧ Y = X)
  | 0, q, hq, x5 => by
    refine AT.iload M_11 rfl rfl ?_
    refine AT.iload_n M_11 rfl rfl ?_
    refine AT.icmp_ge M_11 rfl (fun b12 => ?_) (fun b12 => ?_)
    · refine AT.iload_n M_11 rfl rfl ?_
      refine AT.iret M_11 rfl rfl ?_
      rw [show q = 7 by omega]
      exact ⟨rfl, rfl⟩
    · exact absurd (by rw [show q = 7 by omega]; exact Int32.le_refl _) b12
  | n + 1, q, hq, x5 => by
    have hq7 : q < 7 := by omega
    refine AT.iload M_11 rfl rfl ?_
    refine AT.iload_n M_11 rfl rfl ?_
    refine AT.icmp_ge M_11 rfl (fun b12 => ?_) (fun b12 => ?_)
    · exact absurd ((i32_le (b := q) (a := 7) (by omega) (by omega)).mp b12) (by omega)
    · refine AT.aload_n M_11 rfl rfl ?_
      refine AT.iload M_11 rfl rfl ?_
      refine AT.a_svs M_11 rfl rfl (by assumption) (by assumption) ?_
      refine AT.ast5 M_11 rfl rfl ?_
      refine AT.iload_n M_11 rfl rfl ?_
      refine AT.aload M_11 rfl rfl ?_
      refine AT.f_6_12 M_11 rfl (by assumption) (by assumption) ?_
      refine AT.iconst M_11 rfl (v := 3) (by decide) ?_
      refine AT.icmp_ne M_11 rfl (fun b21 => ?_) (fun b21 => ?_)
      · refine AT.iconst M_11 rfl (v := 0) (by decide) ?_
        have e : sCntF (fun i => decide ((xK X o).1 12 i 0 = 3)) (q + 1) = sCntF (fun i => decide ((xK X o).1 12 i 0 = 3)) q + 0 := by
          show sCntF _ q + bI (decide ((xK X o).1 12 q 0 = 3)) = _
          rw [show (decide ((xK X o).1 12 q 0 = 3)) = false from decide_eq_false (b21)]
          rfl
        refine AT.iadd M_11 rfl e.symm ?_
        refine AT.ist1 M_11 rfl rfl ?_
        refine AT.iinc4 M_11 rfl rfl (i32_succ _) ?_
        refine AT.goto M_11 rfl ?_
        exact l_11 ho n (q + 1) (by omega) _
      · refine AT.iconst M_11 rfl (v := 1) (by decide) ?_
        refine AT.goto M_11 rfl ?_
        have e : sCntF (fun i => decide ((xK X o).1 12 i 0 = 3)) (q + 1) = sCntF (fun i => decide ((xK X o).1 12 i 0 = 3)) q + 1 := by
          show sCntF _ q + bI (decide ((xK X o).1 12 q 0 = 3)) = _
          rw [show (decide ((xK X o).1 12 q 0 = 3)) = true from decide_eq_true (Classical.not_not.mp b21)]
          rfl
        refine AT.iadd M_11 rfl e.symm ?_
        refine AT.ist1 M_11 rfl rfl ?_
        refine AT.iinc4 M_11 rfl rfl (i32_succ _) ?_
        refine AT.goto M_11 rfl ?_
        exact l_11 ho n (q + 1) (by omega) _
theorem c_11 {X : XS} {o : Nat} (ho : o < 2) : RT 11 [some (.ref (aB o)), none, none, none, none, none] X (some (.int (sCntF (fun i => decide ((xK X o).1 12 i 0 = 3)) 7))) X := by
  refine AT.iconst M_11 rfl (v := 0) (by decide) ?_
  refine AT.ist1 M_11 rfl rfl ?_
  refine AT.aload_n M_11 rfl rfl ?_
  refine AT.f_1_0 M_11 rfl (by assumption) ?_
  refine AT.ast2 M_11 rfl rfl ?_
  refine AT.aload_n M_11 rfl rfl ?_
  refine AT.l_svs M_11 rfl (by assumption) ?_
  refine AT.ist3 M_11 rfl rfl ?_
  refine AT.iconst M_11 rfl (v := 0) (by decide) ?_
  refine AT.ist4 M_11 rfl rfl ?_
  exact l_11 ho 7 0 rfl _
