/-! ===== THE NEWEST LEADER ===== -/
/-- a server's cell, or nothing -/
def vSv (o : Nat) : Option Nat → Value
  | none => .null
  | some b => .ref (aS o b)
def sNewL (K : KK) (n : Nat) : Option Nat := sNew (fun i => decide (K.1 12 i 0 = 3)) (fun b i => decide (¬ K.1 5 i 0 ≤ K.1 5 b 0)) n
theorem sNewL_no {K : KK} {n : Nat} (h : ¬ K.1 12 n 0 = 3) : sNewL K (n + 1) = sNewL K n := if_neg (fun z => h (of_decide_eq_true z))
theorem sNewL_0 {K : KK} {n : Nat} (h : K.1 12 n 0 = 3) (h0 : sNewL K n = none) : sNewL K (n + 1) = some n := by
  unfold sNewL at h0 ⊢
  unfold sNew
  rw [if_pos (decide_eq_true h), h0]
theorem sNewL_1 {K : KK} {n b : Nat} (h : K.1 12 n 0 = 3) (h0 : sNewL K n = some b) (h1 : ¬ K.1 5 n 0 ≤ K.1 5 b 0) : sNewL K (n + 1) = some n := by
  unfold sNewL at h0 ⊢
  unfold sNew
  rw [if_pos (decide_eq_true h), h0]
  exact if_pos (decide_eq_true h1)
theorem sNewL_2 {K : KK} {n b : Nat} (h : K.1 12 n 0 = 3) (h0 : sNewL K n = some b) (h1 : K.1 5 n 0 ≤ K.1 5 b 0) : sNewL K (n + 1) = some b := by
  unfold sNewL at h0 ⊢
  unfold sNew
  rw [if_pos (decide_eq_true h), h0]
  exact if_neg (by rw [decide_eq_false (fun z => z h1)]; decide)
theorem l_12 {X : XS} {o : Nat} (ho : o < 2) : ∀ n q : Nat, q + n = 7 → ∀ r : Option Nat, sNewL (xK X o) q = r → ∀ x5 : Option Value, AT 12 10 [some (.ref (aB o)), some (vSv o r), some (.ref (aB o + 1)), some (.int (Int32.ofNat 7)), some (.int (Int32.ofNat q)), x5] [] X (fun o' Y => o' = .inl (some (vSv o (sNewL (xK X o) 7))) ∧ Y = X)
  | 0, q, hq, r, hv, x5 => by
    cases r with
    | none =>
      refine AT.iload M_12 rfl rfl ?_
      refine AT.iload_n M_12 rfl rfl ?_
      refine AT.icmp_ge M_12 rfl (fun b12 => ?_) (fun b12 => ?_)
      · refine AT.aload_n0 M_12 rfl rfl ?_
        refine AT.aret0 M_12 rfl rfl ?_
        rw [show q = 7 by omega] at hv
        rw [hv]
        exact ⟨rfl, rfl⟩
      · exact absurd (by rw [show q = 7 by omega]; exact Int32.le_refl _) b12
    | some b =>
      refine AT.iload M_12 rfl rfl ?_
      refine AT.iload_n M_12 rfl rfl ?_
      refine AT.icmp_ge M_12 rfl (fun b12 => ?_) (fun b12 => ?_)
      · refine AT.aload_n M_12 rfl rfl ?_
        refine AT.aret M_12 rfl rfl ?_
        rw [show q = 7 by omega] at hv
        rw [hv]
        exact ⟨rfl, rfl⟩
      · exact absurd (by rw [show q = 7 by omega]; exact Int32.le_refl _) b12
  | n + 1, q, hq, r, hv, x5 => by
    have hq7 : q < 7 := by omega
    cases r with
    | none =>
      refine AT.iload M_12 rfl rfl ?_
      refine AT.iload_n M_12 rfl rfl ?_
      refine AT.icmp_ge M_12 rfl (fun b12 => ?_) (fun b12 => ?_)
      · exact absurd ((i32_le (b := q) (a := 7) (by omega) (by omega)).mp b12) (by omega)
      · refine AT.aload_n M_12 rfl rfl ?_
        refine AT.iload M_12 rfl rfl ?_
        refine AT.a_svs M_12 rfl rfl (by assumption) (by assumption) ?_
        refine AT.ast5 M_12 rfl rfl ?_
        refine AT.aload M_12 rfl rfl ?_
        refine AT.f_6_12 M_12 rfl (by assumption) (by assumption) ?_
        refine AT.iconst M_12 rfl (v := 3) (by decide) ?_
        refine AT.icmp_ne M_12 rfl (fun b20 => ?_) (fun b20 => ?_)
        · refine AT.iinc4 M_12 rfl rfl (i32_succ _) ?_
          refine AT.goto M_12 rfl ?_
          exact l_12 ho n (q + 1) (by omega) _ ((sNewL_no b20).trans hv) _
        · refine AT.aload_n0 M_12 rfl rfl ?_
          refine AT.ifnull0 M_12 rfl ?_
          refine AT.aload M_12 rfl rfl ?_
          refine AT.ast1 M_12 rfl rfl ?_
          refine AT.iinc4 M_12 rfl rfl (i32_succ _) ?_
          refine AT.goto M_12 rfl ?_
          exact l_12 ho n (q + 1) (by omega) _ (sNewL_0 (Classical.not_not.mp b20) hv) _
    | some b =>
      have hb : b < 7 := by have := sNew_lt hv; omega
      refine AT.iload M_12 rfl rfl ?_
      refine AT.iload_n M_12 rfl rfl ?_
      refine AT.icmp_ge M_12 rfl (fun b12 => ?_) (fun b12 => ?_)
      · exact absurd ((i32_le (b := q) (a := 7) (by omega) (by omega)).mp b12) (by omega)
      · refine AT.aload_n M_12 rfl rfl ?_
        refine AT.iload M_12 rfl rfl ?_
        refine AT.a_svs M_12 rfl rfl (by assumption) (by assumption) ?_
        refine AT.ast5 M_12 rfl rfl ?_
        refine AT.aload M_12 rfl rfl ?_
        refine AT.f_6_12 M_12 rfl (by assumption) (by assumption) ?_
        refine AT.iconst M_12 rfl (v := 3) (by decide) ?_
        refine AT.icmp_ne M_12 rfl (fun b20 => ?_) (fun b20 => ?_)
        · refine AT.iinc4 M_12 rfl rfl (i32_succ _) ?_
          refine AT.goto M_12 rfl ?_
          exact l_12 ho n (q + 1) (by omega) _ ((sNewL_no b20).trans hv) _
        · refine AT.aload_n M_12 rfl rfl ?_
          refine AT.ifnull1 M_12 rfl ?_
          refine AT.aload M_12 rfl rfl ?_
          refine AT.f_6_5 M_12 rfl (by assumption) (by assumption) ?_
          refine AT.aload_n M_12 rfl rfl ?_
          refine AT.f_6_5 M_12 rfl (by assumption) (by assumption) ?_
          refine AT.icmp_le M_12 rfl (fun b27 => ?_) (fun b27 => ?_)
          · refine AT.iinc4 M_12 rfl rfl (i32_succ _) ?_
            refine AT.goto M_12 rfl ?_
            exact l_12 ho n (q + 1) (by omega) _ (sNewL_2 (Classical.not_not.mp b20) hv b27) _
          · refine AT.aload M_12 rfl rfl ?_
            refine AT.ast1 M_12 rfl rfl ?_
            refine AT.iinc4 M_12 rfl rfl (i32_succ _) ?_
            refine AT.goto M_12 rfl ?_
            exact l_12 ho n (q + 1) (by omega) _ (sNewL_1 (Classical.not_not.mp b20) hv b27) _
theorem c_12 {X : XS} {o : Nat} (ho : o < 2) : RT 12 [some (.ref (aB o)), none, none, none, none, none] X (some (vSv o (sNewL (xK X o) 7))) X := by
  refine AT.anull M_12 rfl ?_
  refine AT.zst1 M_12 rfl rfl ?_
  refine AT.aload_n M_12 rfl rfl ?_
  refine AT.f_1_0 M_12 rfl (by assumption) ?_
  refine AT.ast2 M_12 rfl rfl ?_
  refine AT.aload_n M_12 rfl rfl ?_
  refine AT.l_svs M_12 rfl (by assumption) ?_
  refine AT.ist3 M_12 rfl rfl ?_
  refine AT.iconst M_12 rfl (v := 0) (by decide) ?_
  refine AT.ist4 M_12 rfl rfl ?_
  exact l_12 ho 7 0 rfl none rfl _
