/-! ===== HOW MANY VALUES ===== -/
def sFirP (K : KK) (s ky j : Nat) : Bool := decide (K.1 4 j 0 = 0) || decide (¬ K.1 19 j ky = K.1 19 s ky)
def sValP (K : KK) (ky i : Nat) : Bool := decide (¬ K.1 4 i 0 = 0) && sAllF (sFirP K i ky) i
theorem l_16 {X : XS} {o s ky : Nat} (ho : o < 2) (hs : s < 7) (hk : ky < 8) : ∀ n q : Nat, q + n = s → sAllF (sFirP (xK X o) s ky) q = true → AT 16 2 [some (.ref (aB o)), some (.int (Int32.ofNat s)), some (.int (Int32.ofNat ky)), some (.int (Int32.ofNat q))] [] X (fun o' Y => o' = .inl (some (.int (bI (sAllF (sFirP (xK X o) s ky) s)))) ∧ Y = X)
  | 0, q, hq, hA => by
    refine AT.iload_n M_16 rfl rfl ?_
    refine AT.iload_n M_16 rfl rfl ?_
    refine AT.icmp_ge M_16 rfl (fun b4 => ?_) (fun b4 => ?_)
    · refine AT.iconst M_16 rfl (v := 1) (by decide) ?_
      refine AT.zret M_16 rfl rfl (by first | exact Or.inl rfl | exact Or.inr rfl | assumption) ?_
      rw [show q = s by omega] at hA
      rw [hA]
      exact ⟨rfl, rfl⟩
    · exact absurd (by rw [show q = s by omega]; exact Int32.le_refl _) b4
  | n + 1, q, hq, hA => by
    have hq7 : q < 7 := by omega
    refine AT.iload_n M_16 rfl rfl ?_
    refine AT.iload_n M_16 rfl rfl ?_
    refine AT.icmp_ge M_16 rfl (fun b4 => ?_) (fun b4 => ?_)
    · exact absurd ((i32_le (by omega) (by omega)).mp b4) (by omega)
    · refine AT.aload_n M_16 rfl rfl ?_
      refine AT.f_1_0 M_16 rfl (by assumption) ?_
      refine AT.iload_n M_16 rfl rfl ?_
      refine AT.a_svs M_16 rfl rfl (by assumption) (by assumption) ?_
      refine AT.f_6_4 M_16 rfl (by assumption) (by assumption) ?_
      refine AT.if_eq M_16 rfl (fun b10 => ?_) (fun b10 => ?_)
      · refine AT.iinc3 M_16 rfl rfl (i32_succ _) ?_
        refine AT.goto M_16 rfl ?_
        exact l_16 ho hs hk n (q + 1) (by omega) (sAllF_up hA (by simp [sFirP, b10]))
      · refine AT.aload_n M_16 rfl rfl ?_
        refine AT.f_1_0 M_16 rfl (by assumption) ?_
        refine AT.iload_n M_16 rfl rfl ?_
        refine AT.a_svs M_16 rfl rfl (by assumption) (by assumption) ?_
        refine AT.f_6_1 M_16 rfl (by assumption) (by assumption) ?_
        refine AT.f_8_0 M_16 rfl (by assumption) (by assumption) ?_
        refine AT.iload_n M_16 rfl rfl ?_
        refine AT.a_val M_16 rfl rfl (by assumption) (by assumption) (by assumption) ?_
        refine AT.aload_n M_16 rfl rfl ?_
        refine AT.f_1_0 M_16 rfl (by assumption) ?_
        refine AT.iload_n M_16 rfl rfl ?_
        refine AT.a_svs M_16 rfl rfl (by assumption) (by assumption) ?_
        refine AT.f_6_1 M_16 rfl (by assumption) (by assumption) ?_
        refine AT.f_8_0 M_16 rfl (by assumption) (by assumption) ?_
        refine AT.iload_n M_16 rfl rfl ?_
        refine AT.a_val M_16 rfl rfl (by assumption) (by assumption) (by assumption) ?_
        refine AT.icmp_ne M_16 rfl (fun b27 => ?_) (fun b27 => ?_)
        · refine AT.iinc3 M_16 rfl rfl (i32_succ _) ?_
          refine AT.goto M_16 rfl ?_
          exact l_16 ho hs hk n (q + 1) (by omega) (sAllF_up hA (by simp [sFirP, b27]))
        · refine AT.iconst M_16 rfl (v := 0) (by decide) ?_
          refine AT.zret M_16 rfl rfl (by first | exact Or.inl rfl | exact Or.inr rfl | assumption) ?_
          rw [sAllF_no (q := q) (n := s) (by simp [sFirP, b10, Classical.not_not.mp b27]) (by omega)]
          exact ⟨rfl, rfl⟩
theorem c_16 {X : XS} {o s ky : Nat} (ho : o < 2) (hs : s < 7) (hk : ky < 8) : RT 16 [some (.ref (aB o)), some (.int (Int32.ofNat s)), some (.int (Int32.ofNat ky)), none] X (some (.int (bI (sAllF (sFirP (xK X o) s ky) s)))) X := by
  refine AT.iconst M_16 rfl (v := 0) (by decide) ?_
  refine AT.ist3 M_16 rfl rfl ?_
  exact l_16 ho hs hk s 0 (by omega) rfl
theorem l_15 {X : XS} {o ky : Nat} (ho : o < 2) (hk : ky < 8) : ∀ n q : Nat, q + n = 7 → AT 15 4 [some (.ref (aB o)), some (.int (Int32.ofNat ky)), some (.int (sCntF (sValP (xK X o) ky) q)), some (.int (Int32.ofNat q))] [] X (fun o' Y => o' = .inl (some (.int (sCntF (sValP (xK X o) ky) 7))) ∧ Y = X)
  | 0, q, hq => by
    refine AT.iload_n M_15 rfl rfl ?_
    refine AT.bipush M_15 rfl (v := 7) (by decide) ?_
    refine AT.icmp_ge M_15 rfl (fun b6 => ?_) (fun b6 => ?_)
    · refine AT.iload_n M_15 rfl rfl ?_
      refine AT.iret M_15 rfl rfl ?_
      rw [show q = 7 by omega]
      exact ⟨rfl, rfl⟩
    · exact absurd (by rw [show q = 7 by omega]; exact Int32.le_refl _) b6
  | n + 1, q, hq => by
    have hq7 : q < 7 := by omega
    refine AT.iload_n M_15 rfl rfl ?_
    refine AT.bipush M_15 rfl (v := 7) (by decide) ?_
    refine AT.icmp_ge M_15 rfl (fun b6 => ?_) (fun b6 => ?_)
    · exact absurd ((i32_le (b := q) (a := 7) (by omega) (by omega)).mp b6) (by omega)
    · refine AT.iload_n M_15 rfl rfl ?_
      refine AT.aload_n M_15 rfl rfl ?_
      refine AT.f_1_0 M_15 rfl (by assumption) ?_
      refine AT.iload_n M_15 rfl rfl ?_
      refine AT.a_svs M_15 rfl rfl (by assumption) (by assumption) ?_
      refine AT.f_6_4 M_15 rfl (by assumption) (by assumption) ?_
      refine AT.if_eq M_15 rfl (fun b13 => ?_) (fun b13 => ?_)
      · refine AT.iconst M_15 rfl (v := 0) (by decide) ?_
        have e5 : sCntF (sValP (xK X o) ky) (q + 1) = sCntF (sValP (xK X o) ky) q + 0 := (sCntF_f (by simp [sValP, b13])).trans (Int32.add_zero _).symm
        refine AT.iadd M_15 rfl e5.symm ?_
        refine AT.ist2 M_15 rfl rfl ?_
        refine AT.iinc3 M_15 rfl rfl (i32_succ _) ?_
        refine AT.goto M_15 rfl ?_
        exact l_15 ho hk n (q + 1) (by omega)
      · refine AT.aload_n M_15 rfl rfl ?_
        refine AT.iload_n M_15 rfl rfl ?_
        refine AT.iload_n M_15 rfl rfl ?_
        refine AT.cv3i M_15 rfl M_16 rfl (Nat.le_of_ble_eq_true rfl) (xKd.of (shp_cl (by assumption))) (by decide) (c_16 ho hq7 hk) ?_ (Nat.le_of_ble_eq_true rfl) rfl
        refine AT.if_eq M_15 rfl (fun b18 => ?_) (fun b18 => ?_)
        · refine AT.iconst M_15 rfl (v := 0) (by decide) ?_
          have e5 : sCntF (sValP (xK X o) ky) (q + 1) = sCntF (sValP (xK X o) ky) q + 0 := (sCntF_f (by simp [sValP, bI_eq0.mp b18])).trans (Int32.add_zero _).symm
          refine AT.iadd M_15 rfl e5.symm ?_
          refine AT.ist2 M_15 rfl rfl ?_
          refine AT.iinc3 M_15 rfl rfl (i32_succ _) ?_
          refine AT.goto M_15 rfl ?_
          exact l_15 ho hk n (q + 1) (by omega)
        · refine AT.iconst M_15 rfl (v := 1) (by decide) ?_
          refine AT.goto M_15 rfl ?_
          have e5 : sCntF (sValP (xK X o) ky) (q + 1) = sCntF (sValP (xK X o) ky) q + Int32.ofInt 1 := sCntF_t (by simp [sValP, b13, bI_ne0.mp b18])
          refine AT.iadd M_15 rfl e5.symm ?_
          refine AT.ist2 M_15 rfl rfl ?_
          refine AT.iinc3 M_15 rfl rfl (i32_succ _) ?_
          refine AT.goto M_15 rfl ?_
          exact l_15 ho hk n (q + 1) (by omega)
theorem c_15 {X : XS} {o ky : Nat} (ho : o < 2) (hk : ky < 8) : RT 15 [some (.ref (aB o)), some (.int (Int32.ofNat ky)), none, none] X (some (.int (sCntF (sValP (xK X o) ky) 7))) X := by
  refine AT.iconst M_15 rfl (v := 0) (by decide) ?_
  refine AT.ist2 M_15 rfl rfl ?_
  refine AT.iconst M_15 rfl (v := 0) (by decide) ?_
  refine AT.ist3 M_15 rfl rfl ?_
  exact l_15 ho hk 7 0 rfl
