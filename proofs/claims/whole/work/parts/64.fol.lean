/-! ===== WHO IS FOLLOWED ===== -/
def sAllF (p : Nat → Bool) : Nat → Bool
  | 0 => true
  | n + 1 => sAllF p n && p n
theorem sAllF_no {p : Nat → Bool} {q : Nat} (h : p q = false) : ∀ {n : Nat}, q < n → sAllF p n = false
  | 0, hn => by omega
  | n + 1, hn => by
    unfold sAllF
    by_cases e : q = n
    · subst e; rw [h]; simp
    · rw [sAllF_no h (n := n) (by omega)]; rfl
theorem sAllF_up {p : Nat → Bool} {q : Nat} (h : sAllF p q = true) (hq : p q = true) : sAllF p (q + 1) = true := by
  show (sAllF p q && p q) = true
  rw [h, hq]; rfl
def sFolP (K : KK) (s : Nat) (mm : Int32) (i : Nat) : Bool := decide (i = s) || decide (K.1 4 i 0 = 0) || !sBit mm i || decide (K.1 13 i 0 = Int32.ofNat s)
theorem l_19 {X : XS} {o s : Nat} (ho : o < 2) (hs : s < 7) {mm : Int32} (hm : dV (xD X) o 10 s 0 = mm) : ∀ n q : Nat, q + n = 7 → sAllF (sFolP (xK X o) s mm) q = true → ∀ x5 : Option Value, AT 19 8 [some (.ref (aB o)), some (.ref (aS o s)), some (.ref (aB o + 1)), some (.int (Int32.ofNat 7)), some (.int (Int32.ofNat q)), x5] [] X (fun o' Y => o' = .inl (some (.int (bI (sAllF (sFolP (xK X o) s mm) 7)))) ∧ Y = X)
  | 0, q, hq, hA, x5 => by
    refine AT.iload M_19 rfl rfl ?_
    refine AT.iload_n M_19 rfl rfl ?_
    refine AT.icmp_ge M_19 rfl (fun b10 => ?_) (fun b10 => ?_)
    · refine AT.iconst M_19 rfl (v := 1) (by decide) ?_
      refine AT.zret M_19 rfl rfl (by first | exact Or.inl rfl | exact Or.inr rfl | assumption) ?_
      rw [show q = 7 by omega] at hA
      rw [hA]
      exact ⟨rfl, rfl⟩
    · exact absurd (by rw [show q = 7 by omega]; exact Int32.le_refl _) b10
  | n + 1, q, hq, hA, x5 => by
    have hq7 : q < 7 := by omega
    refine AT.iload M_19 rfl rfl ?_
    refine AT.iload_n M_19 rfl rfl ?_
    refine AT.icmp_ge M_19 rfl (fun b10 => ?_) (fun b10 => ?_)
    · exact absurd ((i32_le (b := q) (a := 7) (by omega) (by omega)).mp b10) (by omega)
    · refine AT.aload_n M_19 rfl rfl ?_
      refine AT.iload M_19 rfl rfl ?_
      refine AT.a_svs M_19 rfl rfl (by assumption) (by assumption) ?_
      refine AT.ast5 M_19 rfl rfl ?_
      refine AT.aload M_19 rfl rfl ?_
      refine AT.aload_n M_19 rfl rfl ?_
      refine AT.acmp_eq M_19 rfl (fun b17 => ?_) (fun b17 => ?_)
      · refine AT.iinc4 M_19 rfl rfl (i32_succ _) ?_
        refine AT.goto M_19 rfl ?_
        exact l_19 ho hs hm n (q + 1) (by omega) (sAllF_up hA (by simp [sFolP, show q = s from (by have h := b17; dsimp only [aS] at h; omega)])) _
      · refine AT.aload M_19 rfl rfl ?_
        refine AT.f_6_4 M_19 rfl (by assumption) (by assumption) ?_
        refine AT.if_eq M_19 rfl (fun b20 => ?_) (fun b20 => ?_)
        · refine AT.iinc4 M_19 rfl rfl (i32_succ _) ?_
          refine AT.goto M_19 rfl ?_
          exact l_19 ho hs hm n (q + 1) (by omega) (sAllF_up hA (by simp [sFolP, b20])) _
        · refine AT.aload_n M_19 rfl rfl ?_
          refine AT.aload M_19 rfl rfl ?_
          refine AT.f_6_0 M_19 rfl (by assumption) (by assumption) ?_
          refine AT.cv2i M_19 rfl M_66 rfl (Nat.le_of_ble_eq_true rfl) (xKd.of (shp_sv (by assumption) (by assumption))) (by decide) (c_66 ho hs hq7 hm) ?_ (Nat.le_of_ble_eq_true rfl) rfl
          refine AT.if_eq M_19 rfl (fun b25 => ?_) (fun b25 => ?_)
          · refine AT.iinc4 M_19 rfl rfl (i32_succ _) ?_
            refine AT.goto M_19 rfl ?_
            exact l_19 ho hs hm n (q + 1) (by omega) (sAllF_up hA (by simp [sFolP, bI_eq0.mp b25])) _
          · refine AT.aload M_19 rfl rfl ?_
            refine AT.f_6_13 M_19 rfl (by assumption) (by assumption) ?_
            refine AT.aload_n M_19 rfl rfl ?_
            refine AT.f_6_0 M_19 rfl (by assumption) (by assumption) ?_
            refine AT.icmp_eq M_19 rfl (fun b30 => ?_) (fun b30 => ?_)
            · refine AT.iinc4 M_19 rfl rfl (i32_succ _) ?_
              refine AT.goto M_19 rfl ?_
              exact l_19 ho hs hm n (q + 1) (by omega) (sAllF_up hA (by simp [sFolP, b30])) _
            · refine AT.iconst M_19 rfl (v := 0) (by decide) ?_
              refine AT.zret M_19 rfl rfl (by first | exact Or.inl rfl | exact Or.inr rfl | assumption) ?_
              have hne : ¬ q = s := fun z => b17 (by rw [z])
              rw [sAllF_no (q := q) (n := 7) (by simp [sFolP, hne, b20, bI_ne0.mp b25, b30]) hq7]
              exact ⟨rfl, rfl⟩
theorem c_19 {X : XS} {o s : Nat} (ho : o < 2) (hs : s < 7) {mm : Int32} (hm : dV (xD X) o 10 s 0 = mm) : RT 19 [some (.ref (aB o)), some (.ref (aS o s)), none, none, none, none] X (some (.int (bI (sAllF (sFolP (xK X o) s mm) 7)))) X := by
  refine AT.aload_n M_19 rfl rfl ?_
  refine AT.f_1_0 M_19 rfl (by assumption) ?_
  refine AT.ast2 M_19 rfl rfl ?_
  refine AT.aload_n M_19 rfl rfl ?_
  refine AT.l_svs M_19 rfl (by assumption) ?_
  refine AT.ist3 M_19 rfl rfl ?_
  refine AT.iconst M_19 rfl (v := 0) (by decide) ?_
  refine AT.ist4 M_19 rfl rfl ?_
  exact l_19 ho hs hm 7 0 rfl rfl _
def sLedP (K : KK) (mm : Nat → Int32) (i : Nat) : Bool := decide (K.1 12 i 0 = 3) && sAllF (sFolP K i (mm i)) 7
theorem l_18 {X : XS} {o : Nat} (ho : o < 2) {mm : Nat → Int32} (hm : ∀ i, i < 7 → dV (xD X) o 10 i 0 = mm i) : ∀ n q : Nat, q + n = 7 → sAllF (fun i => !sLedP (xK X o) mm i) q = true → ∀ x4 : Option Value, AT 18 8 [some (.ref (aB o)), some (.ref (aB o + 1)), some (.int (Int32.ofNat 7)), some (.int (Int32.ofNat q)), x4] [] X (fun o' Y => o' = .inl (some (.int (bI (!sAllF (fun i => !sLedP (xK X o) mm i) 7)))) ∧ Y = X)
  | 0, q, hq, hA, x4 => by
    refine AT.iload_n M_18 rfl rfl ?_
    refine AT.iload_n M_18 rfl rfl ?_
    refine AT.icmp_ge M_18 rfl (fun b10 => ?_) (fun b10 => ?_)
    · refine AT.iconst M_18 rfl (v := 0) (by decide) ?_
      refine AT.zret M_18 rfl rfl (by first | exact Or.inl rfl | exact Or.inr rfl | assumption) ?_
      rw [show q = 7 by omega] at hA
      rw [hA]
      exact ⟨rfl, rfl⟩
    · exact absurd (by rw [show q = 7 by omega]; exact Int32.le_refl _) b10
  | n + 1, q, hq, hA, x4 => by
    have hq7 : q < 7 := by omega
    refine AT.iload_n M_18 rfl rfl ?_
    refine AT.iload_n M_18 rfl rfl ?_
    refine AT.icmp_ge M_18 rfl (fun b10 => ?_) (fun b10 => ?_)
    · exact absurd ((i32_le (b := q) (a := 7) (by omega) (by omega)).mp b10) (by omega)
    · refine AT.aload_n M_18 rfl rfl ?_
      refine AT.iload_n M_18 rfl rfl ?_
      refine AT.a_svs M_18 rfl rfl (by assumption) (by assumption) ?_
      refine AT.ast4 M_18 rfl rfl ?_
      refine AT.aload M_18 rfl rfl ?_
      refine AT.f_6_12 M_18 rfl (by assumption) (by assumption) ?_
      refine AT.iconst M_18 rfl (v := 3) (by decide) ?_
      refine AT.icmp_ne M_18 rfl (fun b18 => ?_) (fun b18 => ?_)
      · refine AT.iinc3 M_18 rfl rfl (i32_succ _) ?_
        refine AT.goto M_18 rfl ?_
        exact l_18 ho hm n (q + 1) (by omega) (sAllF_up hA (by simp [sLedP, b18])) _
      · refine AT.aload_n M_18 rfl rfl ?_
        refine AT.aload M_18 rfl rfl ?_
        refine AT.cv2i M_18 rfl M_19 rfl (Nat.le_of_ble_eq_true rfl) (xKd.of (shp_cl (by assumption))) (by decide) (c_19 ho hq7 (hm q hq7)) ?_ (Nat.le_of_ble_eq_true rfl) rfl
        refine AT.if_eq M_18 rfl (fun b22 => ?_) (fun b22 => ?_)
        · refine AT.iinc3 M_18 rfl rfl (i32_succ _) ?_
          refine AT.goto M_18 rfl ?_
          exact l_18 ho hm n (q + 1) (by omega) (sAllF_up hA (by simp [sLedP, bI_eq0.mp b22])) _
        · refine AT.iconst M_18 rfl (v := 1) (by decide) ?_
          refine AT.zret M_18 rfl rfl (by first | exact Or.inl rfl | exact Or.inr rfl | assumption) ?_
          rw [sAllF_no (q := q) (n := 7) (by simp [sLedP, Classical.not_not.mp b18, bI_ne0.mp b22]) hq7]
          exact ⟨rfl, rfl⟩
theorem c_18 {X : XS} {o : Nat} (ho : o < 2) {mm : Nat → Int32} (hm : ∀ i, i < 7 → dV (xD X) o 10 i 0 = mm i) : RT 18 [some (.ref (aB o)), none, none, none, none] X (some (.int (bI (!sAllF (fun i => !sLedP (xK X o) mm i) 7)))) X := by
  refine AT.aload_n M_18 rfl rfl ?_
  refine AT.f_1_0 M_18 rfl (by assumption) ?_
  refine AT.ast1 M_18 rfl rfl ?_
  refine AT.aload_n M_18 rfl rfl ?_
  refine AT.l_svs M_18 rfl (by assumption) ?_
  refine AT.ist2 M_18 rfl rfl ?_
  refine AT.iconst M_18 rfl (v := 0) (by decide) ?_
  refine AT.ist3 M_18 rfl rfl ?_
  exact l_18 ho hm 7 0 rfl rfl _
