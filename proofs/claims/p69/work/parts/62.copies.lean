/-! ===== COPIES, WHO CAN WIN ===== -/
def sCopyP (K : KK) (mm x t : Int32) (i : Nat) : Bool := sBit mm i && (decide (x ≤ K.1 18 i 0) || decide (sTix K i x = t))
theorem sCntF_t {p : Nat → Bool} {q : Nat} (h : p q = true) : sCntF p (q + 1) = sCntF p q + Int32.ofInt 1 := by
  show sCntF p q + bI (p q) = _
  rw [h]; rfl
theorem sCntF_f {p : Nat → Bool} {q : Nat} (h : p q = false) : sCntF p (q + 1) = sCntF p q := by
  show sCntF p q + bI (p q) = _
  rw [h]
  exact Int32.add_zero _
theorem l_13 {X : XS} {o s : Nat} (ho : o < 2) (hs : s < 7) {mm x t : Int32} (hm : dV (xD X) o 10 s 0 = mm) (hw : ∀ i, i < 7 → kWf (xK X o) i) : ∀ n q : Nat, q + n = 7 → ∀ x8 : Option Value, AT 13 10 [some (.ref (aB o)), some (.ref (aS o s)), some (.int x), some (.int t), some (.int (sCntF (sCopyP (xK X o) mm x t) q)), some (.ref (aB o + 1)), some (.int (Int32.ofNat 7)), some (.int (Int32.ofNat q)), x8] [] X (fun o' Y => o' = .inl (some (.int (sCntF (sCopyP (xK X o) mm x t) 7))) ∧ Y = X)
  | 0, q, hq, x8 => by
    refine AT.iload M_13 rfl rfl ?_
    refine AT.iload M_13 rfl rfl ?_
    refine AT.icmp_ge M_13 rfl (fun b12 => ?_) (fun b12 => ?_)
    · refine AT.iload M_13 rfl rfl ?_
      refine AT.iret M_13 rfl rfl ?_
      rw [show q = 7 by omega]
      exact ⟨rfl, rfl⟩
    · exact absurd (by rw [show q = 7 by omega]; exact Int32.le_refl _) b12
  | n + 1, q, hq, x8 => by
    have hq7 : q < 7 := by omega
    refine AT.iload M_13 rfl rfl ?_
    refine AT.iload M_13 rfl rfl ?_
    refine AT.icmp_ge M_13 rfl (fun b12 => ?_) (fun b12 => ?_)
    · exact absurd ((i32_le (b := q) (a := 7) (by omega) (by omega)).mp b12) (by omega)
    · refine AT.aload M_13 rfl rfl ?_
      refine AT.iload M_13 rfl rfl ?_
      refine AT.a_svs M_13 rfl rfl (by assumption) (by assumption) ?_
      refine AT.ast8 M_13 rfl rfl ?_
      refine AT.aload_n M_13 rfl rfl ?_
      refine AT.aload M_13 rfl rfl ?_
      refine AT.f_6_0 M_13 rfl (by assumption) (by assumption) ?_
      refine AT.cv2i M_13 rfl M_66 rfl (Nat.le_of_ble_eq_true rfl) (xKd.of (shp_sv (by assumption) (by assumption))) (by decide) (c_66 ho hs hq7 hm) ?_ (Nat.le_of_ble_eq_true rfl) rfl
      refine AT.if_eq M_13 rfl (fun b21 => ?_) (fun b21 => ?_)
      · have e : sCntF (sCopyP (xK X o) mm x t) (q + 1) = sCntF (sCopyP (xK X o) mm x t) q := sCntF_f (by simp [sCopyP, bI_eq0.mp b21])
        rw [← e]
        refine AT.iinc7 M_13 rfl rfl (i32_succ _) ?_
        refine AT.goto M_13 rfl ?_
        exact l_13 ho hs hm hw n (q + 1) (by omega) _
      · refine AT.aload M_13 rfl rfl ?_
        refine AT.f_6_9 M_13 rfl (by assumption) (by assumption) (fun p23 hp23 => ?_)
        refine AT.f_7_0 M_13 rfl (by assumption) ?_
        refine AT.iload_n M_13 rfl rfl ?_
        refine AT.icmp_ge M_13 rfl (fun b26 => ?_) (fun b26 => ?_)
        · refine AT.iinc4 M_13 rfl rfl rfl ?_
          have e : sCntF (sCopyP (xK X o) mm x t) (q + 1) = sCntF (sCopyP (xK X o) mm x t) q + Int32.ofInt 1 := sCntF_t (by simp [sCopyP, bI_ne0.mp b21, b26])
          rw [← e]
          refine AT.iinc7 M_13 rfl rfl (i32_succ _) ?_
          refine AT.goto M_13 rfl ?_
          exact l_13 ho hs hm hw n (q + 1) (by omega) _
        · refine AT.aload M_13 rfl rfl ?_
          refine AT.iload_n M_13 rfl rfl ?_
          refine AT.cv2i M_13 rfl M_65 rfl (Nat.le_of_ble_eq_true rfl) (xKd.of (shp_sv (by assumption) (by assumption))) (by decide) (c_65 ho hq7 (hw q hq7)) ?_ (Nat.le_of_ble_eq_true rfl) rfl
          refine AT.iload_n M_13 rfl rfl ?_
          refine AT.icmp_ne M_13 rfl (fun b31 => ?_) (fun b31 => ?_)
          · have e : sCntF (sCopyP (xK X o) mm x t) (q + 1) = sCntF (sCopyP (xK X o) mm x t) q := sCntF_f (by simp [sCopyP, b26, b31])
            rw [← e]
            refine AT.iinc7 M_13 rfl rfl (i32_succ _) ?_
            refine AT.goto M_13 rfl ?_
            exact l_13 ho hs hm hw n (q + 1) (by omega) _
          · refine AT.iinc4 M_13 rfl rfl rfl ?_
            have e : sCntF (sCopyP (xK X o) mm x t) (q + 1) = sCntF (sCopyP (xK X o) mm x t) q + Int32.ofInt 1 := sCntF_t (by simp [sCopyP, bI_ne0.mp b21, Classical.not_not.mp b31])
            rw [← e]
            refine AT.iinc7 M_13 rfl rfl (i32_succ _) ?_
            refine AT.goto M_13 rfl ?_
            exact l_13 ho hs hm hw n (q + 1) (by omega) _
theorem c_13 {X : XS} {o s : Nat} (ho : o < 2) (hs : s < 7) {mm x t : Int32} (hm : dV (xD X) o 10 s 0 = mm) (hw : ∀ i, i < 7 → kWf (xK X o) i) : RT 13 [some (.ref (aB o)), some (.ref (aS o s)), some (.int x), some (.int t), none, none, none, none, none] X (some (.int (sCntF (sCopyP (xK X o) mm x t) 7))) X := by
  refine AT.iconst M_13 rfl (v := 0) (by decide) ?_
  refine AT.ist4 M_13 rfl rfl ?_
  refine AT.aload_n M_13 rfl rfl ?_
  refine AT.f_1_0 M_13 rfl (by assumption) ?_
  refine AT.ast5 M_13 rfl rfl ?_
  refine AT.aload M_13 rfl rfl ?_
  refine AT.l_svs M_13 rfl (by assumption) ?_
  refine AT.ist6 M_13 rfl rfl ?_
  refine AT.iconst M_13 rfl (v := 0) (by decide) ?_
  refine AT.ist7 M_13 rfl rfl ?_
  exact l_13 ho hs hm hw 7 0 rfl _
