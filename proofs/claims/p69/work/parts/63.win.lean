/-! ===== WHO CAN WIN ===== -/
def sWinP (K : KK) (mm t x : Int32) (i : Nat) : Bool := sBit mm i && sGood K i t x
def sWin (K : KK) (s : Nat) (mm : Int32) : Bool := decide (¬ 2 * sCntF (sWinP K mm (sLastT K s) (sLast K s)) 7 ≤ sCntF (sBit mm) 7)
theorem l_14 {X : XS} {o s : Nat} (ho : o < 2) (hs : s < 7) {mm : Int32} (hm : dV (xD X) o 10 s 0 = mm) : ∀ n q : Nat, q + n = 7 → ∀ x9 : Option Value, AT 14 18 [some (.ref (aB o)), some (.ref (aS o s)), some (.int (sLastT (xK X o) s)), some (.int (sLast (xK X o) s)), some (.int (sCntF (sBit mm) q)), some (.int (sCntF (sWinP (xK X o) mm (sLastT (xK X o) s) (sLast (xK X o) s)) q)), some (.ref (aB o + 1)), some (.int (Int32.ofNat 7)), some (.int (Int32.ofNat q)), x9] [] X (fun o' Y => o' = .inl (some (.int (bI (sWin (xK X o) s mm)))) ∧ Y = X)
  | 0, q, hq, x9 => by
    refine AT.iload M_14 rfl rfl ?_
    refine AT.iload M_14 rfl rfl ?_
    refine AT.icmp_ge M_14 rfl (fun b20 => ?_) (fun b20 => ?_)
    · refine AT.iconst M_14 rfl (v := 2) (by decide) ?_
      refine AT.iload M_14 rfl rfl ?_
      refine AT.imul M_14 rfl rfl ?_
      refine AT.iload M_14 rfl rfl ?_
      refine AT.icmp_le M_14 rfl (fun b48 => ?_) (fun b48 => ?_)
      · refine AT.iconst M_14 rfl (v := 0) (by decide) ?_
        refine AT.zret M_14 rfl rfl (by first | exact Or.inl rfl | exact Or.inr rfl | assumption) ?_
        refine ⟨?_, rfl⟩
        rw [show q = 7 by omega] at b48
        exact congrArg (fun z => (Sum.inl (some (Value.int z)) : PO)) (by unfold sWin; rw [decide_eq_false (fun z => z b48)]; rfl)
      · refine AT.iconst M_14 rfl (v := 1) (by decide) ?_
        refine AT.goto M_14 rfl ?_
        refine AT.zret M_14 rfl rfl (by first | exact Or.inl rfl | exact Or.inr rfl | assumption) ?_
        refine ⟨?_, rfl⟩
        rw [show q = 7 by omega] at b48
        exact congrArg (fun z => (Sum.inl (some (Value.int z)) : PO)) (by unfold sWin; rw [decide_eq_true b48]; rfl)
    · exact absurd (by rw [show q = 7 by omega]; exact Int32.le_refl _) b20
  | n + 1, q, hq, x9 => by
    have hq7 : q < 7 := by omega
    refine AT.iload M_14 rfl rfl ?_
    refine AT.iload M_14 rfl rfl ?_
    refine AT.icmp_ge M_14 rfl (fun b20 => ?_) (fun b20 => ?_)
    · exact absurd ((i32_le (b := q) (a := 7) (by omega) (by omega)).mp b20) (by omega)
    · refine AT.aload M_14 rfl rfl ?_
      refine AT.iload M_14 rfl rfl ?_
      refine AT.a_svs M_14 rfl rfl (by assumption) (by assumption) ?_
      refine AT.ast9 M_14 rfl rfl ?_
      refine AT.aload_n M_14 rfl rfl ?_
      refine AT.aload M_14 rfl rfl ?_
      refine AT.f_6_0 M_14 rfl (by assumption) (by assumption) ?_
      refine AT.cv2i M_14 rfl M_66 rfl (Nat.le_of_ble_eq_true rfl) (xKd.of (shp_sv (by assumption) (by assumption))) (by decide) (c_66 ho hs hq7 hm) ?_ (Nat.le_of_ble_eq_true rfl) rfl
      refine AT.if_eq M_14 rfl (fun b29 => ?_) (fun b29 => ?_)
      · have e4 : sCntF (sBit mm) (q + 1) = sCntF (sBit mm) q := sCntF_f (bI_eq0.mp b29)
        have e5 : sCntF (sWinP (xK X o) mm (sLastT (xK X o) s) (sLast (xK X o) s)) (q + 1) = sCntF (sWinP (xK X o) mm (sLastT (xK X o) s) (sLast (xK X o) s)) q := sCntF_f (by simp [sWinP, bI_eq0.mp b29])
        rw [← e4, ← e5]
        refine AT.iinc8 M_14 rfl rfl (i32_succ _) ?_
        refine AT.goto M_14 rfl ?_
        exact l_14 ho hs hm n (q + 1) (by omega) _
      · refine AT.iinc4 M_14 rfl rfl rfl ?_
        refine AT.iload M_14 rfl rfl ?_
        refine AT.aload M_14 rfl rfl ?_
        refine AT.iload_n M_14 rfl rfl ?_
        refine AT.iload_n M_14 rfl rfl ?_
        refine AT.cv3i M_14 rfl M_72 rfl (Nat.le_of_ble_eq_true rfl) (xKd.of (shp_sv (by assumption) (by assumption))) (by decide) (c_72 ho hq7) ?_ (Nat.le_of_ble_eq_true rfl) rfl
        refine AT.if_eq M_14 rfl (fun b36 => ?_) (fun b36 => ?_)
        · refine AT.iconst M_14 rfl (v := 0) (by decide) ?_
          have e4 : sCntF (sBit mm) (q + 1) = sCntF (sBit mm) q + Int32.ofInt 1 := sCntF_t (bI_ne0.mp b29)
          have e5 : sCntF (sWinP (xK X o) mm (sLastT (xK X o) s) (sLast (xK X o) s)) (q + 1) = sCntF (sWinP (xK X o) mm (sLastT (xK X o) s) (sLast (xK X o) s)) q + 0 := (sCntF_f (by simp [sWinP, bI_eq0.mp b36])).trans (Int32.add_zero _).symm
          rw [← e4]
          refine AT.iadd M_14 rfl e5.symm ?_
          refine AT.ist5 M_14 rfl rfl ?_
          refine AT.iinc8 M_14 rfl rfl (i32_succ _) ?_
          refine AT.goto M_14 rfl ?_
          exact l_14 ho hs hm n (q + 1) (by omega) _
        · refine AT.iconst M_14 rfl (v := 1) (by decide) ?_
          refine AT.goto M_14 rfl ?_
          have e4 : sCntF (sBit mm) (q + 1) = sCntF (sBit mm) q + Int32.ofInt 1 := sCntF_t (bI_ne0.mp b29)
          have e5 : sCntF (sWinP (xK X o) mm (sLastT (xK X o) s) (sLast (xK X o) s)) (q + 1) = sCntF (sWinP (xK X o) mm (sLastT (xK X o) s) (sLast (xK X o) s)) q + Int32.ofInt 1 := sCntF_t (by simp [sWinP, bI_ne0.mp b29, bI_ne0.mp b36])
          rw [← e4]
          refine AT.iadd M_14 rfl e5.symm ?_
          refine AT.ist5 M_14 rfl rfl ?_
          refine AT.iinc8 M_14 rfl rfl (i32_succ _) ?_
          refine AT.goto M_14 rfl ?_
          exact l_14 ho hs hm n (q + 1) (by omega) _
theorem c_14 {X : XS} {o s : Nat} (ho : o < 2) (hs : s < 7) {mm : Int32} (hm : dV (xD X) o 10 s 0 = mm) : RT 14 [some (.ref (aB o)), some (.ref (aS o s)), none, none, none, none, none, none, none, none] X (some (.int (bI (sWin (xK X o) s mm)))) X := by
  refine AT.aload_n M_14 rfl rfl ?_
  refine AT.cv1i M_14 rfl M_63 rfl (Nat.le_of_ble_eq_true rfl) (xKd.of (shp_sv (by assumption) (by assumption))) (by decide) (c_63 ho hs) ?_ (Nat.le_of_ble_eq_true rfl) rfl
  refine AT.ist2 M_14 rfl rfl ?_
  refine AT.aload_n M_14 rfl rfl ?_
  refine AT.cv1i M_14 rfl M_62 rfl (Nat.le_of_ble_eq_true rfl) (xKd.of (shp_sv (by assumption) (by assumption))) (by decide) (c_62 ho hs) ?_ (Nat.le_of_ble_eq_true rfl) rfl
  refine AT.ist3 M_14 rfl rfl ?_
  refine AT.iconst M_14 rfl (v := 0) (by decide) ?_
  refine AT.ist4 M_14 rfl rfl ?_
  refine AT.iconst M_14 rfl (v := 0) (by decide) ?_
  refine AT.ist5 M_14 rfl rfl ?_
  refine AT.aload_n M_14 rfl rfl ?_
  refine AT.f_1_0 M_14 rfl (by assumption) ?_
  refine AT.ast6 M_14 rfl rfl ?_
  refine AT.aload M_14 rfl rfl ?_
  refine AT.l_svs M_14 rfl (by assumption) ?_
  refine AT.ist7 M_14 rfl rfl ?_
  refine AT.iconst M_14 rfl (v := 0) (by decide) ?_
  refine AT.ist8 M_14 rfl rfl ?_
  exact l_14 ho hs hm 7 0 rfl _
