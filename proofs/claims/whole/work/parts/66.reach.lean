/-! ===== AGREED, REACHED ===== -/
def sAgP (K : KK) (b : Nat) (mm : Int32) (i : Nat) : Bool := !(decide (i = b) || (decide (¬ K.1 4 i 0 = 0) && sBit mm i)) || decide (sLast K b ≤ K.1 15 i 0)
def sAgreed (K : KK) (mm : Nat → Int32) : Bool := match sNewL K 7 with | none => false | some b => sAllF (sAgP K b (mm b)) 7
theorem l_20 {X : XS} {o b : Nat} (ho : o < 2) (hb : b < 7) {mm : Int32} (hm : dV (xD X) o 10 b 0 = mm) : ∀ n q : Nat, q + n = 7 → sAllF (sAgP (xK X o) b mm) q = true → ∀ x5 x6 : Option Value, AT 20 15 [some (.ref (aB o)), some (.ref (aS o b)), some (.ref (aB o + 1)), some (.int (Int32.ofNat 7)), some (.int (Int32.ofNat q)), x5, x6] [] X (fun o' Y => o' = .inl (some (.int (bI (sAllF (sAgP (xK X o) b mm) 7)))) ∧ Y = X)
  | 0, q, hq, hA, x5, x6 => by
    refine AT.iload M_20 rfl rfl ?_
    refine AT.iload_n M_20 rfl rfl ?_
    refine AT.icmp_ge M_20 rfl (fun b17 => ?_) (fun b17 => ?_)
    · refine AT.iconst M_20 rfl (v := 1) (by decide) ?_
      refine AT.zret M_20 rfl rfl (by first | exact Or.inl rfl | exact Or.inr rfl | assumption) ?_
      rw [show q = 7 by omega] at hA
      rw [hA]
      exact ⟨rfl, rfl⟩
    · exact absurd (by rw [show q = 7 by omega]; exact Int32.le_refl _) b17
  | n + 1, q, hq, hA, x5, x6 => by
    have hq7 : q < 7 := by omega
    refine AT.iload M_20 rfl rfl ?_
    refine AT.iload_n M_20 rfl rfl ?_
    refine AT.icmp_ge M_20 rfl (fun b17 => ?_) (fun b17 => ?_)
    · exact absurd ((i32_le (b := q) (a := 7) (by omega) (by omega)).mp b17) (by omega)
    · refine AT.aload_n M_20 rfl rfl ?_
      refine AT.iload M_20 rfl rfl ?_
      refine AT.a_svs M_20 rfl rfl (by assumption) (by assumption) ?_
      refine AT.ast5 M_20 rfl rfl ?_
      refine AT.aload M_20 rfl rfl ?_
      refine AT.aload_n M_20 rfl rfl ?_
      refine AT.acmp_eq M_20 rfl (fun b24 => ?_) (fun b24 => ?_)
      · refine AT.iconst M_20 rfl (v := 1) (by decide) ?_
        refine AT.goto M_20 rfl ?_
        refine AT.ist6 M_20 rfl rfl ?_
        refine AT.iload M_20 rfl rfl ?_
        refine AT.if_eq M_20 rfl (fun b38 => ?_) (fun b38 => ?_)
        · exact absurd b38 (by decide)
        · refine AT.aload M_20 rfl rfl ?_
          refine AT.f_6_15 M_20 rfl (by assumption) (by assumption) ?_
          refine AT.aload_n M_20 rfl rfl ?_
          refine AT.cv1i M_20 rfl M_62 rfl (Nat.le_of_ble_eq_true rfl) (xKd.of (shp_sv (by assumption) (by assumption))) (by decide) (c_62 ho hb) ?_ (Nat.le_of_ble_eq_true rfl) rfl
          refine AT.icmp_ge M_20 rfl (fun b43 => ?_) (fun b43 => ?_)
          · refine AT.iinc4 M_20 rfl rfl (i32_succ _) ?_
            refine AT.goto M_20 rfl ?_
            exact l_20 ho hb hm n (q + 1) (by omega) (sAllF_up hA (by simp [sAgP, b43])) _ _
          · refine AT.iconst M_20 rfl (v := 0) (by decide) ?_
            refine AT.zret M_20 rfl rfl (by first | exact Or.inl rfl | exact Or.inr rfl | assumption) ?_
            have hqb : q = b := by have h := b24; dsimp only [aS] at h; omega
            rw [sAllF_no (q := q) (n := 7) (by unfold sAgP; rw [decide_eq_true hqb, decide_eq_false b43]; rfl) hq7]
            exact ⟨rfl, rfl⟩
      · refine AT.aload M_20 rfl rfl ?_
        refine AT.f_6_4 M_20 rfl (by assumption) (by assumption) ?_
        refine AT.if_eq M_20 rfl (fun b27 => ?_) (fun b27 => ?_)
        · refine AT.iconst M_20 rfl (v := 0) (by decide) ?_
          refine AT.ist6 M_20 rfl rfl ?_
          refine AT.iload M_20 rfl rfl ?_
          refine AT.if_eq M_20 rfl (fun b38 => ?_) (fun b38 => ?_)
          · have hqb : ¬ q = b := fun z => b24 (by rw [z])
            refine AT.iinc4 M_20 rfl rfl (i32_succ _) ?_
            refine AT.goto M_20 rfl ?_
            exact l_20 ho hb hm n (q + 1) (by omega) (sAllF_up hA (by simp [sAgP, hqb, b27])) _ _
          · exact absurd rfl b38
        · refine AT.aload_n M_20 rfl rfl ?_
          refine AT.aload M_20 rfl rfl ?_
          refine AT.f_6_0 M_20 rfl (by assumption) (by assumption) ?_
          refine AT.cv2i M_20 rfl M_66 rfl (Nat.le_of_ble_eq_true rfl) (xKd.of (shp_sv (by assumption) (by assumption))) (by decide) (c_66 ho hb hq7 hm) ?_ (Nat.le_of_ble_eq_true rfl) rfl
          refine AT.if_eq M_20 rfl (fun b32 => ?_) (fun b32 => ?_)
          · refine AT.iconst M_20 rfl (v := 0) (by decide) ?_
            refine AT.ist6 M_20 rfl rfl ?_
            refine AT.iload M_20 rfl rfl ?_
            refine AT.if_eq M_20 rfl (fun b38 => ?_) (fun b38 => ?_)
            · have hqb : ¬ q = b := fun z => b24 (by rw [z])
              refine AT.iinc4 M_20 rfl rfl (i32_succ _) ?_
              refine AT.goto M_20 rfl ?_
              exact l_20 ho hb hm n (q + 1) (by omega) (sAllF_up hA (by simp [sAgP, hqb, bI_eq0.mp b32])) _ _
            · exact absurd rfl b38
          · refine AT.iconst M_20 rfl (v := 1) (by decide) ?_
            refine AT.goto M_20 rfl ?_
            refine AT.ist6 M_20 rfl rfl ?_
            refine AT.iload M_20 rfl rfl ?_
            refine AT.if_eq M_20 rfl (fun b38 => ?_) (fun b38 => ?_)
            · exact absurd b38 (by decide)
            · refine AT.aload M_20 rfl rfl ?_
              refine AT.f_6_15 M_20 rfl (by assumption) (by assumption) ?_
              refine AT.aload_n M_20 rfl rfl ?_
              refine AT.cv1i M_20 rfl M_62 rfl (Nat.le_of_ble_eq_true rfl) (xKd.of (shp_sv (by assumption) (by assumption))) (by decide) (c_62 ho hb) ?_ (Nat.le_of_ble_eq_true rfl) rfl
              refine AT.icmp_ge M_20 rfl (fun b43 => ?_) (fun b43 => ?_)
              · refine AT.iinc4 M_20 rfl rfl (i32_succ _) ?_
                refine AT.goto M_20 rfl ?_
                exact l_20 ho hb hm n (q + 1) (by omega) (sAllF_up hA (by simp [sAgP, b43])) _ _
              · refine AT.iconst M_20 rfl (v := 0) (by decide) ?_
                refine AT.zret M_20 rfl rfl (by first | exact Or.inl rfl | exact Or.inr rfl | assumption) ?_
                rw [sAllF_no (q := q) (n := 7) (by simp [sAgP, b27, bI_ne0.mp b32, b43]) hq7]
                exact ⟨rfl, rfl⟩
theorem c_20 {X : XS} {o : Nat} (ho : o < 2) {mm : Nat → Int32} (hm : ∀ i, i < 7 → dV (xD X) o 10 i 0 = mm i) : RT 20 [some (.ref (aB o)), none, none, none, none, none, none] X (some (.int (bI (sAgreed (xK X o) mm)))) X := by
  have hc := c_12 (X := X) ho
  cases h : sNewL (xK X o) 7 with
  | none =>
    rw [h] at hc
    replace hc : RT 12 [some (.ref (aB o)), none, none, none, none, none] X (some .null) X := hc
    refine AT.aload_n M_20 rfl rfl ?_
    refine AT.cv1i M_20 rfl M_12 rfl (Nat.le_of_ble_eq_true rfl) (xKd.of (shp_cl (by assumption))) (by decide) hc ?_ (Nat.le_of_ble_eq_true rfl) rfl
    refine AT.zst1 M_20 rfl rfl ?_
    refine AT.aload_n0 M_20 rfl rfl ?_
    refine AT.ifnn0 M_20 rfl ?_
    refine AT.iconst M_20 rfl (v := 0) (by decide) ?_
    refine AT.zret M_20 rfl rfl (by first | exact Or.inl rfl | exact Or.inr rfl | assumption) ?_
    exact ⟨by unfold sAgreed; rw [h]; rfl, rfl⟩
  | some b =>
    have hb : b < 7 := sNew_lt h
    rw [h] at hc
    replace hc : RT 12 [some (.ref (aB o)), none, none, none, none, none] X (some (.ref (aS o b))) X := hc
    refine AT.aload_n M_20 rfl rfl ?_
    refine AT.cv1i M_20 rfl M_12 rfl (Nat.le_of_ble_eq_true rfl) (xKd.of (shp_cl (by assumption))) (by decide) hc ?_ (Nat.le_of_ble_eq_true rfl) rfl
    refine AT.ast1 M_20 rfl rfl ?_
    refine AT.aload_n M_20 rfl rfl ?_
    refine AT.ifnn1 M_20 rfl ?_
    refine AT.aload_n M_20 rfl rfl ?_
    refine AT.f_1_0 M_20 rfl (by assumption) ?_
    refine AT.ast2 M_20 rfl rfl ?_
    refine AT.aload_n M_20 rfl rfl ?_
    refine AT.l_svs M_20 rfl (by assumption) ?_
    refine AT.ist3 M_20 rfl rfl ?_
    refine AT.iconst M_20 rfl (v := 0) (by decide) ?_
    refine AT.ist4 M_20 rfl rfl ?_
    have e : sAgreed (xK X o) mm = sAllF (sAgP (xK X o) b (mm b)) 7 := by unfold sAgreed; rw [h]
    rw [e]
    exact l_20 ho hb (hm b hb) 7 0 rfl rfl _ _
/-- has that been reached which is waited for: kind x, client c -/
def sReach (K : KK) (mm : Nat → Int32) (x : Int32) (c : Nat) : Bool :=
  if x = 0 then !sAllF (fun i => !sLedP K mm i) 7 else if x = 1 then !(decide (¬ K.1 34 c 3 = 0) && decide (K.1 35 c 0 = 0)) else if x = 2 then sAgreed K mm else decide (¬ sCntF (fun i => decide (K.1 12 i 0 = 3)) 7 ≤ 0)
theorem c_17 {X : XS} {o c : Nat} (ho : o < 2) (hc : c < 4) {x : Int32} {mm : Nat → Int32} (hm : ∀ i, i < 7 → dV (xD X) o 10 i 0 = mm i) : RT 17 [some (.ref (aB o)), some (.int x), some (.int (Int32.ofNat c))] X (some (.int (bI (sReach (xK X o) mm x c)))) X := by
  refine AT.iload_n M_17 rfl rfl ?_
  refine AT.if_ne M_17 rfl (fun b1 => ?_) (fun b1 => ?_)
  · refine AT.iload_n M_17 rfl rfl ?_
    refine AT.iconst M_17 rfl (v := 1) (by decide) ?_
    refine AT.icmp_ne M_17 rfl (fun b7 => ?_) (fun b7 => ?_)
    · refine AT.iload_n M_17 rfl rfl ?_
      refine AT.iconst M_17 rfl (v := 2) (by decide) ?_
      refine AT.icmp_ne M_17 rfl (fun b20 => ?_) (fun b20 => ?_)
      · refine AT.aload_n M_17 rfl rfl ?_
        refine AT.cv1i M_17 rfl M_11 rfl (Nat.le_of_ble_eq_true rfl) (xKd.of (shp_cl (by assumption))) (by decide) (c_11 ho) ?_ (Nat.le_of_ble_eq_true rfl) rfl
        refine AT.if_le M_17 rfl (fun b26 => ?_) (fun b26 => ?_)
        · refine AT.iconst M_17 rfl (v := 0) (by decide) ?_
          refine AT.zret M_17 rfl rfl (by first | exact Or.inl rfl | exact Or.inr rfl | exact bI_01 _) ?_
          refine ⟨?_, rfl⟩
          refine congrArg (fun z => (Sum.inl (some (Value.int z)) : PO)) ?_
          unfold sReach
          rw [if_neg b1, if_neg b7, if_neg b20, decide_eq_false (fun z => z b26)]
          rfl
        · refine AT.iconst M_17 rfl (v := 1) (by decide) ?_
          refine AT.goto M_17 rfl ?_
          refine AT.zret M_17 rfl rfl (by first | exact Or.inl rfl | exact Or.inr rfl | exact bI_01 _) ?_
          refine ⟨?_, rfl⟩
          refine congrArg (fun z => (Sum.inl (some (Value.int z)) : PO)) ?_
          unfold sReach
          rw [if_neg b1, if_neg b7, if_neg b20, decide_eq_true b26]
          rfl
      · refine AT.aload_n M_17 rfl rfl ?_
        refine AT.cv1i M_17 rfl M_20 rfl (Nat.le_of_ble_eq_true rfl) (xKd.of (shp_cl (by assumption))) (by decide) (c_20 ho hm) ?_ (Nat.le_of_ble_eq_true rfl) rfl
        refine AT.goto M_17 rfl ?_
        refine AT.zret M_17 rfl rfl (by first | exact Or.inl rfl | exact Or.inr rfl | exact bI_01 _) ?_
        refine ⟨?_, rfl⟩
        refine congrArg (fun z => (Sum.inl (some (Value.int z)) : PO)) ?_
        unfold sReach
        rw [if_neg b1, if_neg b7, if_pos (Classical.not_not.mp b20)]
    · refine AT.aload_n M_17 rfl rfl ?_
      refine AT.f_1_1 M_17 rfl (by assumption) ?_
      refine AT.iload_n M_17 rfl rfl ?_
      refine AT.a_cls M_17 rfl rfl (by assumption) (by assumption) ?_
      refine AT.cv1i M_17 rfl M_4 rfl (Nat.le_of_ble_eq_true rfl) (xKd.of (shp_cli (by assumption) (by assumption))) (by decide) (c_4 ho hc) ?_ (Nat.le_of_ble_eq_true rfl) rfl
      refine AT.if_ne M_17 rfl (fun b13 => ?_) (fun b13 => ?_)
      · refine AT.iconst M_17 rfl (v := 0) (by decide) ?_
        refine AT.zret M_17 rfl rfl (by first | exact Or.inl rfl | exact Or.inr rfl | exact bI_01 _) ?_
        refine ⟨?_, rfl⟩
        refine congrArg (fun z => (Sum.inl (some (Value.int z)) : PO)) ?_
        unfold sReach
        rw [if_neg b1, if_pos (Classical.not_not.mp b7), bI_ne0.mp b13]
        rfl
      · refine AT.iconst M_17 rfl (v := 1) (by decide) ?_
        refine AT.goto M_17 rfl ?_
        refine AT.zret M_17 rfl rfl (by first | exact Or.inl rfl | exact Or.inr rfl | exact bI_01 _) ?_
        refine ⟨?_, rfl⟩
        refine congrArg (fun z => (Sum.inl (some (Value.int z)) : PO)) ?_
        unfold sReach
        rw [if_neg b1, if_pos (Classical.not_not.mp b7), bI_eq0.mp (Classical.not_not.mp b13)]
        rfl
  · refine AT.aload_n M_17 rfl rfl ?_
    refine AT.cv1i M_17 rfl M_18 rfl (Nat.le_of_ble_eq_true rfl) (xKd.of (shp_cl (by assumption))) (by decide) (c_18 ho hm) ?_ (Nat.le_of_ble_eq_true rfl) rfl
    refine AT.zret M_17 rfl rfl (by first | exact Or.inl rfl | exact Or.inr rfl | exact bI_01 _) ?_
    refine ⟨?_, rfl⟩
    refine congrArg (fun z => (Sum.inl (some (Value.int z)) : PO)) ?_
    unfold sReach
    rw [if_pos (Classical.not_not.mp b1)]
