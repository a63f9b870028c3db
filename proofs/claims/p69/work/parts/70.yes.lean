/-! ===== YES, HURRIED ===== -/
def sHur (K : KK) (s : Nat) (mm : Int32) (w : MSG) : Bool := decide (w.1 4 = K.1 5 s 0) && (decide (¬ K.1 12 s 0 = 3) && (sBit mm s && decide (¬ 48 ≤ Int32.ofNat (K.2.1 s).length)))
def kYes (K : KK) (s : Nat) (w : MSG) : KK := kSet K 16 s 0 (K.1 16 s 0 ||| ((1 : Int32) <<< (w.1 2 &&& 31)))
def sYes (K : KK) (s : Nat) (w : MSG) (rl tm : Int32) : Bool := decide (¬ w.1 5 = 0) && (decide (K.1 12 s 0 = rl) && decide (w.1 4 = tm))
theorem c_38 {X : XS} {o s a : Nat} {w : MSG} (ho : o < 2) (hs : s < 7) (hw : xMs X a w) {mm : Int32} (hm : dV (xD X) o 10 s 0 = mm) : RT 38 [some (.ref (aB o)), some (.ref (aS o s)), some (.ref a)] X (some (.int (bI (sHur (xK X o) s mm w)))) X := by
  refine AT.aload_n M_38 rfl rfl ?_
  refine AT.f_3_4 M_38 rfl (by assumption) ?_
  refine AT.aload_n M_38 rfl rfl ?_
  refine AT.f_6_5 M_38 rfl (by assumption) (by assumption) ?_
  refine AT.icmp_ne M_38 rfl (fun b4 => ?_) (fun b4 => ?_)
  · refine AT.iconst M_38 rfl (v := 0) (by decide) ?_
    refine AT.zret M_38 rfl rfl (by first | exact Or.inl rfl | exact Or.inr rfl | exact bI_01 _) ?_
    exact ⟨congrArg (fun z => (Sum.inl (some (Value.int z)) : PO)) (by unfold sHur; rw [decide_eq_false b4]; rfl), rfl⟩
  · refine AT.aload_n M_38 rfl rfl ?_
    refine AT.f_6_12 M_38 rfl (by assumption) (by assumption) ?_
    refine AT.iconst M_38 rfl (v := 3) (by decide) ?_
    refine AT.icmp_eq M_38 rfl (fun b8 => ?_) (fun b8 => ?_)
    · refine AT.iconst M_38 rfl (v := 0) (by decide) ?_
      refine AT.zret M_38 rfl rfl (by first | exact Or.inl rfl | exact Or.inr rfl | exact bI_01 _) ?_
      exact ⟨congrArg (fun z => (Sum.inl (some (Value.int z)) : PO)) (by unfold sHur; rw [decide_eq_true (Classical.not_not.mp b4), decide_eq_false (fun z => z b8)]; rfl), rfl⟩
    · refine AT.aload_n M_38 rfl rfl ?_
      refine AT.cv1i M_38 rfl M_67 rfl (Nat.le_of_ble_eq_true rfl) (xKd.of (shp_sv (by assumption) (by assumption))) (by decide) (c_67 ho hs hm) ?_ (Nat.le_of_ble_eq_true rfl) rfl
      refine AT.if_eq M_38 rfl (fun b11 => ?_) (fun b11 => ?_)
      · refine AT.iconst M_38 rfl (v := 0) (by decide) ?_
        refine AT.zret M_38 rfl rfl (by first | exact Or.inl rfl | exact Or.inr rfl | exact bI_01 _) ?_
        exact ⟨congrArg (fun z => (Sum.inl (some (Value.int z)) : PO)) (by unfold sHur; rw [decide_eq_true (Classical.not_not.mp b4), decide_eq_true b8, bI_eq0.mp b11]; rfl), rfl⟩
      · refine AT.aload_n M_38 rfl rfl ?_
        refine AT.f_6_8 M_38 rfl (by assumption) (by assumption) ?_
        refine AT.bipush M_38 rfl (v := 48) (by decide) ?_
        refine AT.icmp_ge M_38 rfl (fun b15 => ?_) (fun b15 => ?_)
        · refine AT.iconst M_38 rfl (v := 0) (by decide) ?_
          refine AT.zret M_38 rfl rfl (by first | exact Or.inl rfl | exact Or.inr rfl | exact bI_01 _) ?_
          exact ⟨congrArg (fun z => (Sum.inl (some (Value.int z)) : PO)) (by unfold sHur; rw [decide_eq_true (Classical.not_not.mp b4), decide_eq_true b8, bI_ne0.mp b11, decide_eq_false (fun z => z b15)]; rfl), rfl⟩
        · refine AT.iconst M_38 rfl (v := 1) (by decide) ?_
          refine AT.goto M_38 rfl ?_
          refine AT.zret M_38 rfl rfl (by first | exact Or.inl rfl | exact Or.inr rfl | exact bI_01 _) ?_
          exact ⟨congrArg (fun z => (Sum.inl (some (Value.int z)) : PO)) (by unfold sHur; rw [decide_eq_true (Classical.not_not.mp b4), decide_eq_true b8, bI_ne0.mp b11, decide_eq_true b15]; rfl), rfl⟩
theorem c_34 {X : XS} {o s a : Nat} {w : MSG} (ho : o < 2) (hs : s < 7) (hw : xMs X a w) {mm : Int32} (hm : dV (xD X) o 10 s 0 = mm) (h7 : ∃ n : Nat, n < 128 ∧ mm = Int32.ofNat n) {rl tm : Int32} : RT 34 [some (.ref (aB o)), some (.ref (aS o s)), some (.ref a), some (.int rl), some (.int tm)] X (some (.int (if sYes (xK X o) s w rl tm = true then bI (sMost mm ((kYes (xK X o) s w).1 16 s 0)) else 0))) (if sYes (xK X o) s w rl tm = true then xSetK X o (kYes (xK X o) s w) else X) := by
  refine AT.aload_n M_34 rfl rfl ?_
  refine AT.f_3_5 M_34 rfl (by assumption) ?_
  refine AT.if_eq M_34 rfl (fun b2 => ?_) (fun b2 => ?_)
  · refine AT.iconst M_34 rfl (v := 0) (by decide) ?_
    refine AT.zret M_34 rfl rfl (by first | exact Or.inl rfl | exact Or.inr rfl | exact bI_01 _) ?_
    have hy : ¬ sYes (xK X o) s w rl tm = true := fun z => by unfold sYes at z; rw [decide_eq_false (fun y => y b2), Bool.false_and] at z; exact absurd z (by decide)
    rw [if_neg hy, if_neg hy]
    exact ⟨rfl, rfl⟩
  · refine AT.aload_n M_34 rfl rfl ?_
    refine AT.f_6_12 M_34 rfl (by assumption) (by assumption) ?_
    refine AT.iload_n M_34 rfl rfl ?_
    refine AT.icmp_ne M_34 rfl (fun b6 => ?_) (fun b6 => ?_)
    · refine AT.iconst M_34 rfl (v := 0) (by decide) ?_
      refine AT.zret M_34 rfl rfl (by first | exact Or.inl rfl | exact Or.inr rfl | exact bI_01 _) ?_
      have hy : ¬ sYes (xK X o) s w rl tm = true := fun z => by unfold sYes at z; rw [decide_eq_false b6, Bool.false_and, Bool.and_false] at z; exact absurd z (by decide)
      rw [if_neg hy, if_neg hy]
      exact ⟨rfl, rfl⟩
    · refine AT.aload_n M_34 rfl rfl ?_
      refine AT.f_3_4 M_34 rfl (by assumption) ?_
      refine AT.iload M_34 rfl rfl ?_
      refine AT.icmp_eq M_34 rfl (fun b10 => ?_) (fun b10 => ?_)
      · refine AT.aload_n M_34 rfl rfl ?_
        refine AT.dup M_34 rfl ?_
        refine AT.f_6_16 M_34 rfl (by assumption) (by assumption) ?_
        refine AT.iconst M_34 rfl (v := 1) (by decide) ?_
        refine AT.aload_n M_34 rfl rfl ?_
        refine AT.f_3_2 M_34 rfl (by assumption) ?_
        refine AT.ishl M_34 rfl rfl ?_
        refine AT.ior M_34 rfl rfl ?_
        refine AT.p_6_16 M_34 rfl (by assumption) (by assumption) ?_
        refine AT.aload_n M_34 rfl rfl ?_
        refine AT.cv1i M_34 rfl M_68 rfl (Nat.le_of_ble_eq_true rfl) (xKd.of (shp_sv (by assumption) (by assumption))) (by decide) (c_68 (mm := mm) ho hs (by exact hm) h7) ?_ (Nat.le_of_ble_eq_true rfl) rfl
        refine AT.zret M_34 rfl rfl (by first | exact Or.inl rfl | exact Or.inr rfl | exact bI_01 _) ?_
        have hy : sYes (xK X o) s w rl tm = true := by unfold sYes; rw [decide_eq_true b2, decide_eq_true (Classical.not_not.mp b6), decide_eq_true b10]; rfl
        rw [if_pos hy, if_pos hy, xK_same]
        exact ⟨rfl, rfl⟩
      · refine AT.iconst M_34 rfl (v := 0) (by decide) ?_
        refine AT.zret M_34 rfl rfl (by first | exact Or.inl rfl | exact Or.inr rfl | exact bI_01 _) ?_
        have hy : ¬ sYes (xK X o) s w rl tm = true := fun z => by unfold sYes at z; rw [decide_eq_false b10, Bool.and_false, Bool.and_false] at z; exact absurd z (by decide)
        rw [if_neg hy, if_neg hy]
        exact ⟨rfl, rfl⟩
