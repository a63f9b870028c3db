/-! ===== SOUNDING, STANDING ===== -/
def kStand (K : KK) (s : Nat) : KK := kSet (kStart (kSet K 5 s 0 (K.1 5 s 0 + 1)) s 2) 6 s 0 (Int32.ofNat s)
def xStand (X : XS) (o s : Nat) (mm : Int32) : XS := if sMost mm ((kStand (xK X o) s).1 16 s 0) = true then xSetK X o (kStand (xK X o) s) else xAskF o s mm 3 ((kStand (xK X o) s).1 5 s 0) 7 0 (xSetK X o (kStand (xK X o) s))
def xSound (X : XS) (o s : Nat) (mm : Int32) : XS := if Int32.ofNat ((xK X o).2.1 s).length < 48 then (if sMost mm ((kStart (xK X o) s 1).1 16 s 0) = true then xSetK X o (kStart (xK X o) s 1) else xAskF o s mm 1 ((kStart (xK X o) s 1).1 5 s 0 + 1) 7 0 (xSetK X o (kStart (xK X o) s 1))) else xSetK X o (kSet (xK X o) 14 s 0 0)
theorem c_24 {X : XS} {o s : Nat} (ho : o < 2) (hs : s < 7) {mm : Int32} (hm : dV (xD X) o 10 s 0 = mm) (h7 : ∃ n : Nat, n < 128 ∧ mm = Int32.ofNat n) : RT 24 [some (.ref (aB o)), some (.ref (aS o s))] X (some (.int (if sMost mm ((kStand (xK X o) s).1 16 s 0) = true then 3 else 0))) (xStand X o s mm) := by
  refine AT.aload_n M_24 rfl rfl ?_
  refine AT.dup M_24 rfl ?_
  refine AT.f_6_5 M_24 rfl (by assumption) (by assumption) ?_
  refine AT.iconst M_24 rfl (v := 1) (by decide) ?_
  refine AT.iadd M_24 rfl rfl ?_
  refine AT.p_6_5 M_24 rfl (by assumption) (by assumption) ?_
  refine AT.aload_n M_24 rfl rfl ?_
  refine AT.iconst M_24 rfl (v := 2) (by decide) ?_
  refine AT.cv20 M_24 rfl M_87 rfl (Nat.le_of_ble_eq_true rfl) (xKd.of (shp_sv (by assumption) (by assumption))) (by decide) (c_87 ho hs) ?_ (Nat.le_of_ble_eq_true rfl) rfl
  try simp only [xK_same, xSetK_idem]
  refine AT.aload_n M_24 rfl rfl ?_
  refine AT.aload_n M_24 rfl rfl ?_
  refine AT.f_6_0 M_24 rfl (by assumption) (by assumption) ?_
  refine AT.p_6_6 M_24 rfl ho hs ?_
  try simp only [xK_same, xSetK_idem]
  change AT 24 13 _ _ (xSetK X o (kStand (xK X o) s)) _
  refine AT.aload_n M_24 rfl rfl ?_
  refine AT.cv1i M_24 rfl M_68 rfl (Nat.le_of_ble_eq_true rfl) (xKd.of (shp_sv (by assumption) (by assumption))) (by decide) (c_68 (mm := mm) ho hs (by exact hm) h7) ?_ (Nat.le_of_ble_eq_true rfl) rfl
  refine AT.if_eq M_24 rfl (fun b15 => ?_) (fun b15 => ?_)
  · refine AT.aload_n M_24 rfl rfl ?_
    refine AT.aload_n M_24 rfl rfl ?_
    refine AT.iconst M_24 rfl (v := 3) (by decide) ?_
    refine AT.aload_n M_24 rfl rfl ?_
    refine AT.f_6_5 M_24 rfl (by assumption) (by assumption) ?_
    refine AT.cv40 M_24 rfl M_25 rfl (Nat.le_of_ble_eq_true rfl) (xKd.of (shp_cl (by assumption))) (by decide) (c_25 (mm := mm) ho hs (by exact hm)) ?_ (Nat.le_of_ble_eq_true rfl) rfl
    refine AT.iconst M_24 rfl (v := 0) (by decide) ?_
    refine AT.iret M_24 rfl rfl ?_
    rw [xK_same] at b15
    unfold xStand
    rw [if_neg (fun z => by rw [bI_eq0.mp b15] at z; exact absurd z (by decide)), if_neg (fun z => by rw [bI_eq0.mp b15] at z; exact absurd z (by decide))]
    rw [xK_same]
    exact ⟨rfl, rfl⟩
  · refine AT.iconst M_24 rfl (v := 3) (by decide) ?_
    refine AT.iret M_24 rfl rfl ?_
    rw [xK_same] at b15
    unfold xStand
    rw [if_pos (bI_ne0.mp b15), if_pos (bI_ne0.mp b15)]
    exact ⟨rfl, rfl⟩
theorem c_23 {X : XS} {o s : Nat} (ho : o < 2) (hs : s < 7) {mm : Int32} (hm : dV (xD X) o 10 s 0 = mm) (h7 : ∃ n : Nat, n < 128 ∧ mm = Int32.ofNat n) : RT 23 [some (.ref (aB o)), some (.ref (aS o s))] X (some (.int (if Int32.ofNat ((xK X o).2.1 s).length < 48 then (if sMost mm ((kStart (xK X o) s 1).1 16 s 0) = true then 2 else 0) else 0))) (xSound X o s mm) := by
  refine AT.aload_n M_23 rfl rfl ?_
  refine AT.f_6_8 M_23 rfl (by assumption) (by assumption) ?_
  refine AT.bipush M_23 rfl (v := 48) (by decide) ?_
  refine AT.icmp_lt M_23 rfl (fun b3 => ?_) (fun b3 => ?_)
  · refine AT.aload_n M_23 rfl rfl ?_
    refine AT.iconst M_23 rfl (v := 1) (by decide) ?_
    refine AT.cv20 M_23 rfl M_87 rfl (Nat.le_of_ble_eq_true rfl) (xKd.of (shp_sv (by assumption) (by assumption))) (by decide) (c_87 ho hs) ?_ (Nat.le_of_ble_eq_true rfl) rfl
    refine AT.aload_n M_23 rfl rfl ?_
    refine AT.cv1i M_23 rfl M_68 rfl (Nat.le_of_ble_eq_true rfl) (xKd.of (shp_sv (by assumption) (by assumption))) (by decide) (c_68 (mm := mm) ho hs (by exact hm) h7) ?_ (Nat.le_of_ble_eq_true rfl) rfl
    refine AT.if_eq M_23 rfl (fun b14 => ?_) (fun b14 => ?_)
    · refine AT.aload_n M_23 rfl rfl ?_
      refine AT.aload_n M_23 rfl rfl ?_
      refine AT.iconst M_23 rfl (v := 1) (by decide) ?_
      refine AT.aload_n M_23 rfl rfl ?_
      refine AT.f_6_5 M_23 rfl (by assumption) (by assumption) ?_
      refine AT.iconst M_23 rfl (v := 1) (by decide) ?_
      refine AT.iadd M_23 rfl rfl ?_
      refine AT.cv40 M_23 rfl M_25 rfl (Nat.le_of_ble_eq_true rfl) (xKd.of (shp_cl (by assumption))) (by decide) (c_25 (mm := mm) ho hs (by exact hm)) ?_ (Nat.le_of_ble_eq_true rfl) rfl
      refine AT.iconst M_23 rfl (v := 0) (by decide) ?_
      refine AT.iret M_23 rfl rfl ?_
      rw [xK_same] at b14
      unfold xSound
      rw [if_pos b3, if_pos b3, if_neg (fun z => by rw [bI_eq0.mp b14] at z; exact absurd z (by decide)), if_neg (fun z => by rw [bI_eq0.mp b14] at z; exact absurd z (by decide))]
      rw [xK_same]
      exact ⟨rfl, rfl⟩
    · refine AT.iconst M_23 rfl (v := 2) (by decide) ?_
      refine AT.iret M_23 rfl rfl ?_
      rw [xK_same] at b14
      unfold xSound
      rw [if_pos b3, if_pos b3, if_pos (bI_ne0.mp b14), if_pos (bI_ne0.mp b14)]
      exact ⟨rfl, rfl⟩
  · refine AT.aload_n M_23 rfl rfl ?_
    refine AT.iconst M_23 rfl (v := 0) (by decide) ?_
    refine AT.p_6_14 M_23 rfl (by assumption) (by assumption) ?_
    refine AT.iconst M_23 rfl (v := 0) (by decide) ?_
    refine AT.iret M_23 rfl rfl ?_
    unfold xSound
    rw [if_neg b3, if_neg b3]
    exact ⟨rfl, rfl⟩
