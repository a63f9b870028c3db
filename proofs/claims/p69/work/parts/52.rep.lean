/-! ===== A MESSAGE TWICE, LINKS ===== -/
theorem xMsg_len (X : XS) (o q : Nat) (u : MSG) : (xK (xMsg X o q u) o).2.2.length = (xK X o).2.2.length := by
  unfold xMsg
  rw [xK_same]
  exact lMsg_len _ _ _
theorem xCnt_len (X : XS) (o n : Nat) : (xK (xCnt X o n) o).2.2.length = n := by
  unfold xCnt
  rw [xK_same]
  exact lMsg_len _ _ _
theorem xPlace_len (X : XS) (o : Nat) (u : MSG) : (xK (xPlace X o u) o).2.2.length = (xK X o).2.2.length + 1 := (xMsg_len _ _ _ _).trans (xCnt_len _ _ _)
theorem xCnt_msg (X : XS) (o q n : Nat) (u : MSG) : xCnt (xMsg X o q u) o n = xMsg (xCnt X o n) o q u := by
  unfold xCnt xMsg kMsg
  simp only [xK_same, xSetK_idem, xD_setK, xK_setD, xD_setD, xSetD_setK, xSetD_idem]
  congr 1
  show kNet (xK X o) _ = kNet (xK X o) (lMsg _ o (lMsg _ o n).length)
  rw [lMsg_len]
theorem c_53 {X : XS} {o j : Nat} (ho : o < 2) (hj : j < (xK X o).2.2.length) (hn : (xK X o).2.2.length < 60) : RT 53 [some (.ref (aB o + 3)), some (.int (Int32.ofNat j))] X (some (.int (Int32.ofNat ((xK X o).2.2.length + 1)))) (xPlace X o (mCopy (dH (xD X) o (qNext X o)) (dH (xD X) o (dP (xD X) o j)))) := by
  intro g0 hg0
  have hb := hg0.2.2.2.2.2.2.2.2.2.2.2.2.1 o ho
  have hq : qNext X o < 61 := hb.2.2.1 _ (by omega)
  have hqj : dP (xD X) o j < 61 := hb.2.2.1 _ (by omega)
  have hne : ¬ (o = o ∧ dP (xD X) o j = qNext X o) := fun z => by
    have := hb.2.2.2.1 j (xK X o).2.2.length (by omega) (by omega) z.2
    omega
  clear hb
  revert g0
  refine AT.aload_n M_53 rfl rfl ?_
  refine AT.f_4_3 M_53 rfl (by assumption) ?_
  refine AT.bipush M_53 rfl (v := 60) (by decide) ?_
  refine AT.icmp_ge M_53 rfl (fun b3 => ?_) (fun b3 => ?_)
  · exact absurd ((i32_le (a := 60) (by omega) (by omega)).mp b3) (by omega)
  · refine AT.iload_n M_53 rfl rfl ?_
    refine AT.aload_n M_53 rfl rfl ?_
    refine AT.f_4_3 M_53 rfl (by assumption) ?_
    refine AT.icmp_ge M_53 rfl (fun b7 => ?_) (fun b7 => ?_)
    · exact absurd ((i32_le (by omega) (by omega)).mp b7) (by omega)
    · refine AT.aload_n M_53 rfl rfl ?_
      refine AT.f_4_0 M_53 rfl (by assumption) ?_
      refine AT.aload_n M_53 rfl rfl ?_
      refine AT.f_4_3 M_53 rfl (by assumption) ?_
      refine AT.a_row M_53 rfl rfl ho (by omega) ?_
      refine AT.aload_n M_53 rfl rfl ?_
      refine AT.f_4_0 M_53 rfl (by assumption) ?_
      refine AT.iload_n M_53 rfl rfl ?_
      refine AT.a_row M_53 rfl rfl ho (by omega) ?_
      refine AT.cv20 M_53 rfl M_44 rfl (Nat.le_of_ble_eq_true rfl) (xKd.of (shp_msg ho hq)) (by decide) (c_44 (q := qNext X o) (q' := dP (xD X) o j) ho hq ho hqj hne) ?_ (Nat.le_of_ble_eq_true rfl) rfl
      refine AT.aload_n M_53 rfl rfl ?_
      refine AT.dup M_53 rfl ?_
      refine AT.f_4_3 M_53 rfl (by assumption) ?_
      refine AT.iconst M_53 rfl (v := 1) (by decide) ?_
      refine AT.iadd M_53 rfl rfl ?_
      rw [xMsg_len]
      refine AT.p_4_3 (n := (xK X o).2.2.length + 1) M_53 rfl ho (by omega) (i32_succ _) ?_
      rw [xCnt_msg]
      refine AT.aload_n M_53 rfl rfl ?_
      refine AT.f_4_3 M_53 rfl (by assumption) ?_
      refine AT.iret M_53 rfl rfl ?_
      refine ⟨?_, rfl⟩
      rw [xMsg_len, xCnt_len]
theorem c_53n {X : XS} {o : Nat} (ho : o < 2) {x : Int32} (hx : 60 ≤ Int32.ofNat (xK X o).2.2.length ∨ Int32.ofNat (xK X o).2.2.length ≤ x) : RT 53 [some (.ref (aB o + 3)), some (.int x)] X (some (.int (Int32.ofNat (xK X o).2.2.length))) X := by
  refine AT.aload_n M_53 rfl rfl ?_
  refine AT.f_4_3 M_53 rfl (by assumption) ?_
  refine AT.bipush M_53 rfl (v := 60) (by decide) ?_
  refine AT.icmp_ge M_53 rfl (fun b3 => ?_) (fun b3 => ?_)
  · refine AT.aload_n M_53 rfl rfl ?_
    refine AT.f_4_3 M_53 rfl (by assumption) ?_
    refine AT.iret M_53 rfl rfl ?_
    exact ⟨rfl, rfl⟩
  · refine AT.iload_n M_53 rfl rfl ?_
    refine AT.aload_n M_53 rfl rfl ?_
    refine AT.f_4_3 M_53 rfl (by assumption) ?_
    refine AT.icmp_ge M_53 rfl (fun b7 => ?_) (fun b7 => ?_)
    · refine AT.aload_n M_53 rfl rfl ?_
      refine AT.f_4_3 M_53 rfl (by assumption) ?_
      refine AT.iret M_53 rfl rfl ?_
      exact ⟨rfl, rfl⟩
    · exact absurd hx (fun z => z.elim (fun z1 => b3 z1) (fun z2 => b7 z2))
def kTurn (K : KK) (i j : Nat) : KK := kSet (kSet K 30 i 0 (K.1 30 i 0 ^^^ ((1 : Int32) <<< (Int32.ofNat j &&& 31)))) 30 j 0 ((kSet K 30 i 0 (K.1 30 i 0 ^^^ ((1 : Int32) <<< (Int32.ofNat j &&& 31)))).1 30 j 0 ^^^ ((1 : Int32) <<< (Int32.ofNat i &&& 31)))
theorem c_51 {X : XS} {o i j : Nat} (ho : o < 2) (hi : i < 7) (hj : j < 7) : RT 51 [some (.ref (aB o + 3)), some (.int (Int32.ofNat i)), some (.int (Int32.ofNat j))] X (some (.int (dV (xD X) o 31 0 0 + (if sBit ((kTurn (xK X o) i j).1 30 i 0) j = true then 1 else -1)))) (xSetK (xSetD X (dSetV (xD X) o 31 0 0 (dV (xD X) o 31 0 0 + (if sBit ((kTurn (xK X o) i j).1 30 i 0) j = true then 1 else -1)))) o (kTurn (xK X o) i j)) := by
  refine AT.aload_n M_51 rfl rfl ?_
  refine AT.f_4_1 M_51 rfl (by assumption) ?_
  refine AT.iload_n M_51 rfl rfl ?_
  refine AT.dup2 M_51 rfl ?_
  refine AT.a_cuts M_51 rfl rfl (by assumption) (by assumption) ?_
  refine AT.iconst M_51 rfl (v := 1) (by decide) ?_
  refine AT.iload_n M_51 rfl rfl ?_
  refine AT.ishl M_51 rfl rfl ?_
  refine AT.ixor M_51 rfl rfl ?_
  refine AT.s_cuts (j := 0) M_51 rfl rfl ho hi ?_
  try simp only [xK_same, xSetK_idem, xD_setK]
  refine AT.aload_n M_51 rfl rfl ?_
  refine AT.f_4_1 M_51 rfl (by assumption) ?_
  refine AT.iload_n M_51 rfl rfl ?_
  refine AT.dup2 M_51 rfl ?_
  refine AT.a_cuts M_51 rfl rfl (by assumption) (by assumption) ?_
  refine AT.iconst M_51 rfl (v := 1) (by decide) ?_
  refine AT.iload_n M_51 rfl rfl ?_
  refine AT.ishl M_51 rfl rfl ?_
  refine AT.ixor M_51 rfl rfl ?_
  refine AT.s_cuts (j := 0) M_51 rfl rfl ho hj ?_
  try simp only [xK_same, xSetK_idem, xD_setK]
  change AT 51 20 _ _ (xSetK X o (kTurn (xK X o) i j)) _
  refine AT.aload_n M_51 rfl rfl ?_
  refine AT.dup M_51 rfl ?_
  refine AT.f_4_4 M_51 rfl (by assumption) ?_
  refine AT.aload_n M_51 rfl rfl ?_
  refine AT.iload_n M_51 rfl rfl ?_
  refine AT.iload_n M_51 rfl rfl ?_
  refine AT.cv3i M_51 rfl M_50 rfl (Nat.le_of_ble_eq_true rfl) (xKd.of (shp_net (by assumption))) (by decide) (c_50 ho hi hj) ?_ (Nat.le_of_ble_eq_true rfl) rfl
  refine AT.if_eq M_51 rfl (fun b27 => ?_) (fun b27 => ?_)
  · refine AT.iconst M_51 rfl (v := (-1)) (by decide) ?_
    refine AT.iadd M_51 rfl rfl ?_
    refine AT.p_4_4 M_51 rfl (by assumption) ?_
    refine AT.aload_n M_51 rfl rfl ?_
    refine AT.f_4_4 M_51 rfl (by assumption) ?_
    refine AT.iret M_51 rfl rfl ?_
    rw [xK_same] at b27
    have hc : (if sBit ((kTurn (xK X o) i j).1 30 i 0) j = true then (1 : Int32) else -1) = -1 := if_neg (fun z => by rw [bI_eq0.mp b27] at z; cases z)
    rw [hc]
    exact ⟨congrArg (fun z => (Sum.inl (some (Value.int z)) : PO)) (if_pos ⟨rfl, rfl, rfl, rfl⟩), rfl⟩
  · refine AT.iconst M_51 rfl (v := 1) (by decide) ?_
    refine AT.goto M_51 rfl ?_
    refine AT.iadd M_51 rfl rfl ?_
    refine AT.p_4_4 M_51 rfl (by assumption) ?_
    refine AT.aload_n M_51 rfl rfl ?_
    refine AT.f_4_4 M_51 rfl (by assumption) ?_
    refine AT.iret M_51 rfl rfl ?_
    rw [xK_same] at b27
    have hc : (if sBit ((kTurn (xK X o) i j).1 30 i 0) j = true then (1 : Int32) else -1) = 1 := if_pos (bI_ne0.mp b27)
    rw [hc]
    exact ⟨congrArg (fun z => (Sum.inl (some (Value.int z)) : PO)) (if_pos ⟨rfl, rfl, rfl, rfl⟩), rfl⟩
