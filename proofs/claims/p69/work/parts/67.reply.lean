/-! ===== REPLIES, CALLS ===== -/
/-- a message goes into the network, or is lost -/
def xSend (X : XS) (o : Nat) (u : MSG) : XS :=
  if (xK X o).2.2.length < 60 then xSetK (xSetD X (dSetH (xD X) o (qNext X o) u)) o (kNet (xK X o) ((xK X o).2.2 ++ [u])) else xSetK X o (kSet (xK X o) 32 0 0 ((xK X o).1 32 0 0 + 1))
theorem Rep.send {X : XS} {g : PS} (h : Rep X g) {o : Nat} (ho : o < 2) (hn : (xK X o).2.2.length < 60) (u : MSG) : xPlace X o u = xSend X o u := by
  unfold xSend
  rw [if_pos hn]
  exact h.place ho hn u
theorem Rep.full {X : XS} {g : PS} (h : Rep X g) {o : Nat} (ho : o < 2) (hn : ¬ (xK X o).2.2.length < 60) : (xK X o).2.2.length = 60 := by
  have := (h.2.2.2.2.2.2.1 o (by omega)).1
  omega
/-- an answer to message w -/
def mRep (w : MSG) (kd tm y ix : Int32) : MSG := mSet (mSet (mNew0 kd (w.1 3) (w.1 2) tm) 5 y) 6 ix
theorem c_31 {X : XS} {o a : Nat} {w : MSG} (ho : o < 2) (hm : xMs X a w) {kd tm y ix : Int32} (hy : y = 0 ∨ y = 1) : RT 31 [some (.ref (aB o)), some (.int kd), some (.ref a), some (.int tm), some (.int y), some (.int ix), none] X none (xSend X o (mRep w kd tm y ix)) := by
  intro g0 hg0
  by_cases hn : (xK X o).2.2.length < 60
  · rw [← hg0.send ho hn]
    have hq : qNext X o < 61 := hg0.next ho (by omega)
    revert g0
    refine AT.aload_n M_31 rfl rfl ?_
    refine AT.f_1_2 M_31 rfl (by assumption) ?_
    refine AT.iload_n M_31 rfl rfl ?_
    refine AT.aload_n M_31 rfl rfl ?_
    refine AT.f_3_3 M_31 rfl (by assumption) ?_
    refine AT.aload_n M_31 rfl rfl ?_
    refine AT.f_3_2 M_31 rfl (by assumption) ?_
    refine AT.iload_n M_31 rfl rfl ?_
    refine AT.cv5i M_31 rfl M_52 rfl (Nat.le_of_ble_eq_true rfl) (xKd.of (shp_net (by assumption))) (by decide) (c_52w ho hn) ?_ (Nat.le_of_ble_eq_true rfl) rfl
    refine AT.ast6 M_31 rfl rfl ?_
    refine AT.aload M_31 rfl rfl ?_
    refine AT.ifnull1 M_31 rfl ?_
    refine AT.aload M_31 rfl rfl ?_
    refine AT.iload M_31 rfl rfl ?_
    refine AT.p_3 (q := qNext X o) (k := 5) M_31 rfl ho hq (by decide) (by decide) (by decide) (by rcases hy with z | z <;> rw [z] <;> rfl) (fun _ => hy) ?_
    simp only [xPlace_msg, dH_place]
    refine AT.aload M_31 rfl rfl ?_
    refine AT.iload M_31 rfl rfl ?_
    refine AT.p_3 (q := qNext X o) (k := 6) M_31 rfl ho hq (by decide) (by decide) (by decide) rfl (fun z => absurd z (by decide)) ?_
    simp only [xPlace_msg, dH_place]
    refine AT.vret M_31 rfl rfl ?_
    exact ⟨rfl, rfl⟩
  · have e : xSend X o (mRep w kd tm y ix) = xSetK X o (kSet (xK X o) 32 0 0 ((xK X o).1 32 0 0 + 1)) := if_neg hn
    have hn60 := hg0.full ho hn
    rw [e]
    revert g0
    refine AT.aload_n M_31 rfl rfl ?_
    refine AT.f_1_2 M_31 rfl (by assumption) ?_
    refine AT.iload_n M_31 rfl rfl ?_
    refine AT.aload_n M_31 rfl rfl ?_
    refine AT.f_3_3 M_31 rfl (by assumption) ?_
    refine AT.aload_n M_31 rfl rfl ?_
    refine AT.f_3_2 M_31 rfl (by assumption) ?_
    refine AT.iload_n M_31 rfl rfl ?_
    refine AT.cv5i M_31 rfl M_52 rfl (Nat.le_of_ble_eq_true rfl) (xKd.of (shp_net (by assumption))) (by decide) (c_52f ho hn60) ?_ (Nat.le_of_ble_eq_true rfl) rfl
    refine AT.zst6 M_31 rfl rfl ?_
    refine AT.aload0 M_31 rfl rfl ?_
    refine AT.ifnull0 M_31 rfl ?_
    refine AT.vret M_31 rfl rfl ?_
    exact ⟨rfl, rfl⟩
