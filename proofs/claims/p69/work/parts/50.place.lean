/-! ===== PLACING A MESSAGE ===== -/
/-- a message that is placed: its kind, sender, receiver, term -/
def mNew (u : MSG) (a b c d : Int32) : MSG := (fun j => if j = 1 then a else if j = 2 then b else if j = 3 then c else if j = 4 then d else if 5 ≤ j ∧ j ≤ 9 then 0 else u.1 j, none, [])
/-- where the next message is placed -/
def qNext (X : XS) (o : Nat) : Nat := dP (xD X) o (xK X o).2.2.length
def xPlace (X : XS) (o : Nat) (u : MSG) : XS := xMsg (xCnt X o ((xK X o).2.2.length + 1)) o (qNext X o) u
theorem xPlace_msg (X : XS) (o : Nat) (u u' : MSG) : xMsg (xPlace X o u) o (qNext X o) u' = xPlace X o u' := xMsg_idem _ _ _ _ _
theorem dH_place (X : XS) (o : Nat) (u : MSG) : dH (xD (xPlace X o u)) o (qNext X o) = u := dH_msg _ _ _ _
/-- what a placed message makes of the row of messages -/
theorem Rep.place {X : XS} {g : PS} (h : Rep X g) {o : Nat} (ho : o < 2) (hn : (xK X o).2.2.length < 60) (u : MSG) : xPlace X o u = xSetK (xSetD X (dSetH (xD X) o (qNext X o) u)) o (kNet (xK X o) ((xK X o).2.2 ++ [u])) := by
  obtain ⟨b1, b2, b3, b4, b5, b6⟩ := h.2.2.2.2.2.2.2.2.2.2.2.2.1 o ho
  unfold xPlace xMsg xCnt kMsg
  simp only [xK_same, xSetK_idem, xD_setK, xK_setD, xD_setD, xSetD_setK, xSetD_idem]
  congr 1
  show kNet (xK X o) (lMsg _ o (lMsg _ o _).length) = _
  rw [lMsg_len]
  congr 1
  unfold lMsg
  rw [List.range_succ, List.map_append]
  congr 1
  · conv => rhs; rw [h.net ho]
    unfold lMsg
    refine List.map_congr_left (fun j hj => ?_)
    have hj' : j < (xK X o).2.2.length := List.mem_range.mp hj
    refine if_neg (fun z => ?_)
    have := b4 j (xK X o).2.2.length (by omega) (by omega) z.2
    omega
  · show [(if o = o ∧ dP (xD X) o (xK X o).2.2.length = qNext X o then u else _)] = [u]
    rw [if_pos ⟨rfl, rfl⟩]
theorem c_52 {X : XS} {o : Nat} (ho : o < 2) {a b c d : Int32} (hn : (xK X o).2.2.length < 60) : RT 52 [some (.ref (aB o + 3)), some (.int a), some (.int b), some (.int c), some (.int d), none] X (some (.ref (aM o (qNext X o)))) (xPlace X o (mNew (dH (xD X) o (qNext X o)) a b c d)) := by
  intro g0 hg0
  have hq : qNext X o < 61 := (hg0.2.2.2.2.2.2.2.2.2.2.2.2.1 o ho).2.2.1 _ (by omega)
  revert g0
  refine AT.aload_n M_52 rfl rfl ?_
  refine AT.f_4_3 M_52 rfl (by assumption) ?_
  refine AT.bipush M_52 rfl (v := 60) (by decide) ?_
  refine AT.icmp_lt M_52 rfl (fun b3 => ?_) (fun b3 => ?_)
  · refine AT.aload_n M_52 rfl rfl ?_
    refine AT.f_4_0 M_52 rfl (by assumption) ?_
    refine AT.aload_n M_52 rfl rfl ?_
    refine AT.f_4_3 M_52 rfl (by assumption) ?_
    refine AT.a_row M_52 rfl rfl (by assumption) (by assumption) ?_
    change AT 52 _ _ [Value.ref (aM o (qNext X o))] _ _
    refine AT.ast5 M_52 rfl rfl ?_
    refine AT.aload_n M_52 rfl rfl ?_
    refine AT.dup M_52 rfl ?_
    refine AT.f_4_3 M_52 rfl (by assumption) ?_
    refine AT.iconst M_52 rfl (v := 1) (by decide) ?_
    refine AT.iadd M_52 rfl (i32_succ _) ?_
    refine AT.p_4_3 (n := (xK X o).2.2.length + 1) M_52 rfl ho (by omega) rfl ?_
    refine AT.aload M_52 rfl rfl ?_
    refine AT.iload_n M_52 rfl rfl ?_
    refine AT.p_3 (q := qNext X o) (k := 1) M_52 rfl ho hq (by decide) (by decide) (by decide) rfl (fun z => absurd z (by decide)) ?_
    rw [show xMsg (xCnt X o ((xK X o).2.2.length + 1)) o (qNext X o) (mSet (dH (xD (xCnt X o ((xK X o).2.2.length + 1))) o (qNext X o)) 1 a) = xPlace X o (mSet (dH (xD X) o (qNext X o)) 1 a) from rfl]
    refine AT.aload M_52 rfl rfl ?_
    refine AT.iload_n M_52 rfl rfl ?_
    refine AT.p_3 (k := 2) M_52 rfl ho hq (by decide) (by decide) (by decide) rfl (fun z => absurd z (by decide)) ?_
    try simp only [xPlace_msg, dH_place]
    refine AT.aload M_52 rfl rfl ?_
    refine AT.iload_n M_52 rfl rfl ?_
    refine AT.p_3 (k := 3) M_52 rfl ho hq (by decide) (by decide) (by decide) rfl (fun z => absurd z (by decide)) ?_
    try simp only [xPlace_msg, dH_place]
    refine AT.aload M_52 rfl rfl ?_
    refine AT.iload M_52 rfl rfl ?_
    refine AT.p_3 (k := 4) M_52 rfl ho hq (by decide) (by decide) (by decide) rfl (fun z => absurd z (by decide)) ?_
    try simp only [xPlace_msg, dH_place]
    refine AT.aload M_52 rfl rfl ?_
    refine AT.iconst M_52 rfl (v := 0) (by decide) ?_
    refine AT.p_3 (k := 5) M_52 rfl ho hq (by decide) (by decide) (by decide) rfl (fun _ => Or.inl rfl) ?_
    try simp only [xPlace_msg, dH_place]
    refine AT.aload M_52 rfl rfl ?_
    refine AT.iconst M_52 rfl (v := 0) (by decide) ?_
    refine AT.p_3 (k := 6) M_52 rfl ho hq (by decide) (by decide) (by decide) rfl (fun z => absurd z (by decide)) ?_
    try simp only [xPlace_msg, dH_place]
    refine AT.aload M_52 rfl rfl ?_
    refine AT.iconst M_52 rfl (v := 0) (by decide) ?_
    refine AT.p_3 (k := 7) M_52 rfl ho hq (by decide) (by decide) (by decide) rfl (fun z => absurd z (by decide)) ?_
    try simp only [xPlace_msg, dH_place]
    refine AT.aload M_52 rfl rfl ?_
    refine AT.iconst M_52 rfl (v := 0) (by decide) ?_
    refine AT.p_3 (k := 8) M_52 rfl ho hq (by decide) (by decide) (by decide) rfl (fun z => absurd z (by decide)) ?_
    try simp only [xPlace_msg, dH_place]
    refine AT.aload M_52 rfl rfl ?_
    refine AT.iconst M_52 rfl (v := 0) (by decide) ?_
    refine AT.p_3 (k := 9) M_52 rfl ho hq (by decide) (by decide) (by decide) rfl (fun z => absurd z (by decide)) ?_
    try simp only [xPlace_msg, dH_place]
    refine AT.aload M_52 rfl rfl ?_
    refine AT.anull M_52 rfl ?_
    refine AT.p_3_10n M_52 rfl ho hq ?_
    simp only [xPlace_msg, dH_place]
    refine AT.clr ho hq 0 ?_
    simp only [xPlace_msg, dH_place, List.take_zero]
    refine AT.aload M_52 rfl rfl ?_
    refine AT.aret M_52 rfl rfl ?_
    refine ⟨rfl, ?_⟩
    congr 1
    refine Prod.ext (funext fun j => Eq.symm ?_) rfl
    show (if j = 1 then a else if j = 2 then b else if j = 3 then c else if j = 4 then d else if 5 ≤ j ∧ j ≤ 9 then 0 else (dH (xD X) o (qNext X o)).1 j) = (if j = 9 then 0 else if j = 8 then 0 else if j = 7 then 0 else if j = 6 then 0 else if j = 5 then 0 else if j = 4 then d else if j = 3 then c else if j = 2 then b else if j = 1 then a else (dH (xD X) o (qNext X o)).1 j)
    rcases (show j = 0 ∨ j = 1 ∨ j = 2 ∨ j = 3 ∨ j = 4 ∨ j = 5 ∨ j = 6 ∨ j = 7 ∨ j = 8 ∨ j = 9 ∨ 10 ≤ j by omega) with rfl | rfl | rfl | rfl | rfl | rfl | rfl | rfl | rfl | rfl | h
    all_goals first | rfl | skip
    rw [if_neg (by omega), if_neg (by omega), if_neg (by omega), if_neg (by omega), if_neg (by omega), if_neg (by omega), if_neg (by omega), if_neg (by omega), if_neg (by omega), if_neg (by omega), if_neg (by omega), if_neg (by omega), if_neg (by omega), if_neg (by omega)]
  · exact absurd (by show Int32.ofNat (xK X o).2.2.length < Int32.ofNat 60; exact (i32_lt (by omega) (by omega)).mpr hn) b3
theorem c_52f {X : XS} {o : Nat} (ho : o < 2) {a b c d : Int32} (hn : (xK X o).2.2.length = 60) : RT 52 [some (.ref (aB o + 3)), some (.int a), some (.int b), some (.int c), some (.int d), none] X (some .null) (xSetK X o (kSet (xK X o) 32 0 0 ((xK X o).1 32 0 0 + 1))) := by
  refine AT.aload_n M_52 rfl rfl ?_
  refine AT.f_4_3 M_52 rfl (by assumption) ?_
  refine AT.bipush M_52 rfl (v := 60) (by decide) ?_
  refine AT.icmp_lt M_52 rfl (fun b3 => ?_) (fun b3 => ?_)
  · exact absurd ((i32_lt (b := 60) (by omega) (by omega)).mp b3) (by omega)
  · refine AT.aload_n M_52 rfl rfl ?_
    refine AT.dup M_52 rfl ?_
    refine AT.f_4_5 M_52 rfl (by assumption) ?_
    refine AT.iconst M_52 rfl (v := 1) (by decide) ?_
    refine AT.iadd M_52 rfl rfl ?_
    refine AT.p_4_5 M_52 rfl (by assumption) ?_
    try simp only [xK_same, xSetK_idem, xD_setK, xK_setD, xD_setD, xSetD_setK, xSetD_idem, kSet_1, kSet_2, kRow_1, kRow_2, kLog_1, kLog_2, kLog_l, kLog_idem, List.take_zero, if_true]
    refine AT.anull M_52 rfl ?_
    refine AT.aret0 M_52 rfl rfl ?_
    exact ⟨rfl, rfl⟩
