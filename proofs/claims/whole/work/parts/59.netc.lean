/-! ===== THE NETWORK IS COPIED ===== -/
/-- Network.takeOut -/
theorem c_54w {X : XS} {o j : Nat} (ho : o < 2) (hj : j < (xK X o).2.2.length) : RT 54 [some (.ref (aB o + 3)), some (.int (Int32.ofNat j)), none, none] X (some (.ref (aM o (dP (xD X) o j)))) (xSetK (xSetD X (dSetP (xD X) o (fun k => dP (xD X) o (sgT (xK X o).2.2.length j k)))) o (kNet (xK X o) ((xK X o).2.2.eraseIdx j))) := by
  intro g0 hg0
  have e := lMsg_take hg0 ho hj
  rw [← e]
  exact c_54 ho hj g0 hg0
/-- the messages in the cells of state o -/
def dRowH (D : XD) (o : Nat) (hh : Nat → MSG) : XD := (D.1, D.2.1, D.2.2.1, D.2.2.2.1, D.2.2.2.2.1, D.2.2.2.2.2.1, fun a b => if a = o then hh b else D.2.2.2.2.2.2.1 a b, D.2.2.2.2.2.2.2)
def xRow (X : XS) (o : Nat) (K : KK) (hh : Nat → MSG) : XS := xSetK (xSetD X (dRowH (xD X) o hh)) o (kNet K (lMsg (dRowH (xD X) o hh) o K.2.2.length))
theorem dRowH_o {D : XD} {o o' : Nat} {hh : Nat → MSG} (h : ¬ o' = o) (q : Nat) : dH (dRowH D o hh) o' q = dH D o' q := if_neg h
theorem dRowH_s (D : XD) (o q : Nat) (hh : Nat → MSG) (u : MSG) : dSetH (dRowH D o hh) o q u = dRowH D o (fun b => if b = q then u else hh b) := by
  unfold dSetH dRowH
  refine Prod.ext rfl (Prod.ext rfl (Prod.ext rfl (Prod.ext rfl (Prod.ext rfl (Prod.ext rfl (Prod.ext (funext fun a => funext fun b => ?_) rfl))))))
  show (if a = o ∧ b = q then u else if a = o then hh b else _) = if a = o then (if b = q then u else hh b) else _
  by_cases h1 : a = o
  · rw [if_pos h1, if_pos h1]
    by_cases h2 : b = q
    · rw [if_pos ⟨h1, h2⟩, if_pos h2]
    · rw [if_neg (fun z => h2 z.2), if_neg h2]
  · rw [if_neg h1, if_neg h1, if_neg (fun z => h1 z.1)]
theorem xRow_s (X : XS) (o q : Nat) (K : KK) (hh : Nat → MSG) (u : MSG) : xMsg (xRow X o K hh) o q u = xRow X o K (fun b => if b = q then u else hh b) := by
  unfold xMsg xRow kMsg
  simp only [xK_same, xSetK_idem, xD_setK, xK_setD, xD_setD, xSetD_setK, xSetD_idem, dRowH_s]
  congr 1
  show kNet K (lMsg _ o (lMsg _ o K.2.2.length).length) = _
  rw [lMsg_len]
/-- the network of state o as that of K' -/
def kNetC (K K' : KK) : KK := kSet (kNet (fun a b c => if a = 30 ∧ b < 7 ∧ c = 0 then K'.1 30 b 0 else K.1 a b c, K.2) K'.2.2) 32 0 0 (K'.1 32 0 0)
def kCutC (K K' : KK) : KK := (fun a b c => if a = 30 ∧ b < 7 ∧ c = 0 then K'.1 30 b 0 else K.1 a b c, K.2)
def rNetC (X : XS) (o o' : Nat) (Y : XS) : Prop := ∃ hh, Y = xSetK (xSetD X (dSetV (dRowH (xD X) o hh) o 31 0 0 (dV (xD X) o' 31 0 0))) o (kNetC (xK X o) (xK X o'))
theorem xRow_len (X : XS) (o : Nat) (K : KK) (hh : Nat → MSG) : (xK (xRow X o K hh) o).2.2.length = K.2.2.length := by
  unfold xRow
  rw [xK_same]
  exact lMsg_len _ _ _
theorem xRow_o {X : XS} {o o' : Nat} {K : KK} {hh : Nat → MSG} (h : ¬ o' = o) : xK (xRow X o K hh) o' = xK X o' := if_neg h
theorem l_49 {X : XS} {o o' : Nat} (ho : o < 2) (ho2 : o' < 2) (hne : ¬ o' = o) (hn60 : (xK X o').2.2.length ≤ 60) (hP1 : ∀ j, j < 61 → dP (xD X) o j < 61) (hP2 : ∀ j, j < 61 → dP (xD X) o' j < 61) (hPi : ∀ j j', j < 61 → j' < 61 → dP (xD X) o j = dP (xD X) o j' → j = j') (hsrc : ∀ j u, (xK X o').2.2[j]? = some u → dH (xD X) o' (dP (xD X) o' j) = u) : ∀ n j : Nat, j + n = (xK X o').2.2.length → ∀ hh : Nat → MSG, (∀ k, k < j → hh (dP (xD X) o k) = dH (xD X) o' (dP (xD X) o' k)) → AT 49 10 [some (.ref (aB o + 3)), some (.ref (aB o' + 3)), some (.int (Int32.ofNat j))] [] (xRow X o (kCutC (xK X o) (xK X o')) hh) (fun o'' Y => o'' = .inl none ∧ rNetC X o o' Y)
  | 0, j, hj, hh, hh1 => by
    refine AT.iload_n M_49 rfl rfl ?_
    refine AT.aload_n M_49 rfl rfl ?_
    refine AT.f_4_3 M_49 rfl (by assumption) ?_
    refine AT.icmp_ge M_49 rfl (fun b13 => ?_) (fun b13 => ?_)
    · refine AT.aload_n M_49 rfl rfl ?_
      refine AT.aload_n M_49 rfl rfl ?_
      refine AT.f_4_3 M_49 rfl (by assumption) ?_
      rw [xRow_o hne]
      refine AT.p_4_3 (n := (xK X o').2.2.length) M_49 rfl ho hn60 rfl ?_
      have e0 : xCnt (xRow X o (kCutC (xK X o) (xK X o')) hh) o (xK X o').2.2.length = xSetK (xSetD X (dRowH (xD X) o hh)) o (kNet (kCutC (xK X o) (xK X o')) (xK X o').2.2) := by
        unfold xCnt xRow
        simp only [xK_same, xSetK_idem, xD_setK, xK_setD, xD_setD, xSetD_setK, xSetD_idem]
        congr 1
        show kNet (kCutC (xK X o) (xK X o')) (lMsg _ o _) = _
        congr 1
        refine List.ext_getElem? (fun k => ?_)
        rcases Nat.lt_or_ge k (xK X o').2.2.length with hk | hk
        · obtain ⟨u, hu⟩ : ∃ u, (xK X o').2.2[k]? = some u := ⟨_, List.getElem?_eq_getElem hk⟩
          unfold lMsg
          rw [List.getElem?_map, List.getElem?_range hk, hu]
          show some (dH (dRowH (xD X) o hh) o (dP (xD X) o k)) = some u
          rw [show dH (dRowH (xD X) o hh) o (dP (xD X) o k) = hh (dP (xD X) o k) from if_pos rfl, hh1 k (by omega), hsrc k u hu]
        · rw [List.getElem?_eq_none (by rw [lMsg_len]; exact hk), List.getElem?_eq_none hk]
      rw [e0]
      refine AT.aload_n M_49 rfl rfl ?_
      refine AT.aload_n M_49 rfl rfl ?_
      refine AT.f_4_4 M_49 rfl (by assumption) ?_
      refine AT.p_4_4 M_49 rfl (by assumption) ?_
      refine AT.aload_n M_49 rfl rfl ?_
      refine AT.aload_n M_49 rfl rfl ?_
      refine AT.f_4_5 M_49 rfl (by assumption) ?_
      refine AT.p_4_5 M_49 rfl (by assumption) ?_
      refine AT.vret M_49 rfl rfl ?_
      refine ⟨rfl, hh, ?_⟩
      simp only [xK_other _ _ _ _ hne, xK_same, xSetK_idem, xD_setK, xK_setD, xD_setD, xSetD_setK, xSetD_idem]
      rfl
    · exact absurd (by rw [xRow_o hne]; rw [show j = (xK X o').2.2.length by omega]; exact Int32.le_refl _) b13
  | n + 1, j, hj, hh, hh1 => by
    refine AT.iload_n M_49 rfl rfl ?_
    refine AT.aload_n M_49 rfl rfl ?_
    refine AT.f_4_3 M_49 rfl (by assumption) ?_
    refine AT.icmp_ge M_49 rfl (fun b13 => ?_) (fun b13 => ?_)
    · rw [xRow_o hne] at b13
      exact absurd ((i32_le (by omega) (by omega)).mp b13) (by omega)
    · refine AT.aload_n M_49 rfl rfl ?_
      refine AT.f_4_0 M_49 rfl (by assumption) ?_
      refine AT.iload_n M_49 rfl rfl ?_
      refine AT.a_row M_49 rfl rfl ho (by omega) ?_
      refine AT.aload_n M_49 rfl rfl ?_
      refine AT.f_4_0 M_49 rfl (by assumption) ?_
      refine AT.iload_n M_49 rfl rfl ?_
      refine AT.a_row M_49 rfl rfl ho2 (by omega) ?_
      refine AT.cv20 M_49 rfl M_44 rfl (Nat.le_of_ble_eq_true rfl) (xKd.of (shp_msg ho (hP1 j (by omega)))) (by decide) (c_44w (q := dP (xD X) o j) (q' := dP (xD X) o' j) ho (hP1 j (by omega)) ho2 (hP2 j (by omega)) (fun z => hne z.1)) ?_ (Nat.le_of_ble_eq_true rfl) rfl
      rw [xRow_s]
      refine AT.iinc2 M_49 rfl rfl (i32_succ _) ?_
      refine AT.goto M_49 rfl ?_
      refine l_49 ho ho2 hne hn60 hP1 hP2 hPi hsrc n (j + 1) (by omega) _ (fun k hk => ?_)
      by_cases e : k = j
      · subst e
        rw [if_pos rfl]
        exact dRowH_o hne _
      · rw [if_neg (fun z => e (hPi k j (by omega) (by omega) z))]
        exact hh1 k (by omega)
theorem c_49 {X : XS} {o o' : Nat} (ho : o < 2) (ho2 : o' < 2) (hne : ¬ o' = o) : RU 49 [some (.ref (aB o + 3)), some (.ref (aB o' + 3)), none] X none (rNetC X o o') := by
  intro g0 hg0
  have hb := hg0.2.2.2.2.2.2.2.2.2.2.2.2.1 o ho
  have hb2 := hg0.2.2.2.2.2.2.2.2.2.2.2.2.1 o' ho2
  have hn60 : (xK X o').2.2.length ≤ 60 := (hg0.2.2.2.2.2.2.1 o' (by omega)).1
  have hP1 := hb.2.2.1
  have hP2 := hb2.2.2.1
  have hPi := hb.2.2.2.1
  have hsrc := hb2.2.2.2.2.2
  have hnet := hg0.net ho
  have e1 : xRow X o (kCutC (xK X o) (xK X o')) (dH (xD X) o) = xSetK X o (kCutC (xK X o) (xK X o')) := by
    have e2 : dRowH (xD X) o (dH (xD X) o) = xD X := by
      unfold dRowH
      refine Prod.ext rfl (Prod.ext rfl (Prod.ext rfl (Prod.ext rfl (Prod.ext rfl (Prod.ext rfl (Prod.ext (funext fun a => funext fun b => ?_) rfl))))))
      show (if a = o then dH (xD X) o b else dH (xD X) a b) = dH (xD X) a b
      split
      · rename_i z; rw [z]
      · rfl
    unfold xRow
    rw [e2]
    show xSetK X o (kNet (kCutC (xK X o) (xK X o')) (lMsg (xD X) o (xK X o).2.2.length)) = _
    rw [← hnet]
    rfl
  clear hb hb2 hnet
  revert g0
  refine AT.aload_n M_49 rfl rfl ?_
  refine AT.f_4_1 M_49 rfl (by assumption) ?_
  refine AT.iconst M_49 rfl (v := 0) (by decide) ?_
  refine AT.aload_n M_49 rfl rfl ?_
  refine AT.f_4_1 M_49 rfl (by assumption) ?_
  refine AT.iconst M_49 rfl (v := 0) (by decide) ?_
  refine AT.bipush M_49 rfl (v := 7) (by decide) ?_
  refine AT.acpG (o := o) (i0 := 0) (j0 := 0) (kl := 7) (f := 30) (kd := 12) (v := fun q => (xK X o').1 30 q 0) (fi := fun q => q) (fj := fun _ => 0) (K' := kCutC (xK X o) (xK X o')) M_49 rfl rfl (Nat.zero_le _) rfl rfl rfl (by omega) (Or.inl rfl) (fun g hg => ⟨(hg.2.1 _ _ _ (shp_cuts ho2)).1, by rw [(hg.2.1 _ _ _ (shp_cuts ho2)).2 (Nat.le_refl _)]; decide, fun q hq => ?_⟩) (fun g hg => ⟨(hg.2.1 _ _ _ (shp_cuts ho)).1, by rw [(hg.2.1 _ _ _ (shp_cuts ho)).2 (Nat.le_refl _)]; decide⟩) (fun q hq => by rw [Nat.zero_add]; exact loc_cut ho hq) rfl (fun _ => by decide) (fun z => absurd z (by decide)) rfl (fun q hq => if_pos ⟨rfl, hq, rfl⟩) (fun f' i' j' hn => if_neg (fun z => hn i' z.2.1 ⟨z.1, rfl, z.2.2⟩)) ?_
  · rw [Nat.zero_add]
    exact hg.2.2.1 _ _ _ _ _ _ (loc_cut ho2 hq)
  refine AT.iconst M_49 rfl (v := 0) (by decide) ?_
  refine AT.ist2 M_49 rfl rfl ?_
  rw [← e1]
  exact l_49 ho ho2 hne hn60 hP1 hP2 hPi hsrc (xK X o').2.2.length 0 (by omega) _ (fun k hk => absurd hk (Nat.not_lt_zero k))
