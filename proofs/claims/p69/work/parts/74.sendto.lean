/-! ===== A SERVER SENDS OF ITS LOG ===== -/
theorem l_27 {X : XS} {o s q : Nat} (ho : o < 2) (hs : s < 7) (hq7 : q < 7) (hqn : qNext X o < 61) {a j : Nat} (ha : (xK X o).1 18 s 0 = Int32.ofNat a) (hnx : (xK X o).1 2 s q = Int32.ofNat (a + 1 + j)) (hj : j ≤ ((xK X o).2.1 s).length) (hl : a + ((xK X o).2.1 s).length < 16777216) (x3 : Int32) : ∀ n k : Nat, k + n = (eFrom (xK X o) s ((xK X o).1 2 s q)).length → AT 27 61 [some (.ref (aB o)), some (.ref (aS o s)), some (.int (Int32.ofNat q)), some (.int x3), some (.int 0), some (.ref (aM o (qNext X o))), some (.int (Int32.ofNat (a + 1 + j + k)))] [] (xPlace X o (mEnts (xK X o) s q k)) (fun o' Y => o' = .inl none ∧ Y = xPlace X o (mEnts (xK X o) s q (eFrom (xK X o) s ((xK X o).1 2 s q)).length))
  | 0, k, hk => by
    refine AT.iload M_27 rfl rfl ?_
    refine AT.aload_n M_27 rfl rfl ?_
    refine AT.cv1i M_27 rfl M_62 rfl (Nat.le_of_ble_eq_true rfl) (xKd.of (shp_sv (by assumption) (by assumption))) (by decide) (c_62 ho hs) ?_ (Nat.le_of_ble_eq_true rfl) rfl
    refine AT.icmp_gt M_27 rfl (fun b64 => ?_) (fun b64 => ?_)
    · refine AT.vret M_27 rfl rfl ?_
      refine ⟨rfl, ?_⟩
      rw [show (eFrom (xK X o) s ((xK X o).1 2 s q)).length = k by omega]
    · rw [(xPlace_last X o s _).1] at b64
      refine AT.aload M_27 rfl rfl ?_
      refine AT.f_3_9 M_27 rfl (xMs.plc ho hqn) ?_
      rw [mEnts_9]
      refine AT.iconst M_27 rfl (v := 4) (by decide) ?_
      have hk4 : k = 4 := by
        have h1 := (eFrom_ix ha hl hj (min k 3) (by omega)).1
        rw [← hnx] at h1
        have h2 : ¬ sLast (xK X o) s < Int32.ofNat (a + 1 + j + k) := b64
        rw [Int32.not_lt] at h2
        have hE : (eFrom (xK X o) s ((xK X o).1 2 s q)).length = k := by omega
        have hle : k ≤ 4 := by rw [← hE]; unfold eFrom; rw [List.length_take]; omega
        rcases Nat.lt_or_ge k 4 with z | z
        · rw [(eFrom_ix ha hl hj k z).2.1] at h2
          rw [show min k 3 = k by omega, List.getElem?_eq_none (by omega), List.getElem?_eq_getElem h2] at h1
          cases h1
        · omega
      refine AT.icmp_ge M_27 rfl (fun b68 => ?_) (fun b68 => ?_)
      · refine AT.vret M_27 rfl rfl ?_
        refine ⟨rfl, ?_⟩
        rw [show (eFrom (xK X o) s ((xK X o).1 2 s q)).length = k by omega]
      · exact absurd (by rw [hk4]; exact Int32.le_refl _) b68
  | n + 1, k, hk => by
    have hlt : k < (eFrom (xK X o) s ((xK X o).1 2 s q)).length := by omega
    have hk4 : k < 4 := by
      have : (eFrom (xK X o) s ((xK X o).1 2 s q)).length ≤ 4 := by unfold eFrom; rw [List.length_take]; omega
      omega
    obtain ⟨e, hke⟩ : ∃ e, (eFrom (xK X o) s ((xK X o).1 2 s q))[k]? = some e := ⟨_, List.getElem?_eq_getElem hlt⟩
    have hke2 := hke
    rw [hnx, (eFrom_ix ha hl hj k hk4).1] at hke2
    have hlen : j + k < ((xK X o).2.1 s).length := by
      rcases Nat.lt_or_ge (j + k) ((xK X o).2.1 s).length with z | z
      · exact z
      · rw [List.getElem?_eq_none z] at hke2; cases hke2
    have hsE : sEnt (xK X o) s (Int32.ofNat (a + 1 + j + k)) = some e := by rw [(eFrom_ix ha hl hj k hk4).2.2 hlen]; exact hke2
    refine AT.iload M_27 rfl rfl ?_
    refine AT.aload_n M_27 rfl rfl ?_
    refine AT.cv1i M_27 rfl M_62 rfl (Nat.le_of_ble_eq_true rfl) (xKd.of (shp_sv (by assumption) (by assumption))) (by decide) (c_62 ho hs) ?_ (Nat.le_of_ble_eq_true rfl) rfl
    refine AT.icmp_gt M_27 rfl (fun b64 => ?_) (fun b64 => ?_)
    · exact absurd b64 (by rw [(xPlace_last X o s _).1, Int32.not_lt, (eFrom_ix ha hl hj k hk4).2.1]; exact hlen)
    · refine AT.aload M_27 rfl rfl ?_
      refine AT.f_3_9 M_27 rfl (xMs.plc ho hqn) ?_
      rw [mEnts_9]
      refine AT.iconst M_27 rfl (v := 4) (by decide) ?_
      refine AT.icmp_ge M_27 rfl (fun b68 => ?_) (fun b68 => ?_)
      · exact absurd ((i32_le (b := k) (a := 4) (by omega) (by omega)).mp b68) (by omega)
      · refine AT.aload M_27 rfl rfl ?_
        refine AT.f_3_0 M_27 rfl (by assumption) (by assumption) ?_
        refine AT.aload M_27 rfl rfl ?_
        refine AT.f_3_9 M_27 rfl (xMs.plc ho hqn) ?_
        rw [mEnts_9]
        refine AT.aload_n M_27 rfl rfl ?_
        refine AT.iload M_27 rfl rfl ?_
        refine AT.cv2p M_27 rfl M_64 rfl (Nat.le_of_ble_eq_true rfl) (xKd.of (shp_sv (by assumption) (by assumption))) (by decide) (c_64 ho hs (by rw [xPlace_ent]; exact hsE) (xPlace_wf _ ⟨a, ha, hl⟩)) (fun p75 he75 => ?_) (Nat.le_of_ble_eq_true rfl) rfl
        refine AT.s_ent M_27 rfl rfl ho hqn (by omega) (by rw [dH_place]; show k ≤ (List.take k _).length; rw [List.length_take]; omega) (by assumption) ?_
        simp only [xPlace_msg, dH_place]
        refine AT.aload M_27 rfl rfl ?_
        refine AT.dup M_27 rfl ?_
        refine AT.f_3_9 M_27 rfl (xMs.plc ho hqn) ?_
        rw [mEnts_9]
        refine AT.iconst M_27 rfl (v := 1) (by decide) ?_
        refine AT.iadd M_27 rfl rfl ?_
        refine AT.p_3 (q := qNext X o) (k := 9) M_27 rfl ho hqn (by decide) (by decide) (by decide) rfl (fun z => absurd z (by decide)) ?_
        simp only [xPlace_msg, dH_place]
        rw [mEnts_up hke _ (i32_suc1 k)]
        refine AT.iinc6 M_27 rfl rfl (i32_succ _) ?_
        refine AT.goto M_27 rfl ?_
        exact l_27 ho hs hq7 hqn ha hnx hj hl x3 n (k + 1) (by omega)
theorem c_27 {X : XS} {o s q : Nat} (ho : o < 2) (hs : s < 7) (hq7 : q < 7) (hw : kWf (xK X o) s) (hN : kNx (xK X o) s q) : RT 27 [some (.ref (aB o)), some (.ref (aS o s)), some (.int (Int32.ofNat q)), none, none, none, none] X none (xSend X o (mLog (xK X o) s q)) := by
  refine AT.aload_n M_27 rfl rfl ?_
  refine AT.f_6_2 M_27 rfl (by assumption) (by assumption) ?_
  refine AT.iload_n M_27 rfl rfl ?_
  refine AT.a_nxt M_27 rfl rfl (by assumption) (by assumption) (by assumption) ?_
  refine AT.ist3 M_27 rfl rfl ?_
  refine AT.iload_n M_27 rfl rfl ?_
  refine AT.aload_n M_27 rfl rfl ?_
  refine AT.f_6_9 M_27 rfl (by assumption) (by assumption) (fun p7 hp7 => ?_)
  refine AT.f_7_0 M_27 rfl (by assumption) ?_
  refine AT.icmp_gt M_27 rfl (fun b9 => ?_) (fun b9 => ?_)
  · refine AT.iconst M_27 rfl (v := 0) (by decide) ?_
    refine AT.ist4 M_27 rfl rfl ?_
    refine AT.aload_n M_27 rfl rfl ?_
    refine AT.f_1_2 M_27 rfl (by assumption) ?_
    refine AT.iload M_27 rfl rfl ?_
    refine AT.if_eq M_27 rfl (fun b17 => ?_) (fun b17 => ?_)
    · refine AT.iconst M_27 rfl (v := 5) (by decide) ?_
      refine AT.aload_n M_27 rfl rfl ?_
      refine AT.f_6_0 M_27 rfl (by assumption) (by assumption) ?_
      refine AT.iload_n M_27 rfl rfl ?_
      refine AT.aload_n M_27 rfl rfl ?_
      refine AT.f_6_5 M_27 rfl (by assumption) (by assumption) ?_
      intro g0 hg0
      by_cases hn : (xK X o).2.2.length < 60
      · have e := hg0.send ho hn (mLog (xK X o) s q)
        have hqn : qNext X o < 61 := hg0.next ho (by omega)
        revert g0
        refine AT.cv5i M_27 rfl M_52 rfl (Nat.le_of_ble_eq_true rfl) (xKd.of (shp_net (by assumption))) (by decide) (c_52w ho hn) ?_ (Nat.le_of_ble_eq_true rfl) rfl
        refine AT.ast5 M_27 rfl rfl ?_
        refine AT.aload M_27 rfl rfl ?_
        refine AT.ifnn1 M_27 rfl ?_
        refine AT.iload M_27 rfl rfl ?_
        refine AT.if_eq M_27 rfl (fun b32 => ?_) (fun b32 => ?_)
        · refine AT.aload M_27 rfl rfl ?_
          refine AT.iload_n M_27 rfl rfl ?_
          refine AT.iconst M_27 rfl (v := 1) (by decide) ?_
          refine AT.isub M_27 rfl rfl ?_
          try simp only [xPlace_1]
          refine AT.p_3 (q := qNext X o) (k := 6) M_27 rfl ho hqn (by decide) (by decide) (by decide) rfl (fun z => absurd z (by decide)) ?_
          simp only [xPlace_msg, dH_place]
          refine AT.aload M_27 rfl rfl ?_
          refine AT.aload_n M_27 rfl rfl ?_
          refine AT.iload_n M_27 rfl rfl ?_
          refine AT.iconst M_27 rfl (v := 1) (by decide) ?_
          refine AT.isub M_27 rfl rfl ?_
          refine AT.cv2i M_27 rfl M_65 rfl (Nat.le_of_ble_eq_true rfl) (xKd.of (shp_sv (by assumption) (by assumption))) (by decide) (c_65 ho hs (xPlace_wf _ hw)) ?_ (Nat.le_of_ble_eq_true rfl) rfl
          rw [xPlace_tix]
          try simp only [xPlace_1]
          refine AT.p_3 (q := qNext X o) (k := 7) M_27 rfl ho hqn (by decide) (by decide) (by decide) rfl (fun z => absurd z (by decide)) ?_
          simp only [xPlace_msg, dH_place]
          refine AT.aload M_27 rfl rfl ?_
          refine AT.aload_n M_27 rfl rfl ?_
          refine AT.f_6_15 M_27 rfl (by assumption) (by assumption) ?_
          try simp only [xPlace_1]
          refine AT.p_3 (q := qNext X o) (k := 8) M_27 rfl ho hqn (by decide) (by decide) (by decide) rfl (fun z => absurd z (by decide)) ?_
          simp only [xPlace_msg, dH_place]
          refine AT.iload_n M_27 rfl rfl ?_
          refine AT.ist6 M_27 rfl rfl ?_
          obtain ⟨a, j, ha, hnx, hj, hl⟩ := hN b9
          rw [mEnts_0]
          have ee : (xK X o).1 2 s q = Int32.ofNat (a + 1 + j + 0) := hnx
          rw [show (AT 27 61 _ _ _ _) = AT 27 61 [some (.ref (aB o)), some (.ref (aS o s)), some (.int (Int32.ofNat q)), some (.int ((xK X o).1 2 s q)), some (.int 0), some (.ref (aM o (qNext X o))), some (.int (Int32.ofNat (a + 1 + j + 0)))] [] _ _ by rw [← ee]]
          refine AT.mono (l_27 ho hs hq7 hqn ha hnx hj hl _ _ 0 (Nat.zero_add _)) ?_
          rintro o' Y ⟨h1, h2⟩
          refine ⟨h1, ?_⟩
          rw [h2, ← e]
          unfold mLog
          rw [if_pos b9]
        · exact absurd rfl b32
      · have e : xSend X o (mLog (xK X o) s q) = xSetK X o (kSet (xK X o) 32 0 0 ((xK X o).1 32 0 0 + 1)) := if_neg hn
        have hn60 := hg0.full ho hn
        revert g0
        refine AT.cv5i M_27 rfl M_52 rfl (Nat.le_of_ble_eq_true rfl) (xKd.of (shp_net (by assumption))) (by decide) (c_52f ho hn60) ?_ (Nat.le_of_ble_eq_true rfl) rfl
        refine AT.zst5 M_27 rfl rfl ?_
        refine AT.aload0 M_27 rfl rfl ?_
        refine AT.ifnn0 M_27 rfl ?_
        refine AT.vret M_27 rfl rfl ?_
        exact ⟨rfl, e.symm⟩
    · exact absurd rfl b17
  · refine AT.iconst M_27 rfl (v := 1) (by decide) ?_
    refine AT.goto M_27 rfl ?_
    refine AT.ist4 M_27 rfl rfl ?_
    refine AT.aload_n M_27 rfl rfl ?_
    refine AT.f_1_2 M_27 rfl (by assumption) ?_
    refine AT.iload M_27 rfl rfl ?_
    refine AT.if_eq M_27 rfl (fun b17 => ?_) (fun b17 => ?_)
    · exact absurd b17 (by decide)
    · refine AT.bipush M_27 rfl (v := 7) (by decide) ?_
      refine AT.goto M_27 rfl ?_
      refine AT.aload_n M_27 rfl rfl ?_
      refine AT.f_6_0 M_27 rfl (by assumption) (by assumption) ?_
      refine AT.iload_n M_27 rfl rfl ?_
      refine AT.aload_n M_27 rfl rfl ?_
      refine AT.f_6_5 M_27 rfl (by assumption) (by assumption) ?_
      intro g0 hg0
      by_cases hn : (xK X o).2.2.length < 60
      · have e := hg0.send ho hn (mLog (xK X o) s q)
        have hqn : qNext X o < 61 := hg0.next ho (by omega)
        revert g0
        refine AT.cv5i M_27 rfl M_52 rfl (Nat.le_of_ble_eq_true rfl) (xKd.of (shp_net (by assumption))) (by decide) (c_52w ho hn) ?_ (Nat.le_of_ble_eq_true rfl) rfl
        refine AT.ast5 M_27 rfl rfl ?_
        refine AT.aload M_27 rfl rfl ?_
        refine AT.ifnn1 M_27 rfl ?_
        refine AT.iload M_27 rfl rfl ?_
        refine AT.if_eq M_27 rfl (fun b32 => ?_) (fun b32 => ?_)
        · exact absurd b32 (by decide)
        · refine AT.aload M_27 rfl rfl ?_
          refine AT.aload_n M_27 rfl rfl ?_
          refine AT.f_6_9 M_27 rfl (by assumption) (by assumption) (fun p35 hp35 => ?_)
          refine AT.f_7_0 M_27 rfl (by assumption) ?_
          try simp only [xPlace_1]
          refine AT.p_3 (q := qNext X o) (k := 6) M_27 rfl ho hqn (by decide) (by decide) (by decide) rfl (fun z => absurd z (by decide)) ?_
          simp only [xPlace_msg, dH_place]
          refine AT.aload M_27 rfl rfl ?_
          refine AT.aload_n M_27 rfl rfl ?_
          refine AT.f_6_9 M_27 rfl (by assumption) (by assumption) (fun p40 hp40 => ?_)
          refine AT.p_3_10s M_27 rfl ho hqn (by assumption) ?_
          simp only [xPlace_msg, dH_place, xPlace_1]
          refine AT.vret M_27 rfl rfl ?_
          refine ⟨rfl, ?_⟩
          rw [← e]
          unfold mLog
          rw [if_neg b9]
          rfl
      · have e : xSend X o (mLog (xK X o) s q) = xSetK X o (kSet (xK X o) 32 0 0 ((xK X o).1 32 0 0 + 1)) := if_neg hn
        have hn60 := hg0.full ho hn
        revert g0
        refine AT.cv5i M_27 rfl M_52 rfl (Nat.le_of_ble_eq_true rfl) (xKd.of (shp_net (by assumption))) (by decide) (c_52f ho hn60) ?_ (Nat.le_of_ble_eq_true rfl) rfl
        refine AT.zst5 M_27 rfl rfl ?_
        refine AT.aload0 M_27 rfl rfl ?_
        refine AT.ifnn0 M_27 rfl ?_
        refine AT.vret M_27 rfl rfl ?_
        exact ⟨rfl, e.symm⟩
