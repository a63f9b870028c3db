/-! ===== THE REFERENCE: entries come, the whole ===== -/
theorem i32_mm {a b : Nat} (ha : a < 2147483648) (hb : b < 2147483648) : kMin (Int32.ofNat a) (Int32.ofNat b) = Int32.ofNat (min a b) := by
  unfold kMin
  by_cases h : b < a
  · rw [if_pos ((i32_lt hb ha).mpr h), Nat.min_eq_right (by omega)]
  · rw [if_neg (fun z => h ((i32_lt hb ha).mp z)), Nat.min_eq_left (by omega)]
theorem c_215e {X : XS} {o s : Nat} (h2 : 2 ≤ o) (h4 : o < 4) (hs : s < 7) {a j : Nat} {e : ENT} (ha : (xK X o).1 18 s 0 = Int32.ofNat a) (hl : a + ((xK X o).2.1 s).length < 16777216) (he : ((xK X o).2.1 s)[j]? = some e) : RT 215 [some (.ref (bB o)), some (.int (Int32.ofNat s)), some (.int (Int32.ofNat (a + 1 + j))), none] X (some (.int (Int32.ofNat (a + sRun ((xK X o).2.1 s) (e 0) j)))) X := by
  obtain ⟨hj, rfl⟩ := List.getElem?_eq_some_iff.mp he
  exact c_215 h2 h4 hs ha hl hj
theorem i32_mx {a b : Nat} (ha : a < 2147483648) (hb : b < 2147483648) : (if Int32.ofNat a < Int32.ofNat b then Int32.ofNat b else Int32.ofNat a) = Int32.ofNat (a + (b - a)) := by
  by_cases h : a < b
  · rw [if_pos ((i32_lt ha hb).mpr h)]; congr 1; omega
  · rw [if_neg (fun z => h ((i32_lt ha hb).mp z))]; congr 1; omega
theorem kAccs_ok {s m x6n : Nat} : ∀ (es : List ENT) (i : Nat) (K : KK), sOk K s → (∀ e, e ∈ es → eOk e) → x6n + i + es.length ≤ m → m ≤ 399980 → kAccOk s K (Int32.ofNat (x6n + 1 + i)) es → x6n + i ≤ kA K s + (K.2.1 s).length → (K.2.1 s).length ≤ m →
    sOk (kAccs s K (Int32.ofNat (x6n + 1 + i)) es) s ∧ x6n + i + es.length ≤ kA (kAccs s K (Int32.ofNat (x6n + 1 + i)) es) s + ((kAccs s K (Int32.ofNat (x6n + 1 + i)) es).2.1 s).length ∧ (kAccs s K (Int32.ofNat (x6n + 1 + i)) es).1 = K.1 ∧ ((kAccs s K (Int32.ofNat (x6n + 1 + i)) es).2.1 s).length ≤ m
  | [], i, K, ok, _, _, _, _, hx, hl => ⟨ok, by show x6n + i + 0 ≤ _; exact hx, rfl, hl⟩
  | e :: es, i, K, ok, hE, hm, hM, hA, hx, hl => by
    have hm2 : x6n + i + (es.length + 1) ≤ m := hm
    have ha2 := kAcc_ok (xn := x6n + 1 + i) (e := e) ok (by omega) (by omega) (hE e List.mem_cons_self) hA.1
    have hi : Int32.ofNat (x6n + 1 + i) + 1 = Int32.ofNat (x6n + 1 + (i + 1)) := i32_suc1 _
    have h := kAccs_ok (m := m) (x6n := x6n) es (i + 1) (kAcc K s (Int32.ofNat (x6n + 1 + i)) e) ha2.1 (fun e he => hE e (List.mem_cons_of_mem _ he)) (by omega) hM (by rw [← hi]; exact hA.2) (by have := ha2.2.1; rw [(kAcc_C _ _ _ _ _).1]; omega) (by have := ha2.2.2; omega)
    rw [← hi] at h
    refine ⟨h.1, ?_, h.2.2.1.trans (kAcc_1 _ _ _ _), h.2.2.2⟩
    have h3 := h.2.1
    show x6n + i + (es.length + 1) ≤ kA (kAccs s (kAcc K s _ e) (_ + 1) es) s + ((kAccs s (kAcc K s _ e) (_ + 1) es).2.1 s).length
    omega
theorem t_214 {X : XS} {o s : Nat} (h2 : 2 ≤ o) (h4 : o < 4) (hs : s < 7) {m x6n c8 : Nat} {w : MSG} {x6 : Int32} {x8 x9 : Option Value} (w3 : w.1 3 = Int32.ofNat s) (h5 : w.1 1 = 5) (h6 : w.1 6 = Int32.ofNat x6n) (h8 : w.1 8 = Int32.ofNat c8) (h9 : w.1 9 = Int32.ofNat w.2.2.length) (hB : x6n + w.2.2.length < 399990) (hB8 : c8 < 400000) (hT : uTold X o w) (hap : aPr X o) (hk : sOk (xK X o) s) (hx : x6n + w.2.2.length ≤ kA (xK X o) s + ((xK X o).2.1 s).length) : AT 214 130 [some (.ref (bB o)), some (.int (Int32.ofNat s)), some (.int (w.1 2)), some (.int (w.1 4)), some (.int (w.1 6)), some (.int (w.1 7)), some (.int x6), some (.int (Int32.ofNat w.2.2.length)), x8, x9] [] X (fun o' Z => o' = .inl none ∧ rRel o m 0 0 X Z (kEntT (xK X o) s w)) := by
  refine AT.iload M_214 rfl rfl ?_
  refine AT.aload_n M_214 rfl rfl ?_
  refine AT.r10_24 M_214 rfl h2 h4 ?_
  refine AT.bipush M_214 rfl (v := 7) (by decide) ?_
  refine AT.ra_told M_214 rfl (j := 7) rfl h2 h4 (by omega) ?_
  rw [(hT 7 (by omega)).trans ((mRow5 h5).2.1.trans h9), h6]
  refine AT.iadd M_214 rfl rfl ?_
  rw [← Int32.ofNat_add]
  refine AT.ist7 M_214 rfl rfl ?_
  refine AT.aload_n M_214 rfl rfl ?_
  refine AT.r10_8 M_214 rfl h2 h4 ?_
  refine AT.iload_n M_214 rfl rfl ?_
  refine AT.aload_n M_214 rfl rfl ?_
  refine AT.r10_8 M_214 rfl h2 h4 ?_
  refine AT.iload_n M_214 rfl rfl ?_
  refine AT.ra_15 M_214 rfl rfl h2 h4 (by assumption) ?_
  refine AT.aload_n M_214 rfl rfl ?_
  refine AT.r10_24 M_214 rfl h2 h4 ?_
  refine AT.bipush M_214 rfl (v := 6) (by decide) ?_
  refine AT.ra_told M_214 rfl (j := 6) rfl h2 h4 (by omega) ?_
  rw [(hT 6 (by omega)).trans ((mRow5 h5).1.trans h8), hk.2.1]
  refine AT.iload M_214 rfl rfl ?_
  refine AT.min M_214 rfl rfl (Nat.le_of_ble_eq_true rfl) rfl ?_
  refine AT.max M_214 rfl rfl (Nat.le_of_ble_eq_true rfl) rfl ?_
  rw [show (if Int32.ofNat (x6n + w.2.2.length) < Int32.ofNat c8 then Int32.ofNat (x6n + w.2.2.length) else Int32.ofNat c8) = Int32.ofNat (min c8 (x6n + w.2.2.length)) from i32_mm (by omega) (by omega), i32_mx (by have := hk.2.2.2.1; have := hk.2.2.2.2.1; omega) (by omega)]
  refine AT.rs_15 M_214 rfl rfl h2 h4 (by assumption) ?_
  refine AT.aload_n M_214 rfl rfl ?_
  refine AT.iload_n M_214 rfl rfl ?_
  refine AT.cv2w M_214 rfl M_208 rfl (Nat.le_of_ble_eq_true rfl) (xKd.of (sh_st h2 h4)) (by decide) (c_208k (m := m) h2 h4 hs hk hap (by have := hk.2.2.2.1; omega)) (fun Y hc154 => ?_) (Nat.le_of_ble_eq_true rfl) rfl
  have r1 := hc154
  refine AT.aload_n M_214 rfl rfl ?_
  refine AT.bipush M_214 rfl (v := 6) (by decide) ?_
  refine AT.iload_n M_214 rfl rfl ?_
  refine AT.iload_n M_214 rfl rfl ?_
  refine AT.aload_n M_214 rfl rfl ?_
  refine AT.r10_3 M_214 rfl h2 h4 ?_
  refine AT.iload_n M_214 rfl rfl ?_
  refine AT.ra_5 M_214 rfl rfl h2 h4 (by assumption) ?_
  rw [show (xK Y o).1 5 s 0 = (xK X o).1 5 s 0 from by rw [r1.k]; exact kComm_1 (by omega) (by omega) (by omega)]
  refine AT.iload M_214 rfl rfl ?_
  refine AT.iconst M_214 rfl (v := 1) (by decide) ?_
  refine AT.cv7u M_214 rfl M_200 rfl (Nat.le_of_ble_eq_true rfl) (xKd.of (sh_st h2 h4)) (by decide) (c_200 (n := m) h2 h4 (fun k hk => by rw [mRep_row6 w ((xK X o).1 5 s 0) 1 (Int32.ofNat (x6n + w.2.2.length)) hk, w3])) (fun YY hc165 => ?_) (Nat.le_of_ble_eq_true rfl) rfl
  obtain ⟨r2, k2⟩ := hc165
  have r3 := r2.sm k2 r1.2.2 (fun i hi => kSend_1 _ _ (by omega))
  rw [r1.k] at r3
  refine AT.popi M_214 rfl ?_
  refine AT.vret M_214 rfl rfl ?_
  rw [show kEntT (xK X o) s w = kSend (kComm (xK X o) s (kC (xK X o) s) ((min c8 (x6n + w.2.2.length)) - kC (xK X o) s)) (mRep w 6 ((xK X o).1 5 s 0) 1 (Int32.ofNat (x6n + w.2.2.length))) from by
    unfold kEntT kCommTo
    rw [h6, h8, h9, ← Int32.ofNat_add, i32_mm (by omega) (by omega), (i32_ix (by omega)).1]]
  exact ⟨rfl, r1.tr r3⟩
theorem c_214 {X : XS} {o s : Nat} (h2 : 2 ≤ o) (h4 : o < 4) (hs : s < 7) {m x6n c8 : Nat} {w : MSG} (w3 : w.1 3 = Int32.ofNat s) (h5 : w.1 1 = 5) (hme : mEok w x6n c8) (hb4 : w.2.2.length ≤ 4) (hm : x6n + w.2.2.length ≤ m) (hM : m ≤ 399980) (hT : uTold X o w) (hap : aPr X o) (hk : sOk (xK X o) s) (hR : rOkR X o) (hln : ((xK X o).2.1 s).length ≤ m) (hA : (xK X o).1 5 s 0 ≤ w.1 4 → (w.1 6 ≤ (kObey (xK X o) s (w.1 2)).1 18 s 0 ∨ sHas (kObey (xK X o) s (w.1 2)) s (w.1 6) (w.1 7) = true) → kAccOk s (kObey (xK X o) s (w.1 2)) (Int32.ofNat (x6n + 1)) w.2.2) : RU 214 [some (.ref (bB o)), some (.int (Int32.ofNat s)), some (.int (w.1 2)), some (.int (w.1 4)), some (.int (w.1 6)), some (.int (w.1 7)), none, none, none, none] X none (fun Z => rRel o m 0 0 X Z (kOnEnt (xK X o) s w)) := by
  obtain ⟨h6, h8, h9, hB, hB8, hE⟩ := hme
  by_cases hold : w.1 4 < (xK X o).1 5 s 0
  · skip
    refine AT.aload_n M_214 rfl rfl ?_
    refine AT.iload_n M_214 rfl rfl ?_
    refine AT.iload_n M_214 rfl rfl ?_
    refine AT.iload_n M_214 rfl rfl ?_
    refine AT.cv4u M_214 rfl M_213 rfl (Nat.le_of_ble_eq_true rfl) (xKd.of (sh_st h2 h4)) (by decide) (c_213a (m := m) h2 h4 hs w3 hold) (fun Y hc4 => ?_) (Nat.le_of_ble_eq_true rfl) rfl
    obtain ⟨r1, k1⟩ := hc4
    refine AT.if_eq M_214 rfl (fun b5 => absurd b5 (by decide)) (fun b5 => ?_)
    refine AT.vret M_214 rfl rfl ?_
    rw [show kOnEnt (xK X o) s w = _ from if_pos hold]
    exact ⟨rfl, r1.sm k1 hap (fun i hi => kSend_1 _ _ (by omega))⟩
  · skip
    refine AT.aload_n M_214 rfl rfl ?_
    refine AT.iload_n M_214 rfl rfl ?_
    refine AT.iload_n M_214 rfl rfl ?_
    refine AT.iload_n M_214 rfl rfl ?_
    refine AT.cv4i M_214 rfl M_213 rfl (Nat.le_of_ble_eq_true rfl) (xKd.of (sh_st h2 h4)) (by decide) (c_213b h2 h4 hs hold) ?_ (Nat.le_of_ble_eq_true rfl) rfl
    have q1 : rRel o m 0 0 X (xSetK X o (kObey (xK X o) s (w.1 2))) (kObey (xK X o) s (w.1 2)) := rRel.set hap (fun i hi => kObey_1 (by omega))
    have ok1 : sOk (xK (xSetK X o (kObey (xK X o) s (w.1 2))) o) s := by rw [xK_same]; exact (sSame.obey _ _ _ _).okS hk (kObey_1 (by omega))
    have hw1 := ok1.wf
    have e5 : (xK (xSetK X o (kObey (xK X o) s (w.1 2))) o).1 5 s 0 = (xK X o).1 5 s 0 := by rw [xK_same]; exact kObey_1 (by omega)
    have eKE : kOnEnt (xK X o) s w = kOnEnt2 (kObey (xK X o) s (w.1 2)) s w := if_neg hold
    refine AT.if_eq M_214 rfl (fun b5 => ?_) (fun b5 => absurd rfl b5)
    refine AT.iload M_214 rfl rfl ?_
    refine AT.aload_n M_214 rfl rfl ?_
    refine AT.r10_13 M_214 rfl h2 h4 ?_
    refine AT.iload_n M_214 rfl rfl ?_
    refine AT.ra_18_0 M_214 rfl rfl h2 h4 (by assumption) ?_
    refine AT.icmp_le M_214 rfl (fun b12 => ?_) (fun b12 => ?_)
    · refine AT.iconst M_214 rfl (v := 1) (by decide) ?_
      refine AT.goto M_214 rfl ?_
      refine AT.ist6 M_214 rfl rfl ?_
      refine AT.iload M_214 rfl rfl ?_
      refine AT.if_ne M_214 rfl (fun b30 => ?_) (fun b30 => absurd (by decide) b30)
      refine AT.iconst M_214 rfl (v := 0) (by decide) ?_
      refine AT.ist7 M_214 rfl rfl ?_
      have hc : w.1 6 ≤ (xK (xSetK X o (kObey (xK X o) s (w.1 2))) o).1 18 s 0 ∨ sHas (xK (xSetK X o (kObey (xK X o) s (w.1 2))) o) s (w.1 6) (w.1 7) = true := Or.inl b12
      have hc2 : w.1 6 ≤ (kObey (xK X o) s (w.1 2)).1 18 s 0 ∨ sHas (kObey (xK X o) s (w.1 2)) s (w.1 6) (w.1 7) = true := by rw [xK_same] at hc; exact hc
      have e61 : w.1 6 + 1 = Int32.ofNat (x6n + 1 + 0) := by rw [h6]; exact i32_suc1 _
      have hA0 : kAccOk s (xK (xSetK X o (kObey (xK X o) s (w.1 2))) o) (Int32.ofNat (x6n + 1 + 0)) w.2.2 := by rw [xK_same]; exact hA (Int32.not_lt.mp hold) hc2
      have hx0 : x6n + 0 ≤ kA (xK (xSetK X o (kObey (xK X o) s (w.1 2))) o) s + ((xK (xSetK X o (kObey (xK X o) s (w.1 2))) o).2.1 s).length := by
        have hl := ok1.2.2.2.2.1
        rcases hc with z | z
        · rw [h6, ok1.1, i32_le (by omega) (by omega)] at z; omega
        · unfold sHas at z
          cases hE : sEnt (xK (xSetK X o (kObey (xK X o) s (w.1 2))) o) s (w.1 6) with
          | none => rw [hE] at z; cases z
          | some e' =>
            have := (sEnt_some hE hw1).2.1
            rw [sLast_of ok1.1, h6, i32_le (by omega) (by omega)] at this
            omega
      have hlm : ((xK (xSetK X o (kObey (xK X o) s (w.1 2))) o).2.1 s).length ≤ m := by rw [xK_same]; exact hln
      refine l_214 (X := (xSetK X o (kObey (xK X o) s (w.1 2)))) (m := m) h2 h4 hs h5 h6 h9 hb4 hm hM hE w.2.2 0 _ _ _ rfl (Nat.zero_le _) ok1 hT hR hA0 hx0 hlm (fun Z y8 y9 z1 z2 => ?_)
      have hq := kAccs_ok (m := m) (x6n := x6n) w.2.2 0 (xK (xSetK X o (kObey (xK X o) s (w.1 2))) o) ok1 hE (by omega) hM hA0 hx0 hlm
      have q2 := z1.sm z2 q1.2.2 (fun i hi => by rw [hq.2.2.1])
      rw [← z1.k] at hq
      refine AT.mono (t_214 (X := Z) (m := m) h2 h4 hs w3 h5 h6 h8 h9 (by omega) hB8 (fun j hj => uTold.at (X := (xSetK X o (kObey (xK X o) s (w.1 2)))) hT z2 hj) q2.2.2 hq.1 hq.2.1) ?_
      rintro o' ZZ ⟨y1, y2⟩
      refine ⟨y1, ?_⟩
      rw [z1.k, xK_same] at y2
      rw [eKE, show kOnEnt2 (kObey (xK X o) s (w.1 2)) s w = kEntT (kAccs s (kObey (xK X o) s (w.1 2)) (w.1 6 + 1) w.2.2) s w from if_pos hc2, e61]
      rw [xK_same] at q2
      exact (q1.tr q2).tr y2
    · refine AT.aload_n M_214 rfl rfl ?_
      refine AT.iload_n M_214 rfl rfl ?_
      refine AT.iload M_214 rfl rfl ?_
      refine AT.cv3i M_214 rfl M_188 rfl (Nat.le_of_ble_eq_true rfl) (xKd.of (sh_st h2 h4)) (by decide) (c_188 (X := (xSetK X o (kObey (xK X o) s (w.1 2)))) h2 h4 hs) ?_ (Nat.le_of_ble_eq_true rfl) rfl
      refine AT.if_eq M_214 rfl (fun b17 => ?_) (fun b17 => ?_)
      · refine AT.iconst M_214 rfl (v := 0) (by decide) ?_
        refine AT.ist6 M_214 rfl rfl ?_
        refine AT.iload M_214 rfl rfl ?_
        refine AT.if_ne M_214 rfl (fun b30 => absurd b30 (by decide)) (fun b30 => ?_)
        have hS : sHas (xK (xSetK X o (kObey (xK X o) s (w.1 2))) o) s (w.1 6) (w.1 7) = false := by
          unfold sHas
          cases hE : sEnt (xK (xSetK X o (kObey (xK X o) s (w.1 2))) o) s (w.1 6) with
          | none => rfl
          | some e => exact absurd ((sHasE_some hw1).mpr ⟨e, hE⟩) (fun z => by rw [z] at b17; exact absurd b17 (by decide))
        have hnl : ¬ w.1 6 ≤ sLast (xK (xSetK X o (kObey (xK X o) s (w.1 2))) o) s := fun z => by
          have h9 : sHasE (xK (xSetK X o (kObey (xK X o) s (w.1 2))) o) s (w.1 6) = true := by unfold sHasE; simp [b12, z]
          rw [h9] at b17; exact absurd b17 (by decide)
        have hT9 : sTry (xK (xSetK X o (kObey (xK X o) s (w.1 2))) o) s (w.1 6) = sLast (xK (xSetK X o (kObey (xK X o) s (w.1 2))) o) s := if_neg hnl
        refine AT.aload_n M_214 rfl rfl ?_
        refine AT.bipush M_214 rfl (v := 6) (by decide) ?_
        refine AT.iload_n M_214 rfl rfl ?_
        refine AT.iload_n M_214 rfl rfl ?_
        refine AT.aload_n M_214 rfl rfl ?_
        refine AT.r10_3 M_214 rfl h2 h4 ?_
        refine AT.iload_n M_214 rfl rfl ?_
        refine AT.ra_5 M_214 rfl rfl h2 h4 (by assumption) ?_
        rw [e5]
        refine AT.aload_n M_214 rfl rfl ?_
        refine AT.iload_n M_214 rfl rfl ?_
        refine AT.cv2i8 M_214 rfl M_187 rfl (show (5 : Nat) ≤ 8 by omega) (xKd.of (sh_st h2 h4)) (by decide) (c_187 (X := (xSetK X o (kObey (xK X o) s (w.1 2)))) h2 h4 hs) ?_ (Nat.le_of_ble_eq_true rfl) rfl
        refine AT.iload M_214 rfl rfl ?_
        refine AT.icmp_ge M_214 rfl (fun b43 => absurd b43 hnl) (fun b43 => ?_)
        refine AT.aload_n M_214 rfl rfl ?_
        refine AT.iload_n M_214 rfl rfl ?_
        refine AT.cv2i8 M_214 rfl M_187 rfl (show (5 : Nat) ≤ 8 by omega) (xKd.of (sh_st h2 h4)) (by decide) (c_187 (X := (xSetK X o (kObey (xK X o) s (w.1 2)))) h2 h4 hs) ?_ (Nat.le_of_ble_eq_true rfl) rfl
        refine AT.goto M_214 rfl ?_
        refine AT.iconst M_214 rfl (v := 0) (by decide) ?_
        refine AT.cv7u M_214 rfl M_200 rfl (Nat.le_of_ble_eq_true rfl) (xKd.of (sh_st h2 h4)) (by decide) (c_200 (n := m) (X := (xSetK X o (kObey (xK X o) s (w.1 2)))) h2 h4 (fun k hk => by rw [mRep_row6 w ((xK X o).1 5 s 0) 0 _ hk, w3])) (fun Y hc58 => ?_) (Nat.le_of_ble_eq_true rfl) rfl
        obtain ⟨r2, k2⟩ := hc58
        rw [xK_same] at r2
        have r3 := r2.sm k2 q1.2.2 (fun i hi => by rw [xK_same]; exact kSend_1 _ _ (by omega))
        refine AT.popi M_214 rfl ?_
        refine AT.vret M_214 rfl rfl ?_
        rw [eKE, show kOnEnt2 (kObey (xK X o) s (w.1 2)) s w = kSend (kObey (xK X o) s (w.1 2)) (mRep w 6 ((xK X o).1 5 s 0) 0 (sTry (kObey (xK X o) s (w.1 2)) s (w.1 6))) from (if_neg (fun z => by
          rcases z with z | z
          · exact b12 (by rw [xK_same]; exact z)
          · rw [← xK_same X o (kObey (xK X o) s (w.1 2)), hS] at z; cases z)).trans (by rw [show (kObey (xK X o) s (w.1 2)).1 5 s 0 = (xK X o).1 5 s 0 from kObey_1 (by omega)])]
        rw [xK_same] at hT9
        rw [hT9]
        exact ⟨rfl, q1.tr r3⟩
      · obtain ⟨e, hx⟩ := (sHasE_some hw1).mp (bI_ne0.mp b17)
        refine AT.aload_n M_214 rfl rfl ?_
        refine AT.iload_n M_214 rfl rfl ?_
        refine AT.iload M_214 rfl rfl ?_
        refine AT.iconst M_214 rfl (v := 0) (by decide) ?_
        refine AT.cv4i M_214 rfl M_190 rfl (Nat.le_of_ble_eq_true rfl) (xKd.of (sh_st h2 h4)) (by decide) (c_190 (X := (xSetK X o (kObey (xK X o) s (w.1 2)))) h2 h4 hs hx hw1 (c := 0) (by omega) rfl) ?_ (Nat.le_of_ble_eq_true rfl) rfl
        refine AT.iload M_214 rfl rfl ?_
        refine AT.icmp_ne M_214 rfl (fun b24 => ?_) (fun b24 => ?_)
        · refine AT.iconst M_214 rfl (v := 0) (by decide) ?_
          refine AT.ist6 M_214 rfl rfl ?_
          refine AT.iload M_214 rfl rfl ?_
          refine AT.if_ne M_214 rfl (fun b30 => absurd b30 (by decide)) (fun b30 => ?_)
          have hS : sHas (xK (xSetK X o (kObey (xK X o) s (w.1 2))) o) s (w.1 6) (w.1 7) = false := by
            unfold sHas
            rw [hx]
            exact decide_eq_false b24
          have hyl : w.1 6 ≤ sLast (xK (xSetK X o (kObey (xK X o) s (w.1 2))) o) s := (sEnt_some hx hw1).2.1
          obtain ⟨a, j, ha, hb, hx6, he⟩ := sEnt_ix hx hw1
          have hj := (List.getElem?_eq_some_iff.mp he).1
          have hT9 : sTry (xK (xSetK X o (kObey (xK X o) s (w.1 2))) o) s (w.1 6) = kMax ((xK (xSetK X o (kObey (xK X o) s (w.1 2))) o).1 15 s 0) (Int32.ofNat (a + sRun ((xK (xSetK X o (kObey (xK X o) s (w.1 2))) o).2.1 s) (e 0) j)) := by
            rw [kMax_com]
            unfold sTry
            have eT : sTix (xK (xSetK X o (kObey (xK X o) s (w.1 2))) o) s (w.1 6) = e 0 := by
              unfold sTix
              rw [if_neg (fun z => by rw [hx6, ha] at z; have := i32_nat (by omega) (by omega) z; omega), hx]
            have eR : sRun ((xK (xSetK X o (kObey (xK X o) s (w.1 2))) o).2.1 s) (e 0) (j + 1) = sRun ((xK (xSetK X o (kObey (xK X o) s (w.1 2))) o).2.1 s) (e 0) j := if_pos (by rw [he]; exact decide_eq_true rfl)
            have eN : (w.1 6 - (xK (xSetK X o (kObey (xK X o) s (w.1 2))) o).1 18 s 0).toNatClampNeg = j + 1 := by
              rw [hx6, ha, i32_sub0 (by omega), (i32_ix (by omega)).1]; omega
            rw [if_pos hyl, if_neg b12, eT, eN, eR, ha, ← Int32.ofNat_add]
          refine AT.aload_n M_214 rfl rfl ?_
          refine AT.bipush M_214 rfl (v := 6) (by decide) ?_
          refine AT.iload_n M_214 rfl rfl ?_
          refine AT.iload_n M_214 rfl rfl ?_
          refine AT.aload_n M_214 rfl rfl ?_
          refine AT.r10_3 M_214 rfl h2 h4 ?_
          refine AT.iload_n M_214 rfl rfl ?_
          refine AT.ra_5 M_214 rfl rfl h2 h4 (by assumption) ?_
          rw [e5]
          refine AT.aload_n M_214 rfl rfl ?_
          refine AT.iload_n M_214 rfl rfl ?_
          refine AT.cv2i8 M_214 rfl M_187 rfl (show (5 : Nat) ≤ 8 by omega) (xKd.of (sh_st h2 h4)) (by decide) (c_187 (X := (xSetK X o (kObey (xK X o) s (w.1 2)))) h2 h4 hs) ?_ (Nat.le_of_ble_eq_true rfl) rfl
          refine AT.iload M_214 rfl rfl ?_
          refine AT.icmp_ge M_214 rfl (fun b43 => ?_) (fun b43 => absurd hyl b43)
          refine AT.aload_n M_214 rfl rfl ?_
          refine AT.r10_8 M_214 rfl h2 h4 ?_
          refine AT.iload_n M_214 rfl rfl ?_
          refine AT.ra_15 M_214 rfl rfl h2 h4 (by assumption) ?_
          refine AT.aload_n M_214 rfl rfl ?_
          refine AT.iload_n M_214 rfl rfl ?_
          refine AT.iload M_214 rfl rfl ?_
          rw [hx6]
          refine AT.cv3i8 M_214 rfl M_215 rfl (show (6 : Nat) ≤ 8 by omega) (xKd.of (sh_st h2 h4)) (by decide) (c_215e (X := (xSetK X o (kObey (xK X o) s (w.1 2)))) h2 h4 hs ha hb he) ?_ (Nat.le_of_ble_eq_true rfl) rfl
          refine AT.max8 M_214 rfl rfl (show (5 : Nat) ≤ 8 by omega) rfl ?_
          refine AT.iconst M_214 rfl (v := 0) (by decide) ?_
          refine AT.cv7u M_214 rfl M_200 rfl (Nat.le_of_ble_eq_true rfl) (xKd.of (sh_st h2 h4)) (by decide) (c_200 (n := m) (X := (xSetK X o (kObey (xK X o) s (w.1 2)))) h2 h4 (fun k hk => by rw [mRep_row6 w ((xK X o).1 5 s 0) 0 _ hk, w3])) (fun Y hc58 => ?_) (Nat.le_of_ble_eq_true rfl) rfl
          obtain ⟨r2, k2⟩ := hc58
          rw [xK_same] at r2
          have r3 := r2.sm k2 q1.2.2 (fun i hi => by rw [xK_same]; exact kSend_1 _ _ (by omega))
          refine AT.popi M_214 rfl ?_
          refine AT.vret M_214 rfl rfl ?_
          rw [eKE, show kOnEnt2 (kObey (xK X o) s (w.1 2)) s w = kSend (kObey (xK X o) s (w.1 2)) (mRep w 6 ((xK X o).1 5 s 0) 0 (sTry (kObey (xK X o) s (w.1 2)) s (w.1 6))) from (if_neg (fun z => by
            rcases z with z | z
            · exact b12 (by rw [xK_same]; exact z)
            · rw [← xK_same X o (kObey (xK X o) s (w.1 2)), hS] at z; cases z)).trans (by rw [show (kObey (xK X o) s (w.1 2)).1 5 s 0 = (xK X o).1 5 s 0 from kObey_1 (by omega)])]
          rw [xK_same] at hT9
          rw [hT9]
          exact ⟨rfl, q1.tr r3⟩
        · refine AT.iconst M_214 rfl (v := 1) (by decide) ?_
          refine AT.goto M_214 rfl ?_
          refine AT.ist6 M_214 rfl rfl ?_
          refine AT.iload M_214 rfl rfl ?_
          refine AT.if_ne M_214 rfl (fun b30 => ?_) (fun b30 => absurd (by decide) b30)
          refine AT.iconst M_214 rfl (v := 0) (by decide) ?_
          refine AT.ist7 M_214 rfl rfl ?_
          have hc : w.1 6 ≤ (xK (xSetK X o (kObey (xK X o) s (w.1 2))) o).1 18 s 0 ∨ sHas (xK (xSetK X o (kObey (xK X o) s (w.1 2))) o) s (w.1 6) (w.1 7) = true := Or.inr (by unfold sHas; rw [hx]; exact decide_eq_true (Classical.not_not.mp b24))
          have hc2 : w.1 6 ≤ (kObey (xK X o) s (w.1 2)).1 18 s 0 ∨ sHas (kObey (xK X o) s (w.1 2)) s (w.1 6) (w.1 7) = true := by rw [xK_same] at hc; exact hc
          have e61 : w.1 6 + 1 = Int32.ofNat (x6n + 1 + 0) := by rw [h6]; exact i32_suc1 _
          have hA0 : kAccOk s (xK (xSetK X o (kObey (xK X o) s (w.1 2))) o) (Int32.ofNat (x6n + 1 + 0)) w.2.2 := by rw [xK_same]; exact hA (Int32.not_lt.mp hold) hc2
          have hx0 : x6n + 0 ≤ kA (xK (xSetK X o (kObey (xK X o) s (w.1 2))) o) s + ((xK (xSetK X o (kObey (xK X o) s (w.1 2))) o).2.1 s).length := by
            have hl := ok1.2.2.2.2.1
            rcases hc with z | z
            · rw [h6, ok1.1, i32_le (by omega) (by omega)] at z; omega
            · unfold sHas at z
              cases hE : sEnt (xK (xSetK X o (kObey (xK X o) s (w.1 2))) o) s (w.1 6) with
              | none => rw [hE] at z; cases z
              | some e' =>
                have := (sEnt_some hE hw1).2.1
                rw [sLast_of ok1.1, h6, i32_le (by omega) (by omega)] at this
                omega
          have hlm : ((xK (xSetK X o (kObey (xK X o) s (w.1 2))) o).2.1 s).length ≤ m := by rw [xK_same]; exact hln
          refine l_214 (X := (xSetK X o (kObey (xK X o) s (w.1 2)))) (m := m) h2 h4 hs h5 h6 h9 hb4 hm hM hE w.2.2 0 _ _ _ rfl (Nat.zero_le _) ok1 hT hR hA0 hx0 hlm (fun Z y8 y9 z1 z2 => ?_)
          have hq := kAccs_ok (m := m) (x6n := x6n) w.2.2 0 (xK (xSetK X o (kObey (xK X o) s (w.1 2))) o) ok1 hE (by omega) hM hA0 hx0 hlm
          have q2 := z1.sm z2 q1.2.2 (fun i hi => by rw [hq.2.2.1])
          rw [← z1.k] at hq
          refine AT.mono (t_214 (X := Z) (m := m) h2 h4 hs w3 h5 h6 h8 h9 (by omega) hB8 (fun j hj => uTold.at (X := (xSetK X o (kObey (xK X o) s (w.1 2)))) hT z2 hj) q2.2.2 hq.1 hq.2.1) ?_
          rintro o' ZZ ⟨y1, y2⟩
          refine ⟨y1, ?_⟩
          rw [z1.k, xK_same] at y2
          rw [eKE, show kOnEnt2 (kObey (xK X o) s (w.1 2)) s w = kEntT (kAccs s (kObey (xK X o) s (w.1 2)) (w.1 6 + 1) w.2.2) s w from if_pos hc2, e61]
          rw [xK_same] at q2
          exact (q1.tr q2).tr y2
