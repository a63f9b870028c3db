/-! ===== THE TWIN: members change ===== -/
theorem sFlip_bit : ∀ n, n < 128 → ∀ j, j < 7 → sBit (sFlip (Int32.ofNat n) j) j = !sBit (Int32.ofNat n) j := by
  unfold sFlip sBit
  decide +kernel
theorem sCnt_one : ∀ n, n < 128 → ∀ j, j < 7 → sBit (Int32.ofNat n) j = true → (sCnt (Int32.ofNat n) ≤ 1 ↔ sFlip (Int32.ofNat n) j = 0) := by
  unfold sFlip sBit sCnt
  decide +kernel
theorem kApp_mem (K : KK) (s : Nat) (e : ENT) : sMem (kApp K s e) s = if e 1 = 4 then e 6 else sMem K s := by
  unfold sMem kApp
  rw [kLog_l, if_pos rfl, sMemL_app]
  rfl
theorem c_253 {X : XS} {s : Nat} (hs : s < 7) (hk : sOk (xK X 2) s) : RT 253 [some (.ref 388), some (.int (Int32.ofNat s))] X (some (.int (bI (sMayC (xK X 2) s)))) X := by
  have hin : (xK X 2).1 15 s 0 = (xK X 2).1 18 s 0 ∨ ∃ e, sEnt (xK X 2) s ((xK X 2).1 15 s 0) = some e := by
    obtain ⟨g1, g2, g3, g4, g5, g6, g7⟩ := id hk
    by_cases e : kC (xK X 2) s = kA (xK X 2) s
    · exact Or.inl (by rw [g1, g2, e])
    · refine Or.inr ((sHasE_some hk.wf).mp ?_)
      unfold sHasE
      rw [decide_eq_true (show ¬ (xK X 2).1 15 s 0 ≤ (xK X 2).1 18 s 0 from by rw [g1, g2, i32_le (by omega) (by omega)]; omega), show sLast (xK X 2) s = Int32.ofNat (kA (xK X 2) s + ((xK X 2).2.1 s).length) from sLast_of g1, decide_eq_true (by rw [g2]; exact (i32_le (by omega) (by omega)).mpr g4)]; rfl
  refine AT.aload_n M_253 rfl rfl ?_
  refine AT.iload_n M_253 rfl rfl ?_
  refine AT.cv2i M_253 rfl M_241 rfl (Nat.le_of_ble_eq_true rfl) (xKd.of sh_mod) (by decide) (c_241 hs) ?_ (Nat.le_of_ble_eq_true rfl) rfl
  refine AT.if_eq M_253 rfl (fun b3 => ?_) (fun b3 => ?_)
  · refine AT.iconst M_253 rfl (v := 0) (by decide) ?_
    refine AT.zret M_253 rfl rfl (by first | exact Or.inl rfl | exact Or.inr rfl | assumption) ?_
    rw [show sMayC (xK X 2) s = false from by unfold sMayC; rw [bI_eq0.mp b3]; rfl]
    exact ⟨rfl, rfl⟩
  · refine AT.aload_n M_253 rfl rfl ?_
    refine AT.r11_0 M_253 rfl ?_
    refine AT.iload_n M_253 rfl rfl ?_
    refine AT.aload_n M_253 rfl rfl ?_
    refine AT.r11_0 M_253 rfl ?_
    refine AT.r10_8 M_253 rfl (show 2 ≤ 2 by omega) (show 2 < 4 by omega) ?_
    refine AT.iload_n M_253 rfl rfl ?_
    refine AT.ra_15 M_253 rfl rfl (show 2 ≤ 2 by omega) (show 2 < 4 by omega) (by assumption) ?_
    refine AT.cv3i M_253 rfl M_191 rfl (Nat.le_of_ble_eq_true rfl) (xKd.of (sh_st (o := 2) (by omega) (by omega))) (by decide) (c_191 (o := 2) (by omega) (by omega) hs hk.wf hin) ?_ (Nat.le_of_ble_eq_true rfl) rfl
    refine AT.aload_n M_253 rfl rfl ?_
    refine AT.r11_0 M_253 rfl ?_
    refine AT.r10_3 M_253 rfl (show 2 ≤ 2 by omega) (show 2 < 4 by omega) ?_
    refine AT.iload_n M_253 rfl rfl ?_
    refine AT.ra_5 M_253 rfl rfl (show 2 ≤ 2 by omega) (show 2 < 4 by omega) (by assumption) ?_
    refine AT.icmp_eq M_253 rfl (fun b18 => ?_) (fun b18 => ?_)
    · refine AT.aload_n M_253 rfl rfl ?_
      refine AT.r11_0 M_253 rfl ?_
      refine AT.iload_n M_253 rfl rfl ?_
      refine AT.aload_n M_253 rfl rfl ?_
      refine AT.r11_0 M_253 rfl ?_
      refine AT.iload_n M_253 rfl rfl ?_
      refine AT.cv2i M_253 rfl M_187 rfl (Nat.le_of_ble_eq_true rfl) (xKd.of (sh_st (o := 2) (by omega) (by omega))) (by decide) (c_187 (o := 2) (by omega) (by omega) hs) ?_ (Nat.le_of_ble_eq_true rfl) rfl
      refine AT.cv3i M_253 rfl M_193 rfl (Nat.le_of_ble_eq_true rfl) (xKd.of (sh_st (o := 2) (by omega) (by omega))) (by decide) (c_193w (o := 2) (by omega) (by omega) hs hk.wf) ?_ (Nat.le_of_ble_eq_true rfl) rfl
      refine AT.aload_n M_253 rfl rfl ?_
      refine AT.r11_0 M_253 rfl ?_
      refine AT.r10_8 M_253 rfl (show 2 ≤ 2 by omega) (show 2 < 4 by omega) ?_
      refine AT.iload_n M_253 rfl rfl ?_
      refine AT.ra_15 M_253 rfl rfl (show 2 ≤ 2 by omega) (show 2 < 4 by omega) (by assumption) ?_
      refine AT.icmp_gt M_253 rfl (fun b34 => ?_) (fun b34 => ?_)
      · refine AT.iconst M_253 rfl (v := 0) (by decide) ?_
        refine AT.zret M_253 rfl rfl (by first | exact Or.inl rfl | exact Or.inr rfl | assumption) ?_
        rw [show sMayC (xK X 2) s = false from by unfold sMayC; rw [bI_ne0.mp b3, decide_eq_true b18, decide_eq_false (fun z => z b34)]; rfl]
        exact ⟨rfl, rfl⟩
      · refine AT.aload_n M_253 rfl rfl ?_
        refine AT.r11_0 M_253 rfl ?_
        refine AT.r10_18 M_253 rfl (show 2 ≤ 2 by omega) (show 2 < 4 by omega) ?_
        refine AT.iload_n M_253 rfl rfl ?_
        refine AT.ra_siz M_253 rfl rfl (show 2 ≤ 2 by omega) (show 2 < 4 by omega) (by assumption) ?_
        refine AT.bipush M_253 rfl (v := 40) (by decide) ?_
        refine AT.icmp_ge M_253 rfl (fun b41 => ?_) (fun b41 => ?_)
        · refine AT.iconst M_253 rfl (v := 0) (by decide) ?_
          refine AT.zret M_253 rfl rfl (by first | exact Or.inl rfl | exact Or.inr rfl | assumption) ?_
          rw [show sMayC (xK X 2) s = false from by unfold sMayC; rw [bI_ne0.mp b3, decide_eq_true b18, decide_eq_true b34, decide_eq_false (fun z => z b41)]; rfl]
          exact ⟨rfl, rfl⟩
        · refine AT.iconst M_253 rfl (v := 1) (by decide) ?_
          refine AT.goto M_253 rfl ?_
          refine AT.zret M_253 rfl rfl (by first | exact Or.inl rfl | exact Or.inr rfl | assumption) ?_
          rw [show sMayC (xK X 2) s = true from by unfold sMayC; rw [bI_ne0.mp b3, decide_eq_true b18, decide_eq_true b34, decide_eq_true b41]; rfl]
          exact ⟨rfl, rfl⟩
    · refine AT.iconst M_253 rfl (v := 0) (by decide) ?_
      refine AT.zret M_253 rfl rfl (by first | exact Or.inl rfl | exact Or.inr rfl | assumption) ?_
      rw [show sMayC (xK X 2) s = false from by unfold sMayC; rw [bI_ne0.mp b3, decide_eq_false b18]; rfl]
      exact ⟨rfl, rfl⟩
theorem c_254j {X : XS} {s j : Nat} (hs : s < 7) (hj : j < 7) {m : Nat} (hap : aPr X 2) (hR : rOkR X 2) (hk : sOk (xK X 2) s) (hB : kA (xK X 2) s + ((xK X 2).2.1 s).length + 1 < 400000) (hn : ((xK X 2).2.1 s).length + 1 ≤ m) (hb : sBit (sMem (xK X 2) s) j = false) : RU 254 [some (.ref 388), some (.int (Int32.ofNat s)), some (.int (Int32.ofNat j)), none] X (some (.int (sLast (kApp (xK X 2) s (eNil ((xK X 2).1 5 s 0) 4 (sFlip (sMem (xK X 2) s) j))) s))) (fun Z => rRel0 2 m 1 7 X Z (kJoin (xK X 2) s j (eNil ((xK X 2).1 5 s 0) 4 (sFlip (sMem (xK X 2) s) j))) ∧ aPr Z 2) := by
  have hfl : ∃ n : Nat, n < 128 ∧ sFlip (sMem (xK X 2) s) j = Int32.ofNat n := by
    obtain ⟨n, n1, n2⟩ := hk.m128
    rw [n2]
    exact (sFlip_all n n1 j hj).1
  refine AT.aload_n M_254 rfl rfl ?_
  refine AT.r11_0 M_254 rfl ?_
  refine AT.iload_n M_254 rfl rfl ?_
  refine AT.iconst M_254 rfl (v := 4) (by decide) ?_
  refine AT.aload_n M_254 rfl rfl ?_
  refine AT.r11_0 M_254 rfl ?_
  refine AT.iload_n M_254 rfl rfl ?_
  refine AT.cv2i M_254 rfl M_195 rfl (Nat.le_of_ble_eq_true rfl) (xKd.of (sh_st (o := 2) (by omega) (by omega))) (by decide) (c_195 (o := 2) (by omega) (by omega) hs hk.wf) ?_ (Nat.le_of_ble_eq_true rfl) rfl
  try simp only [xK_same, xSetK_idem, xD_setK, xSetD_setK]
  refine AT.iconst M_254 rfl (v := 1) (by decide) ?_
  refine AT.iload_n M_254 rfl rfl ?_
  refine AT.ishl M_254 rfl rfl ?_
  refine AT.ixor M_254 rfl rfl ?_
  refine AT.cv4w M_254 rfl M_186 rfl (Nat.le_of_ble_eq_true rfl) (xKd.of (sh_st (o := 2) (by omega) (by omega))) (by decide) (c_186 (o := 2) (by omega) (by omega) hs hR (by have := hk.2.2.2.2.1; omega)) (fun Y hc12 => ?_) (Nat.le_of_ble_eq_true rfl) rfl
  obtain ⟨r0, k0⟩ := hc12
  have r1 := (r0.sm k0 hap (fun i hi => rfl)).more hn
  have eY : xK Y 2 = (kApp (xK X 2) s (eNil ((xK X 2).1 5 s 0) 4 (sFlip (sMem (xK X 2) s) j))) := r1.k
  have ok1 : sOk (xK Y 2) s := by rw [eY]; exact kApp_ok hk (eMem_ok hfl) hB
  have hsb : sBit (sMem (xK Y 2) s) j = true := by
    rw [eY, show sMem (kApp (xK X 2) s (eNil ((xK X 2).1 5 s 0) 4 (sFlip (sMem (xK X 2) s) j))) s = sFlip (sMem (xK X 2) s) j from (kApp_mem _ _ _).trans (if_pos rfl)]
    obtain ⟨n, n1, n2⟩ := hk.m128
    rw [n2] at hb ⊢
    rw [sFlip_bit n n1 j hj, hb]; rfl
  try simp only [xK_same, xSetK_idem, xD_setK, xSetD_setK]
  refine AT.aload_n M_254 rfl rfl ?_
  refine AT.r11_0 M_254 rfl ?_
  refine AT.iload_n M_254 rfl rfl ?_
  refine AT.cv2i M_254 rfl M_187 rfl (Nat.le_of_ble_eq_true rfl) (xKd.of (sh_st (o := 2) (by omega) (by omega))) (by decide) (c_187 (X := Y) (o := 2) (by omega) (by omega) hs) ?_ (Nat.le_of_ble_eq_true rfl) rfl
  try simp only [xK_same, xSetK_idem, xD_setK, xSetD_setK]
  refine AT.ist3 M_254 rfl rfl ?_
  refine AT.aload_n M_254 rfl rfl ?_
  refine AT.r11_0 M_254 rfl ?_
  refine AT.iload_n M_254 rfl rfl ?_
  refine AT.iload_n M_254 rfl rfl ?_
  refine AT.cv3i M_254 rfl M_196 rfl (Nat.le_of_ble_eq_true rfl) (xKd.of (sh_st (o := 2) (by omega) (by omega))) (by decide) (c_196 (X := Y) (o := 2) (by omega) (by omega) hs hj ok1.wf ok1.m128) ?_ (Nat.le_of_ble_eq_true rfl) rfl
  try simp only [xK_same, xSetK_idem, xD_setK, xSetD_setK]
  refine AT.if_eq M_254 rfl (fun b23 => absurd b23 (by rw [hsb]; decide)) (fun b23 => ?_)
  refine AT.aload_n M_254 rfl rfl ?_
  refine AT.r11_0 M_254 rfl ?_
  refine AT.r10_20 M_254 rfl (show 2 ≤ 2 by omega) (show 2 < 4 by omega) ?_
  refine AT.iload_n M_254 rfl rfl ?_
  refine AT.rr_nxt M_254 rfl rfl (show 2 ≤ 2 by omega) (show 2 < 4 by omega) (by assumption) ?_
  refine AT.iload_n M_254 rfl rfl ?_
  refine AT.iload_n M_254 rfl rfl ?_
  refine AT.rs_nxt M_254 rfl rfl (show 2 ≤ 2 by omega) (show 2 < 4 by omega) (by assumption) (by omega) ?_
  try simp only [xK_same, xSetK_idem, xD_setK, xSetD_setK]
  refine AT.aload_n M_254 rfl rfl ?_
  refine AT.r11_0 M_254 rfl ?_
  refine AT.r10_21 M_254 rfl (show 2 ≤ 2 by omega) (show 2 < 4 by omega) ?_
  refine AT.iload_n M_254 rfl rfl ?_
  refine AT.rr_mat M_254 rfl rfl (show 2 ≤ 2 by omega) (show 2 < 4 by omega) (by assumption) ?_
  refine AT.iload_n M_254 rfl rfl ?_
  refine AT.iconst M_254 rfl (v := 0) (by decide) ?_
  refine AT.rs_mat M_254 rfl rfl (show 2 ≤ 2 by omega) (show 2 < 4 by omega) (by assumption) (by omega) ?_
  try simp only [xK_same, xSetK_idem, xD_setK, xSetD_setK]
  refine AT.aload_n M_254 rfl rfl ?_
  refine AT.r11_0 M_254 rfl ?_
  refine AT.iload_n M_254 rfl rfl ?_
  have r2 : rRel 2 m 0 0 Y (xSetK Y 2 (kSet (kSet (xK Y 2) 2 s j (sLast (xK Y 2) s)) 3 s j 0)) (kSet (kSet (xK Y 2) 2 s j (sLast (xK Y 2) s)) 3 s j 0) := rRel.set r1.2.2 (fun i hi => (kSet_ne (by omega)).trans (kSet_ne (by omega)))
  have okZ : sOk (xK (xSetK Y 2 (kSet (kSet (xK Y 2) 2 s j (sLast (xK Y 2) s)) 3 s j 0)) 2) s := by
    rw [xK_same]
    exact ((sSame.set (by decide) s).tr (sSame.set (by decide) s)).ok ((kSet_ne (by omega)).trans (kSet_ne (by omega))) ok1
  have apZ : aPr (xSetK Y 2 (kSet (kSet (xK Y 2) 2 s j (sLast (xK Y 2) s)) 3 s j 0)) 2 := r2.2.2
  refine AT.cv2w M_254 rfl M_207 rfl (Nat.le_of_ble_eq_true rfl) (xKd.of (sh_st (o := 2) (by omega) (by omega))) (by decide) (c_207 (X := (xSetK Y 2 (kSet (kSet (xK Y 2) 2 s j (sLast (xK Y 2) s)) 3 s j 0))) (o := 2) (m := m) (by omega) (by omega) hs okZ apZ) (fun W hc43 => ?_) (Nat.le_of_ble_eq_true rfl) rfl
  have r3 := hc43
  try simp only [xK_same, xSetK_idem, xD_setK, xSetD_setK]
  refine AT.iload_n M_254 rfl rfl ?_
  refine AT.iret M_254 rfl rfl ?_
  have r4 := (r1.tr r2).tr r3
  rw [xK_same, eY] at r4
  rw [eY]
  exact ⟨rfl, r4.1, r4.2.2⟩
theorem c_254l {X : XS} {s j : Nat} (hs : s < 7) (hj : j < 7) {m : Nat} (hap : aPr X 2) (hR : rOkR X 2) (hk : sOk (xK X 2) s) (hB : kA (xK X 2) s + ((xK X 2).2.1 s).length + 1 < 400000) (hn : ((xK X 2).2.1 s).length + 1 ≤ m) (hb : sBit (sMem (xK X 2) s) j = true) : RU 254 [some (.ref 388), some (.int (Int32.ofNat s)), some (.int (Int32.ofNat j)), none] X (some (.int (sLast (kApp (xK X 2) s (eNil ((xK X 2).1 5 s 0) 4 (sFlip (sMem (xK X 2) s) j))) s))) (fun Z => rRel0 2 m 1 7 X Z (kLk (kApp (xK X 2) s (eNil ((xK X 2).1 5 s 0) 4 (sFlip (sMem (xK X 2) s) j))) s) ∧ aPr Z 2) := by
  have hfl : ∃ n : Nat, n < 128 ∧ sFlip (sMem (xK X 2) s) j = Int32.ofNat n := by
    obtain ⟨n, n1, n2⟩ := hk.m128
    rw [n2]
    exact (sFlip_all n n1 j hj).1
  refine AT.aload_n M_254 rfl rfl ?_
  refine AT.r11_0 M_254 rfl ?_
  refine AT.iload_n M_254 rfl rfl ?_
  refine AT.iconst M_254 rfl (v := 4) (by decide) ?_
  refine AT.aload_n M_254 rfl rfl ?_
  refine AT.r11_0 M_254 rfl ?_
  refine AT.iload_n M_254 rfl rfl ?_
  refine AT.cv2i M_254 rfl M_195 rfl (Nat.le_of_ble_eq_true rfl) (xKd.of (sh_st (o := 2) (by omega) (by omega))) (by decide) (c_195 (o := 2) (by omega) (by omega) hs hk.wf) ?_ (Nat.le_of_ble_eq_true rfl) rfl
  try simp only [xK_same, xSetK_idem, xD_setK, xSetD_setK]
  refine AT.iconst M_254 rfl (v := 1) (by decide) ?_
  refine AT.iload_n M_254 rfl rfl ?_
  refine AT.ishl M_254 rfl rfl ?_
  refine AT.ixor M_254 rfl rfl ?_
  refine AT.cv4w M_254 rfl M_186 rfl (Nat.le_of_ble_eq_true rfl) (xKd.of (sh_st (o := 2) (by omega) (by omega))) (by decide) (c_186 (o := 2) (by omega) (by omega) hs hR (by have := hk.2.2.2.2.1; omega)) (fun Y hc12 => ?_) (Nat.le_of_ble_eq_true rfl) rfl
  obtain ⟨r0, k0⟩ := hc12
  have r1 := (r0.sm k0 hap (fun i hi => rfl)).more hn
  have eY : xK Y 2 = (kApp (xK X 2) s (eNil ((xK X 2).1 5 s 0) 4 (sFlip (sMem (xK X 2) s) j))) := r1.k
  have ok1 : sOk (xK Y 2) s := by rw [eY]; exact kApp_ok hk (eMem_ok hfl) hB
  have hsb : sBit (sMem (xK Y 2) s) j = false := by
    rw [eY, show sMem (kApp (xK X 2) s (eNil ((xK X 2).1 5 s 0) 4 (sFlip (sMem (xK X 2) s) j))) s = sFlip (sMem (xK X 2) s) j from (kApp_mem _ _ _).trans (if_pos rfl)]
    obtain ⟨n, n1, n2⟩ := hk.m128
    rw [n2] at hb ⊢
    rw [sFlip_bit n n1 j hj, hb]; rfl
  try simp only [xK_same, xSetK_idem, xD_setK, xSetD_setK]
  refine AT.aload_n M_254 rfl rfl ?_
  refine AT.r11_0 M_254 rfl ?_
  refine AT.iload_n M_254 rfl rfl ?_
  refine AT.cv2i M_254 rfl M_187 rfl (Nat.le_of_ble_eq_true rfl) (xKd.of (sh_st (o := 2) (by omega) (by omega))) (by decide) (c_187 (X := Y) (o := 2) (by omega) (by omega) hs) ?_ (Nat.le_of_ble_eq_true rfl) rfl
  try simp only [xK_same, xSetK_idem, xD_setK, xSetD_setK]
  refine AT.ist3 M_254 rfl rfl ?_
  refine AT.aload_n M_254 rfl rfl ?_
  refine AT.r11_0 M_254 rfl ?_
  refine AT.iload_n M_254 rfl rfl ?_
  refine AT.iload_n M_254 rfl rfl ?_
  refine AT.cv3i M_254 rfl M_196 rfl (Nat.le_of_ble_eq_true rfl) (xKd.of (sh_st (o := 2) (by omega) (by omega))) (by decide) (c_196 (X := Y) (o := 2) (by omega) (by omega) hs hj ok1.wf ok1.m128) ?_ (Nat.le_of_ble_eq_true rfl) rfl
  try simp only [xK_same, xSetK_idem, xD_setK, xSetD_setK]
  refine AT.if_eq M_254 rfl (fun b23 => ?_) (fun b23 => absurd (by rw [hsb]; rfl) b23)
  refine AT.aload_n M_254 rfl rfl ?_
  refine AT.r11_0 M_254 rfl ?_
  refine AT.iload_n M_254 rfl rfl ?_
  refine AT.cv2w M_254 rfl M_207 rfl (Nat.le_of_ble_eq_true rfl) (xKd.of (sh_st (o := 2) (by omega) (by omega))) (by decide) (c_207 (X := Y) (o := 2) (m := m) (by omega) (by omega) hs ok1 r1.2.2) (fun W hc43 => ?_) (Nat.le_of_ble_eq_true rfl) rfl
  have r3 := hc43
  try simp only [xK_same, xSetK_idem, xD_setK, xSetD_setK]
  refine AT.iload_n M_254 rfl rfl ?_
  refine AT.iret M_254 rfl rfl ?_
  rw [eY] at r3 ⊢
  have r4 := r1.tr r3
  exact ⟨rfl, r4.1, r4.2.2⟩
theorem c_255x1 {X : XS} {p q : Int32} (hp : p < 0 ∨ ¬ p < 7) : RT 255 [some (.ref 388), some (.int p), some (.int q)] X (some (.int 0)) (xSetT X 1) := by
  refine AT.aload_n M_255 rfl rfl ?_
  refine AT.iconst M_255 rfl (v := 0) (by decide) ?_
  refine AT.w11_2 M_255 rfl ?_
  refine AT.iload_n M_255 rfl rfl ?_
  refine AT.cs1i M_255 rfl M_234 rfl (Nat.le_of_ble_eq_true rfl) rfl (c_234x hp) ?_ (Nat.le_of_ble_eq_true rfl) rfl
  refine AT.if_eq M_255 rfl (fun b5 => ?_) (fun b5 => absurd rfl b5)
  refine AT.aload_n M_255 rfl rfl ?_
  refine AT.iconst M_255 rfl (v := 1) (by decide) ?_
  refine AT.cv2i M_255 rfl M_233 rfl (Nat.le_of_ble_eq_true rfl) (xKd.of sh_mod) (by decide) c_233 ?_ (Nat.le_of_ble_eq_true rfl) rfl
  refine AT.iret M_255 rfl rfl ?_
  exact ⟨rfl, rfl⟩
theorem c_255x2 {X : XS} {s : Nat} (hs : s < 7) {q : Int32} (hp : q < 0 ∨ ¬ q < 7) : RT 255 [some (.ref 388), some (.int (Int32.ofNat s)), some (.int q)] X (some (.int 0)) (xSetT X 1) := by
  refine AT.aload_n M_255 rfl rfl ?_
  refine AT.iconst M_255 rfl (v := 0) (by decide) ?_
  refine AT.w11_2 M_255 rfl ?_
  refine AT.iload_n M_255 rfl rfl ?_
  refine AT.cs1i M_255 rfl M_234 rfl (Nat.le_of_ble_eq_true rfl) rfl (c_234 hs) ?_ (Nat.le_of_ble_eq_true rfl) rfl
  refine AT.if_eq M_255 rfl (fun b5 => absurd b5 (by decide)) (fun b5 => ?_)
  refine AT.iload_n M_255 rfl rfl ?_
  refine AT.cs1i M_255 rfl M_234 rfl (Nat.le_of_ble_eq_true rfl) rfl (c_234x hp) ?_ (Nat.le_of_ble_eq_true rfl) rfl
  refine AT.if_ne M_255 rfl (fun b8 => absurd rfl b8) (fun b8 => ?_)
  refine AT.aload_n M_255 rfl rfl ?_
  refine AT.iconst M_255 rfl (v := 1) (by decide) ?_
  refine AT.cv2i M_255 rfl M_233 rfl (Nat.le_of_ble_eq_true rfl) (xKd.of sh_mod) (by decide) c_233 ?_ (Nat.le_of_ble_eq_true rfl) rfl
  refine AT.iret M_255 rfl rfl ?_
  exact ⟨rfl, rfl⟩
theorem c_255x3 {X : XS} {s j : Nat} (hs : s < 7) (hj : j < 7) (hk : sOk (xK X 2) s) (hm : sMayC (xK X 2) s = false) : RT 255 [some (.ref 388), some (.int (Int32.ofNat s)), some (.int (Int32.ofNat j))] X (some (.int 0)) (xSetT X 2) := by
  refine AT.aload_n M_255 rfl rfl ?_
  refine AT.iconst M_255 rfl (v := 0) (by decide) ?_
  refine AT.w11_2 M_255 rfl ?_
  refine AT.iload_n M_255 rfl rfl ?_
  refine AT.cs1i M_255 rfl M_234 rfl (Nat.le_of_ble_eq_true rfl) rfl (c_234 hs) ?_ (Nat.le_of_ble_eq_true rfl) rfl
  refine AT.if_eq M_255 rfl (fun b5 => absurd b5 (by decide)) (fun b5 => ?_)
  refine AT.iload_n M_255 rfl rfl ?_
  refine AT.cs1i M_255 rfl M_234 rfl (Nat.le_of_ble_eq_true rfl) rfl (c_234 hj) ?_ (Nat.le_of_ble_eq_true rfl) rfl
  refine AT.if_ne M_255 rfl (fun b8 => ?_) (fun b8 => absurd b8 (by decide))
  refine AT.aload_n M_255 rfl rfl ?_
  refine AT.iload_n M_255 rfl rfl ?_
  refine AT.cv2i M_255 rfl M_253 rfl (Nat.le_of_ble_eq_true rfl) (xKd.of sh_mod) (by decide) (c_253 (X := (xSetT X 0)) hs hk) ?_ (Nat.le_of_ble_eq_true rfl) rfl
  refine AT.if_eq M_255 rfl (fun b16 => ?_) (fun b16 => absurd (by rw [show sMayC (xK (xSetT X 0) 2) s = false from hm]; rfl) b16)
  refine AT.aload_n M_255 rfl rfl ?_
  refine AT.iconst M_255 rfl (v := 2) (by decide) ?_
  refine AT.cv2i M_255 rfl M_233 rfl (Nat.le_of_ble_eq_true rfl) (xKd.of sh_mod) (by decide) c_233 ?_ (Nat.le_of_ble_eq_true rfl) rfl
  refine AT.iret M_255 rfl rfl ?_
  exact ⟨rfl, rfl⟩
theorem c_255x4 {X : XS} {s j : Nat} (hs : s < 7) (hj : j < 7) (hk : sOk (xK X 2) s) (hm : sMayC (xK X 2) s = true) (hb : sBit (sMem (xK X 2) s) j = true) : RT 255 [some (.ref 388), some (.int (Int32.ofNat s)), some (.int (Int32.ofNat j))] X (some (.int 0)) (xSetT X 2) := by
  refine AT.aload_n M_255 rfl rfl ?_
  refine AT.iconst M_255 rfl (v := 0) (by decide) ?_
  refine AT.w11_2 M_255 rfl ?_
  refine AT.iload_n M_255 rfl rfl ?_
  refine AT.cs1i M_255 rfl M_234 rfl (Nat.le_of_ble_eq_true rfl) rfl (c_234 hs) ?_ (Nat.le_of_ble_eq_true rfl) rfl
  refine AT.if_eq M_255 rfl (fun b5 => absurd b5 (by decide)) (fun b5 => ?_)
  refine AT.iload_n M_255 rfl rfl ?_
  refine AT.cs1i M_255 rfl M_234 rfl (Nat.le_of_ble_eq_true rfl) rfl (c_234 hj) ?_ (Nat.le_of_ble_eq_true rfl) rfl
  refine AT.if_ne M_255 rfl (fun b8 => ?_) (fun b8 => absurd b8 (by decide))
  refine AT.aload_n M_255 rfl rfl ?_
  refine AT.iload_n M_255 rfl rfl ?_
  refine AT.cv2i M_255 rfl M_253 rfl (Nat.le_of_ble_eq_true rfl) (xKd.of sh_mod) (by decide) (c_253 (X := (xSetT X 0)) hs hk) ?_ (Nat.le_of_ble_eq_true rfl) rfl
  refine AT.if_eq M_255 rfl (fun b16 => absurd b16 (by rw [show sMayC (xK (xSetT X 0) 2) s = true from hm]; decide)) (fun b16 => ?_)
  refine AT.aload_n M_255 rfl rfl ?_
  refine AT.r11_0 M_255 rfl ?_
  refine AT.iload_n M_255 rfl rfl ?_
  refine AT.iload_n M_255 rfl rfl ?_
  refine AT.cv3i M_255 rfl M_196 rfl (Nat.le_of_ble_eq_true rfl) (xKd.of (sh_st (o := 2) (by omega) (by omega))) (by decide) (c_196 (X := (xSetT X 0)) (o := 2) (by omega) (by omega) hs hj hk.wf hk.m128) ?_ (Nat.le_of_ble_eq_true rfl) rfl
  refine AT.if_ne M_255 rfl (fun b22 => ?_) (fun b22 => absurd (Classical.not_not.mp b22) (by rw [show sBit (sMem (xK (xSetT X 0) 2) s) j = true from hb]; decide))
  refine AT.aload_n M_255 rfl rfl ?_
  refine AT.iconst M_255 rfl (v := 2) (by decide) ?_
  refine AT.cv2i M_255 rfl M_233 rfl (Nat.le_of_ble_eq_true rfl) (xKd.of sh_mod) (by decide) c_233 ?_ (Nat.le_of_ble_eq_true rfl) rfl
  refine AT.iret M_255 rfl rfl ?_
  exact ⟨rfl, rfl⟩
theorem c_255 {X : XS} {s j : Nat} (hs : s < 7) (hj : j < 7) {m : Nat} (hap : aPr X 2) (hR : rOkR X 2) (hk : sOk (xK X 2) s) (hB : kA (xK X 2) s + ((xK X 2).2.1 s).length + 1 < 400000) (hn : ((xK X 2).2.1 s).length + 1 ≤ m) (hm : sMayC (xK X 2) s = true) (hb : sBit (sMem (xK X 2) s) j = false) : RU 255 [some (.ref 388), some (.int (Int32.ofNat s)), some (.int (Int32.ofNat j))] X (some (.int (sLast (kApp (xK X 2) s (eNil ((xK X 2).1 5 s 0) 4 (sFlip (sMem (xK X 2) s) j))) s))) (fun Z => rRel0 2 m 1 7 (xSetT X 0) Z (kJoin (xK X 2) s j (eNil ((xK X 2).1 5 s 0) 4 (sFlip (sMem (xK X 2) s) j))) ∧ aPr Z 2) := by
  refine AT.aload_n M_255 rfl rfl ?_
  refine AT.iconst M_255 rfl (v := 0) (by decide) ?_
  refine AT.w11_2 M_255 rfl ?_
  refine AT.iload_n M_255 rfl rfl ?_
  refine AT.cs1i M_255 rfl M_234 rfl (Nat.le_of_ble_eq_true rfl) rfl (c_234 hs) ?_ (Nat.le_of_ble_eq_true rfl) rfl
  refine AT.if_eq M_255 rfl (fun b5 => absurd b5 (by decide)) (fun b5 => ?_)
  refine AT.iload_n M_255 rfl rfl ?_
  refine AT.cs1i M_255 rfl M_234 rfl (Nat.le_of_ble_eq_true rfl) rfl (c_234 hj) ?_ (Nat.le_of_ble_eq_true rfl) rfl
  refine AT.if_ne M_255 rfl (fun b8 => ?_) (fun b8 => absurd b8 (by decide))
  refine AT.aload_n M_255 rfl rfl ?_
  refine AT.iload_n M_255 rfl rfl ?_
  refine AT.cv2i M_255 rfl M_253 rfl (Nat.le_of_ble_eq_true rfl) (xKd.of sh_mod) (by decide) (c_253 (X := (xSetT X 0)) hs hk) ?_ (Nat.le_of_ble_eq_true rfl) rfl
  refine AT.if_eq M_255 rfl (fun b16 => absurd b16 (by rw [show sMayC (xK (xSetT X 0) 2) s = true from hm]; decide)) (fun b16 => ?_)
  refine AT.aload_n M_255 rfl rfl ?_
  refine AT.r11_0 M_255 rfl ?_
  refine AT.iload_n M_255 rfl rfl ?_
  refine AT.iload_n M_255 rfl rfl ?_
  refine AT.cv3i M_255 rfl M_196 rfl (Nat.le_of_ble_eq_true rfl) (xKd.of (sh_st (o := 2) (by omega) (by omega))) (by decide) (c_196 (X := (xSetT X 0)) (o := 2) (by omega) (by omega) hs hj hk.wf hk.m128) ?_ (Nat.le_of_ble_eq_true rfl) rfl
  refine AT.if_ne M_255 rfl (fun b22 => absurd (by rw [show sBit (sMem (xK (xSetT X 0) 2) s) j = false from hb]; rfl) b22) (fun b22 => ?_)
  refine AT.aload_n M_255 rfl rfl ?_
  refine AT.iload_n M_255 rfl rfl ?_
  refine AT.iload_n M_255 rfl rfl ?_
  refine AT.cv3u M_255 rfl M_254 rfl (Nat.le_of_ble_eq_true rfl) (xKd.of sh_mod) (by decide) (c_254j (X := (xSetT X 0)) (m := m) hs hj hap hR hk hB hn hb) (fun Y hc26 => ?_) (Nat.le_of_ble_eq_true rfl) rfl
  have r1 := hc26
  refine AT.goto M_255 rfl ?_
  refine AT.iret M_255 rfl rfl ?_
  exact ⟨rfl, r1⟩
theorem c_256x1 {X : XS} {p q : Int32} (hp : p < 0 ∨ ¬ p < 7) : RT 256 [some (.ref 388), some (.int p), some (.int q)] X (some (.int 0)) (xSetT X 1) := by
  refine AT.aload_n M_256 rfl rfl ?_
  refine AT.iconst M_256 rfl (v := 0) (by decide) ?_
  refine AT.w11_2 M_256 rfl ?_
  refine AT.iload_n M_256 rfl rfl ?_
  refine AT.cs1i M_256 rfl M_234 rfl (Nat.le_of_ble_eq_true rfl) rfl (c_234x hp) ?_ (Nat.le_of_ble_eq_true rfl) rfl
  refine AT.if_eq M_256 rfl (fun b5 => ?_) (fun b5 => absurd rfl b5)
  refine AT.aload_n M_256 rfl rfl ?_
  refine AT.iconst M_256 rfl (v := 1) (by decide) ?_
  refine AT.cv2i M_256 rfl M_233 rfl (Nat.le_of_ble_eq_true rfl) (xKd.of sh_mod) (by decide) c_233 ?_ (Nat.le_of_ble_eq_true rfl) rfl
  refine AT.iret M_256 rfl rfl ?_
  exact ⟨rfl, rfl⟩
theorem c_256x2 {X : XS} {s : Nat} (hs : s < 7) {q : Int32} (hp : q < 0 ∨ ¬ q < 7) : RT 256 [some (.ref 388), some (.int (Int32.ofNat s)), some (.int q)] X (some (.int 0)) (xSetT X 1) := by
  refine AT.aload_n M_256 rfl rfl ?_
  refine AT.iconst M_256 rfl (v := 0) (by decide) ?_
  refine AT.w11_2 M_256 rfl ?_
  refine AT.iload_n M_256 rfl rfl ?_
  refine AT.cs1i M_256 rfl M_234 rfl (Nat.le_of_ble_eq_true rfl) rfl (c_234 hs) ?_ (Nat.le_of_ble_eq_true rfl) rfl
  refine AT.if_eq M_256 rfl (fun b5 => absurd b5 (by decide)) (fun b5 => ?_)
  refine AT.iload_n M_256 rfl rfl ?_
  refine AT.cs1i M_256 rfl M_234 rfl (Nat.le_of_ble_eq_true rfl) rfl (c_234x hp) ?_ (Nat.le_of_ble_eq_true rfl) rfl
  refine AT.if_ne M_256 rfl (fun b8 => absurd rfl b8) (fun b8 => ?_)
  refine AT.aload_n M_256 rfl rfl ?_
  refine AT.iconst M_256 rfl (v := 1) (by decide) ?_
  refine AT.cv2i M_256 rfl M_233 rfl (Nat.le_of_ble_eq_true rfl) (xKd.of sh_mod) (by decide) c_233 ?_ (Nat.le_of_ble_eq_true rfl) rfl
  refine AT.iret M_256 rfl rfl ?_
  exact ⟨rfl, rfl⟩
theorem c_256x3 {X : XS} {s j : Nat} (hs : s < 7) (hj : j < 7) (hk : sOk (xK X 2) s) (hm : sMayC (xK X 2) s = false) : RT 256 [some (.ref 388), some (.int (Int32.ofNat s)), some (.int (Int32.ofNat j))] X (some (.int 0)) (xSetT X 2) := by
  refine AT.aload_n M_256 rfl rfl ?_
  refine AT.iconst M_256 rfl (v := 0) (by decide) ?_
  refine AT.w11_2 M_256 rfl ?_
  refine AT.iload_n M_256 rfl rfl ?_
  refine AT.cs1i M_256 rfl M_234 rfl (Nat.le_of_ble_eq_true rfl) rfl (c_234 hs) ?_ (Nat.le_of_ble_eq_true rfl) rfl
  refine AT.if_eq M_256 rfl (fun b5 => absurd b5 (by decide)) (fun b5 => ?_)
  refine AT.iload_n M_256 rfl rfl ?_
  refine AT.cs1i M_256 rfl M_234 rfl (Nat.le_of_ble_eq_true rfl) rfl (c_234 hj) ?_ (Nat.le_of_ble_eq_true rfl) rfl
  refine AT.if_ne M_256 rfl (fun b8 => ?_) (fun b8 => absurd b8 (by decide))
  refine AT.aload_n M_256 rfl rfl ?_
  refine AT.iload_n M_256 rfl rfl ?_
  refine AT.cv2i M_256 rfl M_253 rfl (Nat.le_of_ble_eq_true rfl) (xKd.of sh_mod) (by decide) (c_253 (X := (xSetT X 0)) hs hk) ?_ (Nat.le_of_ble_eq_true rfl) rfl
  refine AT.if_eq M_256 rfl (fun b16 => ?_) (fun b16 => absurd (by rw [show sMayC (xK (xSetT X 0) 2) s = false from hm]; rfl) b16)
  refine AT.aload_n M_256 rfl rfl ?_
  refine AT.iconst M_256 rfl (v := 2) (by decide) ?_
  refine AT.cv2i M_256 rfl M_233 rfl (Nat.le_of_ble_eq_true rfl) (xKd.of sh_mod) (by decide) c_233 ?_ (Nat.le_of_ble_eq_true rfl) rfl
  refine AT.iret M_256 rfl rfl ?_
  exact ⟨rfl, rfl⟩
theorem c_256x4 {X : XS} {s j : Nat} (hs : s < 7) (hj : j < 7) (hk : sOk (xK X 2) s) (hm : sMayC (xK X 2) s = true) (hb : sBit (sMem (xK X 2) s) j = false) : RT 256 [some (.ref 388), some (.int (Int32.ofNat s)), some (.int (Int32.ofNat j))] X (some (.int 0)) (xSetT X 2) := by
  refine AT.aload_n M_256 rfl rfl ?_
  refine AT.iconst M_256 rfl (v := 0) (by decide) ?_
  refine AT.w11_2 M_256 rfl ?_
  refine AT.iload_n M_256 rfl rfl ?_
  refine AT.cs1i M_256 rfl M_234 rfl (Nat.le_of_ble_eq_true rfl) rfl (c_234 hs) ?_ (Nat.le_of_ble_eq_true rfl) rfl
  refine AT.if_eq M_256 rfl (fun b5 => absurd b5 (by decide)) (fun b5 => ?_)
  refine AT.iload_n M_256 rfl rfl ?_
  refine AT.cs1i M_256 rfl M_234 rfl (Nat.le_of_ble_eq_true rfl) rfl (c_234 hj) ?_ (Nat.le_of_ble_eq_true rfl) rfl
  refine AT.if_ne M_256 rfl (fun b8 => ?_) (fun b8 => absurd b8 (by decide))
  refine AT.aload_n M_256 rfl rfl ?_
  refine AT.iload_n M_256 rfl rfl ?_
  refine AT.cv2i M_256 rfl M_253 rfl (Nat.le_of_ble_eq_true rfl) (xKd.of sh_mod) (by decide) (c_253 (X := (xSetT X 0)) hs hk) ?_ (Nat.le_of_ble_eq_true rfl) rfl
  refine AT.if_eq M_256 rfl (fun b16 => absurd b16 (by rw [show sMayC (xK (xSetT X 0) 2) s = true from hm]; decide)) (fun b16 => ?_)
  refine AT.aload_n M_256 rfl rfl ?_
  refine AT.r11_0 M_256 rfl ?_
  refine AT.iload_n M_256 rfl rfl ?_
  refine AT.iload_n M_256 rfl rfl ?_
  refine AT.cv3i M_256 rfl M_196 rfl (Nat.le_of_ble_eq_true rfl) (xKd.of (sh_st (o := 2) (by omega) (by omega))) (by decide) (c_196 (X := (xSetT X 0)) (o := 2) (by omega) (by omega) hs hj hk.wf hk.m128) ?_ (Nat.le_of_ble_eq_true rfl) rfl
  refine AT.if_eq M_256 rfl (fun b22 => ?_) (fun b22 => absurd (by rw [show sBit (sMem (xK (xSetT X 0) 2) s) j = false from hb]; rfl) b22)
  refine AT.aload_n M_256 rfl rfl ?_
  refine AT.iconst M_256 rfl (v := 2) (by decide) ?_
  refine AT.cv2i M_256 rfl M_233 rfl (Nat.le_of_ble_eq_true rfl) (xKd.of sh_mod) (by decide) c_233 ?_ (Nat.le_of_ble_eq_true rfl) rfl
  refine AT.iret M_256 rfl rfl ?_
  exact ⟨rfl, rfl⟩
theorem c_256x5 {X : XS} {s j : Nat} (hs : s < 7) (hj : j < 7) (hk : sOk (xK X 2) s) (hm : sMayC (xK X 2) s = true) (hb : sBit (sMem (xK X 2) s) j = true) (h0 : sFlip (sMem (xK X 2) s) j = 0) : RT 256 [some (.ref 388), some (.int (Int32.ofNat s)), some (.int (Int32.ofNat j))] X (some (.int 0)) (xSetT X 2) := by
  obtain ⟨n, n1, n2⟩ := hk.m128
  have h1 := sCnt_one n n1 j hj (by rw [← n2]; exact hb)
  rw [← n2] at h1
  refine AT.aload_n M_256 rfl rfl ?_
  refine AT.iconst M_256 rfl (v := 0) (by decide) ?_
  refine AT.w11_2 M_256 rfl ?_
  refine AT.iload_n M_256 rfl rfl ?_
  refine AT.cs1i M_256 rfl M_234 rfl (Nat.le_of_ble_eq_true rfl) rfl (c_234 hs) ?_ (Nat.le_of_ble_eq_true rfl) rfl
  refine AT.if_eq M_256 rfl (fun b5 => absurd b5 (by decide)) (fun b5 => ?_)
  refine AT.iload_n M_256 rfl rfl ?_
  refine AT.cs1i M_256 rfl M_234 rfl (Nat.le_of_ble_eq_true rfl) rfl (c_234 hj) ?_ (Nat.le_of_ble_eq_true rfl) rfl
  refine AT.if_ne M_256 rfl (fun b8 => ?_) (fun b8 => absurd b8 (by decide))
  refine AT.aload_n M_256 rfl rfl ?_
  refine AT.iload_n M_256 rfl rfl ?_
  refine AT.cv2i M_256 rfl M_253 rfl (Nat.le_of_ble_eq_true rfl) (xKd.of sh_mod) (by decide) (c_253 (X := (xSetT X 0)) hs hk) ?_ (Nat.le_of_ble_eq_true rfl) rfl
  refine AT.if_eq M_256 rfl (fun b16 => absurd b16 (by rw [show sMayC (xK (xSetT X 0) 2) s = true from hm]; decide)) (fun b16 => ?_)
  refine AT.aload_n M_256 rfl rfl ?_
  refine AT.r11_0 M_256 rfl ?_
  refine AT.iload_n M_256 rfl rfl ?_
  refine AT.iload_n M_256 rfl rfl ?_
  refine AT.cv3i M_256 rfl M_196 rfl (Nat.le_of_ble_eq_true rfl) (xKd.of (sh_st (o := 2) (by omega) (by omega))) (by decide) (c_196 (X := (xSetT X 0)) (o := 2) (by omega) (by omega) hs hj hk.wf hk.m128) ?_ (Nat.le_of_ble_eq_true rfl) rfl
  refine AT.if_eq M_256 rfl (fun b22 => absurd b22 (by rw [show sBit (sMem (xK (xSetT X 0) 2) s) j = true from hb]; decide)) (fun b22 => ?_)
  refine AT.aload_n M_256 rfl rfl ?_
  refine AT.r11_0 M_256 rfl ?_
  refine AT.iload_n M_256 rfl rfl ?_
  refine AT.cv2i M_256 rfl M_195 rfl (Nat.le_of_ble_eq_true rfl) (xKd.of (sh_st (o := 2) (by omega) (by omega))) (by decide) (c_195 (X := (xSetT X 0)) (o := 2) (by omega) (by omega) hs hk.wf) ?_ (Nat.le_of_ble_eq_true rfl) rfl
  refine AT.cs1i M_256 rfl M_197 rfl (Nat.le_of_ble_eq_true rfl) rfl (c_197x hk.m128) ?_ (Nat.le_of_ble_eq_true rfl) rfl
  refine AT.iconst M_256 rfl (v := 1) (by decide) ?_
  refine AT.icmp_le M_256 rfl (fun b29 => ?_) (fun b29 => absurd (h1.mpr h0) b29)
  refine AT.aload_n M_256 rfl rfl ?_
  refine AT.iconst M_256 rfl (v := 2) (by decide) ?_
  refine AT.cv2i M_256 rfl M_233 rfl (Nat.le_of_ble_eq_true rfl) (xKd.of sh_mod) (by decide) c_233 ?_ (Nat.le_of_ble_eq_true rfl) rfl
  refine AT.iret M_256 rfl rfl ?_
  exact ⟨rfl, rfl⟩
theorem c_256 {X : XS} {s j : Nat} (hs : s < 7) (hj : j < 7) {m : Nat} (hap : aPr X 2) (hR : rOkR X 2) (hk : sOk (xK X 2) s) (hB : kA (xK X 2) s + ((xK X 2).2.1 s).length + 1 < 400000) (hn : ((xK X 2).2.1 s).length + 1 ≤ m) (hm : sMayC (xK X 2) s = true) (hb : sBit (sMem (xK X 2) s) j = true) (h0 : ¬ sFlip (sMem (xK X 2) s) j = 0) : RU 256 [some (.ref 388), some (.int (Int32.ofNat s)), some (.int (Int32.ofNat j))] X (some (.int (sLast (kApp (xK X 2) s (eNil ((xK X 2).1 5 s 0) 4 (sFlip (sMem (xK X 2) s) j))) s))) (fun Z => rRel0 2 m 1 7 (xSetT X 0) Z (kLk (kApp (xK X 2) s (eNil ((xK X 2).1 5 s 0) 4 (sFlip (sMem (xK X 2) s) j))) s) ∧ aPr Z 2) := by
  obtain ⟨n, n1, n2⟩ := hk.m128
  have h1 := sCnt_one n n1 j hj (by rw [← n2]; exact hb)
  rw [← n2] at h1
  refine AT.aload_n M_256 rfl rfl ?_
  refine AT.iconst M_256 rfl (v := 0) (by decide) ?_
  refine AT.w11_2 M_256 rfl ?_
  refine AT.iload_n M_256 rfl rfl ?_
  refine AT.cs1i M_256 rfl M_234 rfl (Nat.le_of_ble_eq_true rfl) rfl (c_234 hs) ?_ (Nat.le_of_ble_eq_true rfl) rfl
  refine AT.if_eq M_256 rfl (fun b5 => absurd b5 (by decide)) (fun b5 => ?_)
  refine AT.iload_n M_256 rfl rfl ?_
  refine AT.cs1i M_256 rfl M_234 rfl (Nat.le_of_ble_eq_true rfl) rfl (c_234 hj) ?_ (Nat.le_of_ble_eq_true rfl) rfl
  refine AT.if_ne M_256 rfl (fun b8 => ?_) (fun b8 => absurd b8 (by decide))
  refine AT.aload_n M_256 rfl rfl ?_
  refine AT.iload_n M_256 rfl rfl ?_
  refine AT.cv2i M_256 rfl M_253 rfl (Nat.le_of_ble_eq_true rfl) (xKd.of sh_mod) (by decide) (c_253 (X := (xSetT X 0)) hs hk) ?_ (Nat.le_of_ble_eq_true rfl) rfl
  refine AT.if_eq M_256 rfl (fun b16 => absurd b16 (by rw [show sMayC (xK (xSetT X 0) 2) s = true from hm]; decide)) (fun b16 => ?_)
  refine AT.aload_n M_256 rfl rfl ?_
  refine AT.r11_0 M_256 rfl ?_
  refine AT.iload_n M_256 rfl rfl ?_
  refine AT.iload_n M_256 rfl rfl ?_
  refine AT.cv3i M_256 rfl M_196 rfl (Nat.le_of_ble_eq_true rfl) (xKd.of (sh_st (o := 2) (by omega) (by omega))) (by decide) (c_196 (X := (xSetT X 0)) (o := 2) (by omega) (by omega) hs hj hk.wf hk.m128) ?_ (Nat.le_of_ble_eq_true rfl) rfl
  refine AT.if_eq M_256 rfl (fun b22 => absurd b22 (by rw [show sBit (sMem (xK (xSetT X 0) 2) s) j = true from hb]; decide)) (fun b22 => ?_)
  refine AT.aload_n M_256 rfl rfl ?_
  refine AT.r11_0 M_256 rfl ?_
  refine AT.iload_n M_256 rfl rfl ?_
  refine AT.cv2i M_256 rfl M_195 rfl (Nat.le_of_ble_eq_true rfl) (xKd.of (sh_st (o := 2) (by omega) (by omega))) (by decide) (c_195 (X := (xSetT X 0)) (o := 2) (by omega) (by omega) hs hk.wf) ?_ (Nat.le_of_ble_eq_true rfl) rfl
  refine AT.cs1i M_256 rfl M_197 rfl (Nat.le_of_ble_eq_true rfl) rfl (c_197x hk.m128) ?_ (Nat.le_of_ble_eq_true rfl) rfl
  refine AT.iconst M_256 rfl (v := 1) (by decide) ?_
  refine AT.icmp_le M_256 rfl (fun b29 => absurd (h1.mp b29) h0) (fun b29 => ?_)
  refine AT.aload_n M_256 rfl rfl ?_
  refine AT.iload_n M_256 rfl rfl ?_
  refine AT.iload_n M_256 rfl rfl ?_
  refine AT.cv3u M_256 rfl M_254 rfl (Nat.le_of_ble_eq_true rfl) (xKd.of sh_mod) (by decide) (c_254l (X := (xSetT X 0)) (m := m) hs hj hap hR hk hB hn hb) (fun Y hc33 => ?_) (Nat.le_of_ble_eq_true rfl) rfl
  have r1 := hc33
  refine AT.goto M_256 rfl ?_
  refine AT.iret M_256 rfl rfl ?_
  exact ⟨rfl, r1⟩
