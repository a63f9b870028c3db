/-! ===== THE REFERENCE: entries come ===== -/
theorem AT.max8 {m i pc ln r1 r2 r3 : Nat} {ls : PV} {st : List Value} {X : XS} {Q : PO → XS → Prop} {M : PMet} {n : Nat} {x y v : Int32} (hM : qPT m = M) (hr : M.1[i]? = some (pc, .invokestatic n, ln, r1, r2, r3)) (h0 : r1 = 2) (hs : (st.map fun v => v.category).sum ≤ 8) (hv : (if x < y then y else x) = v) (k : AT m (i + 1) ls (.int v :: st) X Q) : AT m i ls (.int y :: .int x :: st) X Q := fun g hg => PW.mm hM hr (by subst h0; rfl) (Or.inr hs) (by rw [if_pos h0, hv]; exact k g hg)
theorem mRow5 {w : MSG} (h5 : w.1 1 = 5) : mRow w 6 = w.1 8 ∧ mRow w 7 = w.1 9 ∧ ∀ i e, w.2.2[i]? = some e → i < 4 → ∀ q, q < 7 → mRow w (8 + 7 * i + q) = e q := by
  unfold mRow
  rw [h5]
  refine ⟨rfl, rfl, fun i e he hi q hq => ?_⟩
  rw [if_neg (by omega), if_neg (by omega), if_neg (by omega), if_neg (by omega), if_neg (by omega), if_neg (by decide)]
  rw [show (8 + 7 * i + q - 8) / 7 = i by omega, show (8 + 7 * i + q - 8) % 7 = q by omega, List.getD_eq_getElem?_getD, he]
  rfl
theorem eWith_self (e : ENT) : eWith e (e 0) = e := by
  funext k
  unfold eWith
  split
  · rename_i h; rw [h]
  · rfl
theorem kAcc_eq {K : KK} {s a xn : Nat} {e : ENT} (ha : K.1 18 s 0 = Int32.ofNat a) (hl : a + (K.2.1 s).length < 16777216) (h1 : a < xn) (h2 : xn ≤ a + (K.2.1 s).length + 1) (hH : sHas K s (Int32.ofNat xn) (e 0) = false) : kAcc K s (Int32.ofNat xn) e = kLog K s ((K.2.1 s).take (xn - a - 1) ++ [e]) := by
  have hc : ¬ (Int32.ofNat xn ≤ K.1 18 s 0 ∨ sHas K s (Int32.ofNat xn) (e 0) = true) := fun z => by
    rcases z with z | z
    · rw [ha, i32_le (by omega) (by omega)] at z; omega
    · rw [hH] at z; cases z
  unfold kAcc
  rw [if_neg hc]
  have eL := sLast_of ha
  unfold kTrim
  by_cases c2 : xn ≤ a + (K.2.1 s).length
  · rw [if_pos (by rw [eL, i32_le (by omega) (by omega)]; exact c2), kLog_idem]
    congr 2
    show (if s = s then _ else _) = _
    rw [if_pos rfl, ha]
    congr 1
    rw [show xn = a + 1 + (xn - a - 1) by omega, Int32.ofNat_add, Int32.ofNat_add, show (Int32.ofNat a + Int32.ofNat 1 + Int32.ofNat (xn - a - 1) - Int32.ofNat a - 1 : Int32) = Int32.ofNat (xn - a - 1) from i32_sub3 _ _, (i32_ix (by omega)).1]
    omega
  · rw [if_neg (by rw [eL, i32_le (by omega) (by omega)]; exact c2), List.take_of_length_le (by omega)]
theorem l_214 {o s m x6n : Nat} {w : MSG} {Q : PO → XS → Prop} (h2 : 2 ≤ o) (h4 : o < 4) (hs : s < 7) (h5 : w.1 1 = 5) (h6 : w.1 6 = Int32.ofNat x6n) (h9 : w.1 9 = Int32.ofNat w.2.2.length) (hb4 : w.2.2.length ≤ 4) (hm : x6n + w.2.2.length ≤ m) (hM : m ≤ 399980) (hE : ∀ e, e ∈ w.2.2 → eOk e) : ∀ (es : List ENT) (i : Nat) (X : XS) (x6 : Int32) (x8 x9 : Option Value), w.2.2.drop i = es → i ≤ w.2.2.length → sOk (xK X o) s → uTold X o w → rOkR X o → kAccOk s (xK X o) (Int32.ofNat (x6n + 1 + i)) es → x6n + i ≤ kA (xK X o) s + ((xK X o).2.1 s).length → ((xK X o).2.1 s).length ≤ m →
    (∀ Z y8 y9, rRel0 o m 0 0 X Z (kAccs s (xK X o) (Int32.ofNat (x6n + 1 + i)) es) → rSm o X Z → AT 214 130 [some (.ref (bB o)), some (.int (Int32.ofNat s)), some (.int (w.1 2)), some (.int (w.1 4)), some (.int (w.1 6)), some (.int (w.1 7)), some (.int x6), some (.int (Int32.ofNat w.2.2.length)), y8, y9] [] Z Q) → AT 214 63 [some (.ref (bB o)), some (.int (Int32.ofNat s)), some (.int (w.1 2)), some (.int (w.1 4)), some (.int (w.1 6)), some (.int (w.1 7)), some (.int x6), some (.int (Int32.ofNat i)), x8, x9] [] X Q
  | [], i, X, x6, x8, x9, hes, hi, ok, hT, hR, hA, hxl, hlm, hk => by
    have hi2 : w.2.2.length ≤ i := List.drop_eq_nil_iff.mp hes
    refine AT.iload M_214 rfl rfl ?_
    refine AT.aload_n M_214 rfl rfl ?_
    refine AT.r10_24 M_214 rfl h2 h4 ?_
    refine AT.bipush M_214 rfl (v := 7) (by decide) ?_
    refine AT.ra_told M_214 rfl (j := 7) rfl h2 h4 (by omega) ?_
    rw [(hT 7 (by omega)).trans ((mRow5 h5).2.1.trans h9)]
    refine AT.icmp_ge M_214 rfl (fun b68 => ?_) (fun b68 => absurd (by rw [show i = w.2.2.length by omega]; exact Int32.le_refl _) b68)
    have e : i = w.2.2.length := by omega
    subst e
    exact hk X x8 x9 (rRel0.rf o m X) (rSm.rf o X)
  | e :: es, i, X, x6, x8, x9, hes, hi, ok, hT, hR, hA, hxl0, hlm, hk => by
    have hes : w.2.2[i]? = some e ∧ w.2.2.drop (i + 1) = es := by
      have h0 : (w.2.2.drop i)[0]? = some e := by rw [hes]; rfl
      rw [List.getElem?_drop] at h0
      exact ⟨h0, by rw [← List.drop_drop, hes]; rfl⟩
    have he := hes.1
    have hil : i < w.2.2.length := (List.getElem?_eq_some_iff.mp he).1
    have hi4 : i < 4 := by omega
    have hxl : (x6n + 1 + i) ≤ kA (xK X o) s + ((xK X o).2.1 s).length + 1 := by omega
    have hl := ok.2.2.2.2.1
    refine AT.rep (fun hr => ?_)
    have hlr := hr.choose_spec.2.2.2.2.2.2.2.2.1 o s h2 h4 hs
    have hd5 := hlr.2.2.2.2.1
    refine AT.iload M_214 rfl rfl ?_
    refine AT.aload_n M_214 rfl rfl ?_
    refine AT.r10_24 M_214 rfl h2 h4 ?_
    refine AT.bipush M_214 rfl (v := 7) (by decide) ?_
    refine AT.ra_told M_214 rfl (j := 7) rfl h2 h4 (by omega) ?_
    rw [(hT 7 (by omega)).trans ((mRow5 h5).2.1.trans h9)]
    refine AT.icmp_ge M_214 rfl (fun b68 => absurd ((i32_le (a := w.2.2.length) (b := i) (by omega) (by omega)).mp b68) (by omega)) (fun b68 => ?_)
    refine AT.iload M_214 rfl rfl ?_
    refine AT.iconst M_214 rfl (v := 1) (by decide) ?_
    refine AT.iadd M_214 rfl rfl ?_
    refine AT.iload M_214 rfl rfl ?_
    refine AT.iadd M_214 rfl rfl ?_
    rw [show w.1 6 + 1 + Int32.ofNat i = Int32.ofNat (x6n + 1 + i) from by rw [h6, Int32.ofNat_add, Int32.ofNat_add]; rfl]
    refine AT.ist8 M_214 rfl rfl ?_
    refine AT.aload_n M_214 rfl rfl ?_
    refine AT.r10_24 M_214 rfl h2 h4 ?_
    refine AT.bipush M_214 rfl (v := 8) (by decide) ?_
    refine AT.iload M_214 rfl rfl ?_
    refine AT.bipush M_214 rfl (v := 7) (by decide) ?_
    refine AT.imul M_214 rfl rfl ?_
    refine AT.iadd M_214 rfl rfl ?_
    refine AT.iconst M_214 rfl (v := 0) (by decide) ?_
    refine AT.iadd M_214 rfl rfl ?_
    refine AT.ra_told M_214 rfl (j := 8 + 7 * i) (by rw [Int32.add_zero, Int32.ofNat_add, Nat.mul_comm, Int32.ofNat_mul]; rfl) h2 h4 (by omega) ?_
    rw [show dV (xD X) o 40 0 (8 + 7 * i) = e 0 from (hT _ (by omega)).trans ((mRow5 h5).2.2 i e he hi4 0 (by omega))]
    refine AT.ist9 M_214 rfl rfl ?_
    refine AT.iload M_214 rfl rfl ?_
    refine AT.aload_n M_214 rfl rfl ?_
    refine AT.r10_13 M_214 rfl h2 h4 ?_
    refine AT.iload_n M_214 rfl rfl ?_
    refine AT.ra_18_0 M_214 rfl rfl h2 h4 (by assumption) ?_
    refine AT.icmp_le M_214 rfl (fun b91 => ?_) (fun b91 => ?_)
    · refine AT.iinc7 M_214 rfl rfl (i32_succ _) ?_
      refine AT.goto M_214 rfl ?_
      have hacc : kAcc (xK X o) s (Int32.ofNat (x6n + 1 + i)) e = xK X o := if_pos (Or.inl b91)
      have r2 : rRel0 o m 0 0 X X (kAcc (xK X o) s (Int32.ofNat (x6n + 1 + i)) e) := by rw [hacc]; exact rRel0.rf o m X
      have k2 := rSm.rf o X
      have ha2 := kAcc_ok (e := e) ok hxl (by omega) (hE e (by rw [List.mem_iff_getElem?]; exact ⟨i, he⟩)) hA.1
      refine l_214 h2 h4 hs h5 h6 h9 hb4 hm hM hE es (i + 1) X x6 _ _ hes.2 (by omega) (by rw [r2.k]; exact ha2.1) (fun j hj => hT.at k2 hj) (r2.ok (by omega) hR) ?_ ?_ ?_ (fun Z y8 y9 z1 z2 => hk Z y8 y9 ?_ (k2.tr z2))
      · rw [r2.k, show x6n + 1 + (i + 1) = (x6n + 1 + i) + 1 by omega, ← i32_suc1]; exact hA.2
      · rw [r2.k, (kAcc_C _ _ _ _ _).1]; have := ha2.2.1; omega
      · rw [r2.k]; have := ha2.2.2; omega
      · rw [r2.k, show x6n + 1 + (i + 1) = (x6n + 1 + i) + 1 by omega, ← i32_suc1] at z1
        exact r2.tr z1
    · refine AT.aload_n M_214 rfl rfl ?_
      refine AT.iload_n M_214 rfl rfl ?_
      refine AT.iload M_214 rfl rfl ?_
      refine AT.cv3i M_214 rfl M_188 rfl (Nat.le_of_ble_eq_true rfl) (xKd.of (sh_st h2 h4)) (by decide) (c_188 h2 h4 hs) ?_ (Nat.le_of_ble_eq_true rfl) rfl
      refine AT.if_eq M_214 rfl (fun b96 => ?_) (fun b96 => ?_)
      · have hH : sHas (xK X o) s (Int32.ofNat (x6n + 1 + i)) (e 0) = false := by
          unfold sHas
          cases hE : sEnt (xK X o) s (Int32.ofNat (x6n + 1 + i)) with
          | none => rfl
          | some e' => exact absurd ((sHasE_some ok.wf).mpr ⟨e', hE⟩) (fun z => by rw [z] at b96; exact absurd b96 (by decide))
        have hxa : kA (xK X o) s < (x6n + 1 + i) := by
          have h0 := b91
          rw [ok.1, i32_le (by omega) (by omega)] at h0; omega
        have hKt : ((xK (xSetK X o (kLog (xK X o) s (((xK X o).2.1 s).take ((x6n + 1 + i) - kA (xK X o) s - 1)))) o).2.1 s).length = (x6n + 1 + i) - kA (xK X o) s - 1 := by
          rw [xK_same]
          show (if s = s then _ else _ : List ENT).length = _
          rw [if_pos rfl, List.length_take, Nat.min_eq_left (by omega)]
        have hKl : (kLog (xK X o) s (((xK X o).2.1 s).take ((x6n + 1 + i) - kA (xK X o) s - 1))).2.1 s = ((xK X o).2.1 s).take ((x6n + 1 + i) - kA (xK X o) s - 1) := if_pos rfl
        refine AT.aload_n M_214 rfl rfl ?_
        refine AT.r10_18 M_214 rfl h2 h4 ?_
        refine AT.iload_n M_214 rfl rfl ?_
        refine AT.iload M_214 rfl rfl ?_
        refine AT.aload_n M_214 rfl rfl ?_
        refine AT.r10_13 M_214 rfl h2 h4 ?_
        refine AT.iload_n M_214 rfl rfl ?_
        refine AT.ra_18_0 M_214 rfl rfl h2 h4 (by assumption) ?_
        refine AT.isub M_214 rfl rfl ?_
        refine AT.iconst M_214 rfl (v := 1) (by decide) ?_
        refine AT.isub M_214 rfl rfl ?_
        rw [show Int32.ofNat (x6n + 1 + i) - (xK X o).1 18 s 0 - 1 = Int32.ofNat ((x6n + 1 + i) - kA (xK X o) s - 1) from by rw [ok.1, i32_sub0 (by omega), i32_pred (by omega)]]
        refine AT.rs_siz (l' := ((xK X o).2.1 s).take ((x6n + 1 + i) - kA (xK X o) s - 1)) M_214 rfl rfl h2 h4 hs (by rw [List.length_take, Nat.min_eq_left (by omega)]) (by rw [List.length_take]; omega) (fun j' u hu k hk => ?_) ?_
        · rw [List.getElem?_take] at hu
          split at hu
          · exact hlr.2.2.2.2.2.2 j' u hu k hk
          · cases hu
        skip
        refine AT.aload_n M_214 rfl rfl ?_
        refine AT.iload_n M_214 rfl rfl ?_
        refine AT.aload_n M_214 rfl rfl ?_
        refine AT.r10_24 M_214 rfl h2 h4 ?_
        refine AT.bipush M_214 rfl (v := 8) (by decide) ?_
        refine AT.iload M_214 rfl rfl ?_
        refine AT.bipush M_214 rfl (v := 7) (by decide) ?_
        refine AT.imul M_214 rfl rfl ?_
        refine AT.iadd M_214 rfl rfl ?_
        refine AT.iload M_214 rfl rfl ?_
        refine AT.cv5w M_214 rfl M_185 rfl (Nat.le_of_ble_eq_true rfl) (xKd.of (sh_st h2 h4)) (by decide) (c_185 (X := xSetK X o (kLog (xK X o) s (((xK X o).2.1 s).take ((x6n + 1 + i) - kA (xK X o) s - 1)))) (at0 := 8 + 7 * i) (ww := e) h2 h4 hs (hR s hs).1 (by have := (hR s hs).2; show dR (xD X) o s < _; omega) (by rw [hKt]; omega) (by rw [Int32.ofNat_add, Nat.mul_comm, Int32.ofNat_mul]; rfl) (by omega) (fun Z hZ _ => src.loc (f := 40) (fi := fun _ => 0) (fj := fun q => 8 + 7 * i + q) (sh_told h2 h4) (by omega) (by omega) (fun q hq => lo_told h2 h4 (by omega)) (fun q hq => (hZ.1 40 0 _ (by omega)).trans ((hT _ (by omega)).trans ((mRow5 h5).2.2 i e he hi4 q hq))))) (fun Y hc127 => ?_) (Nat.le_of_ble_eq_true rfl) rfl
        obtain ⟨r1, k1⟩ := hc127
        rw [hKt, eWith_self, xK_same, kLog_idem, hKl] at r1
        have hacc := kAcc_eq (e := e) ok.1 (by omega) hxa hxl hH
        rw [← hacc] at r1
        have r2 : rRel0 o m 0 0 X Y (kAcc (xK X o) s (Int32.ofNat (x6n + 1 + i)) e) := (rRel0.set o m X _).tr (r1.more (by omega))
        have k2 : rSm o X Y := k1.sm
        refine AT.iinc7 M_214 rfl rfl (i32_succ _) ?_
        refine AT.goto M_214 rfl ?_
        have ha2 := kAcc_ok (e := e) ok hxl (by omega) (hE e (by rw [List.mem_iff_getElem?]; exact ⟨i, he⟩)) hA.1
        refine l_214 h2 h4 hs h5 h6 h9 hb4 hm hM hE es (i + 1) Y x6 _ _ hes.2 (by omega) (by rw [r2.k]; exact ha2.1) (fun j hj => hT.at k2 hj) (r2.ok (by omega) hR) ?_ ?_ ?_ (fun Z y8 y9 z1 z2 => hk Z y8 y9 ?_ (k2.tr z2))
        · rw [r2.k, show x6n + 1 + (i + 1) = (x6n + 1 + i) + 1 by omega, ← i32_suc1]; exact hA.2
        · rw [r2.k, (kAcc_C _ _ _ _ _).1]; have := ha2.2.1; omega
        · rw [r2.k]; have := ha2.2.2; omega
        · rw [r2.k, show x6n + 1 + (i + 1) = (x6n + 1 + i) + 1 by omega, ← i32_suc1] at z1
          exact r2.tr z1
      · obtain ⟨e', hx⟩ := (sHasE_some ok.wf).mp (bI_ne0.mp b96)
        refine AT.aload_n M_214 rfl rfl ?_
        refine AT.iload_n M_214 rfl rfl ?_
        refine AT.iload M_214 rfl rfl ?_
        refine AT.iconst M_214 rfl (v := 0) (by decide) ?_
        refine AT.cv4i M_214 rfl M_190 rfl (Nat.le_of_ble_eq_true rfl) (xKd.of (sh_st h2 h4)) (by decide) (c_190 h2 h4 hs hx ok.wf (c := 0) (by omega) rfl) ?_ (Nat.le_of_ble_eq_true rfl) rfl
        refine AT.iload M_214 rfl rfl ?_
        refine AT.icmp_ne M_214 rfl (fun b103 => ?_) (fun b103 => ?_)
        · have hH : sHas (xK X o) s (Int32.ofNat (x6n + 1 + i)) (e 0) = false := by
            unfold sHas
            rw [hx]
            exact decide_eq_false b103
          have hxa : kA (xK X o) s < (x6n + 1 + i) := by
            have h0 := b91
            rw [ok.1, i32_le (by omega) (by omega)] at h0; omega
          have hKt : ((xK (xSetK X o (kLog (xK X o) s (((xK X o).2.1 s).take ((x6n + 1 + i) - kA (xK X o) s - 1)))) o).2.1 s).length = (x6n + 1 + i) - kA (xK X o) s - 1 := by
            rw [xK_same]
            show (if s = s then _ else _ : List ENT).length = _
            rw [if_pos rfl, List.length_take, Nat.min_eq_left (by omega)]
          have hKl : (kLog (xK X o) s (((xK X o).2.1 s).take ((x6n + 1 + i) - kA (xK X o) s - 1))).2.1 s = ((xK X o).2.1 s).take ((x6n + 1 + i) - kA (xK X o) s - 1) := if_pos rfl
          refine AT.aload_n M_214 rfl rfl ?_
          refine AT.r10_18 M_214 rfl h2 h4 ?_
          refine AT.iload_n M_214 rfl rfl ?_
          refine AT.iload M_214 rfl rfl ?_
          refine AT.aload_n M_214 rfl rfl ?_
          refine AT.r10_13 M_214 rfl h2 h4 ?_
          refine AT.iload_n M_214 rfl rfl ?_
          refine AT.ra_18_0 M_214 rfl rfl h2 h4 (by assumption) ?_
          refine AT.isub M_214 rfl rfl ?_
          refine AT.iconst M_214 rfl (v := 1) (by decide) ?_
          refine AT.isub M_214 rfl rfl ?_
          rw [show Int32.ofNat (x6n + 1 + i) - (xK X o).1 18 s 0 - 1 = Int32.ofNat ((x6n + 1 + i) - kA (xK X o) s - 1) from by rw [ok.1, i32_sub0 (by omega), i32_pred (by omega)]]
          refine AT.rs_siz (l' := ((xK X o).2.1 s).take ((x6n + 1 + i) - kA (xK X o) s - 1)) M_214 rfl rfl h2 h4 hs (by rw [List.length_take, Nat.min_eq_left (by omega)]) (by rw [List.length_take]; omega) (fun j' u hu k hk => ?_) ?_
          · rw [List.getElem?_take] at hu
            split at hu
            · exact hlr.2.2.2.2.2.2 j' u hu k hk
            · cases hu
          skip
          refine AT.aload_n M_214 rfl rfl ?_
          refine AT.iload_n M_214 rfl rfl ?_
          refine AT.aload_n M_214 rfl rfl ?_
          refine AT.r10_24 M_214 rfl h2 h4 ?_
          refine AT.bipush M_214 rfl (v := 8) (by decide) ?_
          refine AT.iload M_214 rfl rfl ?_
          refine AT.bipush M_214 rfl (v := 7) (by decide) ?_
          refine AT.imul M_214 rfl rfl ?_
          refine AT.iadd M_214 rfl rfl ?_
          refine AT.iload M_214 rfl rfl ?_
          refine AT.cv5w M_214 rfl M_185 rfl (Nat.le_of_ble_eq_true rfl) (xKd.of (sh_st h2 h4)) (by decide) (c_185 (X := xSetK X o (kLog (xK X o) s (((xK X o).2.1 s).take ((x6n + 1 + i) - kA (xK X o) s - 1)))) (at0 := 8 + 7 * i) (ww := e) h2 h4 hs (hR s hs).1 (by have := (hR s hs).2; show dR (xD X) o s < _; omega) (by rw [hKt]; omega) (by rw [Int32.ofNat_add, Nat.mul_comm, Int32.ofNat_mul]; rfl) (by omega) (fun Z hZ _ => src.loc (f := 40) (fi := fun _ => 0) (fj := fun q => 8 + 7 * i + q) (sh_told h2 h4) (by omega) (by omega) (fun q hq => lo_told h2 h4 (by omega)) (fun q hq => (hZ.1 40 0 _ (by omega)).trans ((hT _ (by omega)).trans ((mRow5 h5).2.2 i e he hi4 q hq))))) (fun Y hc127 => ?_) (Nat.le_of_ble_eq_true rfl) rfl
          obtain ⟨r1, k1⟩ := hc127
          rw [hKt, eWith_self, xK_same, kLog_idem, hKl] at r1
          have hacc := kAcc_eq (e := e) ok.1 (by omega) hxa hxl hH
          rw [← hacc] at r1
          have r2 : rRel0 o m 0 0 X Y (kAcc (xK X o) s (Int32.ofNat (x6n + 1 + i)) e) := (rRel0.set o m X _).tr (r1.more (by omega))
          have k2 : rSm o X Y := k1.sm
          refine AT.iinc7 M_214 rfl rfl (i32_succ _) ?_
          refine AT.goto M_214 rfl ?_
          have ha2 := kAcc_ok (e := e) ok hxl (by omega) (hE e (by rw [List.mem_iff_getElem?]; exact ⟨i, he⟩)) hA.1
          refine l_214 h2 h4 hs h5 h6 h9 hb4 hm hM hE es (i + 1) Y x6 _ _ hes.2 (by omega) (by rw [r2.k]; exact ha2.1) (fun j hj => hT.at k2 hj) (r2.ok (by omega) hR) ?_ ?_ ?_ (fun Z y8 y9 z1 z2 => hk Z y8 y9 ?_ (k2.tr z2))
          · rw [r2.k, show x6n + 1 + (i + 1) = (x6n + 1 + i) + 1 by omega, ← i32_suc1]; exact hA.2
          · rw [r2.k, (kAcc_C _ _ _ _ _).1]; have := ha2.2.1; omega
          · rw [r2.k]; have := ha2.2.2; omega
          · rw [r2.k, show x6n + 1 + (i + 1) = (x6n + 1 + i) + 1 by omega, ← i32_suc1] at z1
            exact r2.tr z1
        · refine AT.goto M_214 rfl ?_
          refine AT.iinc7 M_214 rfl rfl (i32_succ _) ?_
          refine AT.goto M_214 rfl ?_
          have hacc : kAcc (xK X o) s (Int32.ofNat (x6n + 1 + i)) e = xK X o := if_pos (Or.inr (by unfold sHas; rw [hx]; exact decide_eq_true (Classical.not_not.mp b103)))
          have r2 : rRel0 o m 0 0 X X (kAcc (xK X o) s (Int32.ofNat (x6n + 1 + i)) e) := by rw [hacc]; exact rRel0.rf o m X
          have k2 := rSm.rf o X
          have ha2 := kAcc_ok (e := e) ok hxl (by omega) (hE e (by rw [List.mem_iff_getElem?]; exact ⟨i, he⟩)) hA.1
          refine l_214 h2 h4 hs h5 h6 h9 hb4 hm hM hE es (i + 1) X x6 _ _ hes.2 (by omega) (by rw [r2.k]; exact ha2.1) (fun j hj => hT.at k2 hj) (r2.ok (by omega) hR) ?_ ?_ ?_ (fun Z y8 y9 z1 z2 => hk Z y8 y9 ?_ (k2.tr z2))
          · rw [r2.k, show x6n + 1 + (i + 1) = (x6n + 1 + i) + 1 by omega, ← i32_suc1]; exact hA.2
          · rw [r2.k, (kAcc_C _ _ _ _ _).1]; have := ha2.2.1; omega
          · rw [r2.k]; have := ha2.2.2; omega
          · rw [r2.k, show x6n + 1 + (i + 1) = (x6n + 1 + i) + 1 by omega, ← i32_suc1] at z1
            exact r2.tr z1
