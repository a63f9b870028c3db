/-! ===== THE REFERENCE: a message arrives ===== -/
theorem kEnter_no {K : KK} {s : Nat} {w : MSG} (h : ¬ (K.1 5 s 0 < w.1 4 ∧ sBears w = true)) : kEnter K s w = K := if_neg h
theorem e_212 {X : XS} {o s : Nat} (h2 : 2 ≤ o) (h4 : o < 4) (hs : s < 7) {w : MSG} {Q : PO → XS → Prop} (hT : uTold X o w) (h01 : w.1 1 = 2 → w.1 5 = 0 ∨ w.1 5 = 1) (hk : ∀ z7 : Int32, AT 212 46 [some (.ref (bB o)), some (.int (Int32.ofNat s)), some (.int (w.1 2)), some (.int (w.1 4)), some (.int (mRow w 4)), some (.int (mRow w 5)), some (.int (w.1 1)), some (.int z7), none, none] [] (xSetK X o (kEnter (xK X o) s w)) Q) : AT 212 0 [some (.ref (bB o)), some (.int (Int32.ofNat s)), some (.int (w.1 2)), some (.int (w.1 4)), some (.int (mRow w 4)), some (.int (mRow w 5)), none, none, none, none] [] X Q := by
  refine AT.aload_n M_212 rfl rfl ?_
  refine AT.r10_24 M_212 rfl h2 h4 ?_
  refine AT.iconst M_212 rfl (v := 0) (by decide) ?_
  refine AT.ra_told M_212 rfl (j := 0) rfl h2 h4 (by omega) ?_
  rw [show dV (xD X) o 40 0 0 = w.1 1 from hT 0 (by omega)]
  refine AT.ist6 M_212 rfl rfl ?_
  refine AT.iload M_212 rfl rfl ?_
  refine AT.iconst M_212 rfl (v := 1) (by decide) ?_
  refine AT.icmp_eq M_212 rfl (fun b7 => ?_) (fun b7 => ?_)
  · refine AT.iconst M_212 rfl (v := 1) (by decide) ?_
    refine AT.goto M_212 rfl ?_
    refine AT.ist7 M_212 rfl rfl ?_
    refine AT.iload M_212 rfl rfl ?_
    refine AT.if_ne M_212 rfl (fun b19 => ?_) (fun b19 => absurd (by decide) b19)
    have hb : sBears w = false := by unfold sBears; simp [b7]
    have e : xSetK X o (kEnter (xK X o) s w) = X := by rw [kEnter_no (fun z => by rw [hb] at z; exact absurd z.2 (by decide))]; exact xSetK_self _ _
    rw [e] at hk
    exact hk _
  · refine AT.iload M_212 rfl rfl ?_
    refine AT.iconst M_212 rfl (v := 2) (by decide) ?_
    refine AT.icmp_ne M_212 rfl (fun b10 => ?_) (fun b10 => ?_)
    · refine AT.iconst M_212 rfl (v := 0) (by decide) ?_
      refine AT.ist7 M_212 rfl rfl ?_
      refine AT.iload M_212 rfl rfl ?_
      refine AT.if_ne M_212 rfl (fun b19 => absurd b19 (by decide)) (fun b19 => ?_)
      refine AT.iload_n M_212 rfl rfl ?_
      refine AT.aload_n M_212 rfl rfl ?_
      refine AT.r10_3 M_212 rfl h2 h4 ?_
      refine AT.iload_n M_212 rfl rfl ?_
      refine AT.ra_5 M_212 rfl rfl h2 h4 (by assumption) ?_
      refine AT.icmp_le M_212 rfl (fun b25 => ?_) (fun b25 => ?_)
      · have e : xSetK X o (kEnter (xK X o) s w) = X := by rw [kEnter_no (fun z => absurd z.1 (Int32.not_lt.mpr b25))]; exact xSetK_self _ _
        rw [e] at hk
        exact hk _
      · refine AT.aload_n M_212 rfl rfl ?_
        refine AT.r10_3 M_212 rfl h2 h4 ?_
        refine AT.iload_n M_212 rfl rfl ?_
        refine AT.iload_n M_212 rfl rfl ?_
        refine AT.rs_5 M_212 rfl rfl h2 h4 (by assumption) ?_
        try simp only [xK_same, xSetK_idem, xD_setK]
        refine AT.aload_n M_212 rfl rfl ?_
        refine AT.r10_4 M_212 rfl h2 h4 ?_
        refine AT.iload_n M_212 rfl rfl ?_
        refine AT.iconst M_212 rfl (v := (-1)) (by decide) ?_
        refine AT.rs_6 M_212 rfl rfl h2 h4 (by assumption) ?_
        try simp only [xK_same, xSetK_idem, xD_setK]
        refine AT.aload_n M_212 rfl rfl ?_
        refine AT.r10_5 M_212 rfl h2 h4 ?_
        refine AT.iload_n M_212 rfl rfl ?_
        refine AT.iconst M_212 rfl (v := 0) (by decide) ?_
        refine AT.rs_12 M_212 rfl rfl h2 h4 (by assumption) ?_
        try simp only [xK_same, xSetK_idem, xD_setK]
        refine AT.aload_n M_212 rfl rfl ?_
        refine AT.r10_6 M_212 rfl h2 h4 ?_
        refine AT.iload_n M_212 rfl rfl ?_
        refine AT.iconst M_212 rfl (v := (-1)) (by decide) ?_
        refine AT.rs_13 M_212 rfl rfl h2 h4 (by assumption) ?_
        try simp only [xK_same, xSetK_idem, xD_setK]
        have hb : sBears w = true := by unfold sBears; simp [b7, b10]
        rw [show (kEnter (xK X o) s w) = kTerm (xK X o) s (w.1 4) from if_pos ⟨Int32.not_le.mp b25, hb⟩] at hk
        exact hk _
    · refine AT.iload M_212 rfl rfl ?_
      refine AT.iconst M_212 rfl (v := 1) (by decide) ?_
      refine AT.icmp_ne M_212 rfl (fun b13 => ?_) (fun b13 => ?_)
      · refine AT.iconst M_212 rfl (v := 0) (by decide) ?_
        refine AT.ist7 M_212 rfl rfl ?_
        refine AT.iload M_212 rfl rfl ?_
        refine AT.if_ne M_212 rfl (fun b19 => absurd b19 (by decide)) (fun b19 => ?_)
        refine AT.iload_n M_212 rfl rfl ?_
        refine AT.aload_n M_212 rfl rfl ?_
        refine AT.r10_3 M_212 rfl h2 h4 ?_
        refine AT.iload_n M_212 rfl rfl ?_
        refine AT.ra_5 M_212 rfl rfl h2 h4 (by assumption) ?_
        refine AT.icmp_le M_212 rfl (fun b25 => ?_) (fun b25 => ?_)
        · have e : xSetK X o (kEnter (xK X o) s w) = X := by rw [kEnter_no (fun z => absurd z.1 (Int32.not_lt.mpr b25))]; exact xSetK_self _ _
          rw [e] at hk
          exact hk _
        · refine AT.aload_n M_212 rfl rfl ?_
          refine AT.r10_3 M_212 rfl h2 h4 ?_
          refine AT.iload_n M_212 rfl rfl ?_
          refine AT.iload_n M_212 rfl rfl ?_
          refine AT.rs_5 M_212 rfl rfl h2 h4 (by assumption) ?_
          try simp only [xK_same, xSetK_idem, xD_setK]
          refine AT.aload_n M_212 rfl rfl ?_
          refine AT.r10_4 M_212 rfl h2 h4 ?_
          refine AT.iload_n M_212 rfl rfl ?_
          refine AT.iconst M_212 rfl (v := (-1)) (by decide) ?_
          refine AT.rs_6 M_212 rfl rfl h2 h4 (by assumption) ?_
          try simp only [xK_same, xSetK_idem, xD_setK]
          refine AT.aload_n M_212 rfl rfl ?_
          refine AT.r10_5 M_212 rfl h2 h4 ?_
          refine AT.iload_n M_212 rfl rfl ?_
          refine AT.iconst M_212 rfl (v := 0) (by decide) ?_
          refine AT.rs_12 M_212 rfl rfl h2 h4 (by assumption) ?_
          try simp only [xK_same, xSetK_idem, xD_setK]
          refine AT.aload_n M_212 rfl rfl ?_
          refine AT.r10_6 M_212 rfl h2 h4 ?_
          refine AT.iload_n M_212 rfl rfl ?_
          refine AT.iconst M_212 rfl (v := (-1)) (by decide) ?_
          refine AT.rs_13 M_212 rfl rfl h2 h4 (by assumption) ?_
          try simp only [xK_same, xSetK_idem, xD_setK]
          have e5 : mRow w 4 = w.1 5 := if_pos (Or.inl (Classical.not_not.mp b10))
          have hb : sBears w = true := by
            have b9 := Classical.not_not.mp b10
            have h0 : w.1 5 = 0 := (h01 b9).resolve_right (fun z => b13 (by rw [e5]; exact z))
            unfold sBears; simp [b9, h0]
          rw [show (kEnter (xK X o) s w) = kTerm (xK X o) s (w.1 4) from if_pos ⟨Int32.not_le.mp b25, hb⟩] at hk
          exact hk _
      · refine AT.iconst M_212 rfl (v := 1) (by decide) ?_
        refine AT.goto M_212 rfl ?_
        refine AT.ist7 M_212 rfl rfl ?_
        refine AT.iload M_212 rfl rfl ?_
        refine AT.if_ne M_212 rfl (fun b19 => ?_) (fun b19 => absurd (by decide) b19)
        have e5 : mRow w 4 = w.1 5 := if_pos (Or.inl (Classical.not_not.mp b10))
        have hb : sBears w = false := by
          have b9 := Classical.not_not.mp b10
          have b8 := Classical.not_not.mp b13
          rw [e5] at b8
          unfold sBears; simp [b9, b8]
        have e : xSetK X o (kEnter (xK X o) s w) = X := by rw [kEnter_no (fun z => by rw [hb] at z; exact absurd z.2 (by decide))]; exact xSetK_self _ _
        rw [e] at hk
        exact hk _
theorem c_212 {X : XS} {o s : Nat} (h2 : 2 ≤ o) (h4 : o < 4) (hs : s < 7) {f m n : Nat} {w : MSG} (hk : sOk (xK X o) s) (hB : kA (xK X o) s + ((xK X o).2.1 s).length + 1 < 400000) (hR : rOkR X o) (hap : aPr X o) (hn : ((xK X o).2.1 s).length + 1 ≤ m) (hM : m ≤ 399980) (hnm : n ≤ m) (w3 : w.1 3 = Int32.ofNat s) (w2 : w.1 2 = Int32.ofNat f) (hf7 : f < 7) (hT : uTold X o w)
    (hkd : w.1 1 = 1 ∨ w.1 1 = 2 ∨ w.1 1 = 3 ∨ w.1 1 = 4 ∨ w.1 1 = 5 ∨ w.1 1 = 6 ∨ w.1 1 = 7 ∨ w.1 1 = 8) (hrk : mRk w) (h01 : w.1 5 = 0 ∨ w.1 5 = 1) (hgo : goOk n (kEnter (xK X o) s w) s f w) : RU 212 [some (.ref (bB o)), some (.int (Int32.ofNat s)), some (.int (w.1 2)), some (.int (w.1 4)), some (.int (mRow w 4)), some (.int (mRow w 5)), none, none, none, none] X none (fun Z => rRel o m (kGoN (kEnter (xK X o) s w) s w) (kGoN (kEnter (xK X o) s w) s w * 7) X Z (kGo (kEnter (xK X o) s w) s f w)) := by
  refine e_212 h2 h4 hs hT (fun _ => h01) (fun z7 => ?_)
  have hSt : ∀ i, sSame (xK X o) (kEnter (xK X o) s w) i := fun i => sSame.enter _ _ _ _
  have q1 : rRel o m 0 0 X (xSetK X o (kEnter (xK X o) s w)) (kEnter (xK X o) s w) := rRel.set hap (fun i hi => kEnter_1 (by omega))
  have ok1 : sOk (xK (xSetK X o (kEnter (xK X o) s w)) o) s := by rw [xK_same]; exact (hSt s).okS hk (kEnter_1 (by omega))
  have hB1 : kA (xK (xSetK X o (kEnter (xK X o) s w)) o) s + ((xK (xSetK X o (kEnter (xK X o) s w)) o).2.1 s).length + 1 < 400000 := by rw [xK_same, (hSt s).1, (hSt s).ka]; exact hB
  have hn1 : ((xK (xSetK X o (kEnter (xK X o) s w)) o).2.1 s).length + 1 ≤ m := by rw [xK_same, (hSt s).1]; exact hn
  have hT5 : uTold (xSetK X o (kEnter (xK X o) s w)) o w := hT
  rcases hkd with h1 | h1 | h1 | h1 | h1 | h1 | h1 | h1
  · skip
    have ea : mRow w 4 = w.1 6 := by unfold mRow; rw [h1]; rfl
    have eb : mRow w 5 = w.1 7 := by unfold mRow; rw [h1]; rfl
    rw [ea, eb, show (some (Value.int (w.1 1))) = some (.int 1) from by rw [h1]]
    have hg := g_212_1 (X := (xSetK X o (kEnter (xK X o) s w))) (m := m) (z7 := z7) h2 h4 hs ok1 hB1 hR q1.2.2 hn1 hM w3 w2 hf7 h1 
    rw [xK_same] at hg
    exact AT.mono hg (fun o' Z z => ⟨z.1, (q1.tr z.2).up (by omega) (by omega)⟩)
  · skip
    have ea : mRow w 4 = w.1 5 := by unfold mRow; rw [h1]; rfl
    have eb : mRow w 5 = w.1 7 := by unfold mRow; rw [h1]; rfl
    rw [ea, eb, show (some (Value.int (w.1 1))) = some (.int 2) from by rw [h1]]
    have hg := g_212_2 (X := (xSetK X o (kEnter (xK X o) s w))) (m := m) (z7 := z7) h2 h4 hs ok1 hB1 hR q1.2.2 hn1 hM w3 w2 hf7 h1 
    rw [xK_same] at hg
    exact AT.mono hg (fun o' Z z => ⟨z.1, (q1.tr z.2).up (by omega) (by omega)⟩)
  · skip
    have ea : mRow w 4 = w.1 6 := by unfold mRow; rw [h1]; rfl
    have eb : mRow w 5 = w.1 7 := by unfold mRow; rw [h1]; rfl
    rw [ea, eb, show (some (Value.int (w.1 1))) = some (.int 3) from by rw [h1]]
    have hg := g_212_3 (X := (xSetK X o (kEnter (xK X o) s w))) (m := m) (z7 := z7) h2 h4 hs ok1 hB1 hR q1.2.2 hn1 hM w3 w2 hf7 h1 
    rw [xK_same] at hg
    exact AT.mono hg (fun o' Z z => ⟨z.1, (q1.tr z.2).up (by omega) (by omega)⟩)
  · skip
    have ea : mRow w 4 = w.1 5 := by unfold mRow; rw [h1]; rfl
    have eb : mRow w 5 = w.1 7 := by unfold mRow; rw [h1]; rfl
    rw [ea, eb, show (some (Value.int (w.1 1))) = some (.int 4) from by rw [h1]]
    have hg := g_212_4 (X := (xSetK X o (kEnter (xK X o) s w))) (m := m) (z7 := z7) h2 h4 hs ok1 hB1 hR q1.2.2 hn1 hM w3 w2 hf7 h1 
    rw [xK_same] at hg
    exact AT.mono hg (fun o' Z z => ⟨z.1, (q1.tr z.2).up (by omega) (by omega)⟩)
  · skip
    obtain ⟨x6, c8, hme, hx6, hgA0⟩ := hgo.1 h1
    have hb4 := hrk.1 h1
    have hgA := hgA0
    rw [← xK_same X o (kEnter (xK X o) s w)] at hgA
    have ea : mRow w 4 = w.1 6 := by unfold mRow; rw [h1]; rfl
    have eb : mRow w 5 = w.1 7 := by unfold mRow; rw [h1]; rfl
    rw [ea, eb, show (some (Value.int (w.1 1))) = some (.int 5) from by rw [h1]]
    have hg := g_212_5 (X := (xSetK X o (kEnter (xK X o) s w))) (m := m) (z7 := z7) h2 h4 hs ok1 hB1 hR q1.2.2 hn1 hM w3 w2 hf7 h1 hT5 hme hb4 (by omega) hgA
    rw [xK_same] at hg
    exact AT.mono hg (fun o' Z z => ⟨z.1, (q1.tr z.2).up (by omega) (by omega)⟩)
  · skip
    have hg6 := hgo.2 h1
    rw [← xK_same X o (kEnter (xK X o) s w)] at hg6
    have ea : mRow w 4 = w.1 6 := by unfold mRow; rw [h1]; rfl
    have eb : mRow w 5 = w.1 5 := by unfold mRow; rw [h1]; rfl
    rw [ea, eb, show (some (Value.int (w.1 1))) = some (.int 6) from by rw [h1]]
    have hg := g_212_6 (X := (xSetK X o (kEnter (xK X o) s w))) (m := m) (z7 := z7) h2 h4 hs ok1 hB1 hR q1.2.2 hn1 hM w3 w2 hf7 h1 hg6
    rw [xK_same] at hg
    exact AT.mono hg (fun o' Z z => ⟨z.1, (q1.tr z.2).up (by omega) (by omega)⟩)
  · skip
    obtain ⟨r, hr, hr0⟩ := hrk.2 h1
    have ea : mRow w 4 = w.1 6 := by unfold mRow; rw [h1]; rfl
    have eb : mRow w 5 = r 1 := by unfold mRow; rw [h1, hr]; rfl
    rw [ea, eb, show (some (Value.int (w.1 1))) = some (.int 7) from by rw [h1]]
    have hg := g_212_7 (X := (xSetK X o (kEnter (xK X o) s w))) (m := m) (z7 := z7) h2 h4 hs ok1 hB1 hR q1.2.2 hn1 hM w3 w2 hf7 h1 hT5 hr hr0
    rw [xK_same] at hg
    exact AT.mono hg (fun o' Z z => ⟨z.1, (q1.tr z.2).up (by omega) (by omega)⟩)
  · skip
    have ea : mRow w 4 = w.1 6 := by unfold mRow; rw [h1]; rfl
    have eb : mRow w 5 = w.1 7 := by unfold mRow; rw [h1]; rfl
    rw [ea, eb, show (some (Value.int (w.1 1))) = some (.int 8) from by rw [h1]]
    have hg := g_212_8 (X := (xSetK X o (kEnter (xK X o) s w))) (m := m) (z7 := z7) h2 h4 hs ok1 hB1 hR q1.2.2 hn1 hM w3 w2 hf7 h1 
    rw [xK_same] at hg
    exact AT.mono hg (fun o' Z z => ⟨z.1, (q1.tr z.2).up (by omega) (by omega)⟩)
theorem c_210 {X : XS} {o s : Nat} (h2 : 2 ≤ o) (h4 : o < 4) (hs : s < 7) {f m n j : Nat} {w : MSG} (hk : sOk (xK X o) s) (hB : kA (xK X o) s + ((xK X o).2.1 s).length + 1 < 400000) (hR : rOkR X o) (hap : aPr X o) (hn : ((xK X o).2.1 s).length + 1 ≤ m) (hM : m ≤ 399980) (hnm : n ≤ m) (hj : j < (xK X o).2.2.length) (hu : (xK X o).2.2[j]? = some w) (w3 : w.1 3 = Int32.ofNat s) (w2 : w.1 2 = Int32.ofNat f) (hf7 : f < 7)
    (hkd : w.1 1 = 1 ∨ w.1 1 = 2 ∨ w.1 1 = 3 ∨ w.1 1 = 4 ∨ w.1 1 = 5 ∨ w.1 1 = 6 ∨ w.1 1 = 7 ∨ w.1 1 = 8) (hrk : mRk w) (h01 : w.1 5 = 0 ∨ w.1 5 = 1) (hsym : sBit ((xK X o).1 30 s 0) f = sBit ((xK X o).1 30 f 0) s) (hgo : goOk n (kEnter (kDrop (xK X o) j) s w) s f w) : RU 210 [some (.ref (bB o)), some (.int (Int32.ofNat j)), none] X (some (.int (bI (kArr (xK X o) s f)))) (fun Z => rRel0 o m (kHandN (xK X o) j s f w) (kHandN (xK X o) j s f w * 7) X Z (kHand (xK X o) j s f w) ∧ aPr Z o) := by
  refine AT.rep (fun hr => ?_)
  have h60 := (hr.choose_spec.2.2.2.2.2.2.1 o h4).1
  have hpo := hr.choose_spec.2.2.2.2.2.2.2.2.2.2.2.2.2.1
  refine AT.aload_n M_210 rfl rfl ?_
  refine AT.r10_23 M_210 rfl h2 h4 ?_
  refine AT.iload_n M_210 rfl rfl ?_
  refine AT.bipush M_210 rfl (v := 36) (by decide) ?_
  refine AT.imul M_210 rfl rfl ?_
  refine AT.aload_n M_210 rfl rfl ?_
  refine AT.r10_24 M_210 rfl h2 h4 ?_
  refine AT.iconst M_210 rfl (v := 0) (by decide) ?_
  refine AT.bipush M_210 rfl (v := 36) (by decide) ?_
  refine AT.acp M_210 rfl rfl (Nat.le_of_ble_eq_true rfl) (n := 36) (p := 36 * j) (q := 0) rfl (by rw [i32_36]) rfl ⟨by omega, by omega, by omega⟩ (Or.inl rfl) (src.loc (f := 41) (fi := fun _ => 0) (fj := fun q => 36 * j + q) (v := fun q => dV (xD X) o 41 0 (36 * j + q)) (sh_post h2 h4) (by omega) (by omega) (fun q hq => lo_post h2 h4 (by omega)) (fun q hq => rfl)) (dst.told h2 h4 (by omega)) ?_
  have hT0 : uTold (xSetD X (dRowV (xD X) o 40 0 (vPut (dV (xD X) o 40 0) 0 36 (fun q => dV (xD X) o 41 0 (36 * j + q))))) o w := fun c hc => by
    show (if o = o ∧ 40 = 40 ∧ 0 = 0 then vPut (dV (xD X) o 40 0) 0 36 _ c else _) = _
    rw [if_pos ⟨rfl, rfl, rfl⟩]
    unfold vPut
    rw [if_pos (by omega), Nat.sub_zero]
    exact hpo o h2 h4 j w hu c hc
  have r0 : rRel0 o m 0 0 X (xSetD X (dRowV (xD X) o 40 0 (vPut (dV (xD X) o 40 0) 0 36 (fun q => dV (xD X) o 41 0 (36 * j + q))))) (xK X o) := (rRel0.rf o m X).row 40 0 _
  have a0 : aPr (xSetD X (dRowV (xD X) o 40 0 (vPut (dV (xD X) o 40 0) 0 36 (fun q => dV (xD X) o 41 0 (36 * j + q))))) o := fun i hi => (if_neg (by omega)).trans (hap i hi)
  refine AT.aload_n M_210 rfl rfl ?_
  refine AT.iload_n M_210 rfl rfl ?_
  refine AT.cv2w M_210 rfl M_211 rfl (Nat.le_of_ble_eq_true rfl) (xKd.of (sh_st h2 h4)) (by decide) (c_211 (X := (xSetD X (dRowV (xD X) o 40 0 (vPut (dV (xD X) o 40 0) 0 36 (fun q => dV (xD X) o 41 0 (36 * j + q)))))) (m := m) h2 h4 hj) (fun Y hc12 => ?_) (Nat.le_of_ble_eq_true rfl) rfl
  obtain ⟨r1, k1⟩ := hc12
  have r2 := r1.sm k1 a0 (fun i hi => rfl)
  have hT : uTold Y o w := fun c hc => hT0.at k1 hc
  have e9 : xK Y o = kDrop (xK X o) j := r1.k
  refine AT.aload_n M_210 rfl rfl ?_
  refine AT.r10_24 M_210 rfl h2 h4 ?_
  refine AT.iconst M_210 rfl (v := 2) (by decide) ?_
  refine AT.ra_told M_210 rfl (j := 2) rfl h2 h4 (by omega) ?_
  rw [show dV (xD Y) o 40 0 2 = Int32.ofNat s from (hT 2 (by omega)).trans w3]
  refine AT.ist2 M_210 rfl rfl ?_
  refine AT.aload_n M_210 rfl rfl ?_
  refine AT.r10_2 M_210 rfl h2 h4 ?_
  refine AT.iload_n M_210 rfl rfl ?_
  refine AT.ra_4 M_210 rfl rfl h2 h4 (by assumption) ?_
  refine AT.if_eq M_210 rfl (fun b22 => ?_) (fun b22 => ?_)
  · refine AT.aload_n M_210 rfl rfl ?_
    refine AT.dup M_210 rfl ?_
    refine AT.r10_1 M_210 rfl h2 h4 ?_
    refine AT.iconst M_210 rfl (v := 1) (by decide) ?_
    refine AT.iadd M_210 rfl rfl ?_
    refine AT.w10_1 M_210 rfl h2 h4 ?_
    refine AT.iconst M_210 rfl (v := 0) (by decide) ?_
    refine AT.zret M_210 rfl rfl (by first | exact Or.inl rfl | exact Or.inr rfl | assumption) ?_
    have hA : kArr (xK X o) s f = false := by
      rw [e9] at b22
      have c22 : (xK X o).1 4 s 0 = 0 := b22
      unfold kArr; simp [c22]
    rw [hA, show kHand (xK X o) j s f w = kLose (kDrop (xK X o) j) from if_neg (by rw [hA]; decide), show kHandN (xK X o) j s f w = 0 from if_neg (by rw [hA]; decide)]
    refine ⟨rfl, ?_⟩
    have r3 := rRel.set (n := m) (K := kLose (xK Y o)) r2.2.2 (fun i hi => kSet_ne (by omega))
    have r4 := r2.tr r3
    exact ⟨((r0.tr r4.1).up (by omega) (by omega)).send (by rw [e9]), r4.2.2⟩
  · refine AT.aload_n M_210 rfl rfl ?_
    refine AT.r10_12 M_210 rfl h2 h4 ?_
    refine AT.iload_n M_210 rfl rfl ?_
    refine AT.ra_30 M_210 rfl rfl h2 h4 (by assumption) ?_
    refine AT.aload_n M_210 rfl rfl ?_
    refine AT.r10_24 M_210 rfl h2 h4 ?_
    refine AT.iconst M_210 rfl (v := 1) (by decide) ?_
    refine AT.ra_told M_210 rfl (j := 1) rfl h2 h4 (by omega) ?_
    rw [show dV (xD Y) o 40 0 1 = Int32.ofNat f from (hT 1 (by omega)).trans w2]
    refine AT.ishr M_210 rfl rfl ?_
    refine AT.iconst M_210 rfl (v := 1) (by decide) ?_
    refine AT.iand M_210 rfl rfl ?_
    refine AT.if_eq M_210 rfl (fun b34 => ?_) (fun b34 => ?_)
    · refine AT.aload_n M_210 rfl rfl ?_
      refine AT.iload_n M_210 rfl rfl ?_
      refine AT.aload_n M_210 rfl rfl ?_
      refine AT.r10_24 M_210 rfl h2 h4 ?_
      refine AT.iconst M_210 rfl (v := 1) (by decide) ?_
      refine AT.ra_told M_210 rfl (j := 1) rfl h2 h4 (by omega) ?_
      rw [show dV (xD Y) o 40 0 1 = w.1 2 from hT 1 (by omega)]
      refine AT.aload_n M_210 rfl rfl ?_
      refine AT.r10_24 M_210 rfl h2 h4 ?_
      refine AT.iconst M_210 rfl (v := 3) (by decide) ?_
      refine AT.ra_told M_210 rfl (j := 3) rfl h2 h4 (by omega) ?_
      rw [show dV (xD Y) o 40 0 3 = w.1 4 from hT 3 (by omega)]
      refine AT.aload_n M_210 rfl rfl ?_
      refine AT.r10_24 M_210 rfl h2 h4 ?_
      refine AT.iconst M_210 rfl (v := 4) (by decide) ?_
      refine AT.ra_told M_210 rfl (j := 4) rfl h2 h4 (by omega) ?_
      rw [show dV (xD Y) o 40 0 4 = mRow w 4 from hT 4 (by omega)]
      refine AT.aload_n M_210 rfl rfl ?_
      refine AT.r10_24 M_210 rfl h2 h4 ?_
      refine AT.iconst M_210 rfl (v := 5) (by decide) ?_
      refine AT.ra_told M_210 rfl (j := 5) rfl h2 h4 (by omega) ?_
      rw [show dV (xD Y) o 40 0 5 = mRow w 5 from hT 5 (by omega)]
      refine AT.cv6w M_210 rfl M_212 rfl (Nat.le_of_ble_eq_true rfl) (xKd.of (sh_st h2 h4)) (by decide) (c_212 (X := Y) (m := m) (n := n) h2 h4 hs (by rw [e9]; exact hk) (by rw [e9]; exact hB) (r1.ok (by omega) (r0.ok (by omega) hR)) r2.2.2 (by rw [e9]; exact hn) hM hnm w3 w2 hf7 hT hkd hrk h01 (by rw [e9]; exact hgo)) (fun Y hc61 => ?_) (Nat.le_of_ble_eq_true rfl) rfl
      have r3 := hc61
      rw [e9] at r3
      refine AT.iconst M_210 rfl (v := 1) (by decide) ?_
      refine AT.zret M_210 rfl rfl (by first | exact Or.inl rfl | exact Or.inr rfl | assumption) ?_
      have hA : kArr (xK X o) s f = true := by
        rw [i32_bit hf7, e9] at b34
        rw [e9] at b22
        have c22 : ¬ (xK X o).1 4 s 0 = 0 := b22
        have hb : sBit ((xK X o).1 30 f 0) s = false := hsym.symm.trans (bI_eq0.mp b34)
        unfold kArr; simp [hb, c22]
      rw [hA, show kHand (xK X o) j s f w = kGo (kEnter (kDrop (xK X o) j) s w) s f w from if_pos hA, show kHandN (xK X o) j s f w = kGoN (kEnter (kDrop (xK X o) j) s w) s w from if_pos hA]
      exact ⟨rfl, (r0.tr (r2.tr r3).1).up (by omega) (by omega), r3.2.2⟩
    · refine AT.aload_n M_210 rfl rfl ?_
      refine AT.dup M_210 rfl ?_
      refine AT.r10_1 M_210 rfl h2 h4 ?_
      refine AT.iconst M_210 rfl (v := 1) (by decide) ?_
      refine AT.iadd M_210 rfl rfl ?_
      refine AT.w10_1 M_210 rfl h2 h4 ?_
      refine AT.iconst M_210 rfl (v := 0) (by decide) ?_
      refine AT.zret M_210 rfl rfl (by first | exact Or.inl rfl | exact Or.inr rfl | assumption) ?_
      have hA : kArr (xK X o) s f = false := by
        rw [i32_bit hf7, e9] at b34
        have hb : sBit ((xK X o).1 30 f 0) s = true := hsym.symm.trans (bI_ne0.mp b34)
        unfold kArr; simp [hb]
      rw [hA, show kHand (xK X o) j s f w = kLose (kDrop (xK X o) j) from if_neg (by rw [hA]; decide), show kHandN (xK X o) j s f w = 0 from if_neg (by rw [hA]; decide)]
      refine ⟨rfl, ?_⟩
      have r3 := rRel.set (n := m) (K := kLose (xK Y o)) r2.2.2 (fun i hi => kSet_ne (by omega))
      have r4 := r2.tr r3
      exact ⟨((r0.tr r4.1).up (by omega) (by omega)).send (by rw [e9]), r4.2.2⟩
