/-! ===== THE REFERENCE: asks about all ===== -/
def oI : Option Nat → Int32
  | none => -1
  | some b => Int32.ofNat b
theorem sLdr_oI (K : KK) : sLdr K = oI (sNewL K 7) := by
  unfold sLdr oI
  cases sNewL K 7 <;> rfl
theorem l_222 {o : Nat} (h2 : 2 ≤ o) (h4 : o < 4) : ∀ d q : Nat, q + d = 7 → ∀ X : XS, AT 222 4 [some (.ref (bB o)), some (.int (oI (sNewL (xK X o) q))), some (.int (Int32.ofNat q))] [] X (fun o' Y => o' = .inl (some (.int (sLdr (xK X o)))) ∧ Y = X)
  | 0, q, hq, X => by
    refine AT.iload_n M_222 rfl rfl ?_
    refine AT.bipush M_222 rfl (v := 7) (by decide) ?_
    refine AT.icmp_ge M_222 rfl (fun b6 => ?_) (fun b6 => absurd (by rw [show q = 7 by omega]; exact Int32.le_refl _) b6)
    refine AT.iload_n M_222 rfl rfl ?_
    refine AT.iret M_222 rfl rfl ?_
    rw [sLdr_oI, show q = 7 by omega]
    exact ⟨rfl, rfl⟩
  | d + 1, q, hq, X => by
    cases hN : sNewL (xK X o) q with
    | none =>
      show AT 222 4 [some (.ref (bB o)), some (.int (-1)), some (.int (Int32.ofNat q))] [] X _
      refine AT.iload_n M_222 rfl rfl ?_
      refine AT.bipush M_222 rfl (v := 7) (by decide) ?_
      refine AT.icmp_ge M_222 rfl (fun b6 => absurd ((i32_le (a := 7) (b := q) (by omega) (by omega)).mp b6) (by omega)) (fun b6 => ?_)
      refine AT.aload_n M_222 rfl rfl ?_
      refine AT.r10_5 M_222 rfl h2 h4 ?_
      refine AT.iload_n M_222 rfl rfl ?_
      refine AT.ra_12 M_222 rfl rfl h2 h4 (by omega) ?_
      refine AT.iconst M_222 rfl (v := 3) (by decide) ?_
      refine AT.icmp_ne M_222 rfl (fun b12 => ?_) (fun b12 => ?_)
      · refine AT.iinc2 M_222 rfl rfl (i32_succ _) ?_
        refine AT.goto M_222 rfl ?_
        have h9 := l_222 h2 h4 d (q + 1) (by omega) X
        rw [show sNewL (xK X o) (q + 1) = _ from (sNewL_no b12)] at h9
        rw [hN] at h9
        exact h9
      · refine AT.iload_n M_222 rfl rfl ?_
        refine AT.iconst M_222 rfl (v := (-1)) (by decide) ?_
        refine AT.icmp_eq M_222 rfl (fun b15 => ?_) (fun b15 => absurd rfl b15)
        refine AT.iload_n M_222 rfl rfl ?_
        refine AT.ist1 M_222 rfl rfl ?_
        refine AT.iinc2 M_222 rfl rfl (i32_succ _) ?_
        refine AT.goto M_222 rfl ?_
        have h9 := l_222 h2 h4 d (q + 1) (by omega) X
        rw [show sNewL (xK X o) (q + 1) = _ from (sNewL_0 (Classical.not_not.mp b12) hN)] at h9
        exact h9
    | some b =>
      have hb := sNew_lt hN
      show AT 222 4 [some (.ref (bB o)), some (.int (Int32.ofNat b)), some (.int (Int32.ofNat q))] [] X _
      refine AT.iload_n M_222 rfl rfl ?_
      refine AT.bipush M_222 rfl (v := 7) (by decide) ?_
      refine AT.icmp_ge M_222 rfl (fun b6 => absurd ((i32_le (a := 7) (b := q) (by omega) (by omega)).mp b6) (by omega)) (fun b6 => ?_)
      refine AT.aload_n M_222 rfl rfl ?_
      refine AT.r10_5 M_222 rfl h2 h4 ?_
      refine AT.iload_n M_222 rfl rfl ?_
      refine AT.ra_12 M_222 rfl rfl h2 h4 (by omega) ?_
      refine AT.iconst M_222 rfl (v := 3) (by decide) ?_
      refine AT.icmp_ne M_222 rfl (fun b12 => ?_) (fun b12 => ?_)
      · refine AT.iinc2 M_222 rfl rfl (i32_succ _) ?_
        refine AT.goto M_222 rfl ?_
        have h9 := l_222 h2 h4 d (q + 1) (by omega) X
        rw [show sNewL (xK X o) (q + 1) = _ from (sNewL_no b12)] at h9
        rw [hN] at h9
        exact h9
      · refine AT.iload_n M_222 rfl rfl ?_
        refine AT.iconst M_222 rfl (v := (-1)) (by decide) ?_
        refine AT.icmp_eq M_222 rfl (fun b15 => absurd b15 (i32_m1 (by omega))) (fun b15 => ?_)
        refine AT.aload_n M_222 rfl rfl ?_
        refine AT.r10_3 M_222 rfl h2 h4 ?_
        refine AT.iload_n M_222 rfl rfl ?_
        refine AT.ra_5 M_222 rfl rfl h2 h4 (by omega) ?_
        refine AT.aload_n M_222 rfl rfl ?_
        refine AT.r10_3 M_222 rfl h2 h4 ?_
        refine AT.iload_n M_222 rfl rfl ?_
        refine AT.ra_5 M_222 rfl (s := b) rfl h2 h4 (by omega) ?_
        refine AT.icmp_le M_222 rfl (fun b24 => ?_) (fun b24 => ?_)
        · refine AT.iinc2 M_222 rfl rfl (i32_succ _) ?_
          refine AT.goto M_222 rfl ?_
          have h9 := l_222 h2 h4 d (q + 1) (by omega) X
          rw [show sNewL (xK X o) (q + 1) = _ from (sNewL_2 (Classical.not_not.mp b12) hN b24)] at h9
          exact h9
        · refine AT.iload_n M_222 rfl rfl ?_
          refine AT.ist1 M_222 rfl rfl ?_
          refine AT.iinc2 M_222 rfl rfl (i32_succ _) ?_
          refine AT.goto M_222 rfl ?_
          have h9 := l_222 h2 h4 d (q + 1) (by omega) X
          rw [show sNewL (xK X o) (q + 1) = _ from (sNewL_1 (Classical.not_not.mp b12) hN b24)] at h9
          exact h9
theorem c_222 {X : XS} {o : Nat} (h2 : 2 ≤ o) (h4 : o < 4) : RT 222 [some (.ref (bB o)), none, none] X (some (.int (sLdr (xK X o)))) X := by
  refine AT.iconst M_222 rfl (v := (-1)) (by decide) ?_
  refine AT.ist1 M_222 rfl rfl ?_
  refine AT.iconst M_222 rfl (v := 0) (by decide) ?_
  refine AT.ist2 M_222 rfl rfl ?_
  exact l_222 h2 h4 7 0 rfl X
theorem l_223 {X : XS} {o s : Nat} (h2 : 2 ≤ o) (h4 : o < 4) (hs : s < 7) (hk : sOk (xK X o) s) : ∀ d q : Nat, q + d = 7 → sAllF (sFolP (xK X o) s (sMem (xK X o) s)) q = true → AT 223 2 [some (.ref (bB o)), some (.int (Int32.ofNat s)), some (.int (Int32.ofNat q))] [] X (fun o' Y => o' = .inl (some (.int (bI (sLedP (xK X o) (fun i => sMem (xK X o) i) s)))) ∧ Y = X)
  | 0, q, hq, hA => by
    refine AT.iload_n M_223 rfl rfl ?_
    refine AT.bipush M_223 rfl (v := 7) (by decide) ?_
    refine AT.icmp_ge M_223 rfl (fun b4 => ?_) (fun b4 => absurd (by rw [show q = 7 by omega]; exact Int32.le_refl _) b4)
    refine AT.aload_n M_223 rfl rfl ?_
    refine AT.r10_5 M_223 rfl h2 h4 ?_
    refine AT.iload_n M_223 rfl rfl ?_
    refine AT.ra_12 M_223 rfl rfl h2 h4 (by assumption) ?_
    refine AT.iconst M_223 rfl (v := 3) (by decide) ?_
    refine AT.icmp_ne M_223 rfl (fun b33 => ?_) (fun b33 => ?_)
    · refine AT.iconst M_223 rfl (v := 0) (by decide) ?_
      refine AT.zret M_223 rfl rfl (by first | exact Or.inl rfl | exact Or.inr rfl | assumption) ?_
      have e : q = 7 := by omega
      subst e
      rw [show bI (sLedP (xK X o) (fun i => sMem (xK X o) i) s) = 0 from by unfold sLedP; rw [hA]; simp [bI, b33]]
      exact ⟨rfl, rfl⟩
    · refine AT.iconst M_223 rfl (v := 1) (by decide) ?_
      refine AT.goto M_223 rfl ?_
      refine AT.zret M_223 rfl rfl (by first | exact Or.inl rfl | exact Or.inr rfl | assumption) ?_
      have e : q = 7 := by omega
      subst e
      rw [show bI (sLedP (xK X o) (fun i => sMem (xK X o) i) s) = 1 from by unfold sLedP; rw [hA]; simp [bI, b33]]
      exact ⟨rfl, rfl⟩
  | d + 1, q, hq, hA => by
    refine AT.iload_n M_223 rfl rfl ?_
    refine AT.bipush M_223 rfl (v := 7) (by decide) ?_
    refine AT.icmp_ge M_223 rfl (fun b4 => absurd ((i32_le (a := 7) (b := q) (by omega) (by omega)).mp b4) (by omega)) (fun b4 => ?_)
    refine AT.iload_n M_223 rfl rfl ?_
    refine AT.iload_n M_223 rfl rfl ?_
    refine AT.icmp_eq M_223 rfl (fun b7 => ?_) (fun b7 => ?_)
    · refine AT.iinc2 M_223 rfl rfl (i32_succ _) ?_
      refine AT.goto M_223 rfl ?_
      have hp : (sFolP (xK X o) s (sMem (xK X o) s)) q = true := by unfold sFolP; simp [i32_nat (by omega) (by omega) b7]
      exact l_223 h2 h4 hs hk d (q + 1) (by omega) (sAllF_up hA hp)
    · refine AT.aload_n M_223 rfl rfl ?_
      refine AT.r10_2 M_223 rfl h2 h4 ?_
      refine AT.iload_n M_223 rfl rfl ?_
      refine AT.ra_4 M_223 rfl rfl h2 h4 (by omega) ?_
      refine AT.if_eq M_223 rfl (fun b12 => ?_) (fun b12 => ?_)
      · refine AT.iinc2 M_223 rfl rfl (i32_succ _) ?_
        refine AT.goto M_223 rfl ?_
        have hp : (sFolP (xK X o) s (sMem (xK X o) s)) q = true := by unfold sFolP; simp [b12]
        exact l_223 h2 h4 hs hk d (q + 1) (by omega) (sAllF_up hA hp)
      · refine AT.aload_n M_223 rfl rfl ?_
        refine AT.iload_n M_223 rfl rfl ?_
        refine AT.iload_n M_223 rfl rfl ?_
        refine AT.cv3i M_223 rfl M_196 rfl (Nat.le_of_ble_eq_true rfl) (xKd.of (sh_st h2 h4)) (by decide) (c_196 h2 h4 hs (j := q) (by omega) hk.wf hk.m128) ?_ (Nat.le_of_ble_eq_true rfl) rfl
        refine AT.if_eq M_223 rfl (fun b17 => ?_) (fun b17 => ?_)
        · refine AT.iinc2 M_223 rfl rfl (i32_succ _) ?_
          refine AT.goto M_223 rfl ?_
          have hp : (sFolP (xK X o) s (sMem (xK X o) s)) q = true := by unfold sFolP; simp [bI_eq0.mp b17]
          exact l_223 h2 h4 hs hk d (q + 1) (by omega) (sAllF_up hA hp)
        · refine AT.aload_n M_223 rfl rfl ?_
          refine AT.r10_6 M_223 rfl h2 h4 ?_
          refine AT.iload_n M_223 rfl rfl ?_
          refine AT.ra_13 M_223 rfl rfl h2 h4 (by omega) ?_
          refine AT.iload_n M_223 rfl rfl ?_
          refine AT.icmp_eq M_223 rfl (fun b23 => ?_) (fun b23 => ?_)
          · refine AT.iinc2 M_223 rfl rfl (i32_succ _) ?_
            refine AT.goto M_223 rfl ?_
            have hp : (sFolP (xK X o) s (sMem (xK X o) s)) q = true := by unfold sFolP; simp [b23]
            exact l_223 h2 h4 hs hk d (q + 1) (by omega) (sAllF_up hA hp)
          · refine AT.iconst M_223 rfl (v := 0) (by decide) ?_
            refine AT.zret M_223 rfl rfl (by first | exact Or.inl rfl | exact Or.inr rfl | assumption) ?_
            have hne : ¬ q = s := fun z => b7 (by rw [z])
            have hp : (sFolP (xK X o) s (sMem (xK X o) s)) q = false := by unfold sFolP; simp [hne, b12, bI_ne0.mp b17, b23]
            rw [show bI (sLedP (xK X o) (fun i => sMem (xK X o) i) s) = 0 from by unfold sLedP; rw [sAllF_no hp (by omega), Bool.and_false]; rfl]
            exact ⟨rfl, rfl⟩
theorem c_223 {X : XS} {o s : Nat} (h2 : 2 ≤ o) (h4 : o < 4) (hs : s < 7) (hk : sOk (xK X o) s) : RT 223 [some (.ref (bB o)), some (.int (Int32.ofNat s)), none] X (some (.int (bI (sLedP (xK X o) (fun i => sMem (xK X o) i) s)))) X := by
  refine AT.iconst M_223 rfl (v := 0) (by decide) ?_
  refine AT.ist2 M_223 rfl rfl ?_
  exact l_223 h2 h4 hs hk 7 0 rfl rfl
theorem l_224 {X : XS} {o : Nat} (h2 : 2 ≤ o) (h4 : o < 4) (hk : ∀ i, i < 7 → sOk (xK X o) i) : ∀ d q : Nat, q + d = 7 → AT 224 4 [some (.ref (bB o)), some (.int (bI (!sAllF (fun i => !sLedP (xK X o) (fun i => sMem (xK X o) i) i) q))), some (.int (Int32.ofNat q))] [] X (fun o' Y => o' = .inl (some (.int (bI (!sAllF (fun i => !sLedP (xK X o) (fun i => sMem (xK X o) i) i) 7)))) ∧ Y = X)
  | 0, q, hq => by
    refine AT.iload_n M_224 rfl rfl ?_
    refine AT.bipush M_224 rfl (v := 7) (by decide) ?_
    refine AT.icmp_ge M_224 rfl (fun b6 => ?_) (fun b6 => absurd (by rw [show q = 7 by omega]; exact Int32.le_refl _) b6)
    refine AT.iload_n M_224 rfl rfl ?_
    rw [show q = 7 by omega]
    refine AT.zret M_224 rfl rfl (by cases (!sAllF (fun i => !sLedP (xK X o) (fun i => sMem (xK X o) i) i) 7); exact Or.inl rfl; exact Or.inr rfl) ?_
    exact ⟨rfl, rfl⟩
  | d + 1, q, hq => by
    refine AT.iload_n M_224 rfl rfl ?_
    refine AT.bipush M_224 rfl (v := 7) (by decide) ?_
    refine AT.icmp_ge M_224 rfl (fun b6 => absurd ((i32_le (a := 7) (b := q) (by omega) (by omega)).mp b6) (by omega)) (fun b6 => ?_)
    refine AT.iload_n M_224 rfl rfl ?_
    refine AT.aload_n M_224 rfl rfl ?_
    refine AT.iload_n M_224 rfl rfl ?_
    refine AT.cv2i M_224 rfl M_223 rfl (Nat.le_of_ble_eq_true rfl) (xKd.of (sh_st h2 h4)) (by decide) (c_223 h2 h4 (s := q) (by omega) (hk q (by omega))) ?_ (Nat.le_of_ble_eq_true rfl) rfl
    refine AT.ior M_224 rfl rfl ?_
    rw [show bI (!sAllF (fun i => !sLedP (xK X o) (fun i => sMem (xK X o) i) i) q) ||| bI (sLedP (xK X o) (fun i => sMem (xK X o) i) q) = bI (!sAllF (fun i => !sLedP (xK X o) (fun i => sMem (xK X o) i) i) (q + 1)) from by
      show _ = bI (!(sAllF (fun i => !sLedP (xK X o) (fun i => sMem (xK X o) i) i) q && (fun i => !sLedP (xK X o) (fun i => sMem (xK X o) i) i) q))
      cases sAllF (fun i => !sLedP (xK X o) (fun i => sMem (xK X o) i) i) q <;> cases hb : sLedP (xK X o) (fun i => sMem (xK X o) i) q <;> simp [bI, hb] <;> rfl]
    refine AT.ist1 M_224 rfl rfl ?_
    refine AT.iinc2 M_224 rfl rfl (i32_succ _) ?_
    refine AT.goto M_224 rfl ?_
    exact l_224 h2 h4 hk d (q + 1) (by omega)
theorem c_224 {X : XS} {o : Nat} (h2 : 2 ≤ o) (h4 : o < 4) (hk : ∀ i, i < 7 → sOk (xK X o) i) : RT 224 [some (.ref (bB o)), none, none] X (some (.int (bI (!sAllF (fun i => !sLedP (xK X o) (fun i => sMem (xK X o) i) i) 7)))) X := by
  refine AT.iconst M_224 rfl (v := 0) (by decide) ?_
  refine AT.ist1 M_224 rfl rfl ?_
  refine AT.iconst M_224 rfl (v := 0) (by decide) ?_
  refine AT.ist2 M_224 rfl rfl ?_
  exact l_224 h2 h4 hk 7 0 rfl
theorem c_226 {X : XS} {o s : Nat} (h2 : 2 ≤ o) (h4 : o < 4) (hs : s < 7) (hk : sOk (xK X o) s) : RT 226 [some (.ref (bB o)), some (.int (Int32.ofNat s))] X (some (.int (bI (sMayS (xK X o) s)))) X := by
  refine AT.aload_n M_226 rfl rfl ?_
  refine AT.r10_2 M_226 rfl h2 h4 ?_
  refine AT.iload_n M_226 rfl rfl ?_
  refine AT.ra_4 M_226 rfl rfl h2 h4 (by assumption) ?_
  refine AT.if_eq M_226 rfl (fun b4 => ?_) (fun b4 => ?_)
  · refine AT.iconst M_226 rfl (v := 0) (by decide) ?_
    refine AT.zret M_226 rfl rfl (by first | exact Or.inl rfl | exact Or.inr rfl | assumption) ?_
    rw [show bI (sMayS (xK X o) s) = 0 from by unfold sMayS; simp [b4, bI]]
    exact ⟨rfl, rfl⟩
  · refine AT.aload_n M_226 rfl rfl ?_
    refine AT.r10_5 M_226 rfl h2 h4 ?_
    refine AT.iload_n M_226 rfl rfl ?_
    refine AT.ra_12 M_226 rfl rfl h2 h4 (by assumption) ?_
    refine AT.iconst M_226 rfl (v := 3) (by decide) ?_
    refine AT.icmp_eq M_226 rfl (fun b10 => ?_) (fun b10 => ?_)
    · refine AT.iconst M_226 rfl (v := 0) (by decide) ?_
      refine AT.zret M_226 rfl rfl (by first | exact Or.inl rfl | exact Or.inr rfl | assumption) ?_
      rw [show bI (sMayS (xK X o) s) = 0 from by unfold sMayS; simp [b10, bI]]
      exact ⟨rfl, rfl⟩
    · refine AT.aload_n M_226 rfl rfl ?_
      refine AT.iload_n M_226 rfl rfl ?_
      refine AT.iload_n M_226 rfl rfl ?_
      refine AT.cv3i M_226 rfl M_196 rfl (Nat.le_of_ble_eq_true rfl) (xKd.of (sh_st h2 h4)) (by decide) (c_196 h2 h4 hs hs hk.wf hk.m128) ?_ (Nat.le_of_ble_eq_true rfl) rfl
      refine AT.if_eq M_226 rfl (fun b15 => ?_) (fun b15 => ?_)
      · refine AT.iconst M_226 rfl (v := 0) (by decide) ?_
        refine AT.zret M_226 rfl rfl (by first | exact Or.inl rfl | exact Or.inr rfl | assumption) ?_
        rw [show bI (sMayS (xK X o) s) = 0 from by unfold sMayS; simp [bI_eq0.mp b15, bI]]
        exact ⟨rfl, rfl⟩
      · refine AT.iconst M_226 rfl (v := 1) (by decide) ?_
        refine AT.goto M_226 rfl ?_
        refine AT.zret M_226 rfl rfl (by first | exact Or.inl rfl | exact Or.inr rfl | assumption) ?_
        rw [show bI (sMayS (xK X o) s) = 1 from by unfold sMayS; simp [b4, b10, bI_ne0.mp b15, bI]]
        exact ⟨rfl, rfl⟩
theorem l_230 {X : XS} {o : Nat} (h2 : 2 ≤ o) (h4 : o < 4) : ∀ d q : Nat, q + d = 7 → AT 230 4 [some (.ref (bB o)), some (.int (sFurF (xK X o) q)), some (.int (Int32.ofNat q))] [] X (fun o' Y => o' = .inl (some (.int (sFurF (xK X o) 7))) ∧ Y = X)
  | 0, q, hq => by
    refine AT.iload_n M_230 rfl rfl ?_
    refine AT.bipush M_230 rfl (v := 7) (by decide) ?_
    refine AT.icmp_ge M_230 rfl (fun b6 => ?_) (fun b6 => absurd (by rw [show q = 7 by omega]; exact Int32.le_refl _) b6)
    refine AT.iload_n M_230 rfl rfl ?_
    refine AT.iret M_230 rfl rfl ?_
    rw [show q = 7 by omega]
    exact ⟨rfl, rfl⟩
  | d + 1, q, hq => by
    refine AT.iload_n M_230 rfl rfl ?_
    refine AT.bipush M_230 rfl (v := 7) (by decide) ?_
    refine AT.icmp_ge M_230 rfl (fun b6 => absurd ((i32_le (a := 7) (b := q) (by omega) (by omega)).mp b6) (by omega)) (fun b6 => ?_)
    refine AT.iload_n M_230 rfl rfl ?_
    refine AT.aload_n M_230 rfl rfl ?_
    refine AT.r10_8 M_230 rfl h2 h4 ?_
    refine AT.iload_n M_230 rfl rfl ?_
    refine AT.ra_15 M_230 rfl rfl h2 h4 (by omega) ?_
    refine AT.max M_230 rfl rfl (Nat.le_of_ble_eq_true rfl) rfl ?_
    refine AT.ist1 M_230 rfl rfl ?_
    refine AT.iinc2 M_230 rfl rfl (i32_succ _) ?_
    refine AT.goto M_230 rfl ?_
    exact l_230 h2 h4 d (q + 1) (by omega)
theorem c_230 {X : XS} {o : Nat} (h2 : 2 ≤ o) (h4 : o < 4) : RT 230 [some (.ref (bB o)), none, none] X (some (.int (sFurF (xK X o) 7))) X := by
  refine AT.iconst M_230 rfl (v := 0) (by decide) ?_
  refine AT.ist1 M_230 rfl rfl ?_
  refine AT.iconst M_230 rfl (v := 0) (by decide) ?_
  refine AT.ist2 M_230 rfl rfl ?_
  exact l_230 h2 h4 7 0 rfl
