/-! ===== THE REFERENCE: become, its loop ===== -/
/-- a part of a row is as in Kp -/
def kCpR (f i lo n : Nat) (K Kp : KK) : KK := (fun a b c => if a = f ∧ b = i ∧ lo ≤ c ∧ c < lo + n then Kp.1 a b c else K.1 a b c, K.2)
/-- servers below q are as in Kp, the others' rows as they are -/
def kCp (q : Nat) (K Kp KA : KK) : Prop := (∀ f i j, ¬ (f = 18 ∧ 3 ≤ j ∨ f = 19 ∨ f = 2 ∨ f = 3) → K.1 f i j = KA.1 f i j) ∧ (∀ f i j, (f = 18 ∧ 3 ≤ j ∧ j < 19) ∨ (f = 19 ∧ j < 16) ∨ ((f = 2 ∨ f = 3) ∧ j < 7) → i < q → K.1 f i j = Kp.1 f i j) ∧ (∀ i, i < q → K.2.1 i = Kp.2.1 i) ∧ K.2.2 = KA.2.2
theorem kCp.up {q : Nat} {K Kp KA : KK} (h : kCp q K Kp KA) : kCp (q + 1) (kLog (kCpR 3 q 0 7 (kCpR 2 q 0 7 (kCpR 19 q 0 16 (kCpR 18 q 3 16 K Kp) Kp) Kp) Kp) q (Kp.2.1 q)) Kp KA := by
  obtain ⟨h1, h2, h3, h4⟩ := h
  have e : ∀ f i j, (kLog (kCpR 3 q 0 7 (kCpR 2 q 0 7 (kCpR 19 q 0 16 (kCpR 18 q 3 16 K Kp) Kp) Kp) Kp) q (Kp.2.1 q)).1 f i j = if f = 3 ∧ i = q ∧ 0 ≤ j ∧ j < 0 + 7 then Kp.1 f i j else if f = 2 ∧ i = q ∧ 0 ≤ j ∧ j < 0 + 7 then Kp.1 f i j else if f = 19 ∧ i = q ∧ 0 ≤ j ∧ j < 0 + 16 then Kp.1 f i j else if f = 18 ∧ i = q ∧ 3 ≤ j ∧ j < 3 + 16 then Kp.1 f i j else K.1 f i j := fun f i j => rfl
  refine ⟨fun f i j hf => ?_, fun f i j hf hi => ?_, fun i hi => ?_, h4⟩
  · rw [e, if_neg (by omega), if_neg (by omega), if_neg (by omega), if_neg (by omega)]
    exact h1 f i j hf
  · rw [e]
    by_cases c : i = q
    · by_cases c3 : f = 3 ∧ i = q ∧ 0 ≤ j ∧ j < 0 + 7
      · rw [if_pos c3]
      · rw [if_neg c3]
        by_cases c2 : f = 2 ∧ i = q ∧ 0 ≤ j ∧ j < 0 + 7
        · rw [if_pos c2]
        · rw [if_neg c2]
          by_cases c19 : f = 19 ∧ i = q ∧ 0 ≤ j ∧ j < 0 + 16
          · rw [if_pos c19]
          · rw [if_neg c19, if_pos (by omega)]
    · rw [if_neg (by omega), if_neg (by omega), if_neg (by omega), if_neg (by omega)]
      exact h2 f i j hf (by omega)
  · show (if i = q then Kp.2.1 q else K.2.1 i) = _
    by_cases c : i = q
    · rw [if_pos c, c]
    · rw [if_neg c]; exact h3 i (by omega)
theorem l_181 {o p m : Nat} {Kp KA : KK} {vv : Nat → Int32} {Q : (PS → PS) × (PO → PS → Prop)} (h2 : 2 ≤ o) (h4 : o < 4) (p2 : 2 ≤ p) (p4 : p < 4) (hpo : ¬ p = o) (hQ : Q.1 = zP o vv) (hvv : ∀ i, i < 7 → vv i = Int32.ofNat (Kp.2.1 i).length) (hB : ∀ i, i < 7 → (Kp.2.1 i).length < 400000) (hBm : ∀ i, i < 7 → (Kp.2.1 i).length ≤ m) (hM : m ≤ 400000) : ∀ d q : Nat, q + d = 7 → ∀ X : XS, xK X p = Kp → kCp q (xK X o) Kp KA → rOkR X o → (∀ Z, rRel0 o m 0 0 X Z (xK Z o) → rSm o X Z → kCp 7 (xK Z o) Kp KA → AT2 181 153 [some (.ref (bB o)), some (.ref (bB p)), some (.int (Int32.ofNat 7))] [] Z Q) → AT2 181 88 [some (.ref (bB o)), some (.ref (bB p)), some (.int (Int32.ofNat q))] [] X Q
  | 0, q, hq, X, hp, hc, hR, hk => by
    have e : q = 7 := by omega
    subst e
    refine AT2.iload_n M_181 rfl rfl ?_
    refine AT2.bipush M_181 rfl (v := 7) (by decide) ?_
    refine AT2.icmp_ge M_181 rfl (fun b90 => ?_) (fun b90 => absurd (Int32.le_refl _) b90)
    exact hk X (rRel0.rf o m X) (rSm.rf o X) hc
  | d + 1, q, hq, X, hp, hc, hR, hk => by
    have hq7 : q < 7 := by omega
    refine AT2.iload_n M_181 rfl rfl ?_
    refine AT2.bipush M_181 rfl (v := 7) (by decide) ?_
    refine AT2.icmp_ge M_181 rfl (fun b90 => absurd ((i32_le (a := 7) (b := q) (by omega) (by omega)).mp b90) (by omega)) (fun b90 => ?_)
    refine AT2.aload_n M_181 rfl rfl ?_
    refine AT2.r10_16 (oo := o) (vv := vv) M_181 rfl hQ h4 h2 p2 p4 ?_
    refine AT2.iload_n M_181 rfl rfl ?_
    refine AT2.rr_snt (oo := o) (vv := vv) M_181 rfl rfl hQ h4 h2 p2 p4 hq7 ?_
    refine AT2.aload_n M_181 rfl rfl ?_
    refine AT2.r10_16 (oo := o) (vv := vv) M_181 rfl hQ h4 h2 h2 h4 ?_
    refine AT2.iload_n M_181 rfl rfl ?_
    refine AT2.rr_snt (oo := o) (vv := vv) M_181 rfl rfl hQ h4 h2 h2 h4 hq7 ?_
    refine AT2.cc (oo := o) (vv := vv) M_181 rfl rfl (Nat.le_of_ble_eq_true rfl) hQ (src.loc (o := p) (f := 18) (fi := fun _ => q) (fj := fun c => 3 + c) (v := fun c => Kp.1 18 q (3 + c)) (sh_snt p2 p4 hq7) (by omega) (by omega) (fun c hc => by rw [Nat.zero_add]; exact lo_snt p2 p4 hq7 hc) (fun c hc => by show (xK X p).1 18 q (3 + c) = _; rw [hp]))
        (fun g hg => (hg.2.1 _ _ _ (sh_snt p2 p4 hq7)).2 (by omega)) (dst.num (o := o) (K' := kCpR 18 q 3 16 (xK X o) Kp) (f := 18) (fi := fun _ => q) (fj := fun c => 3 + c) (sh_snt h2 h4 hq7) (by omega) (by omega) (fun c hc => by rw [Nat.zero_add]; exact lo_snt h2 h4 hq7 hc) rfl (fun z => by omega) (fun z => absurd z (by decide)) rfl (fun c hc => if_pos ⟨rfl, rfl, by omega, by omega⟩) (fun f' i' j' hne => if_neg (fun z => hne (j' - 3) (by omega) ⟨z.1, z.2.1, by omega⟩))) (by omega) (Or.inl rfl) (by dsimp only [bB]; omega) (by dsimp only [bB]; omega) ?_
    try simp only [xK_same, xSetK_idem]
    refine AT2.aload_n M_181 rfl rfl ?_
    refine AT2.r10_17 (oo := o) (vv := vv) M_181 rfl hQ h4 h2 p2 p4 ?_
    refine AT2.iload_n M_181 rfl rfl ?_
    refine AT2.rr_tab (oo := o) (vv := vv) M_181 rfl rfl hQ h4 h2 p2 p4 hq7 ?_
    refine AT2.aload_n M_181 rfl rfl ?_
    refine AT2.r10_17 (oo := o) (vv := vv) M_181 rfl hQ h4 h2 h2 h4 ?_
    refine AT2.iload_n M_181 rfl rfl ?_
    refine AT2.rr_tab (oo := o) (vv := vv) M_181 rfl rfl hQ h4 h2 h2 h4 hq7 ?_
    refine AT2.cc (oo := o) (vv := vv) M_181 rfl rfl (Nat.le_of_ble_eq_true rfl) hQ (src.loc (o := p) (f := 19) (fi := fun _ => q) (fj := fun c => c) (v := fun c => Kp.1 19 q (c)) (sh_tab p2 p4 hq7) (by omega) (by omega) (fun c hc => by rw [Nat.zero_add]; exact lo_tab p2 p4 hq7 hc) (fun c hc => by show (xK (xSetK X o (kCpR 18 q 3 16 (xK X o) Kp)) p).1 19 q (c) = _; rw [xK_other _ _ _ _ hpo, hp]))
        (fun g hg => (hg.2.1 _ _ _ (sh_tab p2 p4 hq7)).2 (by omega)) (dst.num (o := o) (K' := kCpR 19 q 0 16 (xK (xSetK X o (kCpR 18 q 3 16 (xK X o) Kp)) o) Kp) (f := 19) (fi := fun _ => q) (fj := fun c => c) (sh_tab h2 h4 hq7) (by omega) (by omega) (fun c hc => by rw [Nat.zero_add]; exact lo_tab h2 h4 hq7 hc) rfl (fun z => by omega) (fun z => absurd z (by decide)) rfl (fun c hc => if_pos ⟨rfl, rfl, by omega, by omega⟩) (fun f' i' j' hne => if_neg (fun z => hne (j') (by omega) ⟨z.1, z.2.1, by omega⟩))) (by omega) (Or.inl rfl) (by dsimp only [bB]; omega) (by dsimp only [bB]; omega) ?_
    try simp only [xK_same, xSetK_idem]
    refine AT2.aload_n M_181 rfl rfl ?_
    refine AT2.r10_20 (oo := o) (vv := vv) M_181 rfl hQ h4 h2 p2 p4 ?_
    refine AT2.iload_n M_181 rfl rfl ?_
    refine AT2.rr_nxt (oo := o) (vv := vv) M_181 rfl rfl hQ h4 h2 p2 p4 hq7 ?_
    refine AT2.aload_n M_181 rfl rfl ?_
    refine AT2.r10_20 (oo := o) (vv := vv) M_181 rfl hQ h4 h2 h2 h4 ?_
    refine AT2.iload_n M_181 rfl rfl ?_
    refine AT2.rr_nxt (oo := o) (vv := vv) M_181 rfl rfl hQ h4 h2 h2 h4 hq7 ?_
    refine AT2.cc (oo := o) (vv := vv) M_181 rfl rfl (Nat.le_of_ble_eq_true rfl) hQ (src.loc (o := p) (f := 2) (fi := fun _ => q) (fj := fun c => c) (v := fun c => Kp.1 2 q (c)) (sh_nxt p2 p4 hq7) (by omega) (by omega) (fun c hc => by rw [Nat.zero_add]; exact lo_nxt p2 p4 hq7 hc) (fun c hc => by show (xK (xSetK X o (kCpR 19 q 0 16 (kCpR 18 q 3 16 (xK X o) Kp) Kp)) p).1 2 q (c) = _; rw [xK_other _ _ _ _ hpo, hp]))
        (fun g hg => (hg.2.1 _ _ _ (sh_nxt p2 p4 hq7)).2 (by omega)) (dst.num (o := o) (K' := kCpR 2 q 0 7 (xK (xSetK X o (kCpR 19 q 0 16 (kCpR 18 q 3 16 (xK X o) Kp) Kp)) o) Kp) (f := 2) (fi := fun _ => q) (fj := fun c => c) (sh_nxt h2 h4 hq7) (by omega) (by omega) (fun c hc => by rw [Nat.zero_add]; exact lo_nxt h2 h4 hq7 hc) rfl (fun z => by omega) (fun z => absurd z (by decide)) rfl (fun c hc => if_pos ⟨rfl, rfl, by omega, by omega⟩) (fun f' i' j' hne => if_neg (fun z => hne (j') (by omega) ⟨z.1, z.2.1, by omega⟩))) (by omega) (Or.inl rfl) (by dsimp only [bB]; omega) (by dsimp only [bB]; omega) ?_
    try simp only [xK_same, xSetK_idem]
    refine AT2.aload_n M_181 rfl rfl ?_
    refine AT2.r10_21 (oo := o) (vv := vv) M_181 rfl hQ h4 h2 p2 p4 ?_
    refine AT2.iload_n M_181 rfl rfl ?_
    refine AT2.rr_mat (oo := o) (vv := vv) M_181 rfl rfl hQ h4 h2 p2 p4 hq7 ?_
    refine AT2.aload_n M_181 rfl rfl ?_
    refine AT2.r10_21 (oo := o) (vv := vv) M_181 rfl hQ h4 h2 h2 h4 ?_
    refine AT2.iload_n M_181 rfl rfl ?_
    refine AT2.rr_mat (oo := o) (vv := vv) M_181 rfl rfl hQ h4 h2 h2 h4 hq7 ?_
    refine AT2.cc (oo := o) (vv := vv) M_181 rfl rfl (Nat.le_of_ble_eq_true rfl) hQ (src.loc (o := p) (f := 3) (fi := fun _ => q) (fj := fun c => c) (v := fun c => Kp.1 3 q (c)) (sh_mat p2 p4 hq7) (by omega) (by omega) (fun c hc => by rw [Nat.zero_add]; exact lo_mat p2 p4 hq7 hc) (fun c hc => by show (xK (xSetK X o (kCpR 2 q 0 7 (kCpR 19 q 0 16 (kCpR 18 q 3 16 (xK X o) Kp) Kp) Kp)) p).1 3 q (c) = _; rw [xK_other _ _ _ _ hpo, hp]))
        (fun g hg => (hg.2.1 _ _ _ (sh_mat p2 p4 hq7)).2 (by omega)) (dst.num (o := o) (K' := kCpR 3 q 0 7 (xK (xSetK X o (kCpR 2 q 0 7 (kCpR 19 q 0 16 (kCpR 18 q 3 16 (xK X o) Kp) Kp) Kp)) o) Kp) (f := 3) (fi := fun _ => q) (fj := fun c => c) (sh_mat h2 h4 hq7) (by omega) (by omega) (fun c hc => by rw [Nat.zero_add]; exact lo_mat h2 h4 hq7 hc) rfl (fun z => by omega) (fun z => absurd z (by decide)) rfl (fun c hc => if_pos ⟨rfl, rfl, by omega, by omega⟩) (fun f' i' j' hne => if_neg (fun z => hne (j') (by omega) ⟨z.1, z.2.1, by omega⟩))) (by omega) (Or.inl rfl) (by dsimp only [bB]; omega) (by dsimp only [bB]; omega) ?_
    try simp only [xK_same, xSetK_idem]
    refine AT2.log (o := o) (s := q) (l' := []) hQ h2 h4 hq7 (Nat.zero_le _) (fun j e z => by cases z) ?_
    try simp only [xK_same, xSetK_idem]
    refine AT2.aload_n M_181 rfl rfl ?_
    refine AT2.iload_n M_181 rfl rfl ?_
    refine AT2.aload_n M_181 rfl rfl ?_
    refine AT2.r10_18 (oo := o) (vv := vv) M_181 rfl hQ h4 h2 h2 h4 ?_
    refine AT2.iload_n M_181 rfl rfl ?_
    refine AT2.siz (oo := o) (vv := vv) M_181 rfl hQ rfl h2 h4 hq7 ?_
    rw [hvv q hq7]
    refine AT2.call (Mc := qPT 184) (av := [.ref (bB o), .int (Int32.ofNat q), .int (Int32.ofNat (Kp.2.1 q).length)]) (rest := []) M_181 rfl rfl rfl (by rw [M_184]; rfl) (Or.inl (Nat.zero_le _)) (by rw [M_184]; exact (Nat.le_of_ble_eq_true rfl)) (fun g hg => by rw [hQ, M_184]; exact pRv_v (n := 107) (o := 10) (a := bB o) (av := [.int (Int32.ofNat q), .int (Int32.ofNat (Kp.2.1 q).length)]) (xKd.of (sh_st h2 h4)) (by decide) g hg) (by rw [hQ]; exact c2_184 (X := (xSetK X o (kLog (kCpR 3 q 0 7 (kCpR 2 q 0 7 (kCpR 19 q 0 16 (kCpR 18 q 3 16 (xK X o) Kp) Kp) Kp) Kp) q []))) (ent := (Kp.2.1 q).length) h2 h4 hq7 (hR q hq7).1 (by have := (hR q hq7).2; show dR (xD X) o q < _; omega) (by have := hB q hq7; omega) (by rw [xK_same]; show (if q = q then ([] : List ENT) else _).length ≤ _; rw [if_pos rfl]; exact Nat.zero_le _)) (fun Y hY => ?_)
    obtain ⟨r1, k1, q1⟩ := hY
    rw [xK_same] at r1
    have hpY : xK Y p = Kp := by rw [r1.2.1, if_neg hpo, xK_other _ _ _ _ hpo, hp]
    have hl0 : (xK Y o).2.1 q = [] := by rw [r1.k]; exact if_pos rfl
    refine AT2.rep (fun hr => ?_)
    have hlp := hr.choose_spec.2.2.2.2.2.2.2.2.1 p q p2 p4 hq7
    rw [hpY] at hlp
    obtain ⟨d1, d2, d3, d4, d5, d6, d7⟩ := hlp
    have hBq := hB q hq7
    refine AT2.aload_n M_181 rfl rfl ?_
    refine AT2.r10_19 (oo := o) (vv := vv) M_181 rfl hQ h4 h2 p2 p4 ?_
    refine AT2.iload_n M_181 rfl rfl ?_
    refine AT2.rr_log (oo := o) (vv := vv) M_181 rfl rfl hQ h4 h2 p2 p4 hq7 ?_
    refine AT2.iconst M_181 rfl (v := 0) (by decide) ?_
    refine AT2.aload_n M_181 rfl rfl ?_
    refine AT2.r10_19 (oo := o) (vv := vv) M_181 rfl hQ h4 h2 h2 h4 ?_
    refine AT2.iload_n M_181 rfl rfl ?_
    refine AT2.rr_log (oo := o) (vv := vv) M_181 rfl rfl hQ h4 h2 h2 h4 hq7 ?_
    refine AT2.iconst M_181 rfl (v := 0) (by decide) ?_
    refine AT2.aload_n M_181 rfl rfl ?_
    refine AT2.r10_18 (oo := o) (vv := vv) M_181 rfl hQ h4 h2 h2 h4 ?_
    refine AT2.iload_n M_181 rfl rfl ?_
    refine AT2.siz (oo := o) (vv := vv) M_181 rfl hQ rfl h2 h4 hq7 ?_
    rw [hvv q hq7]
    refine AT2.bipush M_181 rfl (v := 7) (by decide) ?_
    refine AT2.imul M_181 rfl rfl ?_
    refine AT2.acp (oo := o) (vv := vv) M_181 rfl rfl (Nat.le_of_ble_eq_true rfl) hQ (log_ne p2 p4 hq7 h4 h2 hr) (log_ne h2 h4 hq7 h4 h2 hr) (n := 7 * (Kp.2.1 q).length) (p := 0) (q := 0) (by rw [Nat.mul_comm 7, Int32.ofNat_mul]; rfl) rfl rfl ⟨by omega, by omega, by omega⟩ (Or.inl rfl) (src.log (v := fun c => dV (xD Y) p 42 q c) p2 p4 hq7 (by omega) (fun c hc => by rw [Nat.zero_add])) (dst.log h2 h4 hq7 (by omega) (fun j' e' he' => by rw [hl0] at he'; cases he')) ?_
    refine AT2.log (X := (xSetD Y (dRowV (xD Y) o 42 q (vPut (dV (xD Y) o 42 q) 0 (7 * (Kp.2.1 q).length) (fun c => dV (xD Y) p 42 q c))))) (o := o) (s := q) (l' := Kp.2.1 q) hQ h2 h4 hq7 (by show _ ≤ dR (xD Y) o q; omega) (fun j e he k hk => ?_) ?_
    · have hj := (List.getElem?_eq_some_iff.mp he).1
      show (if o = o ∧ 42 = 42 ∧ q = q then (vPut (dV (xD Y) o 42 q) 0 (7 * (Kp.2.1 q).length) (fun c => dV (xD Y) p 42 q c)) (7 * j + k) else _) = _
      rw [if_pos ⟨rfl, rfl, rfl⟩]
      unfold vPut
      rw [if_pos (by omega)]
      show dV (xD Y) p 42 q (7 * j + k - 0) = _
      rw [Nat.sub_zero]
      exact d7 j e he k hk
    have eF : kLog (xK Y o) q (Kp.2.1 q) = (kLog (kCpR 3 q 0 7 (kCpR 2 q 0 7 (kCpR 19 q 0 16 (kCpR 18 q 3 16 (xK X o) Kp) Kp) Kp) Kp) q (Kp.2.1 q)) := by rw [r1.k, kLog_idem]
    have rF : rRel0 o m 0 0 X (xSetK (xSetD Y (dRowV (xD Y) o 42 q (vPut (dV (xD Y) o 42 q) 0 (7 * (Kp.2.1 q).length) (fun c => dV (xD Y) p 42 q c)))) o (kLog (xK Y o) q (Kp.2.1 q))) (kLog (xK Y o) q (Kp.2.1 q)) := (((rRel0.set o m X _).tr (r1.more (hBm q hq7))).row 42 q _).net _
    have kF : rSm o X (xSetK (xSetD Y (dRowV (xD Y) o 42 q (vPut (dV (xD Y) o 42 q) 0 (7 * (Kp.2.1 q).length) (fun c => dV (xD Y) p 42 q c)))) o (kLog (xK Y o) q (Kp.2.1 q))) := (show rSm o X Y from fun f i j h6 h7 => k1.1 f i j h7).row (Or.inr rfl)
    refine AT2.iinc2 M_181 rfl rfl (i32_succ _) ?_
    refine AT2.goto M_181 rfl ?_
    refine l_181 (m := m) h2 h4 p2 p4 hpo hQ hvv hB hBm hM d (q + 1) (by omega) (xSetK (xSetD Y (dRowV (xD Y) o 42 q (vPut (dV (xD Y) o 42 q) 0 (7 * (Kp.2.1 q).length) (fun c => dV (xD Y) p 42 q c)))) o (kLog (xK Y o) q (Kp.2.1 q))) (by rw [xK_other _ _ _ _ hpo]; exact hpY) (by rw [xK_same, eF]; exact hc.up) (rF.ok hM hR) (fun Z z1 z2 z3 => hk Z ?_ (kF.tr z2) z3)
    exact rF.tr z1
