/-! ===== THE REFERENCE: begin ===== -/
theorem kAgr_new (K : KK) (q : Nat) (x : Int32) : kAgr (kLog (kZs (kSet (kSet (kSet (kSet (kSet (kSet (kSet K 4 q 0 1) 5 q 0 0) 6 q 0 (-1)) 30 q 0 0) 18 q 0 0) 18 q 1 0) 18 q 2 (((1 : Int32) <<< (x &&& 31)) - 1)) q 16) q []) (kSet (kNew K q (sFirst x)) 30 q 0 0) := by
  refine ⟨fun f i j h => ?_, fun i hi => rfl, rfl⟩
  show (if f = 30 ∧ i = q ∧ j = 0 then 0 else (kNew K q (sFirst x)).1 f i j) = (if f = 18 ∧ i = q ∧ 3 ≤ j ∧ j < 3 + 16 then 0 else if f = 18 ∧ i = q ∧ j = 2 then (((1 : Int32) <<< (x &&& 31)) - 1) else if f = 18 ∧ i = q ∧ j = 1 then 0 else if f = 18 ∧ i = q ∧ j = 0 then 0 else if f = 30 ∧ i = q ∧ j = 0 then 0 else if f = 6 ∧ i = q ∧ j = 0 then -1 else if f = 5 ∧ i = q ∧ j = 0 then 0 else if f = 4 ∧ i = q ∧ j = 0 then 1 else K.1 f i j)
  rw [kNew_v]
  unfold kRl at h
  by_cases c18 : f = 18 ∧ i = q
  · obtain ⟨rfl, rfl⟩ := c18
    rw [if_neg (show ¬ (18 = 30 ∧ i = i ∧ j = 0) by omega), if_pos (show 18 = 18 ∧ i = i from ⟨rfl, rfl⟩)]
    rcases (by omega : j = 0 ∨ j = 1 ∨ j = 2 ∨ (3 ≤ j ∧ j < 3 + 16)) with e | e | e | e
    · subst e
      rw [if_neg (show ¬ (18 = 18 ∧ i = i ∧ 3 ≤ 0 ∧ 0 < 3 + 16) by omega), if_neg (show ¬ (18 = 18 ∧ i = i ∧ 0 = 2) by omega), if_neg (show ¬ (18 = 18 ∧ i = i ∧ 0 = 1) by omega), if_pos (show 18 = 18 ∧ i = i ∧ 0 = 0 from ⟨rfl, rfl, rfl⟩)]; rfl
    · subst e
      rw [if_neg (show ¬ (18 = 18 ∧ i = i ∧ 3 ≤ 1 ∧ 1 < 3 + 16) by omega), if_neg (show ¬ (18 = 18 ∧ i = i ∧ 1 = 2) by omega), if_pos (show 18 = 18 ∧ i = i ∧ 1 = 1 from ⟨rfl, rfl, rfl⟩)]; rfl
    · subst e
      rw [if_neg (show ¬ (18 = 18 ∧ i = i ∧ 3 ≤ 2 ∧ 2 < 3 + 16) by omega), if_pos (show 18 = 18 ∧ i = i ∧ 2 = 2 from ⟨rfl, rfl, rfl⟩)]; rfl
    · rw [if_pos (show 18 = 18 ∧ i = i ∧ 3 ≤ j ∧ j < 3 + 16 from ⟨rfl, rfl, e⟩)]
      show (if j = 0 then 0 else if j = 1 then 0 else if j = 2 then _ else 0 : Int32) = 0
      rw [if_neg (by omega), if_neg (by omega), if_neg (by omega)]
  · rw [if_neg c18, if_neg (show ¬ (f = 18 ∧ i = q ∧ 3 ≤ j ∧ j < 3 + 16) from fun z => c18 ⟨z.1, z.2.1⟩), if_neg (show ¬ (f = 18 ∧ i = q ∧ j = 2) from fun z => c18 ⟨z.1, z.2.1⟩), if_neg (show ¬ (f = 18 ∧ i = q ∧ j = 1) from fun z => c18 ⟨z.1, z.2.1⟩), if_neg (show ¬ (f = 18 ∧ i = q ∧ j = 0) from fun z => c18 ⟨z.1, z.2.1⟩)]
theorem l_182b {X : XS} {o q : Nat} {x : Int32} {KA : KK} {Q : PO → XS → Prop} (h2 : 2 ≤ o) (h4 : o < 4) (hq : q < 7) : ∀ d n : Nat, n + d = 16 → (AT 182 67 [some (.ref (bB o)), some (.int x), some (.int (Int32.ofNat q)), some (.int (Int32.ofNat 16))] [] (xSetK X o (kZs KA q 16)) Q) → AT 182 55 [some (.ref (bB o)), some (.int x), some (.int (Int32.ofNat q)), some (.int (Int32.ofNat n))] [] (xSetK X o (kZs KA q n)) Q
  | 0, n, hn, hk => by
    refine AT.iload_n M_182 rfl rfl ?_
    refine AT.bipush M_182 rfl (v := 16) (by decide) ?_
    refine AT.icmp_ge M_182 rfl (fun b57 => ?_) (fun b57 => absurd (by rw [show n = 16 by omega]; exact Int32.le_refl _) b57)
    have e : n = 16 := by omega
    subst e
    exact hk
  | d + 1, n, hn, hk => by
    refine AT.iload_n M_182 rfl rfl ?_
    refine AT.bipush M_182 rfl (v := 16) (by decide) ?_
    refine AT.icmp_ge M_182 rfl (fun b57 => absurd ((i32_le (a := 16) (b := n) (by omega) (by omega)).mp b57) (by omega)) (fun b57 => ?_)
    refine AT.aload_n M_182 rfl rfl ?_
    refine AT.r10_16 M_182 rfl h2 h4 ?_
    refine AT.iload_n M_182 rfl rfl ?_
    refine AT.rr_snt M_182 rfl rfl h2 h4 (by assumption) ?_
    refine AT.iload_n M_182 rfl rfl ?_
    refine AT.iconst M_182 rfl (v := 0) (by decide) ?_
    refine AT.rs_snt M_182 rfl rfl h2 h4 (by assumption) (by omega) ?_
    try simp only [xK_same, xSetK_idem, xD_setK, xSetD_setK]
    refine AT.iinc3 M_182 rfl rfl (i32_succ _) ?_
    refine AT.goto M_182 rfl ?_
    rw [kZs_s]
    exact l_182b h2 h4 hq d (n + 1) (by omega) hk
theorem l_182a {o m : Nat} {x : Int32} {Q : PO → XS → Prop} (h2 : 2 ≤ o) (h4 : o < 4) : ∀ d q : Nat, q + d = 7 → ∀ (X : XS) (x3 : Option Value), (∀ i, i < q → dV (xD X) o 20 i 0 = (xK X o).1 15 i 0) → (∀ Z y3, rRel0 o m 0 0 X Z (kBegQ (sFirst x) d q (xK X o)) → (∀ i, i < 7 → dV (xD Z) o 20 i 0 = (xK Z o).1 15 i 0) → AT 182 77 [some (.ref (bB o)), some (.int x), some (.int (Int32.ofNat 7)), y3] [] Z Q) → AT 182 11 [some (.ref (bB o)), some (.int x), some (.int (Int32.ofNat q)), x3] [] X Q
  | 0, q, hq, X, x3, hap, hk => by
    refine AT.iload_n M_182 rfl rfl ?_
    refine AT.bipush M_182 rfl (v := 7) (by decide) ?_
    refine AT.icmp_ge M_182 rfl (fun b13 => ?_) (fun b13 => absurd (by rw [show q = 7 by omega]; exact Int32.le_refl _) b13)
    have e : q = 7 := by omega
    subst e
    exact hk X x3 (rRel0.rf o m X) hap
  | d + 1, q, hq, X, x3, hap, hk => by
    have hq7 : q < 7 := by omega
    refine AT.iload_n M_182 rfl rfl ?_
    refine AT.bipush M_182 rfl (v := 7) (by decide) ?_
    refine AT.icmp_ge M_182 rfl (fun b13 => absurd ((i32_le (a := 7) (b := q) (by omega) (by omega)).mp b13) (by omega)) (fun b13 => ?_)
    refine AT.aload_n M_182 rfl rfl ?_
    refine AT.r10_2 M_182 rfl h2 h4 ?_
    refine AT.iload_n M_182 rfl rfl ?_
    refine AT.iconst M_182 rfl (v := 1) (by decide) ?_
    refine AT.rs_4 M_182 rfl rfl (by first | exact Or.inl rfl | exact Or.inr rfl | assumption) h2 h4 (by omega) ?_
    try simp only [xK_same, xSetK_idem, xD_setK, xSetD_setK]
    refine AT.aload_n M_182 rfl rfl ?_
    refine AT.r10_3 M_182 rfl h2 h4 ?_
    refine AT.iload_n M_182 rfl rfl ?_
    refine AT.iconst M_182 rfl (v := 0) (by decide) ?_
    refine AT.rs_5 M_182 rfl rfl h2 h4 (by omega) ?_
    try simp only [xK_same, xSetK_idem, xD_setK, xSetD_setK]
    refine AT.aload_n M_182 rfl rfl ?_
    refine AT.r10_4 M_182 rfl h2 h4 ?_
    refine AT.iload_n M_182 rfl rfl ?_
    refine AT.iconst M_182 rfl (v := (-1)) (by decide) ?_
    refine AT.rs_6 M_182 rfl rfl h2 h4 (by omega) ?_
    try simp only [xK_same, xSetK_idem, xD_setK, xSetD_setK]
    refine AT.aload_n M_182 rfl rfl ?_
    refine AT.r10_12 M_182 rfl h2 h4 ?_
    refine AT.iload_n M_182 rfl rfl ?_
    refine AT.iconst M_182 rfl (v := 0) (by decide) ?_
    refine AT.rs_30 M_182 rfl rfl h2 h4 (by omega) ?_
    try simp only [xK_same, xSetK_idem, xD_setK, xSetD_setK]
    refine AT.aload_n M_182 rfl rfl ?_
    refine AT.r10_13 M_182 rfl h2 h4 ?_
    refine AT.iload_n M_182 rfl rfl ?_
    refine AT.iconst M_182 rfl (v := 0) (by decide) ?_
    refine AT.rs_18_0 M_182 rfl rfl h2 h4 (by omega) ?_
    try simp only [xK_same, xSetK_idem, xD_setK, xSetD_setK]
    refine AT.aload_n M_182 rfl rfl ?_
    refine AT.r10_14 M_182 rfl h2 h4 ?_
    refine AT.iload_n M_182 rfl rfl ?_
    refine AT.iconst M_182 rfl (v := 0) (by decide) ?_
    refine AT.rs_18_1 M_182 rfl rfl h2 h4 (by omega) ?_
    try simp only [xK_same, xSetK_idem, xD_setK, xSetD_setK]
    refine AT.aload_n M_182 rfl rfl ?_
    refine AT.r10_15 M_182 rfl h2 h4 ?_
    refine AT.iload_n M_182 rfl rfl ?_
    refine AT.iconst M_182 rfl (v := 1) (by decide) ?_
    refine AT.iload_n M_182 rfl rfl ?_
    refine AT.ishl M_182 rfl rfl ?_
    refine AT.iconst M_182 rfl (v := 1) (by decide) ?_
    refine AT.isub M_182 rfl rfl ?_
    refine AT.rs_18_2 M_182 rfl rfl h2 h4 (by omega) ?_
    try simp only [xK_same, xSetK_idem, xD_setK, xSetD_setK]
    refine AT.iconst M_182 rfl (v := 0) (by decide) ?_
    refine AT.ist3 M_182 rfl rfl ?_
    rw [← kZs_0 (kSet (kSet (kSet (kSet (kSet (kSet (kSet (xK X o) 4 q 0 1) 5 q 0 0) 6 q 0 (-1)) 30 q 0 0) 18 q 0 0) 18 q 1 0) 18 q 2 (((1 : Int32) <<< (x &&& 31)) - 1)) q]
    refine l_182b (X := X) h2 h4 hq7 16 0 rfl ?_
    refine AT.aload_n M_182 rfl rfl ?_
    refine AT.r10_18 M_182 rfl h2 h4 ?_
    refine AT.iload_n M_182 rfl rfl ?_
    refine AT.iconst M_182 rfl (v := 0) (by decide) ?_
    refine AT.rs_siz (l' := []) M_182 rfl rfl h2 h4 hq7 rfl (Nat.zero_le _) (fun j u z => by cases z) ?_
    simp only [xK_same, xSetK_idem]
    refine AT.agr (o := o) (K := kSet (kNew (xK X o) q (sFirst x)) 30 q 0 0) (by rw [xK_same]; exact kAgr_new _ _ _) ?_
    simp only [xK_same, xSetK_idem]
    refine AT.aload_n M_182 rfl rfl ?_
    refine AT.iload_n M_182 rfl rfl ?_
    refine AT.cv20 M_182 rfl M_183 rfl (Nat.le_of_ble_eq_true rfl) (xKd.of (sh_st h2 h4)) (by decide) (c_183 (s := q) h2 h4 hq7) ?_ (Nat.le_of_ble_eq_true rfl) rfl
    try simp only [xK_same, xSetK_idem, xD_setK, xSetD_setK]
    refine AT.iinc2 M_182 rfl rfl (i32_succ _) ?_
    refine AT.goto M_182 rfl ?_
    have r0 : rRel0 o m 0 0 X (xSetK (xSetD X (dSetV (xD X) o 20 q 0 ((kSet (kNew (xK X o) q (sFirst x)) 30 q 0 0).1 18 q 0))) o (kRest (kSet (kNew (xK X o) q (sFirst x)) 30 q 0 0) q)) (kRest (kSet (kNew (xK X o) q (sFirst x)) 30 q 0 0) q) := ((rRel0.rf o m X).priv 20 q 0 _).net _
    refine l_182a (m := m) h2 h4 d (q + 1) (by omega) (xSetK (xSetD X (dSetV (xD X) o 20 q 0 ((kSet (kNew (xK X o) q (sFirst x)) 30 q 0 0).1 18 q 0))) o (kRest (kSet (kNew (xK X o) q (sFirst x)) 30 q 0 0) q)) _ (fun i hi => ?_) (fun Z y3 z1 z2 => hk Z y3 ?_ z2)
    · rw [xK_same]
      show (if o = o ∧ 20 = 20 ∧ i = q ∧ 0 = 0 then _ else dV (xD X) o 20 i 0) = _
      rw [kRest_v, if_neg (show ¬ (15 = 19 ∧ i = q) by omega)]
      by_cases e : i = q
      · rw [if_pos ⟨rfl, rfl, e, rfl⟩, if_pos ⟨rfl, e, rfl⟩]
      · rw [if_neg (fun z => e z.2.2.1), if_neg (fun z => e z.2.1), if_neg (show ¬ (15 = 14 ∧ i = q ∧ 0 = 0) by omega), if_neg (show ¬ (15 = 13 ∧ i = q ∧ 0 = 0) by omega), if_neg (show ¬ (15 = 12 ∧ i = q ∧ 0 = 0) by omega), kSet_ne (by omega), kNew_1 (by omega)]
        exact hap i (by omega)
    · rw [xK_same] at z1
      exact r0.tr z1
theorem l_182c {X : XS} {o : Nat} {x : Int32} {x3 : Option Value} {KA : KK} {Q : PO → XS → Prop} (h2 : 2 ≤ o) (h4 : o < 4) : ∀ d n : Nat, n + d = 28 → (AT 182 89 [some (.ref (bB o)), some (.int x), some (.int (Int32.ofNat 28)), x3] [] (xSetK X o (kZr KA 28)) Q) → AT 182 79 [some (.ref (bB o)), some (.int x), some (.int (Int32.ofNat n)), x3] [] (xSetK X o (kZr KA n)) Q
  | 0, n, hn, hk => by
    refine AT.iload_n M_182 rfl rfl ?_
    refine AT.bipush M_182 rfl (v := 28) (by decide) ?_
    refine AT.icmp_ge M_182 rfl (fun b81 => ?_) (fun b81 => absurd (by rw [show n = 28 by omega]; exact Int32.le_refl _) b81)
    have e : n = 28 := by omega
    subst e
    exact hk
  | d + 1, n, hn, hk => by
    refine AT.iload_n M_182 rfl rfl ?_
    refine AT.bipush M_182 rfl (v := 28) (by decide) ?_
    refine AT.icmp_ge M_182 rfl (fun b81 => absurd ((i32_le (a := 28) (b := n) (by omega) (by omega)).mp b81) (by omega)) (fun b81 => ?_)
    refine AT.aload_n M_182 rfl rfl ?_
    refine AT.r10_25 M_182 rfl h2 h4 ?_
    refine AT.iload_n M_182 rfl rfl ?_
    refine AT.iconst M_182 rfl (v := 0) (by decide) ?_
    refine AT.rs_req (c := n / 7) (j := n % 7) M_182 rfl (by omega) (by omega) (by congr 1; omega) h2 h4 ?_
    simp only [xK_same, xSetK_idem]
    rw [show kSet (kZr KA n) 34 (n / 7) (n % 7) 0 = kZr KA (n + 1) from by have h9 := kZr_s KA (c := n / 7) (j := n % 7) (by omega) (by omega); rw [show 7 * (n / 7) + n % 7 = n by omega] at h9; exact h9]
    refine AT.iinc2 M_182 rfl rfl (i32_succ _) ?_
    refine AT.goto M_182 rfl ?_
    exact l_182c h2 h4 d (n + 1) (by omega) hk
theorem l_182d {X : XS} {o : Nat} {x : Int32} {x3 : Option Value} {KA : KK} {Q : PO → XS → Prop} (h2 : 2 ≤ o) (h4 : o < 4) : ∀ d n : Nat, n + d = 4 → (AT 182 106 [some (.ref (bB o)), some (.int x), some (.int (Int32.ofNat 4)), x3] [] (xSetK X o (kZa KA 4)) Q) → AT 182 91 [some (.ref (bB o)), some (.int x), some (.int (Int32.ofNat n)), x3] [] (xSetK X o (kZa KA n)) Q
  | 0, n, hn, hk => by
    refine AT.iload_n M_182 rfl rfl ?_
    refine AT.iconst M_182 rfl (v := 4) (by decide) ?_
    refine AT.icmp_ge M_182 rfl (fun b93 => ?_) (fun b93 => absurd (by rw [show n = 4 by omega]; exact Int32.le_refl _) b93)
    have e : n = 4 := by omega
    subst e
    exact hk
  | d + 1, n, hn, hk => by
    refine AT.iload_n M_182 rfl rfl ?_
    refine AT.iconst M_182 rfl (v := 4) (by decide) ?_
    refine AT.icmp_ge M_182 rfl (fun b93 => absurd ((i32_le (a := 4) (b := n) (by omega) (by omega)).mp b93) (by omega)) (fun b93 => ?_)
    refine AT.aload_n M_182 rfl rfl ?_
    refine AT.r10_26 M_182 rfl h2 h4 ?_
    refine AT.iload_n M_182 rfl rfl ?_
    refine AT.iconst M_182 rfl (v := 0) (by decide) ?_
    refine AT.rs_35 M_182 rfl (by first | exact Or.inl rfl | exact Or.inr rfl | assumption) rfl h2 h4 (by omega) ?_
    try simp only [xK_same, xSetK_idem, xD_setK, xSetD_setK]
    refine AT.aload_n M_182 rfl rfl ?_
    refine AT.r10_27 M_182 rfl h2 h4 ?_
    refine AT.iload_n M_182 rfl rfl ?_
    refine AT.iconst M_182 rfl (v := 0) (by decide) ?_
    refine AT.rs_36 M_182 rfl rfl h2 h4 (by omega) ?_
    try simp only [xK_same, xSetK_idem, xD_setK, xSetD_setK]
    refine AT.iinc2 M_182 rfl rfl (i32_succ _) ?_
    refine AT.goto M_182 rfl ?_
    rw [kZa_s]
    exact l_182d h2 h4 d (n + 1) (by omega) hk
theorem c_182 {X : XS} {o m : Nat} {x : Int32} (h2 : 2 ≤ o) (h4 : o < 4) : RU 182 [some (.ref (bB o)), some (.int x), none, none] X none (fun Y => rRel0 o m 0 0 X Y (kBegin (xK X o) (sFirst x)) ∧ aPr Y o) := by
  refine AT.aload_n M_182 rfl rfl ?_
  refine AT.iconst M_182 rfl (v := 0) (by decide) ?_
  refine AT.w10_0 M_182 rfl h2 h4 ?_
  try simp only [xK_same, xSetK_idem, xD_setK, xSetD_setK]
  refine AT.aload_n M_182 rfl rfl ?_
  refine AT.iconst M_182 rfl (v := 0) (by decide) ?_
  refine AT.w10_1 M_182 rfl h2 h4 ?_
  try simp only [xK_same, xSetK_idem, xD_setK, xSetD_setK]
  refine AT.aload_n M_182 rfl rfl ?_
  refine AT.iconst M_182 rfl (v := 0) (by decide) ?_
  refine AT.w10_22 (l' := []) M_182 rfl h2 h4 rfl (Nat.zero_le _) (fun j u z => by cases z) ?_
  simp only [xK_same, xSetK_idem]
  refine AT.iconst M_182 rfl (v := 0) (by decide) ?_
  refine AT.ist2 M_182 rfl rfl ?_
  refine l_182a (X := (xSetK X o (kNet (kSet (kSet (xK X o) 33 0 0 0) 32 0 0 0) []))) (m := m) h2 h4 7 0 rfl _ (fun i hi => absurd hi (Nat.not_lt_zero i)) (fun Z y3 z1 z2 => ?_)
  refine AT.iconst M_182 rfl (v := 0) (by decide) ?_
  refine AT.ist2 M_182 rfl rfl ?_
  rw [← xSetK_self Z o, ← kZr_0 (xK Z o)]
  refine l_182c (X := Z) h2 h4 28 0 rfl ?_
  refine AT.iconst M_182 rfl (v := 0) (by decide) ?_
  refine AT.ist2 M_182 rfl rfl ?_
  rw [← kZa_0 (kZr (xK Z o) 28)]
  refine l_182d (X := Z) h2 h4 4 0 rfl ?_
  have e9 : xK Z o = kBegQ (sFirst x) 7 0 (kNet (kSet (kSet (xK X o) 33 0 0 0) 32 0 0 0) []) := by rw [z1.k, xK_same]
  refine AT.agr (o := o) (K := kBegin (xK X o) (sFirst x)) (by rw [xK_same, e9]; exact kAgr_beg _ _) ?_
  rw [xSetK_idem]
  refine AT.vret M_182 rfl rfl ?_
  refine ⟨rfl, ((rRel0.set o m X _).tr z1).net _, fun i hi => ?_⟩
  rw [xK_same]
  show dV (xD Z) o 20 i 0 = _
  rw [z2 i hi, e9]
  exact ((kAgr_beg (xK X o) x).1 15 i 0 (Or.inl ⟨Or.inr (by omega), hi, rfl⟩)).symm
