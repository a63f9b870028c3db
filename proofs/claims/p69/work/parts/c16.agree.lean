/-! ===== THE LAW: two servers agree ===== -/
def lAgr (K : KK) (p q : Nat) : Prop := ∃ u cp cq ap aq lp lq : Nat, sAgr K p q = Int32.ofNat u ∧ u ≤ 12400 ∧ K.1 15 p 0 = Int32.ofNat cp ∧ K.1 15 q 0 = Int32.ofNat cq ∧ cp ≤ 12400 ∧ cq ≤ 12400 ∧ min cp cq ≤ u ∧ K.1 18 p 0 = Int32.ofNat ap ∧ K.1 18 q 0 = Int32.ofNat aq ∧ ap ≤ 12400 ∧ aq ≤ 12400 ∧ sLast K p = Int32.ofNat lp ∧ sLast K q = Int32.ofNat lq ∧ lp ≤ 12400 ∧ lq ≤ 12400 ∧
  (∀ x, max ap aq < x → x ≤ lp → x ≤ lq → ¬ sTix K p (Int32.ofNat x) < 0 ∧ ¬ sTix K q (Int32.ofNat x) < 0 ∧ (sTix K p (Int32.ofNat x) = sTix K q (Int32.ofNat x) → x ≤ u ∧ ∃ e, sEnt K p (Int32.ofNat x) = some e ∧ sEnt K q (Int32.ofNat x) = some e ∧ (e 1 = 4 → ∃ n : Nat, n < 128 ∧ e 6 = Int32.ofNat n))) ∧
  kWf K p ∧ kWf K q ∧ (K.1 15 p 0 = K.1 15 q 0 → ∀ j, j < 12 → K.1 19 p j = K.1 19 q j)
theorem NN.lagr {m0 : Int32} {A B k : Nat} {K : KK} {G : GG} {tl cl led : Nat → Nat} {S : Nat → Int32} (h : kAll m0 A B k K G) (z : NN tl cl led S K G) {p q : Nat} (hp : p < 7) (hq : q < 7) : lAgr K p q := by
  obtain ⟨u, u1, u2, u3, u4⟩ := h.agr hp hq
  obtain ⟨a1, c1, p1, p2, p3, p4, p5, p6, p7, p8, p9, p10, p11, p12, p13⟩ := h.num hp
  obtain ⟨a2, c2, q1, q2, q3, q4, q5, q6, q7, q8, q9, q10, q11, q12, q13⟩ := h.num hq
  obtain ⟨-, aB, aE⟩ := (h.2.1 p hp).1
  obtain ⟨-, bB, bE⟩ := (h.2.1 q hq).1
  rw [p4, q4] at u3
  rw [p3, q3] at u4
  refine ⟨u, c1, c2, a1, a2, _, _, u1, u2, p2, q2, by omega, by omega, u3, p1, q1, by omega, by omega, p8, q8, p7, q7, fun x x1 x2 x3 => ⟨?_, ?_, fun x4 => ?_⟩, h.wf hp, h.wf hq, fun e => z.tab h hp hq e⟩
  · rw [p12 x (by omega) x2]; exact tAt_nn (fun e he => (aE e he).1) x x2
  · rw [q12 x (by omega) x3]; exact tAt_nn (fun e he => (bE e he).1) x x3
  · obtain ⟨w1, w2⟩ := u4 x x1 x2 x3 x4
    obtain ⟨j, rfl⟩ : ∃ j, x = j + 1 := ⟨x - 1, by omega⟩
    have e1 := p13 j (by omega) (by omega)
    have e2 : (gF G p)[j]? = some ((gF G p)[j]'(by omega)) := List.getElem?_eq_getElem (by omega)
    refine ⟨w1, _, e1.trans e2, w2.symm.trans (e1.trans e2), fun z4 => ?_⟩
    exact (aE _ (List.mem_of_getElem? e2)).2.1.1 z4
section AGM
variable {X : XS} {p q : Nat}
theorem i32_min {a b : Nat} (ha : a < 2147483648) (hb : b < 2147483648) : (if Int32.ofNat b < Int32.ofNat a then Int32.ofNat b else Int32.ofNat a) = Int32.ofNat (min a b) := by
  by_cases c : b < a
  · rw [if_pos ((i32_lt hb ha).mpr c), Nat.min_eq_right (by omega)]
  · rw [if_neg (fun z => c ((i32_lt hb ha).mp z)), Nat.min_eq_left (by omega)]
theorem i32_max {a b : Nat} (ha : a < 2147483648) (hb : b < 2147483648) : (if Int32.ofNat a < Int32.ofNat b then Int32.ofNat b else Int32.ofNat a) = Int32.ofNat (max a b) := by
  by_cases c : a < b
  · rw [if_pos ((i32_lt ha hb).mpr c), Nat.max_eq_right (by omega)]
  · rw [if_neg (fun z => c ((i32_lt ha hb).mp z)), Nat.max_eq_left (by omega)]
theorem agm_133 {v : Option Value} : AT 327 133 [some (.ref 1), some (.int (Int32.ofNat p)), some (.int (Int32.ofNat q)), some (.int (sAgr (xK X 0) p q)), v] [] X (fun o Y => o = .inl (some (.int 1)) ∧ Y = X) := by
  refine AT.iconst M_327 rfl (v := 1) (by decide) ?_
  refine AT.zret M_327 rfl rfl (Or.inr rfl) ?_
  exact ⟨rfl, rfl⟩
theorem agm_117 (hp : p < 7) (hq : q < 7) (ht : ∀ j, j < 12 → (xK X 0).1 19 p j = (xK X 0).1 19 q j) : ∀ n j : Nat, j + n = 4 → AT 327 117 [some (.ref 1), some (.int (Int32.ofNat p)), some (.int (Int32.ofNat q)), some (.int (sAgr (xK X 0) p q)), some (.int (Int32.ofNat j))] [] X (fun o Y => o = .inl (some (.int 1)) ∧ Y = X)
  | 0, j, hj => by
    refine AT.iload M_327 rfl rfl ?_
    refine AT.iconst M_327 rfl (v := 4) (by decide) ?_
    refine AT.icmp_ge M_327 rfl (fun b => agm_133) (fun b => absurd ((i32_le (a := 4) (by omega) (by omega)).mpr (by omega)) b)
  | n + 1, j, hj => by
    refine AT.iload M_327 rfl rfl ?_
    refine AT.iconst M_327 rfl (v := 4) (by decide) ?_
    refine AT.icmp_ge M_327 rfl (fun b => absurd ((i32_le (a := 4) (by omega) (by omega)).mp b) (by omega)) (fun b => ?_)
    refine AT.aload_n M_327 rfl rfl ?_
    refine AT.iload_n M_327 rfl rfl ?_
    refine AT.iload M_327 rfl rfl ?_
    refine AT.cv3i M_327 rfl M_144 rfl (Nat.le_of_ble_eq_true rfl) (xKd.of (Or.inr (Or.inr (Or.inl ⟨rfl, rfl, rfl⟩)))) (by decide) (c_144 hp (by omega)) ?_ (Nat.le_of_ble_eq_true rfl) rfl
    refine AT.aload_n M_327 rfl rfl ?_
    refine AT.iload_n M_327 rfl rfl ?_
    refine AT.iload M_327 rfl rfl ?_
    refine AT.cv3i M_327 rfl M_144 rfl (Nat.le_of_ble_eq_true rfl) (xKd.of (Or.inr (Or.inr (Or.inl ⟨rfl, rfl, rfl⟩)))) (by decide) (c_144 hq (by omega)) ?_ (Nat.le_of_ble_eq_true rfl) rfl
    refine AT.icmp_eq M_327 rfl (fun b => ?_) (fun b => absurd (ht (8 + j) (by omega)) b)
    refine AT.iinc4 M_327 rfl rfl (i32_suc1 _) ?_
    refine AT.goto M_327 rfl ?_
    exact agm_117 hp hq ht n (j + 1) (by omega)
theorem agm_115 (hp : p < 7) (hq : q < 7) (ht : ∀ j, j < 12 → (xK X 0).1 19 p j = (xK X 0).1 19 q j) {v : Option Value} : AT 327 115 [some (.ref 1), some (.int (Int32.ofNat p)), some (.int (Int32.ofNat q)), some (.int (sAgr (xK X 0) p q)), v] [] X (fun o Y => o = .inl (some (.int 1)) ∧ Y = X) := by
  refine AT.iconst M_327 rfl (v := 0) (by decide) ?_
  refine AT.ist4 M_327 rfl rfl ?_
  exact agm_117 hp hq ht 4 0 rfl
theorem agm_99 (hp : p < 7) (hq : q < 7) (ht : ∀ j, j < 12 → (xK X 0).1 19 p j = (xK X 0).1 19 q j) : ∀ n j : Nat, j + n = 8 → AT 327 99 [some (.ref 1), some (.int (Int32.ofNat p)), some (.int (Int32.ofNat q)), some (.int (sAgr (xK X 0) p q)), some (.int (Int32.ofNat j))] [] X (fun o Y => o = .inl (some (.int 1)) ∧ Y = X)
  | 0, j, hj => by
    refine AT.iload M_327 rfl rfl ?_
    refine AT.bipush M_327 rfl (v := 8) (by decide) ?_
    refine AT.icmp_ge M_327 rfl (fun b => agm_115 hp hq ht) (fun b => absurd ((i32_le (a := 8) (by omega) (by omega)).mpr (by omega)) b)
  | n + 1, j, hj => by
    refine AT.iload M_327 rfl rfl ?_
    refine AT.bipush M_327 rfl (v := 8) (by decide) ?_
    refine AT.icmp_ge M_327 rfl (fun b => absurd ((i32_le (a := 8) (by omega) (by omega)).mp b) (by omega)) (fun b => ?_)
    refine AT.aload_n M_327 rfl rfl ?_
    refine AT.iload_n M_327 rfl rfl ?_
    refine AT.iload M_327 rfl rfl ?_
    refine AT.cv3i M_327 rfl M_143 rfl (Nat.le_of_ble_eq_true rfl) (xKd.of (Or.inr (Or.inr (Or.inl ⟨rfl, rfl, rfl⟩)))) (by decide) (c_143 hp (by omega)) ?_ (Nat.le_of_ble_eq_true rfl) rfl
    refine AT.aload_n M_327 rfl rfl ?_
    refine AT.iload_n M_327 rfl rfl ?_
    refine AT.iload M_327 rfl rfl ?_
    refine AT.cv3i M_327 rfl M_143 rfl (Nat.le_of_ble_eq_true rfl) (xKd.of (Or.inr (Or.inr (Or.inl ⟨rfl, rfl, rfl⟩)))) (by decide) (c_143 hq (by omega)) ?_ (Nat.le_of_ble_eq_true rfl) rfl
    refine AT.icmp_eq M_327 rfl (fun b => ?_) (fun b => absurd (ht j (by omega)) b)
    refine AT.iinc4 M_327 rfl rfl (i32_suc1 _) ?_
    refine AT.goto M_327 rfl ?_
    exact agm_99 hp hq ht n (j + 1) (by omega)
theorem agm_88 (hp : p < 7) (hq : q < 7) (hA : lAgr (xK X 0) p q) {v : Option Value} : AT 327 88 [some (.ref 1), some (.int (Int32.ofNat p)), some (.int (Int32.ofNat q)), some (.int (sAgr (xK X 0) p q)), v] [] X (fun o Y => o = .inl (some (.int 1)) ∧ Y = X) := by
  obtain ⟨u, cp, cq, ap, aq, lp, lq, g1, g2, g3, g4, g5, g6, g7, g8, g9, g10, g11, g12, g13, g14, g15, g16, hwp, hwq, htb⟩ := id hA
  refine AT.aload_n M_327 rfl rfl ?_
  refine AT.iload_n M_327 rfl rfl ?_
  refine AT.cv2i M_327 rfl M_135 rfl (Nat.le_of_ble_eq_true rfl) (xKd.of (Or.inr (Or.inr (Or.inl ⟨rfl, rfl, rfl⟩)))) (by decide) (c_135 hp) ?_ (Nat.le_of_ble_eq_true rfl) rfl
  refine AT.aload_n M_327 rfl rfl ?_
  refine AT.iload_n M_327 rfl rfl ?_
  refine AT.cv2i M_327 rfl M_135 rfl (Nat.le_of_ble_eq_true rfl) (xKd.of (Or.inr (Or.inr (Or.inl ⟨rfl, rfl, rfl⟩)))) (by decide) (c_135 hq) ?_ (Nat.le_of_ble_eq_true rfl) rfl
  refine AT.icmp_eq M_327 rfl (fun b => ?_) (fun b => ?_)
  · refine AT.iconst M_327 rfl (v := 0) (by decide) ?_
    refine AT.ist4 M_327 rfl rfl ?_
    exact agm_99 hp hq (htb b) 8 0 rfl
  · refine AT.iconst M_327 rfl (v := 1) (by decide) ?_
    refine AT.zret M_327 rfl rfl (Or.inr rfl) ?_
    exact ⟨rfl, rfl⟩
theorem agm_26 (hp : p < 7) (hq : q < 7) (hA : lAgr (xK X 0) p q) {LP LQ AP AQ : Nat} (elp : sLast (xK X 0) p = Int32.ofNat LP) (elq : sLast (xK X 0) q = Int32.ofNat LQ) (eap : (xK X 0).1 18 p 0 = Int32.ofNat AP) (eaq : (xK X 0).1 18 q 0 = Int32.ofNat AQ) (hB : LP ≤ 12400 ∧ LQ ≤ 12400 ∧ AP ≤ 12400 ∧ AQ ≤ 12400) : ∀ n x : Nat, min LP LQ < x + n → max AP AQ < x ∧ x ≤ 12401 → AT 327 26 [some (.ref 1), some (.int (Int32.ofNat p)), some (.int (Int32.ofNat q)), some (.int (sAgr (xK X 0) p q)), some (.int (Int32.ofNat x))] [] X (fun o Y => o = .inl (some (.int 1)) ∧ Y = X)
  | 0, x, hx, hx2 => by
    refine AT.iload M_327 rfl rfl ?_
    refine AT.aload_n M_327 rfl rfl ?_
    refine AT.iload_n M_327 rfl rfl ?_
    refine AT.cv2i M_327 rfl M_133 rfl (Nat.le_of_ble_eq_true rfl) (xKd.of (Or.inr (Or.inr (Or.inl ⟨rfl, rfl, rfl⟩)))) (by decide) (c_133 hp) ?_ (Nat.le_of_ble_eq_true rfl) rfl
    refine AT.aload_n M_327 rfl rfl ?_
    refine AT.iload_n M_327 rfl rfl ?_
    refine AT.cv2i M_327 rfl M_133 rfl (Nat.le_of_ble_eq_true rfl) (xKd.of (Or.inr (Or.inr (Or.inl ⟨rfl, rfl, rfl⟩)))) (by decide) (c_133 hq) ?_ (Nat.le_of_ble_eq_true rfl) rfl
    refine AT.min M_327 rfl rfl (Nat.le_of_ble_eq_true rfl) (v := Int32.ofNat (min LP LQ)) (by rw [elp, elq]; exact i32_min (by omega) (by omega)) ?_
    refine AT.icmp_gt M_327 rfl (fun b => agm_88 hp hq hA) (fun b => absurd ((i32_lt (by omega) (by omega)).mpr hx) b)
  | n + 1, x, hx, hx2 => by
    refine AT.iload M_327 rfl rfl ?_
    refine AT.aload_n M_327 rfl rfl ?_
    refine AT.iload_n M_327 rfl rfl ?_
    refine AT.cv2i M_327 rfl M_133 rfl (Nat.le_of_ble_eq_true rfl) (xKd.of (Or.inr (Or.inr (Or.inl ⟨rfl, rfl, rfl⟩)))) (by decide) (c_133 hp) ?_ (Nat.le_of_ble_eq_true rfl) rfl
    refine AT.aload_n M_327 rfl rfl ?_
    refine AT.iload_n M_327 rfl rfl ?_
    refine AT.cv2i M_327 rfl M_133 rfl (Nat.le_of_ble_eq_true rfl) (xKd.of (Or.inr (Or.inr (Or.inl ⟨rfl, rfl, rfl⟩)))) (by decide) (c_133 hq) ?_ (Nat.le_of_ble_eq_true rfl) rfl
    refine AT.min M_327 rfl rfl (Nat.le_of_ble_eq_true rfl) (v := Int32.ofNat (min LP LQ)) (by rw [elp, elq]; exact i32_min (by omega) (by omega)) ?_
    refine AT.icmp_gt M_327 rfl (fun b => agm_88 hp hq hA) (fun b => ?_)
    have hx0 : ¬ min LP LQ < x := fun z => b ((i32_lt (by omega) (by omega)).mpr z)
    obtain ⟨u, cp, cq, ap, aq, lp, lq, g1, g2, g3, g4, g5, g6, g7, g8, g9, g10, g11, g12, g13, g14, g15, g16, hwp, hwq, htb⟩ := id hA
    have zlp : lp = LP := by have z := g12.symm.trans elp; rwa [i32_eq (by omega) (by omega)] at z
    have zlq : lq = LQ := by have z := g13.symm.trans elq; rwa [i32_eq (by omega) (by omega)] at z
    have zap : ap = AP := by have z := g8.symm.trans eap; rwa [i32_eq (by omega) (by omega)] at z
    have zaq : aq = AQ := by have z := g9.symm.trans eaq; rwa [i32_eq (by omega) (by omega)] at z
    subst zlp zlq zap zaq
    obtain ⟨t1, t2, t3⟩ := g16 x hx2.1 (by omega) (by omega)
    refine AT.aload_n M_327 rfl rfl ?_
    refine AT.iload_n M_327 rfl rfl ?_
    refine AT.iload M_327 rfl rfl ?_
    refine AT.cv3i M_327 rfl M_138 rfl (Nat.le_of_ble_eq_true rfl) (xKd.of (Or.inr (Or.inr (Or.inl ⟨rfl, rfl, rfl⟩)))) (by decide) (c_138 hp hwp t1) ?_ (Nat.le_of_ble_eq_true rfl) rfl
    refine AT.aload_n M_327 rfl rfl ?_
    refine AT.iload_n M_327 rfl rfl ?_
    refine AT.iload M_327 rfl rfl ?_
    refine AT.cv3i M_327 rfl M_138 rfl (Nat.le_of_ble_eq_true rfl) (xKd.of (Or.inr (Or.inr (Or.inl ⟨rfl, rfl, rfl⟩)))) (by decide) (c_138 hq hwq t2) ?_ (Nat.le_of_ble_eq_true rfl) rfl
    have go : AT 327 86 [some (.ref 1), some (.int (Int32.ofNat p)), some (.int (Int32.ofNat q)), some (.int (sAgr (xK X 0) p q)), some (.int (Int32.ofNat x))] [] X (fun o Y => o = .inl (some (.int 1)) ∧ Y = X) := by
      refine AT.iinc4 M_327 rfl rfl (i32_suc1 _) ?_
      refine AT.goto M_327 rfl ?_
      exact agm_26 hp hq hA elp elq eap eaq hB n (x + 1) (by omega) (by omega)
    refine AT.icmp_eq M_327 rfl (fun b => ?_) (fun b => by refine AT.goto M_327 rfl ?_; exact go)
    obtain ⟨w1, e, w2, w3, w4⟩ := t3 b
    refine AT.iload M_327 rfl rfl ?_
    refine AT.iload_n M_327 rfl rfl ?_
    refine AT.icmp_gt M_327 rfl (fun b => absurd b (by rw [g1, i32_lt (by omega) (by omega)]; omega)) (fun b => ?_)
    refine AT.aload_n M_327 rfl rfl ?_
    refine AT.iload_n M_327 rfl rfl ?_
    refine AT.iload M_327 rfl rfl ?_
    refine AT.cv3i M_327 rfl M_139 rfl (Nat.le_of_ble_eq_true rfl) (xKd.of (Or.inr (Or.inr (Or.inl ⟨rfl, rfl, rfl⟩)))) (by decide) (c_139 hp w2 hwp) ?_ (Nat.le_of_ble_eq_true rfl) rfl
    refine AT.aload_n M_327 rfl rfl ?_
    refine AT.iload_n M_327 rfl rfl ?_
    refine AT.iload M_327 rfl rfl ?_
    refine AT.cv3i M_327 rfl M_139 rfl (Nat.le_of_ble_eq_true rfl) (xKd.of (Or.inr (Or.inr (Or.inl ⟨rfl, rfl, rfl⟩)))) (by decide) (c_139 hq w3 hwq) ?_ (Nat.le_of_ble_eq_true rfl) rfl
    refine AT.icmp_ne M_327 rfl (fun b => absurd rfl b) (fun b => ?_)
    refine AT.aload_n M_327 rfl rfl ?_
    refine AT.iload_n M_327 rfl rfl ?_
    refine AT.iload M_327 rfl rfl ?_
    refine AT.cv3i M_327 rfl M_140 rfl (Nat.le_of_ble_eq_true rfl) (xKd.of (Or.inr (Or.inr (Or.inl ⟨rfl, rfl, rfl⟩)))) (by decide) (c_140 hp w2 hwp w4) ?_ (Nat.le_of_ble_eq_true rfl) rfl
    refine AT.aload_n M_327 rfl rfl ?_
    refine AT.iload_n M_327 rfl rfl ?_
    refine AT.iload M_327 rfl rfl ?_
    refine AT.cv3i M_327 rfl M_140 rfl (Nat.le_of_ble_eq_true rfl) (xKd.of (Or.inr (Or.inr (Or.inl ⟨rfl, rfl, rfl⟩)))) (by decide) (c_140 hq w3 hwq w4) ?_ (Nat.le_of_ble_eq_true rfl) rfl
    refine AT.icmp_ne M_327 rfl (fun b => absurd rfl b) (fun b => ?_)
    refine AT.aload_n M_327 rfl rfl ?_
    refine AT.iload_n M_327 rfl rfl ?_
    refine AT.iload M_327 rfl rfl ?_
    refine AT.cv3i M_327 rfl M_141 rfl (Nat.le_of_ble_eq_true rfl) (xKd.of (Or.inr (Or.inr (Or.inl ⟨rfl, rfl, rfl⟩)))) (by decide) (c_141 hp w2 hwp) ?_ (Nat.le_of_ble_eq_true rfl) rfl
    refine AT.aload_n M_327 rfl rfl ?_
    refine AT.iload_n M_327 rfl rfl ?_
    refine AT.iload M_327 rfl rfl ?_
    refine AT.cv3i M_327 rfl M_141 rfl (Nat.le_of_ble_eq_true rfl) (xKd.of (Or.inr (Or.inr (Or.inl ⟨rfl, rfl, rfl⟩)))) (by decide) (c_141 hq w3 hwq) ?_ (Nat.le_of_ble_eq_true rfl) rfl
    refine AT.icmp_ne M_327 rfl (fun b => absurd rfl b) (fun b => ?_)
    refine AT.aload_n M_327 rfl rfl ?_
    refine AT.iload_n M_327 rfl rfl ?_
    refine AT.iload M_327 rfl rfl ?_
    refine AT.cv3i M_327 rfl M_142 rfl (Nat.le_of_ble_eq_true rfl) (xKd.of (Or.inr (Or.inr (Or.inl ⟨rfl, rfl, rfl⟩)))) (by decide) (c_142 hp w2 hwp) ?_ (Nat.le_of_ble_eq_true rfl) rfl
    refine AT.aload_n M_327 rfl rfl ?_
    refine AT.iload_n M_327 rfl rfl ?_
    refine AT.iload M_327 rfl rfl ?_
    refine AT.cv3i M_327 rfl M_142 rfl (Nat.le_of_ble_eq_true rfl) (xKd.of (Or.inr (Or.inr (Or.inl ⟨rfl, rfl, rfl⟩)))) (by decide) (c_142 hq w3 hwq) ?_ (Nat.le_of_ble_eq_true rfl) rfl
    refine AT.icmp_eq M_327 rfl (fun b => go) (fun b => absurd rfl b)
theorem c_327 (hp : p < 7) (hq : q < 7) (hA : lAgr (xK X 0) p q) : RT 327 [some (.ref 1), some (.int (Int32.ofNat p)), some (.int (Int32.ofNat q)), none, none] X (some (.int 1)) X := by
  obtain ⟨u, cp, cq, ap, aq, lp, lq, g1, g2, g3, g4, g5, g6, g7, g8, g9, g10, g11, g12, g13, g14, g15, g16, hwp, hwq, htb⟩ := id hA
  refine AT.aload_n M_327 rfl rfl ?_
  refine AT.iload_n M_327 rfl rfl ?_
  refine AT.iload_n M_327 rfl rfl ?_
  refine AT.cv3i M_327 rfl M_150 rfl (Nat.le_of_ble_eq_true rfl) (xKd.of (Or.inr (Or.inr (Or.inl ⟨rfl, rfl, rfl⟩)))) (by decide) (c_150 hp hq hwp hwq) ?_ (Nat.le_of_ble_eq_true rfl) rfl
  refine AT.ist3 M_327 rfl rfl ?_
  refine AT.iload_n M_327 rfl rfl ?_
  refine AT.aload_n M_327 rfl rfl ?_
  refine AT.iload_n M_327 rfl rfl ?_
  refine AT.cv2i M_327 rfl M_135 rfl (Nat.le_of_ble_eq_true rfl) (xKd.of (Or.inr (Or.inr (Or.inl ⟨rfl, rfl, rfl⟩)))) (by decide) (c_135 hp) ?_ (Nat.le_of_ble_eq_true rfl) rfl
  refine AT.aload_n M_327 rfl rfl ?_
  refine AT.iload_n M_327 rfl rfl ?_
  refine AT.cv2i M_327 rfl M_135 rfl (Nat.le_of_ble_eq_true rfl) (xKd.of (Or.inr (Or.inr (Or.inl ⟨rfl, rfl, rfl⟩)))) (by decide) (c_135 hq) ?_ (Nat.le_of_ble_eq_true rfl) rfl
  refine AT.min M_327 rfl rfl (Nat.le_of_ble_eq_true rfl) (v := Int32.ofNat (min cp cq)) (by rw [g3, g4]; exact i32_min (by omega) (by omega)) ?_
  refine AT.icmp_ge M_327 rfl (fun b => ?_) (fun b => absurd (by rw [g1, i32_le (by omega) (by omega)]; exact g7) b)
  refine AT.aload_n M_327 rfl rfl ?_
  refine AT.iload_n M_327 rfl rfl ?_
  refine AT.cv2i M_327 rfl M_132 rfl (Nat.le_of_ble_eq_true rfl) (xKd.of (Or.inr (Or.inr (Or.inl ⟨rfl, rfl, rfl⟩)))) (by decide) (c_132 hp) ?_ (Nat.le_of_ble_eq_true rfl) rfl
  refine AT.aload_n M_327 rfl rfl ?_
  refine AT.iload_n M_327 rfl rfl ?_
  refine AT.cv2i M_327 rfl M_132 rfl (Nat.le_of_ble_eq_true rfl) (xKd.of (Or.inr (Or.inr (Or.inl ⟨rfl, rfl, rfl⟩)))) (by decide) (c_132 hq) ?_ (Nat.le_of_ble_eq_true rfl) rfl
  refine AT.max M_327 rfl rfl (Nat.le_of_ble_eq_true rfl) (v := Int32.ofNat (max ap aq)) (by rw [g8, g9]; exact i32_max (by omega) (by omega)) ?_
  refine AT.iconst M_327 rfl (v := 1) (by decide) ?_
  refine AT.iadd M_327 rfl (i32_suc1 _) ?_
  refine AT.ist4 M_327 rfl rfl ?_
  exact agm_26 hp hq hA g12 g13 g8 g9 ⟨g14, g15, g10, g11⟩ (min lp lq + 1) (max ap aq + 1) (by omega) (by omega)
end AGM
