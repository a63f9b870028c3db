/-! ===== COPYING EVERYTHING ===== -/
def kCop1 (K' K : KK) (q : Nat) : KK := kLog (kCopy K K' q q) q (K'.2.1 q)
def kCopS (K' : KK) : Nat → Nat → KK → KK
  | 0, _, K => K
  | n + 1, q, K => kCopS K' n (q + 1) (kCop1 K' K q)
def kCopC (K' : KK) : Nat → Nat → KK → KK
  | 0, _, K => K
  | n + 1, q, K => kCopC K' n (q + 1) (kCli K K' q q)
def kRlS (f j : Nat) : Prop := ((((4 ≤ f ∧ f ≤ 6) ∨ (12 ≤ f ∧ f ≤ 17)) ∧ j = 0) ∨ (f = 19 ∧ j < 16) ∨ ((f = 2 ∨ f = 3) ∧ j < 7) ∨ (f = 18))
def kRlC (f j : Nat) : Prop := ((f = 35 ∨ f = 36) ∧ j = 0) ∨ (f = 34 ∧ j < 7)
theorem kCop1_s {K' K : KK} {q f j : Nat} (h : kRlS f j) : (kCop1 K' K q).1 f q j = K'.1 f q j := by
  unfold kCop1 kCopy kRowN
  rcases h with ⟨h, rfl⟩ | ⟨rfl, hj⟩ | ⟨h, hj⟩ | rfl
  · rcases (by omega : f = 4 ∨ f = 5 ∨ f = 6 ∨ f = 12 ∨ f = 13 ∨ f = 14 ∨ f = 15 ∨ f = 16 ∨ f = 17) with rfl | rfl | rfl | rfl | rfl | rfl | rfl | rfl | rfl <;> simp [kSet_1, kRow_1, kLog_1]
  · simp [kSet_1, kRow_1, kLog_1, hj]
  · rcases h with rfl | rfl <;> simp [kSet_1, kRow_1, kLog_1, hj]
  · simp [kSet_1, kRow_1, kLog_1]
theorem kCop1_o {K' K : KK} {q f i j : Nat} (h : ¬ i = q) : (kCop1 K' K q).1 f i j = K.1 f i j := by
  unfold kCop1 kCopy kRowN
  simp [kSet_1, kRow_1, kLog_1, h]
theorem kCop1_f {K' K : KK} {q f i j : Nat} (h : ¬ ((2 ≤ f ∧ f ≤ 6) ∨ (12 ≤ f ∧ f ≤ 19))) : (kCop1 K' K q).1 f i j = K.1 f i j := by
  unfold kCop1 kCopy kRowN
  rw [kLog_1]
  iterate 6 rw [kSet_ne (by omega)]
  rw [kRow_ne (by omega)]
  iterate 3 rw [kSet_ne (by omega)]
  rw [kRow_ne (by omega), kRow_ne (by omega), kRow_ne (by omega)]
theorem kCop1_l (K' K : KK) (q i : Nat) : (kCop1 K' K q).2.1 i = if i = q then K'.2.1 q else K.2.1 i := rfl
theorem kCop1_m (K' K : KK) (q : Nat) : (kCop1 K' K q).2.2 = K.2.2 := rfl
theorem kCopS_o {K' : KK} : ∀ (n q : Nat) {K : KK} {f i j : Nat}, (i < q ∨ q + n ≤ i) → (kCopS K' n q K).1 f i j = K.1 f i j ∧ (kCopS K' n q K).2.1 i = K.2.1 i
  | 0, _, _, _, _, _, _ => ⟨rfl, rfl⟩
  | n + 1, q, K, f, i, j, h => by
    have := kCopS_o (K' := K') n (q + 1) (K := kCop1 K' K q) (f := f) (i := i) (j := j) (by omega)
    exact ⟨this.1.trans (kCop1_o (by omega)), this.2.trans (if_neg (by omega))⟩
theorem kCopS_s {K' : KK} : ∀ (n q : Nat) {K : KK} {f i j : Nat}, q ≤ i → i < q + n → kRlS f j → (kCopS K' n q K).1 f i j = K'.1 f i j ∧ (kCopS K' n q K).2.1 i = K'.2.1 i
  | 0, _, _, _, _, _, h1, h2, _ => by omega
  | n + 1, q, K, f, i, j, h1, h2, h3 => by
    by_cases e : i = q
    · subst e
      have := kCopS_o (K' := K') n (i + 1) (K := kCop1 K' K i) (f := f) (i := i) (j := j) (by omega)
      exact ⟨this.1.trans (kCop1_s h3), this.2.trans (if_pos rfl)⟩
    · exact kCopS_s n (q + 1) (by omega) (by omega) h3
theorem kCopS_f {K' : KK} : ∀ (n q : Nat) {K : KK} {f i j : Nat}, ¬ ((2 ≤ f ∧ f ≤ 6) ∨ (12 ≤ f ∧ f ≤ 19)) → (kCopS K' n q K).1 f i j = K.1 f i j
  | 0, _, _, _, _, _, _ => rfl
  | n + 1, q, K, f, i, j, h => (kCopS_f n (q + 1) h).trans (kCop1_f h)
theorem kCli_o {K K' : KK} {q f i j : Nat} (h : ¬ (i = q ∧ 34 ≤ f ∧ f ≤ 36)) : (kCli K K' q q).1 f i j = K.1 f i j := by
  unfold kCli
  rw [kSet_ne (by omega), kSet_ne (by omega), kRow_ne (by omega)]
theorem kCli_s {K K' : KK} {q f j : Nat} (h : kRlC f j) (hz : K'.1 34 q 3 = 0 → ∀ j, j < 7 → K'.1 34 q j = 0) : (kCli K K' q q).1 f q j = K'.1 f q j := by
  unfold kCli
  rcases h with ⟨h, rfl⟩ | ⟨rfl, hj⟩
  · rcases h with rfl | rfl <;> simp [kSet_1, kRow_1]
  · rw [kSet_ne (by omega), kSet_ne (by omega)]
    show (if 34 = 34 ∧ q = q then _ else _) = _
    rw [if_pos ⟨rfl, rfl⟩]
    by_cases h : K'.1 34 q 3 = 0
    · rw [if_pos h, hz h j hj]; exact if_pos hj
    · rw [if_neg h]
theorem kCopC_o {K' : KK} : ∀ (n q : Nat) {K : KK} {f i j : Nat}, ¬ (q ≤ i ∧ i < q + n ∧ 34 ≤ f ∧ f ≤ 36) → (kCopC K' n q K).1 f i j = K.1 f i j
  | 0, _, _, _, _, _, _ => rfl
  | n + 1, q, K, f, i, j, h => (kCopC_o n (q + 1) (by omega)).trans (kCli_o (by omega))
theorem kCopC_s {K' : KK} (hz : ∀ c, c < 4 → K'.1 34 c 3 = 0 → ∀ j, j < 7 → K'.1 34 c j = 0) : ∀ (n q : Nat) {K : KK} {f i j : Nat}, q + n ≤ 4 → q ≤ i → i < q + n → kRlC f j → (kCopC K' n q K).1 f i j = K'.1 f i j
  | 0, _, _, _, _, _, _, h1, h2, _ => by omega
  | n + 1, q, K, f, i, j, h4, h1, h2, h3 => by
    by_cases e : i = q
    · subst e
      exact (kCopC_o n (i + 1) (by omega)).trans (kCli_s h3 (hz i (by omega)))
    · exact kCopC_s hz n (q + 1) (by omega) (by omega) (by omega) h3
theorem kCopC_2 {K' : KK} : ∀ (n q : Nat) (K : KK), (kCopC K' n q K).2 = K.2
  | 0, _, _ => rfl
  | n + 1, q, K => (kCopC_2 n (q + 1) _).trans rfl
def kCopA (K' K : KK) : KK := kSet (kNetC (kCopC K' 4 0 (kCopS K' 7 0 K)) K') 33 0 0 (K'.1 33 0 0)
theorem kNetC_1 {K K' : KK} {a b c : Nat} (h : ¬ (a = 30 ∨ a = 32)) : (kNetC K K').1 a b c = K.1 a b c := by
  unfold kNetC
  rw [kSet_ne (by omega)]
  exact if_neg (by omega)
theorem kNetC_30 {K K' : KK} {b : Nat} (h : b < 7) : (kNetC K K').1 30 b 0 = K'.1 30 b 0 := by
  unfold kNetC
  rw [kSet_ne (by omega)]
  exact if_pos ⟨rfl, h, rfl⟩
theorem kCopA_agr {K' K : KK} (hz : ∀ c, c < 4 → K'.1 34 c 3 = 0 → ∀ j, j < 7 → K'.1 34 c j = 0) : kAgr (kCopA K' K) K' := by
  refine ⟨fun f i j h => ?_, fun i hi => ?_, rfl⟩
  · unfold kCopA
    have sv : kRlS f j → i < 7 → K'.1 f i j = (kCopA K' K).1 f i j := fun h1 h2 => by
      unfold kCopA
      unfold kRlS at h1
      rw [kSet_ne (by omega), kNetC_1 (by omega), kCopC_o 4 0 (by omega)]
      exact (kCopS_s 7 0 (by omega) (by omega) h1).1.symm
    have cl : kRlC f j → i < 4 → K'.1 f i j = (kCopA K' K).1 f i j := fun h1 h2 => by
      unfold kCopA
      have h3 := h1
      unfold kRlC at h1
      rw [kSet_ne (by omega), kNetC_1 (by omega)]
      exact (kCopC_s hz 4 0 (by omega) (by omega) (by omega) h3).symm
    unfold kCopA at sv cl
    rcases h with ⟨h, h1, h2⟩ | ⟨rfl, h1, h2⟩ | ⟨h, h1, h2⟩ | ⟨rfl, h1, rfl⟩ | ⟨h, rfl, rfl⟩ | ⟨h, h1, h2⟩ | ⟨rfl, h1, h2⟩ | ⟨rfl, h1, h2⟩
    · exact sv (by unfold kRlS; omega) h1
    · exact sv (by unfold kRlS; omega) h1
    · exact sv (by unfold kRlS; omega) h1
    · rw [kSet_ne (by omega)]; exact (kNetC_30 h1).symm
    · rcases h with rfl | rfl
      · rw [kSet_ne (by omega)]
        unfold kNetC
        exact (kSet_at _ _ _ _ _).symm
      · exact (kSet_at _ _ _ _ _).symm
    · exact cl (by unfold kRlC; omega) h1
    · exact sv (by unfold kRlS; omega) h1
    · exact cl (by unfold kRlC; omega) h1
  · show _ = (kCopC K' 4 0 (kCopS K' 7 0 K)).2.1 i
    rw [kCopC_2]
    exact (kCopS_s 7 0 (f := 18) (j := 0) (by omega) (by omega) (by unfold kRlS; omega)).2.symm
theorem rCopy.rel {o o' n s : Nat} {X Y : XS} (hs : s < 7) (hp : mPr X o) (hp' : mPr X o') (hn : ((xK X o').2.1 s).length ≤ n) (h : rCopy X o s o' s (kCopy (xK X o) (xK X o') s s) Y) : cRel o n 0 0 X Y (kCop1 (xK X o') (xK X o) s) := by
  obtain ⟨D', g, v1, v2, rfl⟩ := h
  have g2 : dGrow (xD X) D' o s n := ⟨g.1, g.2.1, g.2.2.1, g.2.2.2.1, g.2.2.2.2.1, g.2.2.2.2.2.1, g.2.2.2.2.2.2.1, g.2.2.2.2.2.2.2.1, by have := g.2.2.2.2.2.2.2.2; omega⟩
  refine ⟨⟨rfl, fun a => rfl, g2.rel hs, fun i hi => ?_⟩, dHnd.of g.2.1 g.2.2.1⟩
  rw [xK_same]
  show dV D' o 10 i 0 = sMem (kCop1 (xK X o') (xK X o) s) i ∧ dV D' o 11 i 0 = sMix (kCop1 (xK X o') (xK X o) s) i
  by_cases e : i = s
  · subst e
    have hS : sSame (xK X o') (kCop1 (xK X o') (xK X o) i) i := ⟨if_pos rfl, fun j hj => kCop1_s (by unfold kRlS; omega)⟩
    rw [hS.mem, hS.mix, v1, v2]
    exact hp' i hi
  · have hS : sSame (xK X o) (kCop1 (xK X o') (xK X o) s) i := ⟨if_neg e, fun j hj => kCop1_o e⟩
    rw [hS.mem, hS.mix, g.2.2.2.2.1 o 10 i 0 (fun z => e z.2.1), g.2.2.2.2.1 o 11 i 0 (fun z => e z.2.1)]
    exact hp i hi
theorem l_9a {o o' n : Nat} {K' : KK} {Q : PO → XS → Prop} (ho : o < 2) (ho2 : o' < 2) (hne : ¬ o' = o) (hl : ∀ i, i < 7 → (K'.1 4 i 0 = 0 ∨ K'.1 4 i 0 = 1) ∧ (K'.2.1 i).length < 500000) (hn : ∀ i, i < 7 → (K'.2.1 i).length ≤ n) : ∀ (m q : Nat) (X : XS), q + m = 7 → mPr X o → mPr X o' → xK X o' = K' → (∀ Y, cRel o n 0 0 X Y (kCopS K' m q (xK X o)) → AT 9 16 [some (.ref (aB o)), some (.ref (aB o')), some (.int (Int32.ofNat 7))] [] Y Q) → AT 9 2 [some (.ref (aB o)), some (.ref (aB o')), some (.int (Int32.ofNat q))] [] X Q
  | 0, q, X, hq, hp, hp', hK, hC => by
    refine AT.iload_n M_9 rfl rfl ?_
    refine AT.bipush M_9 rfl (v := 7) (by decide) ?_
    refine AT.icmp_ge M_9 rfl (fun b4 => ?_) (fun b4 => ?_)
    · have h := hC X ((cRel.rf n hp).up (Nat.le_refl _) (Nat.le_refl _))
      rw [show Int32.ofNat q = Int32.ofNat 7 from by rw [show q = 7 by omega]]
      exact h
    · exact absurd (by rw [show q = 7 by omega]; exact Int32.le_refl _) b4
  | m + 1, q, X, hq, hp, hp', hK, hC => by
    have hq7 : q < 7 := by omega
    refine AT.iload_n M_9 rfl rfl ?_
    refine AT.bipush M_9 rfl (v := 7) (by decide) ?_
    refine AT.icmp_ge M_9 rfl (fun b4 => ?_) (fun b4 => ?_)
    · exact absurd ((i32_le (b := q) (a := 7) (by omega) (by omega)).mp b4) (by omega)
    · refine AT.aload_n M_9 rfl rfl ?_
      refine AT.f_1_0 M_9 rfl (by assumption) ?_
      refine AT.iload_n M_9 rfl rfl ?_
      refine AT.a_svs M_9 rfl rfl (by assumption) (by assumption) ?_
      refine AT.aload_n M_9 rfl rfl ?_
      refine AT.f_1_0 M_9 rfl (by assumption) ?_
      refine AT.iload_n M_9 rfl rfl ?_
      refine AT.a_svs M_9 rfl rfl (by assumption) (by assumption) ?_
      refine AT.cv2w M_9 rfl M_60 rfl (Nat.le_of_ble_eq_true rfl) (xKd.of (shp_sv (by assumption) (by assumption))) (by decide) (c_60 ho hq7 ho2 hq7 hne (by rw [hK]; exact (hl q hq7).2) (by rw [hK]; exact (hl q hq7).1)) (fun Y hc13 => ?_) (Nat.le_of_ble_eq_true rfl) rfl
      have r1 := hc13.rel (n := n) hq7 hp hp' (by rw [hK]; exact hn q hq7)
      rw [hK] at r1
      have e1 : xK Y o' = K' := by rw [r1.1.2.1 o', if_neg hne]; exact hK
      refine AT.iinc2 M_9 rfl rfl (i32_succ _) ?_
      refine AT.goto M_9 rfl ?_
      refine l_9a ho ho2 hne hl hn m (q + 1) Y (by omega) r1.pr (fun i hi => by rw [r1.1.2.2.1.2.1 o' 10 i 0 (fun z => hne z.1), r1.1.2.2.1.2.1 o' 11 i 0 (fun z => hne z.1), e1, ← hK]; exact hp' i hi) e1 (fun Z hZ => ?_)
      rw [r1.k] at hZ
      exact hC Z ((r1.tr hZ).up (Nat.le_refl _) (Nat.le_refl _))
theorem l_9b {o o' n : Nat} {K' : KK} {Q : PO → XS → Prop} (ho : o < 2) (ho2 : o' < 2) (hne : ¬ o' = o) (hl : ∀ i, i < 4 → (K'.1 35 i 0 = 0 ∨ K'.1 35 i 0 = 1)) : ∀ (m q : Nat) (X : XS), q + m = 4 → mPr X o → xK X o' = K' → (∀ Y, cRel o n 0 0 X Y (kCopC K' m q (xK X o)) → AT 9 32 [some (.ref (aB o)), some (.ref (aB o')), some (.int (Int32.ofNat 4))] [] Y Q) → AT 9 18 [some (.ref (aB o)), some (.ref (aB o')), some (.int (Int32.ofNat q))] [] X Q
  | 0, q, X, hq, hp, hK, hC => by
    refine AT.iload_n M_9 rfl rfl ?_
    refine AT.iconst M_9 rfl (v := 4) (by decide) ?_
    refine AT.icmp_ge M_9 rfl (fun b20 => ?_) (fun b20 => ?_)
    · have h := hC X ((cRel.rf n hp).up (Nat.le_refl _) (Nat.le_refl _))
      rw [show Int32.ofNat q = Int32.ofNat 4 from by rw [show q = 4 by omega]]
      exact h
    · exact absurd (by rw [show q = 4 by omega]; exact Int32.le_refl _) b20
  | m + 1, q, X, hq, hp, hK, hC => by
    have hq7 : q < 4 := by omega
    refine AT.iload_n M_9 rfl rfl ?_
    refine AT.iconst M_9 rfl (v := 4) (by decide) ?_
    refine AT.icmp_ge M_9 rfl (fun b20 => ?_) (fun b20 => ?_)
    · exact absurd ((i32_le (b := q) (a := 4) (by omega) (by omega)).mp b20) (by omega)
    · refine AT.aload_n M_9 rfl rfl ?_
      refine AT.f_1_1 M_9 rfl (by assumption) ?_
      refine AT.iload_n M_9 rfl rfl ?_
      refine AT.a_cls M_9 rfl rfl (by assumption) (by assumption) ?_
      refine AT.aload_n M_9 rfl rfl ?_
      refine AT.f_1_1 M_9 rfl (by assumption) ?_
      refine AT.iload_n M_9 rfl rfl ?_
      refine AT.a_cls M_9 rfl rfl (by assumption) (by assumption) ?_
      refine AT.cv20 M_9 rfl M_2 rfl (Nat.le_of_ble_eq_true rfl) (xKd.of (shp_cli (by assumption) (by assumption))) (by decide) (c_2 ho hq7 ho2 hq7 hne (by rw [hK]; exact hl q hq7)) ?_ (Nat.le_of_ble_eq_true rfl) rfl
      have r1 := cRel.set (n := n) (K := kCli (xK X o) (xK X o') q q) hp (fun i _ => ⟨rfl, fun j _ => kCli_o (by omega)⟩)
      have e1 : xK (xSetK X o (kCli (xK X o) (xK X o') q q)) o' = K' := by rw [xK_other _ _ _ _ hne]; exact hK
      refine AT.iinc2 M_9 rfl rfl (i32_succ _) ?_
      refine AT.goto M_9 rfl ?_
      refine l_9b (n := n) ho ho2 hne hl m (q + 1) _ (by omega) r1.pr e1 (fun Z hZ => ?_)
      rw [xK_same] at hZ
      refine hC Z ?_
      show cRel o n 0 0 X Z (kCopC K' m (q + 1) (kCli (xK X o) K' q q))
      rw [← hK]
      rw [hK] at hZ
      rw [hK]
      rw [hK] at r1
      exact (r1.tr hZ).up (Nat.le_refl _) (Nat.le_refl _)
theorem c_9x {X : XS} {o o' n : Nat} (ho : o < 2) (ho2 : o' < 2) (hne : ¬ o' = o) (hp : mPr X o) (hp' : mPr X o') (hl : ∀ i, i < 7 → ((xK X o').2.1 i).length < 500000) (hn : ∀ i, i < 7 → ((xK X o').2.1 i).length ≤ n) : RU 9 [some (.ref (aB o)), some (.ref (aB o')), none] X none (fun Y => ∃ hh, ∃ Z, cRel0 o n 0 0 X Z (kCopC (xK X o') 4 0 (kCopS (xK X o') 7 0 (xK X o))) ∧ Y = xSetK (xSetD Z (dSetV (dRowH (xD Z) o hh) o 31 0 0 (dV (xD X) o' 31 0 0))) o (kCopA (xK X o') (xK X o))) := by
    refine AT.rep (fun hr => ?_)
    have hw := hr.choose_spec.2.2.2.2.2.2.1 o' (by omega)
    refine AT.iconst M_9 rfl (v := 0) (by decide) ?_
    refine AT.ist2 M_9 rfl rfl ?_
    refine l_9a (n := n) (K' := xK X o') ho ho2 hne (fun i hi => ⟨(hw.2.1 i hi), hl i hi⟩) hn 7 0 X rfl hp hp' rfl (fun Y hY => ?_)
    refine AT.iconst M_9 rfl (v := 0) (by decide) ?_
    refine AT.ist2 M_9 rfl rfl ?_
    have e1 : xK Y o' = xK X o' := by rw [hY.1.2.1 o', if_neg hne]
    refine l_9b (n := n) (K' := xK X o') ho ho2 hne (fun i hi => hw.2.2 i hi) 4 0 Y rfl hY.pr e1 (fun Z hZ => ?_)
    refine AT.aload_n M_9 rfl rfl ?_
    refine AT.f_1_2 M_9 rfl (by assumption) ?_
    refine AT.aload_n M_9 rfl rfl ?_
    refine AT.f_1_2 M_9 rfl (by assumption) ?_
    refine AT.cv2w M_9 rfl M_49 rfl (Nat.le_of_ble_eq_true rfl) (xKd.of (shp_net (by assumption))) (by decide) (c_49 ho ho2 hne) (fun Y hc36 => ?_) (Nat.le_of_ble_eq_true rfl) rfl
    refine AT.aload_n M_9 rfl rfl ?_
    refine AT.aload_n M_9 rfl rfl ?_
    refine AT.f_1_3 M_9 rfl ho2 ?_
    refine AT.p_1_3 M_9 rfl ho ?_
    refine AT.vret M_9 rfl rfl ?_
    obtain ⟨hh, rfl⟩ := hc36
    refine ⟨rfl, hh, Z, ?_, ?_⟩
    · have r := (hY.tr hZ).1
      rw [hY.k] at r
      exact r.up0 (by omega) (by omega)
    · have e2 : xK Z o' = xK X o' := by rw [hZ.1.2.1 o', if_neg hne]; exact e1
      have e3 : xK Z o = kCopC (xK X o') 4 0 (kCopS (xK X o') 7 0 (xK X o)) := by rw [hZ.k, hY.k]
      have e4 : dV (xD Z) o' 31 0 0 = dV (xD X) o' 31 0 0 := by rw [hZ.1.2.2.1.2.1 o' 31 0 0 (by omega), hY.1.2.2.1.2.1 o' 31 0 0 (by omega)]
      rw [xK_other _ _ _ _ hne, xK_same, xSetK_idem]
      show xSetK (xSetD Z (dSetV (dRowH (xD Z) o hh) o 31 0 0 (dV (xD Z) o' 31 0 0))) o (kSet (kNetC (xK Z o) (xK Z o')) 33 0 0 ((xK Z o').1 33 0 0)) = _
      rw [e2, e3, e4]
      rfl
/-- everything is copied: the other state has the same numbers then -/
theorem c_9 {X : XS} {o o' n : Nat} (ho : o < 2) (ho2 : o' < 2) (hne : ¬ o' = o) (hp : mPr X o) (hp' : mPr X o') (hl : ∀ i, i < 7 → ((xK X o').2.1 i).length < 500000) (hn : ∀ i, i < 7 → ((xK X o').2.1 i).length ≤ n) (hz : ∀ c, c < 4 → (xK X o').1 34 c 3 = 0 → ∀ j, j < 7 → (xK X o').1 34 c j = 0) : RU 9 [some (.ref (aB o)), some (.ref (aB o')), none] X none (fun Y => ∃ Z, cRel0 o n 0 0 X Z (xK X o') ∧ Y = xCutL Z o (dV (xD X) o' 31 0 0)) := by
  refine AT.post (c_9x (n := n) ho ho2 hne hp hp' hl hn) ?_
  rintro o9 Y g hg ⟨rfl, hh, Z, hZ, rfl⟩
  refine ⟨_, hg.agr (K := xK X o') (by rw [xK_same]; exact kCopA_agr hz), rfl, xSetK (xSetD Z (dRowH (xD Z) o hh)) o (xK X o'), ?_, ?_⟩
  · refine ⟨hZ.1, fun a => ?_, ?_, fun i hi => ?_⟩
    · rw [xK_setK]
      split
      · rfl
      · rename_i z
        have := hZ.2.1 a
        rw [if_neg z] at this
        exact this
    · exact hZ.2.2.1
    · rw [xK_same]
      have h1 := hZ.2.2.2 i hi
      have hS : sSame (xK X o') (xK Z o) i := by
        rw [hZ.k]
        refine ⟨?_, fun j hj => ?_⟩
        · rw [kCopC_2]; exact (kCopS_s 7 0 (f := 18) (j := 0) (by omega) (by omega) (by unfold kRlS; omega)).2
        · rw [kCopC_o 4 0 (by omega)]; exact (kCopS_s 7 0 (by omega) (by omega) (by unfold kRlS; omega)).1
      rw [hS.mem, hS.mix] at h1
      exact h1
  · rw [xSetK_idem]
    rfl
