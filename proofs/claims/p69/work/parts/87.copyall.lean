/-! ===== COPYING EVERYTHING ===== -/
def kCop1 (K' K : KK) (q : Nat) : KK := kLog (kCopy K K' q q) q (K'.2.1 q)
def kCopS (K' : KK) : Nat → Nat → KK → KK
  | 0, _, K => K
  | n + 1, q, K => kCopS K' n (q + 1) (kCop1 K' K q)
def kCopC (K' : KK) : Nat → Nat → KK → KK
  | 0, _, K => K
  | n + 1, q, K => kCopC K' n (q + 1) (kCli K K' q q)
def kRlS (f j : Nat) : Prop := ((((4 ≤ f ∧ f ≤ 6) ∨ (12 ≤ f ∧ f ≤ 17)) ∧ j = 0) ∨ (f = 19 ∧ j < 16) ∨ ((f = 2 ∨ f = 3) ∧ j < 7) ∨ (f = 18))
def kRlC (f j : Nat) : Prop := ((f = 35 ∨ f = 36) ∧ j = 0) ∨ (f = 34 ∧ j < 7)
theorem kCop1_s {K' K : KK} {q f j : Nat} (h : kRlS f j) : (kCop1 K' K q).1 f q j = K'.1 f q j := by
  unfold kCop1 kCopy kRowN
  rcases h with ⟨h, rfl⟩ | ⟨rfl, hj⟩ | ⟨h, hj⟩ | rfl
  · rcases (by omega : f = 4 ∨ f = 5 ∨ f = 6 ∨ f = 12 ∨ f = 13 ∨ f = 14 ∨ f = 15 ∨ f = 16 ∨ f = 17) with rfl | rfl | rfl | rfl | rfl | rfl | rfl | rfl | rfl <;> simp [kSet_1, kRow_1, kLog_1]
  · simp [kSet_1, kRow_1, kLog_1, hj]
  · rcases h with rfl | rfl <;> simp [kSet_1, kRow_1, kLog_1, hj]
  · simp [kSet_1, kRow_1, kLog_1]
theorem kCop1_o {K' K : KK} {q f i j : Nat} (h : ¬ i = q) : (kCop1 K' K q).1 f i j = K.1 f i j := by
  unfold kCop1 kCopy kRowN
  simp [kSet_1, kRow_1, kLog_1, h]
theorem kCop1_f {K' K : KK} {q f i j : Nat} (h : ¬ ((2 ≤ f ∧ f ≤ 6) ∨ (12 ≤ f ∧ f ≤ 19))) : (kCop1 K' K q).1 f i j = K.1 f i j := by
  unfold kCop1 kCopy kRowN
  rw [kLog_1]
  iterate 6 rw [kSet_ne (by omega)]
  rw [kRow_ne (by omega)]
  iterate 3 rw [kSet_ne (by omega)]
  rw [kRow_ne (by omega), kRow_ne (by omega), kRow_ne (by omega)]
theorem kCop1_l (K' K : KK) (q i : Nat) : (kCop1 K' K q).2.1 i = if i = q then K'.2.1 q else K.2.1 i := rfl
theorem kCop1_m (K' K : KK) (q : Nat) : (kCop1 K' K q).2.2 = K.2.2 := rfl
theorem kCopS_o {K' : KK} : ∀ (n q : Nat) {K : KK} {f i j : Nat}, (i < q ∨ q + n ≤ i) → (kCopS K' n q K).1 f i j = K.1 f i j ∧ (kCopS K' n q K).2.1 i = K.2.1 i
  | 0, _, _, _, _, _, _ => ⟨rfl, rfl⟩
  | n + 1, q, K, f, i, j, h => by
    have := kCopS_o (K' := K') n (q + 1) (K := kCop1 K' K q) (f := f) (i := i) (j := j) (by omega)
    exact ⟨this.1.trans (kCop1_o (by omega)), this.2.trans (if_neg (by omega))⟩
theorem kCopS_s {K' : KK} : ∀ (n q : Nat) {K : KK} {f i j : Nat}, q ≤ i → i < q + n → kRlS f j → (kCopS K' n q K).1 f i j = K'.1 f i j ∧ (kCopS K' n q K).2.1 i = K'.2.1 i
  | 0, _, _, _, _, _, h1, h2, _ => by omega
  | n + 1, q, K, f, i, j, h1, h2, h3 => by
    by_cases e : i = q
    · subst e
      have := kCopS_o (K' := K') n (i + 1) (K := kCop1 K' K i) (f := f) (i := i) (j := j) (by omega)
      exact ⟨this.1.trans (kCop1_s h3), this.2.trans (if_pos rfl)⟩
    · exact kCopS_s n (q + 1) (by omega) (by omega) h3
theorem kCopS_f {K' : KK} : ∀ (n q : Nat) {K : KK} {f i j : Nat}, ¬ ((2 ≤ f ∧ f ≤ 6) ∨ (12 ≤ f ∧ f ≤ 19)) → (kCopS K' n q K).1 f i j = K.1 f i j
  | 0, _, _, _, _, _, _ => rfl
  | n + 1, q, K, f, i, j, h => (kCopS_f n (q + 1) h).trans (kCop1_f h)
theorem kCli_o {K K' : KK} {q f i j : Nat} (h : ¬ (i = q ∧ 34 ≤ f ∧ f ≤ 36)) : (kCli K K' q q).1 f i j = K.1 f i j := by
  unfold kCli
  rw [kSet_ne (by omega), kSet_ne (by omega), kRow_ne (by omega)]
theorem kCli_s {K K' : KK} {q f j : Nat} (h : kRlC f j) (hz : K'.1 34 q 3 = 0 → ∀ j, j < 7 → K'.1 34 q j = 0) : (kCli K K' q q).1 f q j = K'.1 f q j := by
  unfold kCli
  rcases h with ⟨h, rfl⟩ | ⟨rfl, hj⟩
  · rcases h with rfl | rfl <;> simp [kSet_1, kRow_1]
  · rw [kSet_ne (by omega), kSet_ne (by omega)]
    show (if 34 = 34 ∧ q = q then _ else _) = _
    rw [if_pos ⟨rfl, rfl⟩]
    by_cases h : K'.1 34 q 3 = 0
    · rw [if_pos h, hz h j hj]; exact if_pos hj
    · rw [if_neg h]
theorem kCopC_o {K' : KK} : ∀ (n q : Nat) {K : KK} {f i j : Nat}, ¬ (q ≤ i ∧ i < q + n ∧ 34 ≤ f ∧ f ≤ 36) → (kCopC K' n q K).1 f i j = K.1 f i j
  | 0, _, _, _, _, _, _ => rfl
  | n + 1, q, K, f, i, j, h => (kCopC_o n (q + 1) (by omega)).trans (kCli_o (by omega))
theorem kCopC_s {K' : KK} (hz : ∀ c, c < 4 → K'.1 34 c 3 = 0 → ∀ j, j < 7 → K'.1 34 c j = 0) : ∀ (n q : Nat) {K : KK} {f i j : Nat}, q + n ≤ 4 → q ≤ i → i < q + n → kRlC f j → (kCopC K' n q K).1 f i j = K'.1 f i j
  | 0, _, _, _, _, _, _, h1, h2, _ => by omega
  | n + 1, q, K, f, i, j, h4, h1, h2, h3 => by
    by_cases e : i = q
    · subst e
      exact (kCopC_o n (i + 1) (by omega)).trans (kCli_s h3 (hz i (by omega)))
    · exact kCopC_s hz n (q + 1) (by omega) (by omega) (by omega) h3
theorem kCopC_2 {K' : KK} : ∀ (n q : Nat) (K : KK), (kCopC K' n q K).2 = K.2
  | 0, _, _ => rfl
  | n + 1, q, K => (kCopC_2 n (q + 1) _).trans rfl
def kCopA (K' K : KK) : KK := kSet (kNetC (kCopC K' 4 0 (kCopS K' 7 0 K)) K') 33 0 0 (K'.1 33 0 0)
theorem kNetC_1 {K K' : KK} {a b c : Nat} (h : ¬ (a = 30 ∨ a = 32)) : (kNetC K K').1 a b c = K.1 a b c := by
  unfold kNetC
  rw [kSet_ne (by omega)]
  exact if_neg (by omega)
theorem kNetC_30 {K K' : KK} {b : Nat} (h : b < 7) : (kNetC K K').1 30 b 0 = K'.1 30 b 0 := by
  unfold kNetC
  rw [kSet_ne (by omega)]
  exact if_pos ⟨rfl, h, rfl⟩
theorem kCopA_agr {K' K : KK} (hz : ∀ c, c < 4 → K'.1 34 c 3 = 0 → ∀ j, j < 7 → K'.1 34 c j = 0) : kAgr (kCopA K' K) K' := by
  refine ⟨fun f i j h => ?_, fun i hi => ?_, rfl⟩
  · unfold kCopA
    have sv : kRlS f j → i < 7 → K'.1 f i j = (kCopA K' K).1 f i j := fun h1 h2 => by
      unfold kCopA
      unfold kRlS at h1
      rw [kSet_ne (by omega), kNetC_1 (by omega), kCopC_o 4 0 (by omega)]
      exact (kCopS_s 7 0 (by omega) (by omega) h1).1.symm
    have cl : kRlC f j → i < 4 → K'.1 f i j = (kCopA K' K).1 f i j := fun h1 h2 => by
      unfold kCopA
      have h3 := h1
      unfold kRlC at h1
      rw [kSet_ne (by omega), kNetC_1 (by omega)]
      exact (kCopC_s hz 4 0 (by omega) (by omega) (by omega) h3).symm
    unfold kCopA at sv cl
    rcases h with ⟨h, h1, h2⟩ | ⟨rfl, h1, h2⟩ | ⟨h, h1, h2⟩ | ⟨rfl, h1, rfl⟩ | ⟨h, rfl, rfl⟩ | ⟨h, h1, h2⟩ | ⟨rfl, h1, h2⟩ | ⟨rfl, h1, h2⟩
    · exact sv (by unfold kRlS; omega) h1
    · exact sv (by unfold kRlS; omega) h1
    · exact sv (by unfold kRlS; omega) h1
    · rw [kSet_ne (by omega)]; exact (kNetC_30 h1).symm
    · rcases h with rfl | rfl
      · rw [kSet_ne (by omega)]
        unfold kNetC
        exact (kSet_at _ _ _ _ _).symm
      · exact (kSet_at _ _ _ _ _).symm
    · exact cl (by unfold kRlC; omega) h1
    · exact sv (by unfold kRlS; omega) h1
    · exact cl (by unfold kRlC; omega) h1
  · show _ = (kCopC K' 4 0 (kCopS K' 7 0 K)).2.1 i
    rw [kCopC_2]
    exact (kCopS_s 7 0 (f := 18) (j := 0) (by omega) (by omega) (by unfold kRlS; omega)).2.symm
theorem rCopy.rel {o o' n s : Nat} {X Y : XS} (hs : s < 7) (hp : mPr X o) (hp' : mPr X o') (hn : ((xK X o').2.1 s).length ≤ n) (h : rCopy X o s o' s (kCopy (xK X o) (xK X o') s s) Y) : cRel o n 0 0 X Y (kCop1 (xK X o') (xK X o) s) := by
  obtain ⟨D', g, v1, v2, rfl⟩ := h
  have g2 : dGrow (xD X) D' o s n := ⟨g.1, g.2.1, g.2.2.1, g.2.2.2.1, g.2.2.2.2.1, g.2.2.2.2.2.1, g.2.2.2.2.2.2.1, g.2.2.2.2.2.2.2.1, by have := g.2.2.2.2.2.2.2.2; omega⟩
  refine ⟨⟨rfl, fun a => rfl, g2.rel hs, fun i hi => ?_⟩, dHnd.of g.2.1 g.2.2.1⟩
  rw [xK_same]
  show dV D' o 10 i 0 = sMem (kCop1 (xK X o') (xK X o) s) i ∧ dV D' o 11 i 0 = sMix (kCop1 (xK X o') (xK X o) s) i
  by_cases e : i = s
  · subst e
    have hS : sSame (xK X o') (kCop1 (xK X o') (xK X o) i) i := ⟨if_pos rfl, fun j hj => kCop1_s (by unfold kRlS; omega)⟩
    rw [hS.mem, hS.mix, v1, v2]
    exact hp' i hi
  · have hS : sSame (xK X o) (kCop1 (xK X o') (xK X o) s) i := ⟨if_neg e, fun j hj => kCop1_o e⟩
    rw [hS.mem, hS.mix, g.2.2.2.2.1 o 10 i 0 (fun z => e z.2.1), g.2.2.2.2.1 o 11 i 0 (fun z => e z.2.1)]
    exact hp i hi
