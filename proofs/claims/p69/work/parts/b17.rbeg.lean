/-! ===== THE SERVERS AGREE: when all begins ===== -/
/-- the ghost of the beginning -/
def gZ : GG := (fun _ => [], fun _ => [], fun _ => 0, fun _ => none, fun _ _ => false, fun _ _ => none, fun _ _ => 0, fun _ _ _ => False)
theorem cI_gZ (m0 : Int32) {T R : Nat → Nat} {P : Nat → Option Nat} {Y : Nat → Nat → Bool} (hR : ∀ s, s < 7 → R s = 0) (hP : ∀ s, s < 7 → P s = none) : cI m0 T R P Y gZ := by
  refine ⟨fun t c h => ?_, fun s _ => ⟨fun j e h => ?_, fun e h => ?_⟩, fun s hs => ⟨fun h => ?_, fun h => ?_⟩, fun t v c VL h => ?_, fun v hv => ⟨fun _ => rfl, fun c h => ?_⟩, fun t v _ h => absurd rfl h, fun v t i _ hi _ => ?_, fun t t' v c VL i h => ?_, fun t i n h => h.elim, fun t j e h => absurd rfl h⟩
  · exact absurd (show (none : Option Nat) = some c from h) (by simp)
  · exact absurd (show ([] : List ENT)[j]? = some e from h) (by simp)
  · exact absurd (show e ∈ ([] : List ENT) from h) (by simp)
  · rw [hR s hs] at h; omega
  · rw [hR s hs] at h; omega
  · exact absurd (show (none : Option (Nat × List ENT)) = some (c, VL) from h) (by simp)
  · rw [hP v hv] at h; exact absurd h (by simp)
  · have hi0 : i ≤ 0 := hi
    rw [show i = 0 by omega]
    exact ag.z _ _
  · exact absurd (show (none : Option (Nat × List ENT)) = some (c, VL) from h) (by simp)
theorem kRest_new {K : KK} {q : Nat} {r : ENT} : (kRest (kNew K q r) q).1 5 q 0 = 0 ∧ (kRest (kNew K q r) q).1 6 q 0 = -1 ∧ (kRest (kNew K q r) q).1 12 q 0 = 0 ∧ (kRest (kNew K q r) q).1 15 q 0 = r 0 ∧ (∀ j, (kRest (kNew K q r) q).1 18 q j = r j) ∧ (kRest (kNew K q r) q).2.1 q = [] ∧ (kRest (kNew K q r) q).1 4 q 0 = 1 := by
  have e18 : ∀ j, (kNew K q r).1 18 q j = r j := fun j => if_pos ⟨rfl, rfl⟩
  refine ⟨?_, ?_, ?_, ?_, fun j => ?_, ?_, ?_⟩
  · rw [kRest_1 (by omega)]; unfold kNew; rw [kRow_ne (by omega), kLog_1, kSet_ne (by omega), kSet_at]
  · rw [kRest_1 (by omega)]; unfold kNew; rw [kRow_ne (by omega), kLog_1, kSet_at]
  · unfold kRest; rw [kTab_1 (by omega), kSet_ne (by omega), kSet_ne (by omega), kSet_ne (by omega), kSet_at]
  · unfold kRest; rw [kTab_1 (by omega), kSet_at, e18]
  · rw [kRest_1 (by omega), e18]
  · show (if q = q then [] else _) = []
    rw [if_pos rfl]
  · rw [kRest_1 (by omega)]; unfold kNew; rw [kRow_ne (by omega), kLog_1, kSet_ne (by omega), kSet_ne (by omega), kSet_at]
theorem kRest_old {K : KK} {q i : Nat} {r : ENT} (h : ¬ i = q) : (∀ f j, (kRest (kNew K q r) q).1 f i j = K.1 f i j) ∧ (kRest (kNew K q r) q).2.1 i = K.2.1 i :=
  ⟨fun f j => by rw [kRest_1 (by omega), kNew_1 (by omega)], if_neg h⟩
theorem kBegS_v (r : ENT) : ∀ (n q : Nat) (K : KK), (∀ i, ¬ (q ≤ i ∧ i < q + n) → (∀ f j, (kBegS r n q K).1 f i j = K.1 f i j) ∧ (kBegS r n q K).2.1 i = K.2.1 i) ∧
    (∀ i, q ≤ i → i < q + n → (kBegS r n q K).1 5 i 0 = 0 ∧ (kBegS r n q K).1 6 i 0 = -1 ∧ (kBegS r n q K).1 12 i 0 = 0 ∧ (kBegS r n q K).1 15 i 0 = r 0 ∧ (∀ j, (kBegS r n q K).1 18 i j = r j) ∧ (kBegS r n q K).2.1 i = [] ∧ (kBegS r n q K).1 4 i 0 = 1) ∧
    (∀ f i j, ¬ (f = 4 ∨ f = 5 ∨ f = 6 ∨ f = 12 ∨ f = 13 ∨ f = 14 ∨ f = 15 ∨ f = 18 ∨ f = 19) → (kBegS r n q K).1 f i j = K.1 f i j)
  | 0, q, K => ⟨fun _ _ => ⟨fun _ _ => rfl, rfl⟩, fun i h1 h2 => by omega, fun _ _ _ _ => rfl⟩
  | n + 1, q, K => by
    obtain ⟨a, b, c⟩ := kBegS_v r n (q + 1) (kRest (kNew K q r) q)
    refine ⟨fun i hi => ?_, fun i h1 h2 => ?_, fun f i j hf => ?_⟩
    · obtain ⟨o1, o2⟩ := kRest_old (K := K) (q := q) (r := r) (show ¬ i = q by omega)
      obtain ⟨a1, a2⟩ := a i (by omega)
      exact ⟨fun f j => (a1 f j).trans (o1 f j), a2.trans o2⟩
    · by_cases e : i = q
      · subst e
        obtain ⟨a1, a2⟩ := a i (by omega)
        obtain ⟨n1, n2, n3, n4, n5, n6, n7⟩ := kRest_new (K := K) (q := i) (r := r)
        exact ⟨(a1 5 0).trans n1, (a1 6 0).trans n2, (a1 12 0).trans n3, (a1 15 0).trans n4, fun j => (a1 18 j).trans (n5 j), a2.trans n6, (a1 4 0).trans n7⟩
      · exact b i (by omega) (by omega)
    · rw [show (kBegS r (n + 1) q K) = kBegS r n (q + 1) (kRest (kNew K q r) q) from rfl, c f i j hf, kRest_1 (by omega), kNew_1 (by omega)]
theorem kForget_1 {K : KK} {c a b d : Nat} (h : ¬ (a = 34 ∨ a = 35 ∨ a = 36)) : (kForget K c).1 a b d = K.1 a b d := by
  unfold kForget
  rw [kSet_ne (by omega), kSet_ne (by omega), kRow_ne (by omega)]
theorem kBegC_v : ∀ (n q : Nat) (K : KK), (∀ f i j, ¬ (f = 34 ∨ f = 35 ∨ f = 36) → (kBegC n q K).1 f i j = K.1 f i j) ∧ (kBegC n q K).2 = K.2 ∧ (∀ c, ¬ (q ≤ c ∧ c < q + n) → ∀ f j, (kBegC n q K).1 f c j = K.1 f c j) ∧
    (∀ c, q ≤ c → c < q + n → ∀ j, j < 7 → (kBegC n q K).1 34 c j = 0)
  | 0, q, K => ⟨fun _ _ _ _ => rfl, rfl, fun _ _ _ _ => rfl, fun c h1 h2 => by omega⟩
  | n + 1, q, K => by
    obtain ⟨a, b, c, d⟩ := kBegC_v n (q + 1) (kForget K q)
    have fo : ∀ x, ¬ x = q → ∀ f j, (kForget K q).1 f x j = K.1 f x j := fun x hx f j => by
      unfold kForget
      rw [kSet_ne (by omega), kSet_ne (by omega), kRow_ne (by omega)]
    refine ⟨fun f i j hf => (a f i j hf).trans (kForget_1 hf), b, fun x hx f j => (c x (by omega) f j).trans (fo x (by omega) f j), fun x h1 h2 j hj => ?_⟩
    by_cases e : x = q
    · subst e
      rw [show (kBegC (n + 1) x K).1 34 x j = (kBegC n (x + 1) (kForget K x)).1 34 x j from rfl, c x (by omega) 34 j]
      unfold kForget
      rw [kSet_ne (by omega), kSet_ne (by omega)]
      show (if 34 = 34 ∧ x = x then rNil (K.1 34 x) j else _) = 0
      rw [if_pos ⟨rfl, rfl⟩]
      exact if_pos hj
    · exact d x (by omega) (by omega) j hj
/-- what is when all has begun -/
theorem kBegin_v (K : KK) (r : ENT) : (∀ i, i < 7 → (kBegin K r).1 5 i 0 = 0 ∧ (kBegin K r).1 6 i 0 = -1 ∧ (kBegin K r).1 12 i 0 = 0 ∧ (kBegin K r).1 15 i 0 = r 0 ∧ (∀ j, (kBegin K r).1 18 i j = r j) ∧ (kBegin K r).2.1 i = [] ∧ (kBegin K r).1 4 i 0 = 1 ∧ (kBegin K r).1 30 i 0 = 0 ∧ (kBegin K r).1 16 i 0 = K.1 16 i 0) ∧ (∀ c, c < 4 → ∀ j, j < 7 → (kBegin K r).1 34 c j = 0) ∧ (kBegin K r).2.2 = [] := by
  obtain ⟨a, b, c⟩ := kBegS_v r 7 0 K
  obtain ⟨d, e, f, g⟩ := kBegC_v 4 0 (kBegS r 7 0 K)
  have e1 : ∀ f i j, ¬ (f = 30 ∨ f = 32 ∨ f = 33) → (kBegin K r).1 f i j = (kBegC 4 0 (kBegS r 7 0 K)).1 f i j := fun f i j hf => by
    unfold kBegin kClr
    rw [kSet_ne (by omega), kSet_ne (by omega)]
    show (if f = 30 ∧ i < 7 ∧ j = 0 then _ else _) = _
    rw [if_neg (by omega)]
  refine ⟨fun i hi => ?_, fun c hc j hj => ?_, rfl⟩
  · obtain ⟨b1, b2, b3, b4, b5, b6, b7⟩ := b i (by omega) (by omega)
    refine ⟨?_, ?_, ?_, ?_, fun j => ?_, ?_, ?_, ?_, ?_⟩
    · rw [e1 5 i 0 (by omega), d 5 i 0 (by omega), b1]
    · rw [e1 6 i 0 (by omega), d 6 i 0 (by omega), b2]
    · rw [e1 12 i 0 (by omega), d 12 i 0 (by omega), b3]
    · rw [e1 15 i 0 (by omega), d 15 i 0 (by omega), b4]
    · rw [e1 18 i j (by omega), d 18 i j (by omega), b5]
    · show (kBegC 4 0 (kBegS r 7 0 K)).2.1 i = []
      rw [e, b6]
    · rw [e1 4 i 0 (by omega), d 4 i 0 (by omega), b7]
    · unfold kBegin kClr
      rw [kSet_ne (by omega), kSet_ne (by omega)]
      show (if 30 = 30 ∧ i < 7 ∧ 0 = 0 then (0 : Int32) else _) = 0
      rw [if_pos ⟨rfl, hi, rfl⟩]
    · rw [e1 16 i 0 (by omega), d 16 i 0 (by omega), c 16 i 0 (by omega)]
  · rw [e1 34 c j (by omega)]
    exact g c (by omega) (by omega) j hj
theorem sFirst_m {m : Int32} (h : (1 : Int32) ≤ m ∧ m ≤ 7) : ∃ n : Nat, n < 128 ∧ sFirst m 2 = Int32.ofNat n := by
  have e : ∃ k : Nat, 1 ≤ k ∧ k ≤ 7 ∧ m = Int32.ofNat k := by
    rcases i32_srv 8 (by omega) m with ⟨s, hs, rfl⟩ | z | z
    · have h1 := (i32_le (a := 1) (by omega) (by omega)).mp h.1
      exact ⟨s, h1, by omega, rfl⟩
    · exact absurd (Int32.lt_of_le_of_lt h.1 z) (by decide)
    · exact absurd (Int32.le_trans (Int32.not_lt.mp z) h.2) (by decide)
  obtain ⟨k, k1, k2, rfl⟩ := e
  have key : ∀ k, k < 8 → (1 ≤ k → sFirst (Int32.ofNat k) 2 = Int32.ofNat (2 ^ k - 1) ∧ 2 ^ k - 1 < 128) := by decide +kernel
  obtain ⟨q1, q2⟩ := key k (by omega) k1
  exact ⟨_, q2, q1⟩
/-- everything begins anew: the servers agree -/
theorem kAll_begin (K : KK) {m : Int32} {k : Nat} (hm : (1 : Int32) ≤ m ∧ m ≤ 7) (hk : k ≤ 1000000000) (h16 : ∀ i, i < 7 → ∃ y, y < 128 ∧ K.1 16 i 0 = Int32.ofNat y) : kAll (sFirst m 2) 0 48 k (kBegin K (sFirst m)) gZ := by
  obtain ⟨v, -, vn⟩ := kBegin_v K (sFirst m)
  have z5 : ∀ i, i < 7 → kT (kBegin K (sFirst m)) i = 0 := fun i hi => by unfold kT; rw [(v i hi).1]; rfl
  have z12 : ∀ i, i < 7 → kR (kBegin K (sFirst m)) i = 0 := fun i hi => by unfold kR; rw [(v i hi).2.2.1]; rfl
  refine ⟨cI_gZ _ z12 (fun i hi => ?_), fun i hi => ⟨⟨⟨0, 0, ?_, ?_, Nat.le_refl _, Nat.zero_le _, ?_, ?_, ?_, Or.inl rfl, Nat.le_refl _⟩, Nat.zero_le _, fun e he => ?_⟩, ⟨?_, ?_, ?_, ?_, ?_, ?_⟩, fun z => ?_, fun z => ?_⟩, fun u hu => ?_, sFirst_m hm, fun t ht => absurd rfl ht, by omega, by omega⟩
  · unfold kP; rw [(v i hi).2.1, if_pos rfl]
  · rw [(v i hi).2.2.2.2.1]; rfl
  · rw [(v i hi).2.2.2.1]; rfl
  · rw [(v i hi).2.2.2.2.2.1]; rfl
  · rw [(v i hi).2.2.2.2.1]; rfl
  · rw [(v i hi).2.2.2.2.1]; rfl
  · exact absurd (show e ∈ ([] : List ENT) from he) (by simp)
  · rw [z5 i hi, (v i hi).1]; rfl
  · rw [z5 i hi]; omega
  · rw [z12 i hi, (v i hi).2.2.1]; rfl
  · rw [z12 i hi]; omega
  · exact Or.inl (v i hi).2.1
  · rw [(v i hi).2.2.2.2.2.2.2.2]; exact h16 i hi
  · rw [z12 i hi] at z; omega
  · rw [z12 i hi] at z; omega
  · rw [vn] at hu; exact absurd hu (by simp)
