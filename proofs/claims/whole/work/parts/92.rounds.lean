/-! ===== THE FACE OF THE CLASS: rounds, what would be ===== -/
def kRnds : Nat → KK → KK
  | 0, K => K
  | m + 1, K => kRnds m (kRound K)
def kRndsN : Nat → KK → Nat
  | 0, _ => 0
  | m + 1, K => kRoundN K + kRndsN m (kRound K)
/-- rounds go by until p: how many, what then is, how many begin to lead -/
def kUntV (p : KK → Bool) : Nat → Nat → KK → Int32
  | 0, r, K => if p K = true then Int32.ofNat r else -1
  | m + 1, r, K => if p K = true then Int32.ofNat r else kUntV p m (r + 1) (kRound K)
def kUntK (p : KK → Bool) : Nat → KK → KK
  | 0, K => K
  | m + 1, K => if p K = true then K else kUntK p m (kRound K)
def kUntN (p : KK → Bool) : Nat → KK → Nat
  | 0, _ => 0
  | m + 1, K => if p K = true then 0 else kRoundN K + kUntN p m (kRound K)
def sRch (x : Int32) (c : Nat) (K : KK) : Bool := sReach K (fun i => sMem K i) x c
/-- only state o became another one -/
def lRel (o n c z : Nat) (X Y : XS) : Prop := xF Y = xF X ∧ (∀ a, ¬ a = o → xK Y a = xK X a) ∧ (∀ a b, ¬ a = o → dR (xD Y) a b = dR (xD X) a b) ∧ (∀ a f i j, ¬ a = o → dV (xD Y) a f i j = dV (xD X) a f i j) ∧
  dZ (xD Y) + 2 * rTot (xD X) o ≤ dZ (xD X) + 2 * rTot (xD Y) o + z ∧ 64 * dC (xD Y) + rTot (xD X) o ≤ 64 * dC (xD X) + rTot (xD Y) o + 64 * c ∧ (∀ b, b < 7 → dR (xD X) o b ≤ dR (xD Y) o b ∧ (dR (xD Y) o b ≤ dR (xD X) o b ∨ dR (xD Y) o b ≤ 2 * n)) ∧ mPr Y o
theorem cRel0.l {o n c z : Nat} {X Y : XS} {K : KK} (h : cRel0 o n c z X Y K) : lRel o n c z X Y :=
  ⟨h.1, fun a ha => by rw [h.2.1 a, if_neg ha], h.2.2.1.1, fun a f i j ha => h.2.2.1.2.1 a f i j (fun z => ha z.1), h.2.2.1.2.2.1, h.2.2.1.2.2.2.1, h.2.2.1.2.2.2.2, h.2.2.2⟩
theorem lRel.tr {o n c z c' z' : Nat} {X Y Z : XS} (h : lRel o n c z X Y) (k : lRel o n c' z' Y Z) : lRel o n (c + c') (z + z') X Z := by
  obtain ⟨a1, a2, a3, a4, a5, a6, a7, a8⟩ := h
  obtain ⟨b1, b2, b3, b4, b5, b6, b7, b8⟩ := k
  refine ⟨b1.trans a1, fun a ha => (b2 a ha).trans (a2 a ha), fun a b ha => (b3 a b ha).trans (a3 a b ha), fun a f i j ha => (b4 a f i j ha).trans (a4 a f i j ha), by omega, by omega, fun b hb => ?_, b8⟩
  have := a7 b hb
  have := b7 b hb
  omega
theorem lRel.up {o n c z c' z' : Nat} {X Y : XS} (h : lRel o n c z X Y) (hc : c ≤ c') (hz : z ≤ z') : lRel o n c' z' X Y :=
  ⟨h.1, h.2.1, h.2.2.1, h.2.2.2.1, by have := h.2.2.2.2.1; omega, by have := h.2.2.2.2.2.1; omega, h.2.2.2.2.2.2⟩
theorem lRel.cut {o n c z : Nat} {X Z : XS} {K : KK} (h : cRel0 o n c z X Z K) (v : Int32) : lRel o n c z X (xCutL Z o v) ∧ xK (xCutL Z o v) o = K := by
  obtain ⟨a1, a2, a3, a4, a5, a6, a7, a8⟩ := h.l
  refine ⟨⟨a1, a2, a3, fun a f i j ha => ?_, a5, a6, a7, fun i hi => ?_⟩, h.k⟩
  · show (if a = o ∧ _ then _ else dV (xD Z) a f i j) = _
    rw [if_neg (fun z => ha z.1)]
    exact a4 a f i j ha
  · show (if o = o ∧ 10 = 31 ∧ _ then _ else dV (xD Z) o 10 i 0) = _ ∧ (if o = o ∧ 11 = 31 ∧ _ then _ else dV (xD Z) o 11 i 0) = _
    rw [if_neg (by omega), if_neg (by omega)]
    exact a8 i hi
theorem l_100 {n N : Nat} {J : Nat → KK → Prop} {Q : PO → XS → Prop} {bf : Int32} (hJ : kInv n J) (hN : N < 100) : ∀ (k q : Nat) (X : XS), q + k = N → mPr X 0 → J (68 * k) (xK X 0) → (∀ Y, cRel0 0 n (kRndsN k (xK X 0)) (kRndsN k (xK X 0) * pF 2) X Y (kRnds k (xK X 0)) → J 0 (xK Y 0) → AT 100 26 [some (.ref 1), some (.int (Int32.ofNat N)), some (.int bf), some (.int (Int32.ofNat N))] [] Y Q) → AT 100 18 [some (.ref 1), some (.int (Int32.ofNat N)), some (.int bf), some (.int (Int32.ofNat q))] [] X Q
  | 0, q, X, hq, hp, hX, hC => by
    refine AT.iload_n M_100 rfl rfl ?_
    refine AT.iload_n M_100 rfl rfl ?_
    refine AT.icmp_ge M_100 rfl (fun b20 => ?_) (fun b20 => absurd (by rw [show q = N by omega]; exact Int32.le_refl _) b20)
    have h := hC X ((cRel.rf n hp).up (Nat.le_refl _) (by omega)).1 hX
    rw [show Int32.ofNat q = Int32.ofNat N from by rw [show q = N by omega]]
    exact h
  | k + 1, q, X, hq, hp, hX, hC => by
    have ho : (0 : Nat) < 2 := by decide
    refine AT.iload_n M_100 rfl rfl ?_
    refine AT.iload_n M_100 rfl rfl ?_
    refine AT.icmp_ge M_100 rfl (fun b20 => absurd ((i32_le (by omega) (by omega)).mp b20) (by omega)) (fun b20 => ?_)
    refine AT.aload_n M_100 rfl rfl ?_
    refine AT.f_9_0 M_100 rfl ?_
    refine AT.cv1w M_100 rfl M_21 rfl (Nat.le_of_ble_eq_true rfl) (xKd.of (shp_cl (by assumption))) (by decide) (c_21 (n := n) (k := 68 * k) ho hJ hp (by rw [Nat.mul_add] at hX; exact hX)) (fun Y hc23 => ?_) (Nat.le_of_ble_eq_true rfl) rfl
    obtain ⟨r1, hYJ⟩ := hc23
    refine AT.iinc3 M_100 rfl rfl (i32_succ _) ?_
    refine AT.goto M_100 rfl ?_
    refine l_100 (n := n) hJ hN k (q + 1) Y (by omega) r1.2.2.2 hYJ (fun Z hZ hZJ => ?_)
    rw [r1.k] at hZ
    exact hC Z ((r1.tr hZ).up0 (Nat.le_refl _) (by show _ ≤ (kRoundN _ + kRndsN _ _) * _; rw [Nat.add_mul]; exact Nat.le_refl _)) hZJ
theorem c_100 {X : XS} {n N : Nat} {J : Nat → KK → Prop} {m : Int32} (hJ : kInv n J) (hp : mPr X 0) (hX : J 2040 (xK X 0)) (hN : m = Int32.ofNat N) (hN9 : N < 2147483648) (hm : (1 : Int32) ≤ m ∧ m ≤ 30) : RU 100 [some (.ref 1), some (.int m), none, none] X (some (.int ((kRnds N (xK X 0)).1 32 0 0 - (xK X 0).1 32 0 0))) (fun Y => cRel0 0 n (kRndsN N (xK X 0)) (kRndsN N (xK X 0) * pF 2) X Y (kRnds N (xK X 0))) := by
  have ho : (0 : Nat) < 2 := by decide
  have ho1 : (1 : Nat) < 2 := by decide
  refine AT.iload_n M_100 rfl rfl ?_
  refine AT.iconst M_100 rfl (v := 1) (by decide) ?_
  refine AT.icmp_lt M_100 rfl (fun b2 => absurd b2 (Int32.not_lt.mpr hm.1)) (fun b2 => ?_)
  refine AT.iload_n M_100 rfl rfl ?_
  refine AT.bipush M_100 rfl (v := 30) (by decide) ?_
  refine AT.icmp_le M_100 rfl (fun b5 => ?_) (fun b5 => absurd hm.2 b5)
  refine AT.aload_n M_100 rfl rfl ?_
  refine AT.f_9_0 M_100 rfl ?_
  refine AT.f_1_2 M_100 rfl (by assumption) ?_
  refine AT.f_4_5 M_100 rfl (by assumption) ?_
  refine AT.ist2 M_100 rfl rfl ?_
  refine AT.iconst M_100 rfl (v := 0) (by decide) ?_
  refine AT.ist3 M_100 rfl rfl ?_
  rw [hN] at hm ⊢
  have hN30 : N ≤ 30 := (i32_le (b := 30) (by omega) (by omega)).mp hm.2
  refine l_100 (n := n) (N := N) hJ (by omega) N 0 X (Nat.zero_add _) hp (hJ.le hX (by omega)) (fun Y hY hYJ => ?_)
  refine AT.aload_n M_100 rfl rfl ?_
  refine AT.f_9_0 M_100 rfl ?_
  refine AT.f_1_2 M_100 rfl (by assumption) ?_
  refine AT.f_4_5 M_100 rfl (by assumption) ?_
  refine AT.iload_n M_100 rfl rfl ?_
  refine AT.isub M_100 rfl rfl ?_
  refine AT.iret M_100 rfl rfl ?_
  rw [hY.k]
  exact ⟨rfl, hY⟩
theorem c_100x {X : XS} {m : Int32} (hm : ¬ ((1 : Int32) ≤ m ∧ m ≤ 30)) : RX 100 [some (.ref 1), some (.int m), none, none] X 0 (xThr X) := by
  have ho : (0 : Nat) < 2 := by decide
  have ho1 : (1 : Nat) < 2 := by decide
  refine AT.iload_n M_100 rfl rfl ?_
  refine AT.iconst M_100 rfl (v := 1) (by decide) ?_
  refine AT.icmp_lt M_100 rfl (fun b2 => ?_) (fun b2 => ?_)
  · refine AT.thr M_100 rfl rfl (Nat.le_of_ble_eq_true rfl) rfl ?_
    exact ⟨rfl, rfl⟩
  · refine AT.iload_n M_100 rfl rfl ?_
    refine AT.bipush M_100 rfl (v := 30) (by decide) ?_
    refine AT.icmp_le M_100 rfl (fun b5 => absurd b5 (fun z => hm ⟨Int32.not_lt.mp b2, z⟩)) (fun b5 => ?_)
    refine AT.thr M_100 rfl rfl (Nat.le_of_ble_eq_true rfl) rfl ?_
    exact ⟨rfl, rfl⟩
theorem l_167 {n c : Nat} {x : Int32} {J : Nat → KK → Prop} (hJ : kInv n J) (hc : c < 4) : ∀ (m r : Nat) (X : XS), r + m = 30 → mPr X 1 → J (68 * m) (xK X 1) → AT 167 10 [some (.ref 1), some (.int x), some (.int (Int32.ofNat c)), some (.int (Int32.ofNat r))] [] X (fun o' Y => o' = .inl (some (.int (kUntV (sRch x c) m r (xK X 1)))) ∧ cRel0 1 n (kUntN (sRch x c) m (xK X 1)) (kUntN (sRch x c) m (xK X 1) * pF 2) X Y (kUntK (sRch x c) m (xK X 1)))
  | 0, r, X, hq, hp, hX => by
    have ho1 : (1 : Nat) < 2 := by decide
    refine AT.aload_n M_167 rfl rfl ?_
    refine AT.f_9_1 M_167 rfl ?_
    refine AT.iload_n M_167 rfl rfl ?_
    refine AT.iload_n M_167 rfl rfl ?_
    refine AT.cv3i M_167 rfl M_17 rfl (Nat.le_of_ble_eq_true rfl) (xKd.of (shp_cl (by assumption))) (by decide) (c_17 ho1 hc (fun i hi => (hp i hi).1)) ?_ (Nat.le_of_ble_eq_true rfl) rfl
    refine AT.if_eq M_167 rfl (fun b15 => ?_) (fun b15 => ?_)
    · refine AT.iinc3 M_167 rfl rfl (i32_succ _) ?_
      refine AT.goto M_167 rfl ?_
      refine AT.iload_n M_167 rfl rfl ?_
      refine AT.bipush M_167 rfl (v := 30) (by decide) ?_
      refine AT.icmp_gt M_167 rfl (fun b4 => ?_) (fun b4 => absurd (by rw [show r + 1 = 31 by omega]; decide) b4)
      refine AT.iconst M_167 rfl (v := (-1)) (by decide) ?_
      refine AT.iret M_167 rfl rfl ?_
      have hpf : ¬ sRch x c (xK X 1) = true := fun z => by rw [show sReach (xK X 1) (fun i => sMem (xK X 1) i) x c = true from z] at b15; exact absurd b15 (by decide)
      rw [show kUntV (sRch x c) 0 r (xK X 1) = -1 from if_neg hpf]
      exact ⟨rfl, ((cRel.rf n hp).up (Nat.zero_le _) (Nat.zero_le _)).1⟩
    · refine AT.iload_n M_167 rfl rfl ?_
      refine AT.iret M_167 rfl rfl ?_
      have hpt : sRch x c (xK X 1) = true := bI_ne0.mp b15
      rw [show kUntV (sRch x c) 0 r (xK X 1) = Int32.ofNat r from if_pos hpt]
      exact ⟨rfl, ((cRel.rf n hp).up (Nat.zero_le _) (Nat.zero_le _)).1⟩
  | m + 1, r, X, hq, hp, hX => by
    have ho1 : (1 : Nat) < 2 := by decide
    refine AT.aload_n M_167 rfl rfl ?_
    refine AT.f_9_1 M_167 rfl ?_
    refine AT.iload_n M_167 rfl rfl ?_
    refine AT.iload_n M_167 rfl rfl ?_
    refine AT.cv3i M_167 rfl M_17 rfl (Nat.le_of_ble_eq_true rfl) (xKd.of (shp_cl (by assumption))) (by decide) (c_17 ho1 hc (fun i hi => (hp i hi).1)) ?_ (Nat.le_of_ble_eq_true rfl) rfl
    refine AT.if_eq M_167 rfl (fun b15 => ?_) (fun b15 => ?_)
    · refine AT.iinc3 M_167 rfl rfl (i32_succ _) ?_
      refine AT.goto M_167 rfl ?_
      refine AT.iload_n M_167 rfl rfl ?_
      refine AT.bipush M_167 rfl (v := 30) (by decide) ?_
      refine AT.icmp_gt M_167 rfl (fun b4 => absurd ((i32_lt (a := 30) (by omega) (by omega)).mp b4) (by omega)) (fun b4 => ?_)
      refine AT.iload_n M_167 rfl rfl ?_
      refine AT.if_le M_167 rfl (fun b6 => absurd ((i32_le (b := 0) (by omega) (by omega)).mp b6) (by omega)) (fun b6 => ?_)
      refine AT.aload_n M_167 rfl rfl ?_
      refine AT.f_9_1 M_167 rfl ?_
      refine AT.cv1w M_167 rfl M_21 rfl (Nat.le_of_ble_eq_true rfl) (xKd.of (shp_cl (by assumption))) (by decide) (c_21 (n := n) (k := 68 * m) ho1 hJ hp (by rw [Nat.mul_add] at hX; exact hX)) (fun Y hc9 => ?_) (Nat.le_of_ble_eq_true rfl) rfl
      have hpf : ¬ sRch x c (xK X 1) = true := fun z => by rw [show sReach (xK X 1) (fun i => sMem (xK X 1) i) x c = true from z] at b15; exact absurd b15 (by decide)
      obtain ⟨r1, hYJ⟩ := hc9
      rw [show kUntV (sRch x c) (m + 1) r (xK X 1) = kUntV (sRch x c) m (r + 1) (kRound (xK X 1)) from if_neg hpf, show kUntK (sRch x c) (m + 1) (xK X 1) = kUntK (sRch x c) m (kRound (xK X 1)) from if_neg hpf, show kUntN (sRch x c) (m + 1) (xK X 1) = kRoundN (xK X 1) + kUntN (sRch x c) m (kRound (xK X 1)) from if_neg hpf]
      refine AT.mono (l_167 (n := n) hJ hc m (r + 1) Y (by omega) r1.2.2.2 hYJ) ?_
      rintro o' Z ⟨h1, h2⟩
      rw [r1.k] at h1 h2
      exact ⟨h1, (r1.tr h2).up0 (Nat.le_refl _) (by rw [Nat.add_mul]; exact Nat.le_refl _)⟩
    · refine AT.iload_n M_167 rfl rfl ?_
      refine AT.iret M_167 rfl rfl ?_
      have hpt : sRch x c (xK X 1) = true := bI_ne0.mp b15
      rw [show kUntV (sRch x c) (m + 1) r (xK X 1) = Int32.ofNat r from if_pos hpt]
      rw [show kUntK (sRch x c) (m + 1) (xK X 1) = xK X 1 from if_pos hpt, show kUntN (sRch x c) (m + 1) (xK X 1) = 0 from if_pos hpt]
      exact ⟨rfl, ((cRel.rf n hp).up (Nat.zero_le _) (Nat.zero_le _)).1⟩
theorem c_167 {X : XS} {n c : Nat} {x : Int32} {J : Nat → KK → Prop} (hJ : kInv n J) (hc : c < 4) (hp : mPr X 1) (hX : J 2040 (xK X 1)) : RU 167 [some (.ref 1), some (.int x), some (.int (Int32.ofNat c)), none] X (some (.int (kUntV (sRch x c) 30 0 (xK X 1)))) (fun Y => cRel0 1 n (kUntN (sRch x c) 30 (xK X 1)) (kUntN (sRch x c) 30 (xK X 1) * pF 2) X Y (kUntK (sRch x c) 30 (xK X 1))) := by
  have ho : (0 : Nat) < 2 := by decide
  have ho1 : (1 : Nat) < 2 := by decide
  refine AT.iconst M_167 rfl (v := 0) (by decide) ?_
  refine AT.ist3 M_167 rfl rfl ?_
  refine AT.iload_n M_167 rfl rfl ?_
  refine AT.bipush M_167 rfl (v := 30) (by decide) ?_
  refine AT.icmp_gt M_167 rfl (fun b4 => absurd b4 (by decide)) (fun b4 => ?_)
  refine AT.iload_n M_167 rfl rfl ?_
  refine AT.if_le M_167 rfl (fun b6 => ?_) (fun b6 => absurd (by decide) b6)
  exact l_167 (n := n) hJ hc 30 0 X rfl hp hX
theorem c_154 {X : XS} {n : Nat} {J : Nat → KK → Prop} (hJ : kInv n J) (hp : mPr X 0) (hp1 : mPr X 1) (hX : J 2040 (xK X 0)) (hz : ∀ c, c < 4 → (xK X 0).1 34 c 3 = 0 → ∀ j, j < 7 → (xK X 0).1 34 c j = 0) : RU 154 [some (.ref 1)] X (some (.int (kUntV (sRch 0 0) 30 0 (xK X 0)))) (lRel 1 n (kUntN (sRch 0 0) 30 (xK X 0)) (kUntN (sRch 0 0) 30 (xK X 0) * pF 2) X) := by
  have ho : (0 : Nat) < 2 := by decide
  have ho1 : (1 : Nat) < 2 := by decide
  refine AT.aload_n M_154 rfl rfl ?_
  refine AT.f_9_1 M_154 rfl ?_
  refine AT.aload_n M_154 rfl rfl ?_
  refine AT.f_9_0 M_154 rfl ?_
  refine AT.cv2w M_154 rfl M_9 rfl (Nat.le_of_ble_eq_true rfl) (xKd.of (shp_cl (by assumption))) (by decide) (c_9 (n := n) ho1 ho (by decide) hp1 hp (fun i hi => by have := ((hJ.1 _ _ hX).1 i hi).2.1; omega) (fun i hi => ((hJ.1 _ _ hX).1 i hi).2.2.1) hz) (fun Y hc4 => ?_) (Nat.le_of_ble_eq_true rfl) rfl
  obtain ⟨Z, hZ, rfl⟩ := hc4
  have g1 := lRel.cut hZ (dV (xD X) 0 31 0 0)
  refine AT.aload_n M_154 rfl rfl ?_
  refine AT.iconst M_154 rfl (v := 0) (by decide) ?_
  refine AT.iconst M_154 rfl (v := 0) (by decide) ?_
  refine AT.cv3u M_154 rfl M_167 rfl (Nat.le_of_ble_eq_true rfl) (xKd.of (Or.inr (Or.inr (Or.inl ⟨rfl, rfl, rfl⟩)))) (by decide) (c_167 (n := n) (c := 0) hJ (by decide) g1.1.2.2.2.2.2.2.2 (by rw [g1.2]; exact hX)) (fun Y hc8 => ?_) (Nat.le_of_ble_eq_true rfl) rfl
  refine AT.iret M_154 rfl rfl ?_
  rw [g1.2] at hc8 ⊢
  exact ⟨rfl, (g1.1.tr hc8.l).up (by omega) (by omega)⟩
theorem c_156 {X : XS} {n : Nat} {J : Nat → KK → Prop} (hJ : kInv n J) (hp : mPr X 0) (hp1 : mPr X 1) (hX : J 2040 (xK X 0)) (hz : ∀ c, c < 4 → (xK X 0).1 34 c 3 = 0 → ∀ j, j < 7 → (xK X 0).1 34 c j = 0) : RU 156 [some (.ref 1)] X (some (.int (kUntV (sRch 2 0) 30 0 (xK X 0)))) (lRel 1 n (kUntN (sRch 2 0) 30 (xK X 0)) (kUntN (sRch 2 0) 30 (xK X 0) * pF 2) X) := by
  have ho : (0 : Nat) < 2 := by decide
  have ho1 : (1 : Nat) < 2 := by decide
  refine AT.aload_n M_156 rfl rfl ?_
  refine AT.f_9_1 M_156 rfl ?_
  refine AT.aload_n M_156 rfl rfl ?_
  refine AT.f_9_0 M_156 rfl ?_
  refine AT.cv2w M_156 rfl M_9 rfl (Nat.le_of_ble_eq_true rfl) (xKd.of (shp_cl (by assumption))) (by decide) (c_9 (n := n) ho1 ho (by decide) hp1 hp (fun i hi => by have := ((hJ.1 _ _ hX).1 i hi).2.1; omega) (fun i hi => ((hJ.1 _ _ hX).1 i hi).2.2.1) hz) (fun Y hc4 => ?_) (Nat.le_of_ble_eq_true rfl) rfl
  obtain ⟨Z, hZ, rfl⟩ := hc4
  have g1 := lRel.cut hZ (dV (xD X) 0 31 0 0)
  refine AT.aload_n M_156 rfl rfl ?_
  refine AT.iconst M_156 rfl (v := 2) (by decide) ?_
  refine AT.iconst M_156 rfl (v := 0) (by decide) ?_
  refine AT.cv3u M_156 rfl M_167 rfl (Nat.le_of_ble_eq_true rfl) (xKd.of (Or.inr (Or.inr (Or.inl ⟨rfl, rfl, rfl⟩)))) (by decide) (c_167 (n := n) (c := 0) hJ (by decide) g1.1.2.2.2.2.2.2.2 (by rw [g1.2]; exact hX)) (fun Y hc8 => ?_) (Nat.le_of_ble_eq_true rfl) rfl
  refine AT.iret M_156 rfl rfl ?_
  rw [g1.2] at hc8 ⊢
  exact ⟨rfl, (g1.1.tr hc8.l).up (by omega) (by omega)⟩
theorem c_155 {X : XS} {c : Nat} (hc : c < 4) {n : Nat} {J : Nat → KK → Prop} (hJ : kInv n J) (hp : mPr X 0) (hp1 : mPr X 1) (hX : J 2040 (xK X 0)) (hz : ∀ c, c < 4 → (xK X 0).1 34 c 3 = 0 → ∀ j, j < 7 → (xK X 0).1 34 c j = 0) : RU 155 [some (.ref 1), some (.int (Int32.ofNat c))] X (some (.int (kUntV (sRch 1 c) 30 0 (xK X 0)))) (lRel 1 n (kUntN (sRch 1 c) 30 (xK X 0)) (kUntN (sRch 1 c) 30 (xK X 0) * pF 2) X) := by
  have ho : (0 : Nat) < 2 := by decide
  have ho1 : (1 : Nat) < 2 := by decide
  refine AT.iload_n M_155 rfl rfl ?_
  refine AT.cs10 M_155 rfl M_171 rfl (Nat.le_of_ble_eq_true rfl) rfl (c_171 hc) ?_ (Nat.le_of_ble_eq_true rfl) rfl
  refine AT.aload_n M_155 rfl rfl ?_
  refine AT.f_9_1 M_155 rfl ?_
  refine AT.aload_n M_155 rfl rfl ?_
  refine AT.f_9_0 M_155 rfl ?_
  refine AT.cv2w M_155 rfl M_9 rfl (Nat.le_of_ble_eq_true rfl) (xKd.of (shp_cl (by assumption))) (by decide) (c_9 (n := n) ho1 ho (by decide) hp1 hp (fun i hi => by have := ((hJ.1 _ _ hX).1 i hi).2.1; omega) (fun i hi => ((hJ.1 _ _ hX).1 i hi).2.2.1) hz) (fun Y hc6 => ?_) (Nat.le_of_ble_eq_true rfl) rfl
  obtain ⟨Z, hZ, rfl⟩ := hc6
  have g1 := lRel.cut hZ (dV (xD X) 0 31 0 0)
  refine AT.aload_n M_155 rfl rfl ?_
  refine AT.iconst M_155 rfl (v := 1) (by decide) ?_
  refine AT.iload_n M_155 rfl rfl ?_
  refine AT.cv3u M_155 rfl M_167 rfl (Nat.le_of_ble_eq_true rfl) (xKd.of (Or.inr (Or.inr (Or.inl ⟨rfl, rfl, rfl⟩)))) (by decide) (c_167 (n := n) (c := c) hJ hc g1.1.2.2.2.2.2.2.2 (by rw [g1.2]; exact hX)) (fun Y hc10 => ?_) (Nat.le_of_ble_eq_true rfl) rfl
  refine AT.iret M_155 rfl rfl ?_
  rw [g1.2] at hc10 ⊢
  exact ⟨rfl, (g1.1.tr hc10.l).up (by omega) (by omega)⟩
theorem c_155x {X : XS} {p : Int32} (hp : p < 0 ∨ ¬ p < 4) : RX 155 [some (.ref 1), some (.int p)] X 2 (xThr X) := by
  have ho : (0 : Nat) < 2 := by decide
  have ho1 : (1 : Nat) < 2 := by decide
  refine AT.iload_n M_155 rfl rfl ?_
  refine AT.cs1x M_155 rfl M_171 rfl (Nat.le_of_ble_eq_true rfl) rfl (c_171x hp) rfl rfl ?_ (Nat.le_of_ble_eq_true rfl) rfl
  exact ⟨rfl, rfl⟩
theorem c_158 {X : XS} {s : Nat} (hs : s < 7) {n : Nat} {J : Nat → KK → Prop} (hJ : kInv n J) (hp : mPr X 0) (hp1 : mPr X 1) (hX : J 2040 (xK X 0)) (hz : ∀ c, c < 4 → (xK X 0).1 34 c 3 = 0 → ∀ j, j < 7 → (xK X 0).1 34 c j = 0) (hup : ¬ (xK X 0).1 4 s 0 = 0) (hXd : J 2040 (kDown (xK X 0) s)) : RU 158 [some (.ref 1), some (.int (Int32.ofNat s))] X (some (.int (kUntV (sRch 3 0) 30 0 (kDown (xK X 0) s)))) (lRel 1 n (kUntN (sRch 3 0) 30 (kDown (xK X 0) s)) (kUntN (sRch 3 0) 30 (kDown (xK X 0) s) * pF 2) X) := by
  have ho : (0 : Nat) < 2 := by decide
  have ho1 : (1 : Nat) < 2 := by decide
  refine AT.aload_n M_158 rfl rfl ?_
  refine AT.iload_n M_158 rfl rfl ?_
  refine AT.cv2i M_158 rfl M_176 rfl (Nat.le_of_ble_eq_true rfl) (xKd.of (Or.inr (Or.inr (Or.inl ⟨rfl, rfl, rfl⟩)))) (by decide) (c_176 hs) ?_ (Nat.le_of_ble_eq_true rfl) rfl
  refine AT.f_6_4 M_158 rfl (by assumption) (by assumption) ?_
  refine AT.if_ne M_158 rfl (fun b4 => ?_) (fun b4 => absurd hup b4)
  refine AT.iconst M_158 rfl (v := 0) (by decide) ?_
  refine AT.cs10 M_158 rfl M_168 rfl (Nat.le_of_ble_eq_true rfl) rfl c_168 ?_ (Nat.le_of_ble_eq_true rfl) rfl
  refine AT.aload_n M_158 rfl rfl ?_
  refine AT.f_9_1 M_158 rfl ?_
  refine AT.aload_n M_158 rfl rfl ?_
  refine AT.f_9_0 M_158 rfl ?_
  refine AT.cv2w M_158 rfl M_9 rfl (Nat.le_of_ble_eq_true rfl) (xKd.of (shp_cl (by assumption))) (by decide) (c_9 (n := n) ho1 ho (by decide) hp1 hp (fun i hi => by have := ((hJ.1 _ _ hX).1 i hi).2.1; omega) (fun i hi => ((hJ.1 _ _ hX).1 i hi).2.2.1) hz) (fun Y hc13 => ?_) (Nat.le_of_ble_eq_true rfl) rfl
  obtain ⟨Z, hZ, rfl⟩ := hc13
  have g1 := lRel.cut hZ (dV (xD X) 0 31 0 0)
  refine AT.aload_n M_158 rfl rfl ?_
  refine AT.f_9_1 M_158 rfl ?_
  refine AT.f_1_0 M_158 rfl (by assumption) ?_
  refine AT.iload_n M_158 rfl rfl ?_
  refine AT.a_svs M_158 rfl rfl (by assumption) (by assumption) ?_
  refine AT.cv10 M_158 rfl M_59 rfl (Nat.le_of_ble_eq_true rfl) (xKd.of (shp_sv (by assumption) (by assumption))) (by decide) (c_59 ho1 hs) ?_ (Nat.le_of_ble_eq_true rfl) rfl
  have r1 := cRel.set (n := n) (K := kDown (xK (xCutL Z 1 (dV (xD X) 0 31 0 0)) 1) s) g1.1.2.2.2.2.2.2.2 (fun i _ => (sSame.set (by decide) i).tr (sSame.rest _ _ _))
  have hkd : kDown (xK (xCutL Z 1 (dV (xD X) 0 31 0 0)) 1) s = kDown (xK X 0) s := by rw [g1.2]
  rw [hkd] at r1 ⊢
  refine AT.aload_n M_158 rfl rfl ?_
  refine AT.iconst M_158 rfl (v := 3) (by decide) ?_
  refine AT.iconst M_158 rfl (v := 0) (by decide) ?_
  refine AT.cv3u M_158 rfl M_167 rfl (Nat.le_of_ble_eq_true rfl) (xKd.of (Or.inr (Or.inr (Or.inl ⟨rfl, rfl, rfl⟩)))) (by decide) (c_167 (n := n) (c := 0) hJ (by decide) r1.pr (by rw [r1.k]; exact hXd)) (fun Y hc23 => ?_) (Nat.le_of_ble_eq_true rfl) rfl
  refine AT.iret M_158 rfl rfl ?_
  rw [r1.k] at hc23 ⊢
  exact ⟨rfl, ((g1.1.tr r1.1.l).tr hc23.l).up (by omega) (by omega)⟩
theorem c_158x2 {X : XS} {s : Nat} (hs : s < 7) (hup : (xK X 0).1 4 s 0 = 0) : RX 158 [some (.ref 1), some (.int (Int32.ofNat s))] X 1 (xThr X) := by
  have ho : (0 : Nat) < 2 := by decide
  have ho1 : (1 : Nat) < 2 := by decide
  refine AT.aload_n M_158 rfl rfl ?_
  refine AT.iload_n M_158 rfl rfl ?_
  refine AT.cv2i M_158 rfl M_176 rfl (Nat.le_of_ble_eq_true rfl) (xKd.of (Or.inr (Or.inr (Or.inl ⟨rfl, rfl, rfl⟩)))) (by decide) (c_176 hs) ?_ (Nat.le_of_ble_eq_true rfl) rfl
  refine AT.f_6_4 M_158 rfl (by assumption) (by assumption) ?_
  refine AT.if_ne M_158 rfl (fun b4 => absurd hup b4) (fun b4 => ?_)
  refine AT.iconst M_158 rfl (v := 1) (by decide) ?_
  refine AT.goto M_158 rfl ?_
  refine AT.cs1x M_158 rfl M_168 rfl (Nat.le_of_ble_eq_true rfl) rfl c_168x rfl rfl ?_ (Nat.le_of_ble_eq_true rfl) rfl
  exact ⟨rfl, rfl⟩
theorem c_157x1 {X : XS} {p : Int32} (hp : p < 0 ∨ ¬ p < 7) : RX 157 [some (.ref 1), some (.int p), none, none] X 2 (xThr X) := by
  have ho : (0 : Nat) < 2 := by decide
  have ho1 : (1 : Nat) < 2 := by decide
  refine AT.aload_n M_157 rfl rfl ?_
  refine AT.iload_n M_157 rfl rfl ?_
  refine AT.cv2x M_157 rfl M_176 rfl (Nat.le_of_ble_eq_true rfl) (xKd.of (Or.inr (Or.inr (Or.inl ⟨rfl, rfl, rfl⟩)))) (by decide) (c_176x hp) rfl rfl ?_ (Nat.le_of_ble_eq_true rfl) rfl
  exact ⟨rfl, rfl⟩
theorem c_158x1 {X : XS} {p : Int32} (hp : p < 0 ∨ ¬ p < 7) : RX 158 [some (.ref 1), some (.int p)] X 2 (xThr X) := by
  have ho : (0 : Nat) < 2 := by decide
  have ho1 : (1 : Nat) < 2 := by decide
  refine AT.aload_n M_158 rfl rfl ?_
  refine AT.iload_n M_158 rfl rfl ?_
  refine AT.cv2x M_158 rfl M_176 rfl (Nat.le_of_ble_eq_true rfl) (xKd.of (Or.inr (Or.inr (Or.inl ⟨rfl, rfl, rfl⟩)))) (by decide) (c_176x hp) rfl rfl ?_ (Nat.le_of_ble_eq_true rfl) rfl
  exact ⟨rfl, rfl⟩
theorem c_157n {X : XS} {s : Nat} (hs : s < 7) (hp : mPr X 0) (hb : sMayS (xK X 0) s = false) : RT 157 [some (.ref 1), some (.int (Int32.ofNat s)), none, none] X (some (.int (-1))) X := by
  have ho : (0 : Nat) < 2 := by decide
  have ho1 : (1 : Nat) < 2 := by decide
  have hB0 := hb
  unfold sMayS at hB0
  rw [← (hp s hs).1] at hB0
  refine AT.aload_n M_157 rfl rfl ?_
  refine AT.iload_n M_157 rfl rfl ?_
  refine AT.cv2i M_157 rfl M_176 rfl (Nat.le_of_ble_eq_true rfl) (xKd.of (Or.inr (Or.inr (Or.inl ⟨rfl, rfl, rfl⟩)))) (by decide) (c_176 hs) ?_ (Nat.le_of_ble_eq_true rfl) rfl
  refine AT.cv1i M_157 rfl M_70 rfl (Nat.le_of_ble_eq_true rfl) (xKd.of (shp_sv (by assumption) (by assumption))) (by decide) (c_70 ho hs) ?_ (Nat.le_of_ble_eq_true rfl) rfl
  refine AT.if_ne M_157 rfl (fun b4 => absurd (bI_eq0.mpr hB0) b4) (fun b4 => ?_)
  refine AT.iconst M_157 rfl (v := (-1)) (by decide) ?_
  refine AT.iret M_157 rfl rfl ?_
  exact ⟨rfl, rfl⟩
theorem l_157 {n N : Nat} {J : Nat → KK → Prop} {Q : PO → XS → Prop} {x1 : Int32} {s : Nat} (hN3 : N = 3) (hJ : kInv n J) (hN : N < 100) : ∀ (k q : Nat) (X : XS), q + k = N → mPr X 1 → J (68 * k) (xK X 1) → (∀ Y, cRel0 1 n (kRndsN k (xK X 1)) (kRndsN k (xK X 1) * pF 2) X Y (kRnds k (xK X 1)) → J 0 (xK Y 1) → AT 157 33 [some (.ref 1), some (.int x1), some (.ref (aS 1 s)), some (.int (Int32.ofNat N))] [] Y Q) → AT 157 25 [some (.ref 1), some (.int x1), some (.ref (aS 1 s)), some (.int (Int32.ofNat q))] [] X Q
  | 0, q, X, hq, hp, hX, hC => by
    refine AT.iload_n M_157 rfl rfl ?_
    refine AT.iconst M_157 rfl (v := 3) (by decide) ?_
    refine AT.icmp_ge M_157 rfl (fun b27 => ?_) (fun b27 => absurd (by rw [show q = N by omega, hN3]; decide) b27)
    have h := hC X ((cRel.rf n hp).up (Nat.le_refl _) (by omega)).1 hX
    rw [show Int32.ofNat q = Int32.ofNat N from by rw [show q = N by omega]]
    exact h
  | k + 1, q, X, hq, hp, hX, hC => by
    have ho1 : (1 : Nat) < 2 := by decide
    refine AT.iload_n M_157 rfl rfl ?_
    refine AT.iconst M_157 rfl (v := 3) (by decide) ?_
    refine AT.icmp_ge M_157 rfl (fun b27 => absurd ((i32_le (a := 3) (by omega) (by omega)).mp b27) (by omega)) (fun b27 => ?_)
    refine AT.aload_n M_157 rfl rfl ?_
    refine AT.f_9_1 M_157 rfl ?_
    refine AT.cv1w M_157 rfl M_21 rfl (Nat.le_of_ble_eq_true rfl) (xKd.of (shp_cl (by assumption))) (by decide) (c_21 (n := n) (k := 68 * k) ho1 hJ hp (by rw [Nat.mul_add] at hX; exact hX)) (fun Y hc30 => ?_) (Nat.le_of_ble_eq_true rfl) rfl
    obtain ⟨r1, hYJ⟩ := hc30
    refine AT.iinc3 M_157 rfl rfl (i32_succ _) ?_
    refine AT.goto M_157 rfl ?_
    refine l_157 (n := n) hN3 hJ hN k (q + 1) Y (by omega) r1.2.2.2 hYJ (fun Z hZ hZJ => ?_)
    rw [r1.k] at hZ
    exact hC Z ((r1.tr hZ).up0 (Nat.le_refl _) (by show _ ≤ (kRoundN _ + kRndsN _ _) * _; rw [Nat.add_mul]; exact Nat.le_refl _)) hZJ
theorem c_157 {X : XS} {s : Nat} (hs : s < 7) {n : Nat} {J : Nat → KK → Prop} (hJ : kInv n J) (hp : mPr X 0) (hp1 : mPr X 1) (hX : J 2040 (xK X 0)) (hz : ∀ c, c < 4 → (xK X 0).1 34 c 3 = 0 → ∀ j, j < 7 → (xK X 0).1 34 c j = 0) (hb : sMayS (xK X 0) s = true) (hXs : J 2040 (kSoundA (xK X 0) s)) : RU 157 [some (.ref 1), some (.int (Int32.ofNat s)), none, none] X (some (.int ((kRnds 3 (kSoundA (xK X 0) s)).1 12 s 0))) (lRel 1 n (kSoundN (xK X 0) s + kRndsN 3 (kSoundA (xK X 0) s)) ((kSoundN (xK X 0) s + kRndsN 3 (kSoundA (xK X 0) s)) * pF 2) X) := by
  have ho : (0 : Nat) < 2 := by decide
  have ho1 : (1 : Nat) < 2 := by decide
  have hB0 := hb
  unfold sMayS at hB0
  rw [← (hp s hs).1] at hB0
  have hf := (hJ.1 _ _ hX).1 s hs
  refine AT.aload_n M_157 rfl rfl ?_
  refine AT.iload_n M_157 rfl rfl ?_
  refine AT.cv2i M_157 rfl M_176 rfl (Nat.le_of_ble_eq_true rfl) (xKd.of (Or.inr (Or.inr (Or.inl ⟨rfl, rfl, rfl⟩)))) (by decide) (c_176 hs) ?_ (Nat.le_of_ble_eq_true rfl) rfl
  refine AT.cv1i M_157 rfl M_70 rfl (Nat.le_of_ble_eq_true rfl) (xKd.of (shp_sv (by assumption) (by assumption))) (by decide) (c_70 ho hs) ?_ (Nat.le_of_ble_eq_true rfl) rfl
  refine AT.if_ne M_157 rfl (fun b4 => ?_) (fun b4 => absurd (bI_ne0.mpr hB0) b4)
  refine AT.aload_n M_157 rfl rfl ?_
  refine AT.f_9_1 M_157 rfl ?_
  refine AT.aload_n M_157 rfl rfl ?_
  refine AT.f_9_0 M_157 rfl ?_
  refine AT.cv2w M_157 rfl M_9 rfl (Nat.le_of_ble_eq_true rfl) (xKd.of (shp_cl (by assumption))) (by decide) (c_9 (n := n) ho1 ho (by decide) hp1 hp (fun i hi => by have := ((hJ.1 _ _ hX).1 i hi).2.1; omega) (fun i hi => ((hJ.1 _ _ hX).1 i hi).2.2.1) hz) (fun Y hc11 => ?_) (Nat.le_of_ble_eq_true rfl) rfl
  obtain ⟨Z, hZ, rfl⟩ := hc11
  have g1 := lRel.cut hZ (dV (xD X) 0 31 0 0)
  refine AT.aload_n M_157 rfl rfl ?_
  refine AT.f_9_1 M_157 rfl ?_
  refine AT.f_1_0 M_157 rfl (by assumption) ?_
  refine AT.iload_n M_157 rfl rfl ?_
  refine AT.a_svs M_157 rfl rfl (by assumption) (by assumption) ?_
  refine AT.ast2 M_157 rfl rfl ?_
  refine AT.aload_n M_157 rfl rfl ?_
  refine AT.f_9_1 M_157 rfl ?_
  refine AT.aload_n M_157 rfl rfl ?_
  refine AT.iconst M_157 rfl (v := 1) (by decide) ?_
  refine AT.cv3w M_157 rfl M_22 rfl (Nat.le_of_ble_eq_true rfl) (xKd.of (shp_cl (by assumption))) (by decide) (c_22 (n := n) ho1 hs g1.1.2.2.2.2.2.2.2 (by rw [g1.2]; exact hf.1) (by rw [g1.2]; exact hf.2.1) (by rw [g1.2]; exact hf.2.2.1)) (fun Y hc22 => ?_) (Nat.le_of_ble_eq_true rfl) rfl
  refine AT.iconst M_157 rfl (v := 0) (by decide) ?_
  refine AT.ist3 M_157 rfl rfl ?_
  rw [kRiseN_1, g1.2, show kRise (xK X 0) s 1 = (kSoundA (xK X 0) s) from rfl] at hc22
  refine l_157 (n := n) (N := 3) rfl hJ (by decide) 3 0 Y rfl hc22.pr (by rw [hc22.k]; exact hJ.le hXs (by omega)) (fun V hV hVJ => ?_)
  refine AT.aload_n M_157 rfl rfl ?_
  refine AT.f_6_12 M_157 rfl ho1 hs ?_
  refine AT.iret M_157 rfl rfl ?_
  rw [hV.k, hc22.k]
  refine ⟨rfl, ((g1.1.tr hc22.1.l).tr hV.l).up ?_ ?_⟩
  · rw [hc22.k]; omega
  · rw [hc22.k, Nat.add_mul]; omega
def sFurF (K : KK) : Nat → Int32
  | 0 => 0
  | n + 1 => kMax (sFurF K n) (K.1 15 n 0)
theorem l_149 {X : XS} : ∀ k q : Nat, q + k = 7 → ∀ x5 : Option Value, AT 149 11 [some (.ref 1), some (.int (sFurF (xK X 0) q)), some (.ref (aB 0 + 1)), some (.int (Int32.ofNat 7)), some (.int (Int32.ofNat q)), x5] [] X (fun o' Y => o' = .inl (some (.int (sFurF (xK X 0) 7))) ∧ Y = X)
  | 0, q, hq, x5 => by
    refine AT.iload M_149 rfl rfl ?_
    refine AT.iload_n M_149 rfl rfl ?_
    refine AT.icmp_ge M_149 rfl (fun b13 => ?_) (fun b13 => absurd (by rw [show q = 7 by omega]; exact Int32.le_refl _) b13)
    refine AT.iload_n M_149 rfl rfl ?_
    refine AT.iret M_149 rfl rfl ?_
    rw [show q = 7 by omega]
    exact ⟨rfl, rfl⟩
  | k + 1, q, hq, x5 => by
    have ho : (0 : Nat) < 2 := by decide
    have hq7 : q < 7 := by omega
    refine AT.iload M_149 rfl rfl ?_
    refine AT.iload_n M_149 rfl rfl ?_
    refine AT.icmp_ge M_149 rfl (fun b13 => absurd ((i32_le (b := q) (a := 7) (by omega) (by omega)).mp b13) (by omega)) (fun b13 => ?_)
    refine AT.aload_n M_149 rfl rfl ?_
    refine AT.iload M_149 rfl rfl ?_
    refine AT.a_svs M_149 rfl rfl (by assumption) (by assumption) ?_
    refine AT.ast5 M_149 rfl rfl ?_
    refine AT.iload_n M_149 rfl rfl ?_
    refine AT.aload M_149 rfl rfl ?_
    refine AT.f_6_15 M_149 rfl (by assumption) (by assumption) ?_
    refine AT.max M_149 rfl rfl (Nat.le_of_ble_eq_true rfl) rfl ?_
    rw [show (if sFurF (xK X 0) q < (xK X 0).1 15 q 0 then (xK X 0).1 15 q 0 else sFurF (xK X 0) q) = sFurF (xK X 0) (q + 1) from rfl]
    refine AT.ist1 M_149 rfl rfl ?_
    refine AT.iinc4 M_149 rfl rfl (i32_succ _) ?_
    refine AT.goto M_149 rfl ?_
    exact l_149 k (q + 1) (by omega) _
theorem c_149 {X : XS} : RT 149 [some (.ref 1), none, none, none, none, none] X (some (.int (sFurF (xK X 0) 7))) X := by
  have ho : (0 : Nat) < 2 := by decide
  have ho1 : (1 : Nat) < 2 := by decide
  refine AT.iconst M_149 rfl (v := 0) (by decide) ?_
  refine AT.ist1 M_149 rfl rfl ?_
  refine AT.aload_n M_149 rfl rfl ?_
  refine AT.f_9_0 M_149 rfl ?_
  refine AT.f_1_0 M_149 rfl (by assumption) ?_
  refine AT.ast2 M_149 rfl rfl ?_
  refine AT.aload_n M_149 rfl rfl ?_
  refine AT.l_svs M_149 rfl (by assumption) ?_
  refine AT.ist3 M_149 rfl rfl ?_
  refine AT.iconst M_149 rfl (v := 0) (by decide) ?_
  refine AT.ist4 M_149 rfl rfl ?_
  exact l_149 7 0 rfl _
