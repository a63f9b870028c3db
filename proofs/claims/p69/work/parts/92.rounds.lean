/-! ===== THE FACE OF THE CLASS: rounds, what would be ===== -/
def kRnds : Nat → KK → KK
  | 0, K => K
  | m + 1, K => kRnds m (kRound K)
def kRndsN : Nat → KK → Nat
  | 0, _ => 0
  | m + 1, K => kRoundN K + kRndsN m (kRound K)
/-- rounds go by until p: how many, what then is, how many begin to lead -/
def kUntV (p : KK → Bool) : Nat → Nat → KK → Int32
  | 0, r, K => if p K = true then Int32.ofNat r else -1
  | m + 1, r, K => if p K = true then Int32.ofNat r else kUntV p m (r + 1) (kRound K)
def kUntK (p : KK → Bool) : Nat → KK → KK
  | 0, K => K
  | m + 1, K => if p K = true then K else kUntK p m (kRound K)
def kUntN (p : KK → Bool) : Nat → KK → Nat
  | 0, _ => 0
  | m + 1, K => if p K = true then 0 else kRoundN K + kUntN p m (kRound K)
def sRch (x : Int32) (c : Nat) (K : KK) : Bool := sReach K (fun i => sMem K i) x c
/-- only state o became another one -/
def lRel (o n c z : Nat) (X Y : XS) : Prop := xF Y = xF X ∧ (∀ a, ¬ a = o → xK Y a = xK X a) ∧ (∀ a b, ¬ a = o → dR (xD Y) a b = dR (xD X) a b) ∧ (∀ a f i j, ¬ a = o → dV (xD Y) a f i j = dV (xD X) a f i j) ∧
  dZ (xD Y) + 2 * rTot (xD X) o ≤ dZ (xD X) + 2 * rTot (xD Y) o + z ∧ 64 * dC (xD Y) + rTot (xD X) o ≤ 64 * dC (xD X) + rTot (xD Y) o + 64 * c ∧ (∀ b, b < 7 → dR (xD X) o b ≤ dR (xD Y) o b ∧ (dR (xD Y) o b ≤ dR (xD X) o b ∨ dR (xD Y) o b ≤ 2 * n)) ∧ mPr Y o
theorem cRel0.l {o n c z : Nat} {X Y : XS} {K : KK} (h : cRel0 o n c z X Y K) : lRel o n c z X Y :=
  ⟨h.1, fun a ha => by rw [h.2.1 a, if_neg ha], h.2.2.1.1, fun a f i j ha => h.2.2.1.2.1 a f i j (fun z => ha z.1), h.2.2.1.2.2.1, h.2.2.1.2.2.2.1, h.2.2.1.2.2.2.2, h.2.2.2⟩
theorem lRel.tr {o n c z c' z' : Nat} {X Y Z : XS} (h : lRel o n c z X Y) (k : lRel o n c' z' Y Z) : lRel o n (c + c') (z + z') X Z := by
  obtain ⟨a1, a2, a3, a4, a5, a6, a7, a8⟩ := h
  obtain ⟨b1, b2, b3, b4, b5, b6, b7, b8⟩ := k
  refine ⟨b1.trans a1, fun a ha => (b2 a ha).trans (a2 a ha), fun a b ha => (b3 a b ha).trans (a3 a b ha), fun a f i j ha => (b4 a f i j ha).trans (a4 a f i j ha), by omega, by omega, fun b hb => ?_, b8⟩
  have := a7 b hb
  have := b7 b hb
  omega
theorem lRel.up {o n c z c' z' : Nat} {X Y : XS} (h : lRel o n c z X Y) (hc : c ≤ c') (hz : z ≤ z') : lRel o n c' z' X Y :=
  ⟨h.1, h.2.1, h.2.2.1, h.2.2.2.1, by have := h.2.2.2.2.1; omega, by have := h.2.2.2.2.2.1; omega, h.2.2.2.2.2.2⟩
theorem lRel.cut {o n c z : Nat} {X Z : XS} {K : KK} (h : cRel0 o n c z X Z K) (v : Int32) : lRel o n c z X (xCutL Z o v) ∧ xK (xCutL Z o v) o = K := by
  obtain ⟨a1, a2, a3, a4, a5, a6, a7, a8⟩ := h.l
  refine ⟨⟨a1, a2, a3, fun a f i j ha => ?_, a5, a6, a7, fun i hi => ?_⟩, h.k⟩
  · show (if a = o ∧ _ then _ else dV (xD Z) a f i j) = _
    rw [if_neg (fun z => ha z.1)]
    exact a4 a f i j ha
  · show (if o = o ∧ 10 = 31 ∧ _ then _ else dV (xD Z) o 10 i 0) = _ ∧ (if o = o ∧ 11 = 31 ∧ _ then _ else dV (xD Z) o 11 i 0) = _
    rw [if_neg (by omega), if_neg (by omega)]
    exact a8 i hi
theorem l_100 {n N : Nat} {J : Nat → KK → Prop} {Q : PO → XS → Prop} {bf : Int32} (hJ : kInv n J) (hN : N < 100) : ∀ (k q : Nat) (X : XS), q + k = N → mPr X 0 → J (68 * k) (xK X 0) → (∀ Y, cRel0 0 n (kRndsN k (xK X 0)) (kRndsN k (xK X 0) * pF 2) X Y (kRnds k (xK X 0)) → J 0 (xK Y 0) → AT 100 26 [some (.ref 1), some (.int (Int32.ofNat N)), some (.int bf), some (.int (Int32.ofNat N))] [] Y Q) → AT 100 18 [some (.ref 1), some (.int (Int32.ofNat N)), some (.int bf), some (.int (Int32.ofNat q))] [] X Q
  | 0, q, X, hq, hp, hX, hC => by
    refine AT.iload_n M_100 rfl rfl ?_
    refine AT.iload_n M_100 rfl rfl ?_
    refine AT.icmp_ge M_100 rfl (fun b20 => ?_) (fun b20 => absurd (by rw [show q = N by omega]; exact Int32.le_refl _) b20)
    have h := hC X ((cRel.rf n hp).up (Nat.le_refl _) (by omega)).1 hX
    rw [show Int32.ofNat q = Int32.ofNat N from by rw [show q = N by omega]]
    exact h
  | k + 1, q, X, hq, hp, hX, hC => by
    have ho : (0 : Nat) < 2 := by decide
    refine AT.iload_n M_100 rfl rfl ?_
    refine AT.iload_n M_100 rfl rfl ?_
    refine AT.icmp_ge M_100 rfl (fun b20 => absurd ((i32_le (by omega) (by omega)).mp b20) (by omega)) (fun b20 => ?_)
    refine AT.aload_n M_100 rfl rfl ?_
    refine AT.f_9_0 M_100 rfl ?_
    refine AT.cv1w M_100 rfl M_21 rfl (Nat.le_of_ble_eq_true rfl) (xKd.of (shp_cl (by assumption))) (by decide) (c_21 (n := n) (k := 68 * k) ho hJ hp (by rw [Nat.mul_add] at hX; exact hX)) (fun Y hc23 => ?_) (Nat.le_of_ble_eq_true rfl) rfl
    obtain ⟨r1, hYJ⟩ := hc23
    refine AT.iinc3 M_100 rfl rfl (i32_succ _) ?_
    refine AT.goto M_100 rfl ?_
    refine l_100 (n := n) hJ hN k (q + 1) Y (by omega) r1.2.2.2 hYJ (fun Z hZ hZJ => ?_)
    rw [r1.k] at hZ
    exact hC Z ((r1.tr hZ).up0 (Nat.le_refl _) (by show _ ≤ (kRoundN _ + kRndsN _ _) * _; rw [Nat.add_mul]; exact Nat.le_refl _)) hZJ
theorem c_100 {X : XS} {n N : Nat} {J : Nat → KK → Prop} {m : Int32} (hJ : kInv n J) (hp : mPr X 0) (hX : J 2040 (xK X 0)) (hN : m = Int32.ofNat N) (hN9 : N < 2147483648) (hm : (1 : Int32) ≤ m ∧ m ≤ 30) : RU 100 [some (.ref 1), some (.int m), none, none] X (some (.int ((kRnds N (xK X 0)).1 32 0 0 - (xK X 0).1 32 0 0))) (fun Y => cRel0 0 n (kRndsN N (xK X 0)) (kRndsN N (xK X 0) * pF 2) X Y (kRnds N (xK X 0))) := by
  have ho : (0 : Nat) < 2 := by decide
  have ho1 : (1 : Nat) < 2 := by decide
  refine AT.iload_n M_100 rfl rfl ?_
  refine AT.iconst M_100 rfl (v := 1) (by decide) ?_
  refine AT.icmp_lt M_100 rfl (fun b2 => absurd b2 (Int32.not_lt.mpr hm.1)) (fun b2 => ?_)
  refine AT.iload_n M_100 rfl rfl ?_
  refine AT.bipush M_100 rfl (v := 30) (by decide) ?_
  refine AT.icmp_le M_100 rfl (fun b5 => ?_) (fun b5 => absurd hm.2 b5)
  refine AT.aload_n M_100 rfl rfl ?_
  refine AT.f_9_0 M_100 rfl ?_
  refine AT.f_1_2 M_100 rfl (by assumption) ?_
  refine AT.f_4_5 M_100 rfl (by assumption) ?_
  refine AT.ist2 M_100 rfl rfl ?_
  refine AT.iconst M_100 rfl (v := 0) (by decide) ?_
  refine AT.ist3 M_100 rfl rfl ?_
  rw [hN] at hm ⊢
  have hN30 : N ≤ 30 := (i32_le (b := 30) (by omega) (by omega)).mp hm.2
  refine l_100 (n := n) (N := N) hJ (by omega) N 0 X (Nat.zero_add _) hp (hJ.le hX (by omega)) (fun Y hY hYJ => ?_)
  refine AT.aload_n M_100 rfl rfl ?_
  refine AT.f_9_0 M_100 rfl ?_
  refine AT.f_1_2 M_100 rfl (by assumption) ?_
  refine AT.f_4_5 M_100 rfl (by assumption) ?_
  refine AT.iload_n M_100 rfl rfl ?_
  refine AT.isub M_100 rfl rfl ?_
  refine AT.iret M_100 rfl rfl ?_
  rw [hY.k]
  exact ⟨rfl, hY⟩
theorem c_100x {X : XS} {m : Int32} (hm : ¬ ((1 : Int32) ≤ m ∧ m ≤ 30)) : RX 100 [some (.ref 1), some (.int m), none, none] X 0 (xThr X) := by
  have ho : (0 : Nat) < 2 := by decide
  have ho1 : (1 : Nat) < 2 := by decide
  refine AT.iload_n M_100 rfl rfl ?_
  refine AT.iconst M_100 rfl (v := 1) (by decide) ?_
  refine AT.icmp_lt M_100 rfl (fun b2 => ?_) (fun b2 => ?_)
  · refine AT.thr M_100 rfl rfl (Nat.le_of_ble_eq_true rfl) rfl ?_
    exact ⟨rfl, rfl⟩
  · refine AT.iload_n M_100 rfl rfl ?_
    refine AT.bipush M_100 rfl (v := 30) (by decide) ?_
    refine AT.icmp_le M_100 rfl (fun b5 => absurd b5 (fun z => hm ⟨Int32.not_lt.mp b2, z⟩)) (fun b5 => ?_)
    refine AT.thr M_100 rfl rfl (Nat.le_of_ble_eq_true rfl) rfl ?_
    exact ⟨rfl, rfl⟩
def sFurF (K : KK) : Nat → Int32
  | 0 => 0
  | n + 1 => kMax (sFurF K n) (K.1 15 n 0)
theorem l_149 {X : XS} : ∀ k q : Nat, q + k = 7 → ∀ x5 : Option Value, AT 149 11 [some (.ref 1), some (.int (sFurF (xK X 0) q)), some (.ref (aB 0 + 1)), some (.int (Int32.ofNat 7)), some (.int (Int32.ofNat q)), x5] [] X (fun o' Y => o' = .inl (some (.int (sFurF (xK X 0) 7))) ∧ Y = X)
  | 0, q, hq, x5 => by
    refine AT.iload M_149 rfl rfl ?_
    refine AT.iload_n M_149 rfl rfl ?_
    refine AT.icmp_ge M_149 rfl (fun b13 => ?_) (fun b13 => absurd (by rw [show q = 7 by omega]; exact Int32.le_refl _) b13)
    refine AT.iload_n M_149 rfl rfl ?_
    refine AT.iret M_149 rfl rfl ?_
    rw [show q = 7 by omega]
    exact ⟨rfl, rfl⟩
  | k + 1, q, hq, x5 => by
    have ho : (0 : Nat) < 2 := by decide
    have hq7 : q < 7 := by omega
    refine AT.iload M_149 rfl rfl ?_
    refine AT.iload_n M_149 rfl rfl ?_
    refine AT.icmp_ge M_149 rfl (fun b13 => absurd ((i32_le (b := q) (a := 7) (by omega) (by omega)).mp b13) (by omega)) (fun b13 => ?_)
    refine AT.aload_n M_149 rfl rfl ?_
    refine AT.iload M_149 rfl rfl ?_
    refine AT.a_svs M_149 rfl rfl (by assumption) (by assumption) ?_
    refine AT.ast5 M_149 rfl rfl ?_
    refine AT.iload_n M_149 rfl rfl ?_
    refine AT.aload M_149 rfl rfl ?_
    refine AT.f_6_15 M_149 rfl (by assumption) (by assumption) ?_
    refine AT.max M_149 rfl rfl (Nat.le_of_ble_eq_true rfl) rfl ?_
    rw [show (if sFurF (xK X 0) q < (xK X 0).1 15 q 0 then (xK X 0).1 15 q 0 else sFurF (xK X 0) q) = sFurF (xK X 0) (q + 1) from rfl]
    refine AT.ist1 M_149 rfl rfl ?_
    refine AT.iinc4 M_149 rfl rfl (i32_succ _) ?_
    refine AT.goto M_149 rfl ?_
    exact l_149 k (q + 1) (by omega) _
theorem c_149 {X : XS} : RT 149 [some (.ref 1), none, none, none, none, none] X (some (.int (sFurF (xK X 0) 7))) X := by
  have ho : (0 : Nat) < 2 := by decide
  have ho1 : (1 : Nat) < 2 := by decide
  refine AT.iconst M_149 rfl (v := 0) (by decide) ?_
  refine AT.ist1 M_149 rfl rfl ?_
  refine AT.aload_n M_149 rfl rfl ?_
  refine AT.f_9_0 M_149 rfl ?_
  refine AT.f_1_0 M_149 rfl (by assumption) ?_
  refine AT.ast2 M_149 rfl rfl ?_
  refine AT.aload_n M_149 rfl rfl ?_
  refine AT.l_svs M_149 rfl (by assumption) ?_
  refine AT.ist3 M_149 rfl rfl ?_
  refine AT.iconst M_149 rfl (v := 0) (by decide) ?_
  refine AT.ist4 M_149 rfl rfl ?_
  exact l_149 7 0 rfl _
