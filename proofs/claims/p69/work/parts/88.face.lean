/-! ===== THE FACE OF THE CLASS: what is tested first ===== -/
theorem i32_srv (n : Nat) (hn : n < 2147483648) (p : Int32) : (∃ s, s < n ∧ p = Int32.ofNat s) ∨ p < 0 ∨ ¬ p < Int32.ofNat n := by
  by_cases h : p < 0
  · exact Or.inr (Or.inl h)
  · by_cases h2 : p < Int32.ofNat n
    · left
      rw [Int32.lt_iff_toInt_lt, i32_int hn] at h2
      have h3 : (0 : Int) ≤ p.toInt := by
        rw [Int32.lt_iff_toInt_lt] at h
        exact Int.not_lt.mp h
      refine ⟨p.toInt.toNat, by omega, ?_⟩
      rw [← Int32.toInt_inj, i32_int (by omega)]
      omega
    · exact Or.inr (Or.inr h2)
theorem c_169 {X : XS} {s : Nat} (hs : s < 7) : RT 169 [some (.int (Int32.ofNat s))] X none X := by
  refine AT.iload_n M_169 rfl rfl ?_
  refine AT.if_lt M_169 rfl (fun b1 => absurd b1 (i32_ix (by omega)).2) (fun b1 => ?_)
  refine AT.iload_n M_169 rfl rfl ?_
  refine AT.bipush M_169 rfl (v := 7) (by decide) ?_
  refine AT.icmp_lt M_169 rfl (fun b4 => ?_) (fun b4 => absurd ((i32_lt (b := 7) (by omega) (by omega)).mpr hs) b4)
  refine AT.vret M_169 rfl rfl ?_
  exact ⟨rfl, rfl⟩
theorem c_169x {X : XS} {p : Int32} (hp : p < 0 ∨ ¬ p < 7) : RX 169 [some (.int p)] X 2 (xThr X) := by
  refine AT.iload_n M_169 rfl rfl ?_
  refine AT.if_lt M_169 rfl (fun b1 => ?_) (fun b1 => ?_)
  · refine AT.thr M_169 rfl rfl (Nat.le_of_ble_eq_true rfl) rfl ?_
    exact ⟨rfl, rfl⟩
  · refine AT.iload_n M_169 rfl rfl ?_
    refine AT.bipush M_169 rfl (v := 7) (by decide) ?_
    refine AT.icmp_lt M_169 rfl (fun b4 => absurd b4 (hp.resolve_left b1)) (fun b4 => ?_)
    refine AT.thr M_169 rfl rfl (Nat.le_of_ble_eq_true rfl) rfl ?_
    exact ⟨rfl, rfl⟩
theorem c_171 {X : XS} {s : Nat} (hs : s < 4) : RT 171 [some (.int (Int32.ofNat s))] X none X := by
  refine AT.iload_n M_171 rfl rfl ?_
  refine AT.if_lt M_171 rfl (fun b1 => absurd b1 (i32_ix (by omega)).2) (fun b1 => ?_)
  refine AT.iload_n M_171 rfl rfl ?_
  refine AT.iconst M_171 rfl (v := 4) (by decide) ?_
  refine AT.icmp_lt M_171 rfl (fun b4 => ?_) (fun b4 => absurd ((i32_lt (b := 4) (by omega) (by omega)).mpr hs) b4)
  refine AT.vret M_171 rfl rfl ?_
  exact ⟨rfl, rfl⟩
theorem c_171x {X : XS} {p : Int32} (hp : p < 0 ∨ ¬ p < 4) : RX 171 [some (.int p)] X 2 (xThr X) := by
  refine AT.iload_n M_171 rfl rfl ?_
  refine AT.if_lt M_171 rfl (fun b1 => ?_) (fun b1 => ?_)
  · refine AT.thr M_171 rfl rfl (Nat.le_of_ble_eq_true rfl) rfl ?_
    exact ⟨rfl, rfl⟩
  · refine AT.iload_n M_171 rfl rfl ?_
    refine AT.iconst M_171 rfl (v := 4) (by decide) ?_
    refine AT.icmp_lt M_171 rfl (fun b4 => absurd b4 (hp.resolve_left b1)) (fun b4 => ?_)
    refine AT.thr M_171 rfl rfl (Nat.le_of_ble_eq_true rfl) rfl ?_
    exact ⟨rfl, rfl⟩
theorem c_172 {X : XS} {s : Nat} (hs : s < 8) : RT 172 [some (.int (Int32.ofNat s))] X none X := by
  refine AT.iload_n M_172 rfl rfl ?_
  refine AT.if_lt M_172 rfl (fun b1 => absurd b1 (i32_ix (by omega)).2) (fun b1 => ?_)
  refine AT.iload_n M_172 rfl rfl ?_
  refine AT.bipush M_172 rfl (v := 8) (by decide) ?_
  refine AT.icmp_lt M_172 rfl (fun b4 => ?_) (fun b4 => absurd ((i32_lt (b := 8) (by omega) (by omega)).mpr hs) b4)
  refine AT.vret M_172 rfl rfl ?_
  exact ⟨rfl, rfl⟩
theorem c_172x {X : XS} {p : Int32} (hp : p < 0 ∨ ¬ p < 8) : RX 172 [some (.int p)] X 2 (xThr X) := by
  refine AT.iload_n M_172 rfl rfl ?_
  refine AT.if_lt M_172 rfl (fun b1 => ?_) (fun b1 => ?_)
  · refine AT.thr M_172 rfl rfl (Nat.le_of_ble_eq_true rfl) rfl ?_
    exact ⟨rfl, rfl⟩
  · refine AT.iload_n M_172 rfl rfl ?_
    refine AT.bipush M_172 rfl (v := 8) (by decide) ?_
    refine AT.icmp_lt M_172 rfl (fun b4 => absurd b4 (hp.resolve_left b1)) (fun b4 => ?_)
    refine AT.thr M_172 rfl rfl (Nat.le_of_ble_eq_true rfl) rfl ?_
    exact ⟨rfl, rfl⟩
theorem c_168 {X : XS} : RT 168 [some (.int 0)] X none X := by
  refine AT.iload_n M_168 rfl rfl ?_
  refine AT.if_eq M_168 rfl (fun b1 => ?_) (fun b1 => absurd rfl b1)
  refine AT.vret M_168 rfl rfl ?_
  exact ⟨rfl, rfl⟩
theorem c_168x {X : XS} : RX 168 [some (.int 1)] X 1 (xThr X) := by
  refine AT.iload_n M_168 rfl rfl ?_
  refine AT.if_eq M_168 rfl (fun b1 => absurd b1 (by decide)) (fun b1 => ?_)
  refine AT.thr M_168 rfl rfl (Nat.le_of_ble_eq_true rfl) rfl ?_
  exact ⟨rfl, rfl⟩
theorem c_170 {X : XS} {s j : Nat} (hs : s < 7) (hj : j < 7) (hne : ¬ s = j) : RT 170 [some (.int (Int32.ofNat s)), some (.int (Int32.ofNat j))] X none X := by
  refine AT.iload_n M_170 rfl rfl ?_
  refine AT.cs10 M_170 rfl M_169 rfl (Nat.le_of_ble_eq_true rfl) rfl (c_169 hs) ?_ (Nat.le_of_ble_eq_true rfl) rfl
  refine AT.iload_n M_170 rfl rfl ?_
  refine AT.cs10 M_170 rfl M_169 rfl (Nat.le_of_ble_eq_true rfl) rfl (c_169 hj) ?_ (Nat.le_of_ble_eq_true rfl) rfl
  refine AT.iload_n M_170 rfl rfl ?_
  refine AT.iload_n M_170 rfl rfl ?_
  refine AT.icmp_ne M_170 rfl (fun b6 => ?_) (fun b6 => absurd (fun z => hne (i32_nat (by omega) (by omega) z)) b6)
  refine AT.vret M_170 rfl rfl ?_
  exact ⟨rfl, rfl⟩
theorem c_170x1 {X : XS} {p q : Int32} (hp : p < 0 ∨ ¬ p < 7) : RX 170 [some (.int p), some (.int q)] X 2 (xThr X) := by
  refine AT.iload_n M_170 rfl rfl ?_
  refine AT.cs1x M_170 rfl M_169 rfl (Nat.le_of_ble_eq_true rfl) rfl (c_169x hp) rfl rfl ?_ (Nat.le_of_ble_eq_true rfl) rfl
  exact ⟨rfl, rfl⟩
theorem c_170x2 {X : XS} {s : Nat} {q : Int32} (hs : s < 7) (hp : q < 0 ∨ ¬ q < 7) : RX 170 [some (.int (Int32.ofNat s)), some (.int q)] X 2 (xThr X) := by
  refine AT.iload_n M_170 rfl rfl ?_
  refine AT.cs10 M_170 rfl M_169 rfl (Nat.le_of_ble_eq_true rfl) rfl (c_169 hs) ?_ (Nat.le_of_ble_eq_true rfl) rfl
  refine AT.iload_n M_170 rfl rfl ?_
  refine AT.cs1x M_170 rfl M_169 rfl (Nat.le_of_ble_eq_true rfl) rfl (c_169x hp) rfl rfl ?_ (Nat.le_of_ble_eq_true rfl) rfl
  exact ⟨rfl, rfl⟩
theorem c_170x3 {X : XS} {s : Nat} (hs : s < 7) : RX 170 [some (.int (Int32.ofNat s)), some (.int (Int32.ofNat s))] X 0 (xThr X) := by
  refine AT.iload_n M_170 rfl rfl ?_
  refine AT.cs10 M_170 rfl M_169 rfl (Nat.le_of_ble_eq_true rfl) rfl (c_169 hs) ?_ (Nat.le_of_ble_eq_true rfl) rfl
  refine AT.iload_n M_170 rfl rfl ?_
  refine AT.cs10 M_170 rfl M_169 rfl (Nat.le_of_ble_eq_true rfl) rfl (c_169 hs) ?_ (Nat.le_of_ble_eq_true rfl) rfl
  refine AT.iload_n M_170 rfl rfl ?_
  refine AT.iload_n M_170 rfl rfl ?_
  refine AT.icmp_ne M_170 rfl (fun b6 => absurd rfl b6) (fun b6 => ?_)
  refine AT.thr M_170 rfl rfl (Nat.le_of_ble_eq_true rfl) rfl ?_
  exact ⟨rfl, rfl⟩
theorem c_173 {X : XS} {j : Nat} (hj : j < (xK X 0).2.2.length) : RT 173 [some (.ref 1), some (.int (Int32.ofNat j))] X none X := by
  have ho : (0 : Nat) < 2 := by decide
  refine AT.rep (fun hr => ?_)
  have hn60 := hr.choose_spec.n60 (o := 0) (by omega)
  refine AT.iload_n M_173 rfl rfl ?_
  refine AT.if_lt M_173 rfl (fun b1 => absurd b1 (i32_ix (by omega)).2) (fun b1 => ?_)
  refine AT.iload_n M_173 rfl rfl ?_
  refine AT.aload_n M_173 rfl rfl ?_
  refine AT.f_9_0 M_173 rfl ?_
  refine AT.f_1_2 M_173 rfl (by assumption) ?_
  refine AT.f_4_3 M_173 rfl (by assumption) ?_
  refine AT.icmp_lt M_173 rfl (fun b7 => ?_) (fun b7 => absurd ((i32_lt (by omega) (by omega)).mpr hj) b7)
  refine AT.vret M_173 rfl rfl ?_
  exact ⟨rfl, rfl⟩
theorem c_173x {X : XS} {p : Int32} (hp : p < 0 ∨ ¬ p < Int32.ofNat (xK X 0).2.2.length) : RX 173 [some (.ref 1), some (.int p)] X 2 (xThr X) := by
  have ho : (0 : Nat) < 2 := by decide
  refine AT.iload_n M_173 rfl rfl ?_
  refine AT.if_lt M_173 rfl (fun b1 => ?_) (fun b1 => ?_)
  · refine AT.thr M_173 rfl rfl (Nat.le_of_ble_eq_true rfl) rfl ?_
    exact ⟨rfl, rfl⟩
  · refine AT.iload_n M_173 rfl rfl ?_
    refine AT.aload_n M_173 rfl rfl ?_
    refine AT.f_9_0 M_173 rfl ?_
    refine AT.f_1_2 M_173 rfl (by assumption) ?_
    refine AT.f_4_3 M_173 rfl (by assumption) ?_
    refine AT.icmp_lt M_173 rfl (fun b7 => absurd b7 (hp.resolve_left b1)) (fun b7 => ?_)
    refine AT.thr M_173 rfl rfl (Nat.le_of_ble_eq_true rfl) rfl ?_
    exact ⟨rfl, rfl⟩
theorem c_176 {X : XS} {s : Nat} (hs : s < 7) : RT 176 [some (.ref 1), some (.int (Int32.ofNat s))] X (some (.ref (aS 0 s))) X := by
  have ho : (0 : Nat) < 2 := by decide
  refine AT.iload_n M_176 rfl rfl ?_
  refine AT.cs10 M_176 rfl M_169 rfl (Nat.le_of_ble_eq_true rfl) rfl (c_169 hs) ?_ (Nat.le_of_ble_eq_true rfl) rfl
  refine AT.aload_n M_176 rfl rfl ?_
  refine AT.f_9_0 M_176 rfl ?_
  refine AT.f_1_0 M_176 rfl (by assumption) ?_
  refine AT.iload_n M_176 rfl rfl ?_
  refine AT.a_svs M_176 rfl rfl (by assumption) (by assumption) ?_
  refine AT.aret M_176 rfl rfl ?_
  exact ⟨rfl, rfl⟩
theorem c_176x {X : XS} {p : Int32} (hp : p < 0 ∨ ¬ p < 7) : RX 176 [some (.ref 1), some (.int p)] X 2 (xThr X) := by
  refine AT.iload_n M_176 rfl rfl ?_
  refine AT.cs1x M_176 rfl M_169 rfl (Nat.le_of_ble_eq_true rfl) rfl (c_169x hp) rfl rfl ?_ (Nat.le_of_ble_eq_true rfl) rfl
  exact ⟨rfl, rfl⟩
theorem c_178 {X : XS} {s : Nat} (hs : s < 7) {x : Int32} {e : ENT} (hx : sEnt (xK X 0) s x = some e) (hw : kWf (xK X 0) s) : RP 178 [some (.ref 1), some (.int (Int32.ofNat s)), some (.int x), none] X (fun p => dE (xD X) p = (1, e)) := by
  have ho : (0 : Nat) < 2 := by decide
  refine AT.aload_n M_178 rfl rfl ?_
  refine AT.iload_n M_178 rfl rfl ?_
  refine AT.cv2i M_178 rfl M_176 rfl (Nat.le_of_ble_eq_true rfl) (xKd.of (Or.inr (Or.inr (Or.inl ⟨rfl, rfl, rfl⟩)))) (by decide) (c_176 hs) ?_ (Nat.le_of_ble_eq_true rfl) rfl
  refine AT.iload_n M_178 rfl rfl ?_
  refine AT.cv2p M_178 rfl M_64 rfl (Nat.le_of_ble_eq_true rfl) (xKd.of (shp_sv (by assumption) (by assumption))) (by decide) (c_64 ho hs hx hw) (fun p4 he4 => ?_) (Nat.le_of_ble_eq_true rfl) rfl
  refine AT.ast3 M_178 rfl rfl ?_
  refine AT.aload_n M_178 rfl rfl ?_
  refine AT.ifnn1 M_178 rfl ?_
  refine AT.aload_n M_178 rfl rfl ?_
  refine AT.aret M_178 rfl rfl ?_
  exact ⟨_, rfl, he4, rfl⟩
theorem c_178x2 {X : XS} {s : Nat} (hs : s < 7) {x : Int32} (hx : sEnt (xK X 0) s x = none) (hw : kWf (xK X 0) s) : RX 178 [some (.ref 1), some (.int (Int32.ofNat s)), some (.int x), none] X 2 (xThr X) := by
  have ho : (0 : Nat) < 2 := by decide
  refine AT.aload_n M_178 rfl rfl ?_
  refine AT.iload_n M_178 rfl rfl ?_
  refine AT.cv2i M_178 rfl M_176 rfl (Nat.le_of_ble_eq_true rfl) (xKd.of (Or.inr (Or.inr (Or.inl ⟨rfl, rfl, rfl⟩)))) (by decide) (c_176 hs) ?_ (Nat.le_of_ble_eq_true rfl) rfl
  refine AT.iload_n M_178 rfl rfl ?_
  refine AT.cv2i M_178 rfl M_64 rfl (Nat.le_of_ble_eq_true rfl) (xKd.of (shp_sv (by assumption) (by assumption))) (by decide) (c_64n ho hs hx hw) ?_ (Nat.le_of_ble_eq_true rfl) rfl
  refine AT.zst3 M_178 rfl rfl ?_
  refine AT.aload_n0 M_178 rfl rfl ?_
  refine AT.ifnn0 M_178 rfl ?_
  refine AT.thr M_178 rfl rfl (Nat.le_of_ble_eq_true rfl) rfl ?_
  exact ⟨rfl, rfl⟩
theorem c_178x1 {X : XS} {p x : Int32} (hp : p < 0 ∨ ¬ p < 7) : RX 178 [some (.ref 1), some (.int p), some (.int x), none] X 2 (xThr X) := by
  refine AT.aload_n M_178 rfl rfl ?_
  refine AT.iload_n M_178 rfl rfl ?_
  refine AT.cv2x M_178 rfl M_176 rfl (Nat.le_of_ble_eq_true rfl) (xKd.of (Or.inr (Or.inr (Or.inl ⟨rfl, rfl, rfl⟩)))) (by decide) (c_176x hp) rfl rfl ?_ (Nat.le_of_ble_eq_true rfl) rfl
  exact ⟨rfl, rfl⟩
theorem c_175 {X : XS} {v : Int32} (hv : (-9999 : Int32) ≤ v ∧ v ≤ 9999) : RT 175 [some (.int v)] X (some (.int 0)) X := by
  refine AT.iload_n M_175 rfl rfl ?_
  refine AT.sipush M_175 rfl (v := (-9999)) (by decide) ?_
  refine AT.icmp_lt M_175 rfl (fun b2 => absurd b2 (Int32.not_lt.mpr hv.1)) (fun b2 => ?_)
  refine AT.iload_n M_175 rfl rfl ?_
  refine AT.sipush M_175 rfl (v := 9999) (by decide) ?_
  refine AT.icmp_le M_175 rfl (fun b5 => ?_) (fun b5 => absurd hv.2 b5)
  refine AT.iconst M_175 rfl (v := 0) (by decide) ?_
  refine AT.zret M_175 rfl rfl (by first | exact Or.inl rfl | exact Or.inr rfl | assumption) ?_
  exact ⟨rfl, rfl⟩
theorem c_175x {X : XS} {v : Int32} (hv : ¬ ((-9999 : Int32) ≤ v ∧ v ≤ 9999)) : RT 175 [some (.int v)] X (some (.int 1)) X := by
  refine AT.iload_n M_175 rfl rfl ?_
  refine AT.sipush M_175 rfl (v := (-9999)) (by decide) ?_
  refine AT.icmp_lt M_175 rfl (fun b2 => ?_) (fun b2 => ?_)
  · refine AT.iconst M_175 rfl (v := 1) (by decide) ?_
    refine AT.goto M_175 rfl ?_
    refine AT.zret M_175 rfl rfl (by first | exact Or.inl rfl | exact Or.inr rfl | assumption) ?_
    exact ⟨rfl, rfl⟩
  · refine AT.iload_n M_175 rfl rfl ?_
    refine AT.sipush M_175 rfl (v := 9999) (by decide) ?_
    refine AT.icmp_le M_175 rfl (fun b5 => absurd b5 (fun z => hv ⟨Int32.not_lt.mp b2, z⟩)) (fun b5 => ?_)
    refine AT.iconst M_175 rfl (v := 1) (by decide) ?_
    refine AT.goto M_175 rfl ?_
    refine AT.zret M_175 rfl rfl (by first | exact Or.inl rfl | exact Or.inr rfl | assumption) ?_
    exact ⟨rfl, rfl⟩
theorem c_174x1 {X : XS} {p q ex vl : Int32} (hp : p < 0 ∨ ¬ p < 4) : RX 174 [some (.ref 1), some (.int p), some (.int q), some (.int ex), some (.int vl)] X 2 (xThr X) := by
  refine AT.iload_n M_174 rfl rfl ?_
  refine AT.cs1x M_174 rfl M_171 rfl (Nat.le_of_ble_eq_true rfl) rfl (c_171x hp) rfl rfl ?_ (Nat.le_of_ble_eq_true rfl) rfl
  exact ⟨rfl, rfl⟩
theorem c_174x2 {X : XS} {c : Nat} {q ex vl : Int32} (hc : c < 4) (hp : q < 0 ∨ ¬ q < 8) : RX 174 [some (.ref 1), some (.int (Int32.ofNat c)), some (.int q), some (.int ex), some (.int vl)] X 2 (xThr X) := by
  refine AT.iload_n M_174 rfl rfl ?_
  refine AT.cs10 M_174 rfl M_171 rfl (Nat.le_of_ble_eq_true rfl) rfl (c_171 hc) ?_ (Nat.le_of_ble_eq_true rfl) rfl
  refine AT.iload_n M_174 rfl rfl ?_
  refine AT.cs1x M_174 rfl M_172 rfl (Nat.le_of_ble_eq_true rfl) rfl (c_172x hp) rfl rfl ?_ (Nat.le_of_ble_eq_true rfl) rfl
  exact ⟨rfl, rfl⟩
theorem c_174x3 {X : XS} {c k : Nat} {ex vl : Int32} (hc : c < 4) (hk : k < 8) (hx : ¬ ((-9999 : Int32) ≤ ex ∧ ex ≤ 9999)) : RX 174 [some (.ref 1), some (.int (Int32.ofNat c)), some (.int (Int32.ofNat k)), some (.int ex), some (.int vl)] X 0 (xThr X) := by
  refine AT.iload_n M_174 rfl rfl ?_
  refine AT.cs10 M_174 rfl M_171 rfl (Nat.le_of_ble_eq_true rfl) rfl (c_171 hc) ?_ (Nat.le_of_ble_eq_true rfl) rfl
  refine AT.iload_n M_174 rfl rfl ?_
  refine AT.cs10 M_174 rfl M_172 rfl (Nat.le_of_ble_eq_true rfl) rfl (c_172 hk) ?_ (Nat.le_of_ble_eq_true rfl) rfl
  refine AT.iload_n M_174 rfl rfl ?_
  refine AT.cs1i M_174 rfl M_175 rfl (Nat.le_of_ble_eq_true rfl) rfl (c_175x hx) ?_ (Nat.le_of_ble_eq_true rfl) rfl
  refine AT.if_ne M_174 rfl (fun b6 => ?_) (fun b6 => absurd (by decide) b6)
  refine AT.thr M_174 rfl rfl (Nat.le_of_ble_eq_true rfl) rfl ?_
  exact ⟨rfl, rfl⟩
theorem c_174x4 {X : XS} {c k : Nat} {ex vl : Int32} (hc : c < 4) (hk : k < 8) (hx : ((-9999 : Int32) ≤ ex ∧ ex ≤ 9999)) (hv : ¬ ((-9999 : Int32) ≤ vl ∧ vl ≤ 9999)) : RX 174 [some (.ref 1), some (.int (Int32.ofNat c)), some (.int (Int32.ofNat k)), some (.int ex), some (.int vl)] X 0 (xThr X) := by
  refine AT.iload_n M_174 rfl rfl ?_
  refine AT.cs10 M_174 rfl M_171 rfl (Nat.le_of_ble_eq_true rfl) rfl (c_171 hc) ?_ (Nat.le_of_ble_eq_true rfl) rfl
  refine AT.iload_n M_174 rfl rfl ?_
  refine AT.cs10 M_174 rfl M_172 rfl (Nat.le_of_ble_eq_true rfl) rfl (c_172 hk) ?_ (Nat.le_of_ble_eq_true rfl) rfl
  refine AT.iload_n M_174 rfl rfl ?_
  refine AT.cs1i M_174 rfl M_175 rfl (Nat.le_of_ble_eq_true rfl) rfl (c_175 hx) ?_ (Nat.le_of_ble_eq_true rfl) rfl
  refine AT.if_ne M_174 rfl (fun b6 => absurd b6 (by decide)) (fun b6 => ?_)
  refine AT.iload M_174 rfl rfl ?_
  refine AT.cs1i M_174 rfl M_175 rfl (Nat.le_of_ble_eq_true rfl) rfl (c_175x hv) ?_ (Nat.le_of_ble_eq_true rfl) rfl
  refine AT.if_eq M_174 rfl (fun b9 => absurd b9 (by decide)) (fun b9 => ?_)
  refine AT.thr M_174 rfl rfl (Nat.le_of_ble_eq_true rfl) rfl ?_
  exact ⟨rfl, rfl⟩
theorem c_174 {X : XS} {c k : Nat} {ex vl : Int32} (hc : c < 4) (hk : k < 8) (hx : ((-9999 : Int32) ≤ ex ∧ ex ≤ 9999)) (hv : ((-9999 : Int32) ≤ vl ∧ vl ≤ 9999)) (hwt : (xK X 0).1 34 c 3 = 0 ∨ ¬ (xK X 0).1 35 c 0 = 0) : RT 174 [some (.ref 1), some (.int (Int32.ofNat c)), some (.int (Int32.ofNat k)), some (.int ex), some (.int vl)] X none X := by
  have ho : (0 : Nat) < 2 := by decide
  refine AT.iload_n M_174 rfl rfl ?_
  refine AT.cs10 M_174 rfl M_171 rfl (Nat.le_of_ble_eq_true rfl) rfl (c_171 hc) ?_ (Nat.le_of_ble_eq_true rfl) rfl
  refine AT.iload_n M_174 rfl rfl ?_
  refine AT.cs10 M_174 rfl M_172 rfl (Nat.le_of_ble_eq_true rfl) rfl (c_172 hk) ?_ (Nat.le_of_ble_eq_true rfl) rfl
  refine AT.iload_n M_174 rfl rfl ?_
  refine AT.cs1i M_174 rfl M_175 rfl (Nat.le_of_ble_eq_true rfl) rfl (c_175 hx) ?_ (Nat.le_of_ble_eq_true rfl) rfl
  refine AT.if_ne M_174 rfl (fun b6 => absurd b6 (by decide)) (fun b6 => ?_)
  refine AT.iload M_174 rfl rfl ?_
  refine AT.cs1i M_174 rfl M_175 rfl (Nat.le_of_ble_eq_true rfl) rfl (c_175 hv) ?_ (Nat.le_of_ble_eq_true rfl) rfl
  refine AT.if_eq M_174 rfl (fun b9 => ?_) (fun b9 => absurd (by decide) b9)
  refine AT.aload_n M_174 rfl rfl ?_
  refine AT.f_9_0 M_174 rfl ?_
  refine AT.f_1_1 M_174 rfl (by assumption) ?_
  refine AT.iload_n M_174 rfl rfl ?_
  refine AT.a_cls M_174 rfl rfl (by assumption) (by assumption) ?_
  refine AT.cv1i M_174 rfl M_4 rfl (Nat.le_of_ble_eq_true rfl) (xKd.of (shp_cli (by assumption) (by assumption))) (by decide) (c_4 ho hc) ?_ (Nat.le_of_ble_eq_true rfl) rfl
  rw [show (bI (decide (¬ (xK X 0).1 34 c 3 = 0) && decide ((xK X 0).1 35 c 0 = 0))) = 0 from bI_eq0.mpr (by rcases hwt with z | z <;> simp [z])]
  refine AT.cs10 M_174 rfl M_168 rfl (Nat.le_of_ble_eq_true rfl) rfl c_168 ?_ (Nat.le_of_ble_eq_true rfl) rfl
  refine AT.vret M_174 rfl rfl ?_
  exact ⟨rfl, rfl⟩
theorem c_174x5 {X : XS} {c k : Nat} {ex vl : Int32} (hc : c < 4) (hk : k < 8) (hx : ((-9999 : Int32) ≤ ex ∧ ex ≤ 9999)) (hv : ((-9999 : Int32) ≤ vl ∧ vl ≤ 9999)) (hwt : ¬ (xK X 0).1 34 c 3 = 0 ∧ (xK X 0).1 35 c 0 = 0) : RX 174 [some (.ref 1), some (.int (Int32.ofNat c)), some (.int (Int32.ofNat k)), some (.int ex), some (.int vl)] X 1 (xThr X) := by
  have ho : (0 : Nat) < 2 := by decide
  refine AT.iload_n M_174 rfl rfl ?_
  refine AT.cs10 M_174 rfl M_171 rfl (Nat.le_of_ble_eq_true rfl) rfl (c_171 hc) ?_ (Nat.le_of_ble_eq_true rfl) rfl
  refine AT.iload_n M_174 rfl rfl ?_
  refine AT.cs10 M_174 rfl M_172 rfl (Nat.le_of_ble_eq_true rfl) rfl (c_172 hk) ?_ (Nat.le_of_ble_eq_true rfl) rfl
  refine AT.iload_n M_174 rfl rfl ?_
  refine AT.cs1i M_174 rfl M_175 rfl (Nat.le_of_ble_eq_true rfl) rfl (c_175 hx) ?_ (Nat.le_of_ble_eq_true rfl) rfl
  refine AT.if_ne M_174 rfl (fun b6 => absurd b6 (by decide)) (fun b6 => ?_)
  refine AT.iload M_174 rfl rfl ?_
  refine AT.cs1i M_174 rfl M_175 rfl (Nat.le_of_ble_eq_true rfl) rfl (c_175 hv) ?_ (Nat.le_of_ble_eq_true rfl) rfl
  refine AT.if_eq M_174 rfl (fun b9 => ?_) (fun b9 => absurd (by decide) b9)
  refine AT.aload_n M_174 rfl rfl ?_
  refine AT.f_9_0 M_174 rfl ?_
  refine AT.f_1_1 M_174 rfl (by assumption) ?_
  refine AT.iload_n M_174 rfl rfl ?_
  refine AT.a_cls M_174 rfl rfl (by assumption) (by assumption) ?_
  refine AT.cv1i M_174 rfl M_4 rfl (Nat.le_of_ble_eq_true rfl) (xKd.of (shp_cli (by assumption) (by assumption))) (by decide) (c_4 ho hc) ?_ (Nat.le_of_ble_eq_true rfl) rfl
  rw [show (bI (decide (¬ (xK X 0).1 34 c 3 = 0) && decide ((xK X 0).1 35 c 0 = 0))) = 1 from by unfold bI; rw [if_pos (by simp [hwt.1, hwt.2])]]
  refine AT.cs1x M_174 rfl M_168 rfl (Nat.le_of_ble_eq_true rfl) rfl c_168x rfl rfl ?_ (Nat.le_of_ble_eq_true rfl) rfl
  exact ⟨rfl, rfl⟩
