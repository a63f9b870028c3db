/-! ===== THE LAW'S LOOP ===== -/
/-- the row of before says tl and cl -/
def wBf (tl cl : Nat → Nat) (W : LW) : Prop := ∀ x, x < 7 → W.2.2.2 x = Int32.ofNat (tl x) ∧ W.2.2.2 (7 + x) = Int32.ofNat (cl x) ∧ tl x ≤ 1000000000 ∧ cl x ≤ 1000000000
/-- the law's answer -/
def qLaw (n0 : Nat) (sc : Nat → Int32) (o : PO) (Y : XS) (_ : LW) : Prop := o = .inl (some (.int 1)) ∧ ∃ c tl cl led, c ≤ 60 ∧ LJ n0 sc c tl cl led Y
section LOOP
variable {n0 : Nat} {sc : Nat → Int32} {c p1 p2 : Nat} {tl cl led : Nat → Nat} {X : XS} {W : LW} {i w v f : Int32} {Q : PO → XS → LW → Prop}
/-- a server's terms and commits don't fall, but where it may -/
theorem LJ.wok {cl' : Nat → Nat} (hL : LJ n0 sc c tl cl' led X) (hW : wBf tl cl W) {x : Nat} (hx : x < 7) (h : cl' x = cl x ∨ (¬ f = 0 ∧ (xK X 0).1 4 x 0 = 0)) : wOk X f W x := by
  obtain ⟨m0, G, A, g, z⟩ := hL.k
  obtain ⟨-, -, z1, z2⟩ := z.1 x hx
  obtain ⟨-, -, -, -, ⟨a, cc, l, t, lt, e1, e2, e3, e4, e5, e6, e7, e8, e9, e10, -, ec, et, -⟩, -⟩ := hL.lsnd hx
  obtain ⟨w1, w2, w3, w4⟩ := hW x hx
  refine ⟨?_, ?_⟩
  · rw [e7, w1, i32_lt (by omega) (by omega)]; omega
  · rcases h with h | h
    · refine Or.inl ?_
      rw [e2, w2, i32_lt (by omega) (by omega)]
      omega
    · exact Or.inr h
/-- what is becomes what was before -/
theorem LJ.now (hL : LJ n0 sc c tl cl led X) (hN : ∀ x, x < 7 → wNw X W x) : LJ n0 sc c (kT (xK X 0)) (kC (xK X 0)) led X ∧ wBf (kT (xK X 0)) (kC (xK X 0)) W := by
  refine ⟨hL.bnd (fun m0 A G k g z => ⟨fun i hi => ⟨(z.1 i hi).1, (z.1 i hi).2.1, Nat.le_refl _, Nat.le_refl _⟩, z.2⟩), fun x hx => ?_⟩
  obtain ⟨-, -, -, -, ⟨a, cc, l, t, lt, e1, e2, e3, e4, e5, e6, e7, e8, e9, e10, -, ec, et, -⟩, -⟩ := hL.lsnd hx
  obtain ⟨n1, n2⟩ := hN x hx
  exact ⟨by rw [n1, e7, et], by rw [n2, e2, ec], by omega, by omega⟩
theorem l_64 {l8 l9 l10 l11 : Option Value} (hp1 : W.1 = p1) (hp2 : W.2.1 = p2) (hW : wLed led W) (hL : LJ n0 sc c tl cl led X) (hO : ∀ x, x < 7 → wOk X f W x) (k : ∀ (W2 : LW) (led2 : Nat → Nat) (l8 l9 l10 l11 : Option Value), W2.1 = p1 → W2.2.1 = p2 → wLed led2 W2 → LJ n0 sc c tl cl led2 X → (∀ x, x < 7 → wNw X W2 x) → LT 378 157 [some (.ref 0), some (.ref 1), some (.ref p1), some (.ref p2), some (.int i), some (.int w), some (.int v), some (.int f), l8, l9, l10, l11] [] X W2 Q) : LT 378 64 [some (.ref 0), some (.ref 1), some (.ref p1), some (.ref p2), some (.int i), some (.int w), some (.int v), some (.int f), l8, l9, l10, l11] [] X W Q := by
  refine LT.iconst M_378 rfl (v := 0) (by decide) ?_
  refine LT.ist8 M_378 rfl rfl ?_
  exact l_66 (fun W2 led2 y a1 a2 a3 a4 a5 => l_120 a4 (fun l8 l9 l10 l11 => k W2 led2 l8 l9 l10 l11 a1 a2 a3 a4 a5)) 7 0 W led rfl hp1 hp2 hW hL (fun x _ hx => hO x hx) (fun x hx => absurd hx (Nat.not_lt_zero x))
theorem l_32 (h260 : n0 ≤ 260) : ∀ (n I : Nat) (X : XS) (W : LW) (tl cl led : Nat → Nat) (l5 l6 l7 l8 l9 l10 l11 : Option Value), I + n = 44 → W.1 = p1 → W.2.1 = p2 → wLed led W → wBf tl cl W → LJ n0 sc (I + 4) tl cl led X → LT 378 32 [some (.ref 0), some (.ref 1), some (.ref p1), some (.ref p2), some (.int (Int32.ofNat I)), l5, l6, l7, l8, l9, l10, l11] [] X W (qLaw n0 sc)
  | 0, I, X, W, tl, cl, led, l5, l6, l7, l8, l9, l10, l11, hI, hp1, hp2, hW, hB, hL => by
    refine LT.iload M_378 rfl rfl ?_
    refine LT.bipush M_378 rfl (v := 44) (by decide) ?_
    refine LT.icmp_ge M_378 rfl (fun b => ?_) (fun b => absurd ((i32_le (a := 44) (by omega) (by omega)).mpr (by omega)) b)
    refine LT.iconst M_378 rfl (v := 1) (by decide) ?_
    refine LT.zret M_378 rfl rfl (Or.inr rfl) ?_
    exact ⟨rfl, I + 4, tl, cl, led, by omega, hL⟩
  | n + 1, I, X, W, tl, cl, led, l5, l6, l7, l8, l9, l10, l11, hI, hp1, hp2, hW, hB, hL => by
    refine LT.iload M_378 rfl rfl ?_
    refine LT.bipush M_378 rfl (v := 44) (by decide) ?_
    refine LT.icmp_ge M_378 rfl (fun b => absurd ((i32_le (a := 44) (by omega) (by omega)).mp b) (by omega)) (fun b => ?_)
    refine LT.aload_n M_378 rfl rfl ?_
    refine LT.iconst M_378 rfl (v := 2) (by decide) ?_
    refine LT.iload M_378 rfl rfl ?_
    refine LT.bipush M_378 rfl (v := 22) (by decide) ?_
    refine LT.irem M_378 rfl (by decide) (i32_rem (n := 22) (by omega) (by omega)) ?_
    refine LT.iadd M_378 rfl (Int32.ofNat_add 2 _).symm ?_
    obtain ⟨cv, hcv⟩ := c_323 (X := X) (k := 2 + I % 22) (by omega) (by rw [hL.1]; exact h260)
    refine LT.cs2i M_378 rfl M_323 rfl (Nat.le_of_ble_eq_true rfl) rfl rfl hcv ?_ (Nat.le_of_ble_eq_true rfl) rfl
    refine LT.iload M_378 rfl rfl ?_
    refine LT.bipush M_378 rfl (v := 22) (by decide) ?_
    refine LT.idiv M_378 rfl (by decide) rfl ?_
    refine LT.iconst M_378 rfl (v := 3) (by decide) ?_
    refine LT.imul M_378 rfl rfl ?_
    obtain ⟨w, hw⟩ : ∃ w, cv >>> (Int32.ofNat I / 22 * 3 &&& 31) = w := ⟨_, rfl⟩
    refine LT.ishr M_378 rfl hw ?_
    refine LT.ist5 M_378 rfl rfl ?_
    refine LT.aload_n M_378 rfl rfl ?_
    refine LT.iload M_378 rfl rfl ?_
    refine LT.cs2g M_378 rfl M_324 rfl (Nat.le_of_ble_eq_true rfl) rfl rfl (c_324 hL (by omega) w) (fun o Y hP => ?_) (Nat.le_of_ble_eq_true rfl) rfl
    obtain ⟨v, ho, hcase⟩ := hP
    rw [ho]
    refine ⟨_, rfl, ?_⟩
    refine LT.ist6 M_378 rfl rfl ?_
    rcases hcase with hJ | ⟨hb0, hv9, s, hs, hs4, hJ⟩
    · refine LT.iload M_378 rfl rfl ?_
      refine LT.bipush M_378 rfl (v := -99) (by decide) ?_
      refine LT.icmp_eq M_378 rfl (fun b => ?_) (fun b => ?_)
      · refine LT.iconst M_378 rfl (v := 0) (by decide) ?_
        refine LT.ist7 M_378 rfl rfl ?_
        refine l_64 hp1 hp2 hW hJ (fun x hx => hJ.wok hB hx (Or.inl rfl)) (fun W2 led2 l8 l9 l10 l11 a1 a2 a3 a4 a5 => ?_)
        obtain ⟨q1, q2⟩ := a4.now a5
        refine LT.iinc4 M_378 rfl rfl (i32_suc1 I) ?_
        refine LT.goto M_378 rfl ?_
        exact l_32 h260 n (I + 1) Y W2 _ _ led2 _ _ _ _ _ _ _ (by omega) a1 a2 a3 q2 (by rw [show I + 1 + 4 = I + 4 + 1 by omega]; exact q1)
      · refine LT.iload M_378 rfl rfl ?_
        refine LT.bipush M_378 rfl (v := 16) (by decide) ?_
        refine LT.cs2i M_378 rfl M_322 rfl (Nat.le_of_ble_eq_true rfl) rfl rfl (c_322 _ (n := 16) (by decide) (by decide)) ?_ (Nat.le_of_ble_eq_true rfl) rfl
        refine LT.if_ne M_378 rfl (fun b => ?_) (fun b => ?_)
        · refine LT.iconst M_378 rfl (v := 0) (by decide) ?_
          refine LT.ist7 M_378 rfl rfl ?_
          refine l_64 hp1 hp2 hW hJ (fun x hx => hJ.wok hB hx (Or.inl rfl)) (fun W2 led2 l8 l9 l10 l11 a1 a2 a3 a4 a5 => ?_)
          obtain ⟨q1, q2⟩ := a4.now a5
          refine LT.iinc4 M_378 rfl rfl (i32_suc1 I) ?_
          refine LT.goto M_378 rfl ?_
          exact l_32 h260 n (I + 1) Y W2 _ _ led2 _ _ _ _ _ _ _ (by omega) a1 a2 a3 q2 (by rw [show I + 1 + 4 = I + 4 + 1 by omega]; exact q1)
        · refine LT.iconst M_378 rfl (v := 1) (by decide) ?_
          refine LT.goto M_378 rfl ?_
          refine LT.ist7 M_378 rfl rfl ?_
          refine l_64 hp1 hp2 hW hJ (fun x hx => hJ.wok hB hx (Or.inl rfl)) (fun W2 led2 l8 l9 l10 l11 a1 a2 a3 a4 a5 => ?_)
          obtain ⟨q1, q2⟩ := a4.now a5
          refine LT.iinc4 M_378 rfl rfl (i32_suc1 I) ?_
          refine LT.goto M_378 rfl ?_
          exact l_32 h260 n (I + 1) Y W2 _ _ led2 _ _ _ _ _ _ _ (by omega) a1 a2 a3 q2 (by rw [show I + 1 + 4 = I + 4 + 1 by omega]; exact q1)
    · refine LT.iload M_378 rfl rfl ?_
      refine LT.bipush M_378 rfl (v := -99) (by decide) ?_
      refine LT.icmp_eq M_378 rfl (fun b => absurd b hv9) (fun b => ?_)
      refine LT.iload M_378 rfl rfl ?_
      refine LT.bipush M_378 rfl (v := 16) (by decide) ?_
      refine LT.cs2i M_378 rfl M_322 rfl (Nat.le_of_ble_eq_true rfl) rfl rfl (c_322 _ (n := 16) (by decide) (by decide)) ?_ (Nat.le_of_ble_eq_true rfl) rfl
      refine LT.if_ne M_378 rfl (fun b => absurd (by rw [hb0]; rfl) b) (fun b => ?_)
      refine LT.iconst M_378 rfl (v := 1) (by decide) ?_
      refine LT.goto M_378 rfl ?_
      refine LT.ist7 M_378 rfl rfl ?_
      refine l_64 hp1 hp2 hW hJ (fun x hx => hJ.wok hB hx (if e : x = s then Or.inr ⟨(by decide), (by rw [e]; exact hs4)⟩ else Or.inl (if_neg e))) (fun W2 led2 l8 l9 l10 l11 a1 a2 a3 a4 a5 => ?_)
      obtain ⟨q1, q2⟩ := a4.now a5
      refine LT.iinc4 M_378 rfl rfl (i32_suc1 I) ?_
      refine LT.goto M_378 rfl ?_
      exact l_32 h260 n (I + 1) Y W2 _ _ led2 _ _ _ _ _ _ _ (by omega) a1 a2 a3 q2 (by rw [show I + 1 + 4 = I + 4 + 1 by omega]; exact q1)
end LOOP
