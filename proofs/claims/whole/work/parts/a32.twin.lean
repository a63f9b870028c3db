/-! ===== THE TWIN: tests ===== -/
theorem c_232 {X : XS} : RT 232 [some (.ref 388)] X (some (.int (xT X))) X := by
  refine AT.aload_n M_232 rfl rfl ?_
  refine AT.r11_2 M_232 rfl ?_
  refine AT.iret M_232 rfl rfl ?_
  exact ⟨rfl, rfl⟩
theorem c_233 {X : XS} {x : Int32} : RT 233 [some (.ref 388), some (.int x)] X (some (.int 0)) (xSetT X x) := by
  refine AT.aload_n M_233 rfl rfl ?_
  refine AT.iload_n M_233 rfl rfl ?_
  refine AT.w11_2 M_233 rfl ?_
  refine AT.iconst M_233 rfl (v := 0) (by decide) ?_
  refine AT.iret M_233 rfl rfl ?_
  exact ⟨rfl, rfl⟩
theorem c_234 {X : XS} {n : Nat} (hn : n < 7) : RT 234 [some (.int (Int32.ofNat n))] X (some (.int 1)) X := by
  refine AT.iload_n M_234 rfl rfl ?_
  refine AT.if_lt M_234 rfl (fun b1 => absurd b1 (i32_pos (by omega))) (fun b1 => ?_)
  refine AT.iload_n M_234 rfl rfl ?_
  refine AT.bipush M_234 rfl (v := 7) (by decide) ?_
  refine AT.icmp_ge M_234 rfl (fun b4 => absurd ((i32_le (a := 7) (b := n) (by omega) (by omega)).mp b4) (by omega)) (fun b4 => ?_)
  refine AT.iconst M_234 rfl (v := 1) (by decide) ?_
  refine AT.goto M_234 rfl ?_
  refine AT.zret M_234 rfl rfl (by first | exact Or.inl rfl | exact Or.inr rfl | assumption) ?_
  exact ⟨rfl, rfl⟩
theorem c_234x {X : XS} {x : Int32} (h : x < 0 ∨ ¬ x < 7) : RT 234 [some (.int x)] X (some (.int 0)) X := by
  refine AT.iload_n M_234 rfl rfl ?_
  refine AT.if_lt M_234 rfl (fun b1 => ?_) (fun b1 => ?_)
  · refine AT.iconst M_234 rfl (v := 0) (by decide) ?_
    refine AT.zret M_234 rfl rfl (by first | exact Or.inl rfl | exact Or.inr rfl | assumption) ?_
    exact ⟨rfl, rfl⟩
  · refine AT.iload_n M_234 rfl rfl ?_
    refine AT.bipush M_234 rfl (v := 7) (by decide) ?_
    refine AT.icmp_ge M_234 rfl (fun b4 => ?_) (fun b4 => ?_)
    · refine AT.iconst M_234 rfl (v := 0) (by decide) ?_
      refine AT.zret M_234 rfl rfl (by first | exact Or.inl rfl | exact Or.inr rfl | assumption) ?_
      exact ⟨rfl, rfl⟩
    · refine AT.iconst M_234 rfl (v := 1) (by decide) ?_
      refine AT.goto M_234 rfl ?_
      refine AT.zret M_234 rfl rfl (by first | exact Or.inl rfl | exact Or.inr rfl | assumption) ?_
      exact absurd h (fun z => by rcases z with z | z; exact b1 z; exact b4 (Int32.not_lt.mp z))
theorem c_235 {X : XS} {n : Nat} (hn : n < 4) : RT 235 [some (.int (Int32.ofNat n))] X (some (.int 1)) X := by
  refine AT.iload_n M_235 rfl rfl ?_
  refine AT.if_lt M_235 rfl (fun b1 => absurd b1 (i32_pos (by omega))) (fun b1 => ?_)
  refine AT.iload_n M_235 rfl rfl ?_
  refine AT.iconst M_235 rfl (v := 4) (by decide) ?_
  refine AT.icmp_ge M_235 rfl (fun b4 => absurd ((i32_le (a := 4) (b := n) (by omega) (by omega)).mp b4) (by omega)) (fun b4 => ?_)
  refine AT.iconst M_235 rfl (v := 1) (by decide) ?_
  refine AT.goto M_235 rfl ?_
  refine AT.zret M_235 rfl rfl (by first | exact Or.inl rfl | exact Or.inr rfl | assumption) ?_
  exact ⟨rfl, rfl⟩
theorem c_235x {X : XS} {x : Int32} (h : x < 0 ∨ ¬ x < 4) : RT 235 [some (.int x)] X (some (.int 0)) X := by
  refine AT.iload_n M_235 rfl rfl ?_
  refine AT.if_lt M_235 rfl (fun b1 => ?_) (fun b1 => ?_)
  · refine AT.iconst M_235 rfl (v := 0) (by decide) ?_
    refine AT.zret M_235 rfl rfl (by first | exact Or.inl rfl | exact Or.inr rfl | assumption) ?_
    exact ⟨rfl, rfl⟩
  · refine AT.iload_n M_235 rfl rfl ?_
    refine AT.iconst M_235 rfl (v := 4) (by decide) ?_
    refine AT.icmp_ge M_235 rfl (fun b4 => ?_) (fun b4 => ?_)
    · refine AT.iconst M_235 rfl (v := 0) (by decide) ?_
      refine AT.zret M_235 rfl rfl (by first | exact Or.inl rfl | exact Or.inr rfl | assumption) ?_
      exact ⟨rfl, rfl⟩
    · refine AT.iconst M_235 rfl (v := 1) (by decide) ?_
      refine AT.goto M_235 rfl ?_
      refine AT.zret M_235 rfl rfl (by first | exact Or.inl rfl | exact Or.inr rfl | assumption) ?_
      exact absurd h (fun z => by rcases z with z | z; exact b1 z; exact b4 (Int32.not_lt.mp z))
theorem c_236 {X : XS} {n : Nat} (hn : n < 8) : RT 236 [some (.int (Int32.ofNat n))] X (some (.int 1)) X := by
  refine AT.iload_n M_236 rfl rfl ?_
  refine AT.if_lt M_236 rfl (fun b1 => absurd b1 (i32_pos (by omega))) (fun b1 => ?_)
  refine AT.iload_n M_236 rfl rfl ?_
  refine AT.bipush M_236 rfl (v := 8) (by decide) ?_
  refine AT.icmp_ge M_236 rfl (fun b4 => absurd ((i32_le (a := 8) (b := n) (by omega) (by omega)).mp b4) (by omega)) (fun b4 => ?_)
  refine AT.iconst M_236 rfl (v := 1) (by decide) ?_
  refine AT.goto M_236 rfl ?_
  refine AT.zret M_236 rfl rfl (by first | exact Or.inl rfl | exact Or.inr rfl | assumption) ?_
  exact ⟨rfl, rfl⟩
theorem c_236x {X : XS} {x : Int32} (h : x < 0 ∨ ¬ x < 8) : RT 236 [some (.int x)] X (some (.int 0)) X := by
  refine AT.iload_n M_236 rfl rfl ?_
  refine AT.if_lt M_236 rfl (fun b1 => ?_) (fun b1 => ?_)
  · refine AT.iconst M_236 rfl (v := 0) (by decide) ?_
    refine AT.zret M_236 rfl rfl (by first | exact Or.inl rfl | exact Or.inr rfl | assumption) ?_
    exact ⟨rfl, rfl⟩
  · refine AT.iload_n M_236 rfl rfl ?_
    refine AT.bipush M_236 rfl (v := 8) (by decide) ?_
    refine AT.icmp_ge M_236 rfl (fun b4 => ?_) (fun b4 => ?_)
    · refine AT.iconst M_236 rfl (v := 0) (by decide) ?_
      refine AT.zret M_236 rfl rfl (by first | exact Or.inl rfl | exact Or.inr rfl | assumption) ?_
      exact ⟨rfl, rfl⟩
    · refine AT.iconst M_236 rfl (v := 1) (by decide) ?_
      refine AT.goto M_236 rfl ?_
      refine AT.zret M_236 rfl rfl (by first | exact Or.inl rfl | exact Or.inr rfl | assumption) ?_
      exact absurd h (fun z => by rcases z with z | z; exact b1 z; exact b4 (Int32.not_lt.mp z))
theorem c_237 {X : XS} {x : Int32} : RT 237 [some (.int x)] X (some (.int (bI (decide (-9999 ≤ x ∧ x ≤ 9999))))) X := by
  refine AT.iload_n M_237 rfl rfl ?_
  refine AT.sipush M_237 rfl (v := (-9999)) (by decide) ?_
  refine AT.icmp_lt M_237 rfl (fun b2 => ?_) (fun b2 => ?_)
  · refine AT.iconst M_237 rfl (v := 0) (by decide) ?_
    refine AT.zret M_237 rfl rfl (by first | exact Or.inl rfl | exact Or.inr rfl | assumption) ?_
    rw [show bI (decide (-9999 ≤ x ∧ x ≤ 9999)) = 0 from by rw [decide_eq_false (fun z => absurd b2 (Int32.not_lt.mpr z.1))]; rfl]
    exact ⟨rfl, rfl⟩
  · refine AT.iload_n M_237 rfl rfl ?_
    refine AT.sipush M_237 rfl (v := 9999) (by decide) ?_
    refine AT.icmp_gt M_237 rfl (fun b5 => ?_) (fun b5 => ?_)
    · refine AT.iconst M_237 rfl (v := 0) (by decide) ?_
      refine AT.zret M_237 rfl rfl (by first | exact Or.inl rfl | exact Or.inr rfl | assumption) ?_
      rw [show bI (decide (-9999 ≤ x ∧ x ≤ 9999)) = 0 from by rw [decide_eq_false (fun z => absurd b5 (Int32.not_lt.mpr z.2))]; rfl]
      exact ⟨rfl, rfl⟩
    · refine AT.iconst M_237 rfl (v := 1) (by decide) ?_
      refine AT.goto M_237 rfl ?_
      refine AT.zret M_237 rfl rfl (by first | exact Or.inl rfl | exact Or.inr rfl | assumption) ?_
      rw [show bI (decide (-9999 ≤ x ∧ x ≤ 9999)) = 1 from by rw [decide_eq_true ⟨Int32.not_lt.mp b2, Int32.not_lt.mp b5⟩]; rfl]
      exact ⟨rfl, rfl⟩
theorem c_238 {X : XS} {x : Int32} : RT 238 [some (.ref 388), some (.int x)] X (some (.int (bI (decide (0 ≤ x ∧ x < Int32.ofNat (xK X 2).2.2.length))))) X := by
  refine AT.iload_n M_238 rfl rfl ?_
  refine AT.if_lt M_238 rfl (fun b1 => ?_) (fun b1 => ?_)
  · refine AT.iconst M_238 rfl (v := 0) (by decide) ?_
    refine AT.zret M_238 rfl rfl (by first | exact Or.inl rfl | exact Or.inr rfl | assumption) ?_
    rw [show bI (decide (0 ≤ x ∧ x < Int32.ofNat (xK X 2).2.2.length)) = 0 from by rw [decide_eq_false (fun z => absurd b1 (Int32.not_lt.mpr z.1))]; rfl]
    exact ⟨rfl, rfl⟩
  · refine AT.iload_n M_238 rfl rfl ?_
    refine AT.aload_n M_238 rfl rfl ?_
    refine AT.r11_0 M_238 rfl ?_
    refine AT.r10_22 M_238 rfl (show 2 ≤ 2 by omega) (show 2 < 4 by omega) ?_
    refine AT.icmp_ge M_238 rfl (fun b6 => ?_) (fun b6 => ?_)
    · refine AT.iconst M_238 rfl (v := 0) (by decide) ?_
      refine AT.zret M_238 rfl rfl (by first | exact Or.inl rfl | exact Or.inr rfl | assumption) ?_
      rw [show bI (decide (0 ≤ x ∧ x < Int32.ofNat (xK X 2).2.2.length)) = 0 from by rw [decide_eq_false (fun z => absurd z.2 (Int32.not_lt.mpr b6))]; rfl]
      exact ⟨rfl, rfl⟩
    · refine AT.iconst M_238 rfl (v := 1) (by decide) ?_
      refine AT.goto M_238 rfl ?_
      refine AT.zret M_238 rfl rfl (by first | exact Or.inl rfl | exact Or.inr rfl | assumption) ?_
      rw [show bI (decide (0 ≤ x ∧ x < Int32.ofNat (xK X 2).2.2.length)) = 1 from by rw [decide_eq_true ⟨Int32.not_lt.mp b1, Int32.not_le.mp b6⟩]; rfl]
      exact ⟨rfl, rfl⟩
theorem c_241 {X : XS} {s : Nat} (hs : s < 7) : RT 241 [some (.ref 388), some (.int (Int32.ofNat s))] X (some (.int (bI (decide ((xK X 2).1 12 s 0 = 3))))) X := by
  refine AT.aload_n M_241 rfl rfl ?_
  refine AT.r11_0 M_241 rfl ?_
  refine AT.r10_5 M_241 rfl (show 2 ≤ 2 by omega) (show 2 < 4 by omega) ?_
  refine AT.iload_n M_241 rfl rfl ?_
  refine AT.ra_12 M_241 rfl rfl (show 2 ≤ 2 by omega) (show 2 < 4 by omega) (by assumption) ?_
  refine AT.iconst M_241 rfl (v := 3) (by decide) ?_
  refine AT.icmp_ne M_241 rfl (fun b6 => ?_) (fun b6 => ?_)
  · refine AT.iconst M_241 rfl (v := 0) (by decide) ?_
    refine AT.zret M_241 rfl rfl (by first | exact Or.inl rfl | exact Or.inr rfl | assumption) ?_
    rw [show bI (decide ((xK X 2).1 12 s 0 = 3)) = 0 from by rw [decide_eq_false b6]; rfl]
    exact ⟨rfl, rfl⟩
  · refine AT.iconst M_241 rfl (v := 1) (by decide) ?_
    refine AT.goto M_241 rfl ?_
    refine AT.zret M_241 rfl rfl (by first | exact Or.inl rfl | exact Or.inr rfl | assumption) ?_
    rw [show bI (decide ((xK X 2).1 12 s 0 = 3)) = 1 from by rw [decide_eq_true (Classical.not_not.mp b6)]; rfl]
    exact ⟨rfl, rfl⟩
theorem l_239 {X : XS} : ∀ d q : Nat, q + d = 7 → ∀ x5 : Option Value, AT 239 11 [some (.ref 388), some (.int (sCntF (fun i => decide (¬ (xK X 2).1 4 i 0 = 0)) q)), some (.ref (bB 2 + 1)), some (.int (Int32.ofNat 7)), some (.int (Int32.ofNat q)), x5] [] X (fun o' Y => o' = .inl (some (.int (sUp (xK X 2)))) ∧ Y = X)
  | 0, q, hq, x5 => by
    refine AT.iload M_239 rfl rfl ?_
    refine AT.iload_n M_239 rfl rfl ?_
    refine AT.icmp_ge M_239 rfl (fun b13 => ?_) (fun b13 => absurd (by rw [show q = 7 by omega]; exact Int32.le_refl _) b13)
    refine AT.iload_n M_239 rfl rfl ?_
    refine AT.iret M_239 rfl rfl ?_
    rw [show q = 7 by omega]
    exact ⟨rfl, rfl⟩
  | d + 1, q, hq, x5 => by
    refine AT.iload M_239 rfl rfl ?_
    refine AT.iload_n M_239 rfl rfl ?_
    refine AT.icmp_ge M_239 rfl (fun b13 => absurd ((i32_le (a := 7) (b := q) (by omega) (by omega)).mp b13) (by omega)) (fun b13 => ?_)
    refine AT.aload_n M_239 rfl rfl ?_
    refine AT.iload M_239 rfl rfl ?_
    refine AT.ra_4 M_239 rfl rfl (show 2 ≤ 2 by omega) (show 2 < 4 by omega) (by omega) ?_
    refine AT.ist5 M_239 rfl rfl ?_
    refine AT.iload_n M_239 rfl rfl ?_
    refine AT.iload M_239 rfl rfl ?_
    refine AT.if_eq M_239 rfl (fun b20 => ?_) (fun b20 => ?_)
    · refine AT.iconst M_239 rfl (v := 0) (by decide) ?_
      refine AT.iadd M_239 rfl rfl ?_
      refine AT.ist1 M_239 rfl rfl ?_
      refine AT.iinc4 M_239 rfl rfl (i32_succ _) ?_
      refine AT.goto M_239 rfl ?_
      rw [Int32.add_zero, ← sCntF_f (p := (fun i => decide (¬ (xK X 2).1 4 i 0 = 0))) (q := q) (by simp [b20])]
      exact l_239 d (q + 1) (by omega) _
    · refine AT.iconst M_239 rfl (v := 1) (by decide) ?_
      refine AT.goto M_239 rfl ?_
      refine AT.iadd M_239 rfl rfl ?_
      refine AT.ist1 M_239 rfl rfl ?_
      refine AT.iinc4 M_239 rfl rfl (i32_succ _) ?_
      refine AT.goto M_239 rfl ?_
      rw [show sCntF (fun i => decide (¬ (xK X 2).1 4 i 0 = 0)) q + 1 = sCntF (fun i => decide (¬ (xK X 2).1 4 i 0 = 0)) (q + 1) from (sCntF_t (p := (fun i => decide (¬ (xK X 2).1 4 i 0 = 0))) (q := q) (by simp [b20])).symm]
      exact l_239 d (q + 1) (by omega) _
theorem c_239 {X : XS} : RT 239 [some (.ref 388), none, none, none, none, none] X (some (.int (sUp (xK X 2)))) X := by
  refine AT.iconst M_239 rfl (v := 0) (by decide) ?_
  refine AT.ist1 M_239 rfl rfl ?_
  refine AT.aload_n M_239 rfl rfl ?_
  refine AT.r11_0 M_239 rfl ?_
  refine AT.r10_2 M_239 rfl (show 2 ≤ 2 by omega) (show 2 < 4 by omega) ?_
  refine AT.ast2 M_239 rfl rfl ?_
  refine AT.aload_n M_239 rfl rfl ?_
  refine AT.aln M_239 rfl (shr (o := 2) (a := bB 2 + 1) (kd := 13) (ln := 7) (by omega) (by omega) (Or.inr (Or.inl ⟨rfl, rfl, rfl⟩))) (by omega) ?_
  refine AT.ist3 M_239 rfl rfl ?_
  refine AT.iconst M_239 rfl (v := 0) (by decide) ?_
  refine AT.ist4 M_239 rfl rfl ?_
  exact l_239 7 0 rfl _
theorem l_240 {X : XS} (h7 : ∀ i, i < 7 → ∃ n : Nat, n < 128 ∧ (xK X 2).1 30 i 0 = Int32.ofNat n) : ∀ d q : Nat, q + d = 7 → ∀ x5 : Option Value, AT 240 11 [some (.ref 388), some (.int (sSum (fun i => sCnt ((xK X 2).1 30 i 0)) q)), some (.ref (bB 2 + 11)), some (.int (Int32.ofNat 7)), some (.int (Int32.ofNat q)), x5] [] X (fun o' Y => o' = .inl (some (.int (sSum (fun i => sCnt ((xK X 2).1 30 i 0)) 7 / 2))) ∧ Y = X)
  | 0, q, hq, x5 => by
    refine AT.iload M_240 rfl rfl ?_
    refine AT.iload_n M_240 rfl rfl ?_
    refine AT.icmp_ge M_240 rfl (fun b13 => ?_) (fun b13 => absurd (by rw [show q = 7 by omega]; exact Int32.le_refl _) b13)
    refine AT.iload_n M_240 rfl rfl ?_
    refine AT.iconst M_240 rfl (v := 2) (by decide) ?_
    refine AT.idiv M_240 rfl (by decide) rfl ?_
    refine AT.iret M_240 rfl rfl ?_
    rw [show q = 7 by omega]
    exact ⟨rfl, rfl⟩
  | d + 1, q, hq, x5 => by
    refine AT.iload M_240 rfl rfl ?_
    refine AT.iload_n M_240 rfl rfl ?_
    refine AT.icmp_ge M_240 rfl (fun b13 => absurd ((i32_le (a := 7) (b := q) (by omega) (by omega)).mp b13) (by omega)) (fun b13 => ?_)
    refine AT.aload_n M_240 rfl rfl ?_
    refine AT.iload M_240 rfl rfl ?_
    refine AT.ra_30 M_240 rfl rfl (show 2 ≤ 2 by omega) (show 2 < 4 by omega) (by omega) ?_
    refine AT.ist5 M_240 rfl rfl ?_
    refine AT.iload_n M_240 rfl rfl ?_
    refine AT.iload M_240 rfl rfl ?_
    refine AT.cs1i M_240 rfl M_197 rfl (Nat.le_of_ble_eq_true rfl) rfl (c_197x (h7 q (by omega))) ?_ (Nat.le_of_ble_eq_true rfl) rfl
    refine AT.iadd M_240 rfl rfl ?_
    refine AT.ist1 M_240 rfl rfl ?_
    refine AT.iinc4 M_240 rfl rfl (i32_succ _) ?_
    refine AT.goto M_240 rfl ?_
    exact l_240 h7 d (q + 1) (by omega) _
theorem c_240 {X : XS} (h7 : ∀ i, i < 7 → ∃ n : Nat, n < 128 ∧ (xK X 2).1 30 i 0 = Int32.ofNat n) : RT 240 [some (.ref 388), none, none, none, none, none] X (some (.int (sSum (fun i => sCnt ((xK X 2).1 30 i 0)) 7 / 2))) X := by
  refine AT.iconst M_240 rfl (v := 0) (by decide) ?_
  refine AT.ist1 M_240 rfl rfl ?_
  refine AT.aload_n M_240 rfl rfl ?_
  refine AT.r11_0 M_240 rfl ?_
  refine AT.r10_12 M_240 rfl (show 2 ≤ 2 by omega) (show 2 < 4 by omega) ?_
  refine AT.ast2 M_240 rfl rfl ?_
  refine AT.aload_n M_240 rfl rfl ?_
  refine AT.aln M_240 rfl (sh_i7 (o := 2) (c := 11) (by omega) (by omega) (by omega) (by omega)) (by omega) ?_
  refine AT.ist3 M_240 rfl rfl ?_
  refine AT.iconst M_240 rfl (v := 0) (by decide) ?_
  refine AT.ist4 M_240 rfl rfl ?_
  exact l_240 h7 7 0 rfl _
