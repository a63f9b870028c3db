/-! ===== THE TWIN: asks about all ===== -/
theorem c_303 {X : XS} : RT 303 [some (.ref 388)] X (some (.int (sLdr (xK X 2)))) (xSetT X 0) := by
  refine AT.aload_n M_303 rfl rfl ?_
  refine AT.iconst M_303 rfl (v := 0) (by decide) ?_
  refine AT.w11_2 M_303 rfl ?_
  refine AT.aload_n M_303 rfl rfl ?_
  refine AT.r11_0 M_303 rfl ?_
  refine AT.cv1i M_303 rfl M_222 rfl (Nat.le_of_ble_eq_true rfl) (xKd.of (sh_st (o := 2) (by omega) (by omega))) (by decide) (c_222 (X := (xSetT X 0)) (o := 2) (by omega) (by omega)) ?_ (Nat.le_of_ble_eq_true rfl) rfl
  refine AT.iret M_303 rfl rfl ?_
  exact ⟨rfl, rfl⟩
theorem c_306 {X : XS} : RT 306 [some (.ref 388)] X (some (.int (sFurF (xK X 2) 7))) (xSetT X 0) := by
  refine AT.aload_n M_306 rfl rfl ?_
  refine AT.iconst M_306 rfl (v := 0) (by decide) ?_
  refine AT.w11_2 M_306 rfl ?_
  refine AT.aload_n M_306 rfl rfl ?_
  refine AT.r11_0 M_306 rfl ?_
  refine AT.cv1i M_306 rfl M_230 rfl (Nat.le_of_ble_eq_true rfl) (xKd.of (sh_st (o := 2) (by omega) (by omega))) (by decide) (c_230 (X := (xSetT X 0)) (o := 2) (by omega) (by omega)) ?_ (Nat.le_of_ble_eq_true rfl) rfl
  refine AT.iret M_306 rfl rfl ?_
  exact ⟨rfl, rfl⟩
theorem l_304 {X : XS} : ∀ d q : Nat, q + d = 7 → ∀ x5 : Option Value, AT 304 11 [some (.ref 388), some (.int (sCntF (fun i => decide ((xK X 2).1 12 i 0 = 3)) q)), some (.ref (bB 2 + 4)), some (.int (Int32.ofNat 7)), some (.int (Int32.ofNat q)), x5] [] X (fun o' Y => o' = .inl (some (.int (sCntF (fun i => decide ((xK X 2).1 12 i 0 = 3)) 7))) ∧ Y = X)
  | 0, q, hq, x5 => by
    refine AT.iload M_304 rfl rfl ?_
    refine AT.iload_n M_304 rfl rfl ?_
    refine AT.icmp_ge M_304 rfl (fun b13 => ?_) (fun b13 => absurd (by rw [show q = 7 by omega]; exact Int32.le_refl _) b13)
    refine AT.iload_n M_304 rfl rfl ?_
    refine AT.iret M_304 rfl rfl ?_
    rw [show q = 7 by omega]
    exact ⟨rfl, rfl⟩
  | d + 1, q, hq, x5 => by
    refine AT.iload M_304 rfl rfl ?_
    refine AT.iload_n M_304 rfl rfl ?_
    refine AT.icmp_ge M_304 rfl (fun b13 => absurd ((i32_le (a := 7) (b := q) (by omega) (by omega)).mp b13) (by omega)) (fun b13 => ?_)
    refine AT.aload_n M_304 rfl rfl ?_
    refine AT.iload M_304 rfl rfl ?_
    refine AT.ra_12 M_304 rfl rfl (show 2 ≤ 2 by omega) (show 2 < 4 by omega) (by omega) ?_
    refine AT.ist5 M_304 rfl rfl ?_
    refine AT.iload_n M_304 rfl rfl ?_
    refine AT.iload M_304 rfl rfl ?_
    refine AT.iconst M_304 rfl (v := 3) (by decide) ?_
    refine AT.icmp_ne M_304 rfl (fun b21 => ?_) (fun b21 => ?_)
    · refine AT.iconst M_304 rfl (v := 0) (by decide) ?_
      refine AT.iadd M_304 rfl rfl ?_
      refine AT.ist1 M_304 rfl rfl ?_
      refine AT.iinc4 M_304 rfl rfl (i32_succ _) ?_
      refine AT.goto M_304 rfl ?_
      rw [Int32.add_zero, ← sCntF_f (p := (fun i => decide ((xK X 2).1 12 i 0 = 3))) (q := q) (by simp [b21])]
      exact l_304 d (q + 1) (by omega) _
    · refine AT.iconst M_304 rfl (v := 1) (by decide) ?_
      refine AT.goto M_304 rfl ?_
      refine AT.iadd M_304 rfl rfl ?_
      refine AT.ist1 M_304 rfl rfl ?_
      refine AT.iinc4 M_304 rfl rfl (i32_succ _) ?_
      refine AT.goto M_304 rfl ?_
      rw [show sCntF (fun i => decide ((xK X 2).1 12 i 0 = 3)) q + 1 = sCntF (fun i => decide ((xK X 2).1 12 i 0 = 3)) (q + 1) from (sCntF_t (p := (fun i => decide ((xK X 2).1 12 i 0 = 3))) (q := q) (by simp [Classical.not_not.mp b21])).symm]
      exact l_304 d (q + 1) (by omega) _
theorem c_304 {X : XS} : RT 304 [some (.ref 388), none, none, none, none, none] X (some (.int (sCntF (fun i => decide ((xK X 2).1 12 i 0 = 3)) 7))) X := by
  refine AT.iconst M_304 rfl (v := 0) (by decide) ?_
  refine AT.ist1 M_304 rfl rfl ?_
  refine AT.aload_n M_304 rfl rfl ?_
  refine AT.r11_0 M_304 rfl ?_
  refine AT.r10_5 M_304 rfl (show 2 ≤ 2 by omega) (show 2 < 4 by omega) ?_
  refine AT.ast2 M_304 rfl rfl ?_
  refine AT.aload_n M_304 rfl rfl ?_
  refine AT.aln M_304 rfl (sh_i7 (o := 2) (c := 4) (by omega) (by omega) (by omega) (by omega)) (by omega) ?_
  refine AT.ist3 M_304 rfl rfl ?_
  refine AT.iconst M_304 rfl (v := 0) (by decide) ?_
  refine AT.ist4 M_304 rfl rfl ?_
  exact l_304 7 0 rfl _
theorem c_305 {X : XS} : RT 305 [some (.ref 388)] X (some (.int (sCntF (fun i => decide ((xK X 2).1 12 i 0 = 3)) 7))) (xSetT X 0) := by
  refine AT.aload_n M_305 rfl rfl ?_
  refine AT.iconst M_305 rfl (v := 0) (by decide) ?_
  refine AT.w11_2 M_305 rfl ?_
  refine AT.aload_n M_305 rfl rfl ?_
  refine AT.cv1i M_305 rfl M_304 rfl (Nat.le_of_ble_eq_true rfl) (xKd.of sh_mod) (by decide) (c_304 (X := (xSetT X 0))) ?_ (Nat.le_of_ble_eq_true rfl) rfl
  refine AT.iret M_305 rfl rfl ?_
  exact ⟨rfl, rfl⟩
theorem c_307x1 {X : XS} {p q : Int32} (hp : p < 0 ∨ ¬ p < 7) : RT 307 [some (.ref 388), some (.int p), some (.int q)] X (some (.int 0)) (xSetT X 1) := by
  refine AT.aload_n M_307 rfl rfl ?_
  refine AT.iconst M_307 rfl (v := 0) (by decide) ?_
  refine AT.w11_2 M_307 rfl ?_
  refine AT.iload_n M_307 rfl rfl ?_
  refine AT.cs1i M_307 rfl M_234 rfl (Nat.le_of_ble_eq_true rfl) rfl (c_234x hp) ?_ (Nat.le_of_ble_eq_true rfl) rfl
  refine AT.if_eq M_307 rfl (fun b5 => ?_) (fun b5 => absurd rfl b5)
  refine AT.aload_n M_307 rfl rfl ?_
  refine AT.iconst M_307 rfl (v := 1) (by decide) ?_
  refine AT.cv2i M_307 rfl M_233 rfl (Nat.le_of_ble_eq_true rfl) (xKd.of sh_mod) (by decide) c_233 ?_ (Nat.le_of_ble_eq_true rfl) rfl
  refine AT.iret M_307 rfl rfl ?_
  exact ⟨rfl, rfl⟩
theorem c_307x2 {X : XS} {s : Nat} (hs : s < 7) {q : Int32} (hp : q < 0 ∨ ¬ q < 7) : RT 307 [some (.ref 388), some (.int (Int32.ofNat s)), some (.int q)] X (some (.int 0)) (xSetT X 1) := by
  refine AT.aload_n M_307 rfl rfl ?_
  refine AT.iconst M_307 rfl (v := 0) (by decide) ?_
  refine AT.w11_2 M_307 rfl ?_
  refine AT.iload_n M_307 rfl rfl ?_
  refine AT.cs1i M_307 rfl M_234 rfl (Nat.le_of_ble_eq_true rfl) rfl (c_234 hs) ?_ (Nat.le_of_ble_eq_true rfl) rfl
  refine AT.if_eq M_307 rfl (fun b5 => absurd b5 (by decide)) (fun b5 => ?_)
  refine AT.iload_n M_307 rfl rfl ?_
  refine AT.cs1i M_307 rfl M_234 rfl (Nat.le_of_ble_eq_true rfl) rfl (c_234x hp) ?_ (Nat.le_of_ble_eq_true rfl) rfl
  refine AT.if_eq M_307 rfl (fun b8 => ?_) (fun b8 => absurd rfl b8)
  refine AT.aload_n M_307 rfl rfl ?_
  refine AT.iconst M_307 rfl (v := 1) (by decide) ?_
  refine AT.cv2i M_307 rfl M_233 rfl (Nat.le_of_ble_eq_true rfl) (xKd.of sh_mod) (by decide) c_233 ?_ (Nat.le_of_ble_eq_true rfl) rfl
  refine AT.iret M_307 rfl rfl ?_
  exact ⟨rfl, rfl⟩
theorem c_307 {X : XS} {s : Nat} (hs : s < 7) {j : Nat} (hj : j < 7) (hk : sOk (xK X 2) s) (hk2 : sOk (xK X 2) j) : RT 307 [some (.ref 388), some (.int (Int32.ofNat s)), some (.int (Int32.ofNat j))] X (some (.int (sAgr (xK X 2) s j))) (xSetT X 0) := by
  refine AT.aload_n M_307 rfl rfl ?_
  refine AT.iconst M_307 rfl (v := 0) (by decide) ?_
  refine AT.w11_2 M_307 rfl ?_
  refine AT.iload_n M_307 rfl rfl ?_
  refine AT.cs1i M_307 rfl M_234 rfl (Nat.le_of_ble_eq_true rfl) rfl (c_234 hs) ?_ (Nat.le_of_ble_eq_true rfl) rfl
  refine AT.if_eq M_307 rfl (fun b5 => absurd b5 (by decide)) (fun b5 => ?_)
  refine AT.iload_n M_307 rfl rfl ?_
  refine AT.cs1i M_307 rfl M_234 rfl (Nat.le_of_ble_eq_true rfl) rfl (c_234 hj) ?_ (Nat.le_of_ble_eq_true rfl) rfl
  refine AT.if_eq M_307 rfl (fun b8 => absurd b8 (by decide)) (fun b8 => ?_)
  refine AT.aload_n M_307 rfl rfl ?_
  refine AT.r11_0 M_307 rfl ?_
  refine AT.iload_n M_307 rfl rfl ?_
  refine AT.iload_n M_307 rfl rfl ?_
  refine AT.cv3i M_307 rfl M_227 rfl (Nat.le_of_ble_eq_true rfl) (xKd.of (sh_st (o := 2) (by omega) (by omega))) (by decide) (c_227 (X := (xSetT X 0)) (o := 2) (by omega) (by omega) hs hj hk hk2) ?_ (Nat.le_of_ble_eq_true rfl) rfl
  refine AT.goto M_307 rfl ?_
  refine AT.iret M_307 rfl rfl ?_
  exact ⟨rfl, rfl⟩
theorem c_308x1 {X : XS} {p x : Int32} (hp : p < 0 ∨ ¬ p < 7) : RT 308 [some (.ref 388), some (.int p), some (.int x)] X (some (.int 0)) (xSetT X 1) := by
  refine AT.aload_n M_308 rfl rfl ?_
  refine AT.iconst M_308 rfl (v := 0) (by decide) ?_
  refine AT.w11_2 M_308 rfl ?_
  refine AT.iload_n M_308 rfl rfl ?_
  refine AT.cs1i M_308 rfl M_234 rfl (Nat.le_of_ble_eq_true rfl) rfl (c_234x hp) ?_ (Nat.le_of_ble_eq_true rfl) rfl
  refine AT.if_eq M_308 rfl (fun b5 => ?_) (fun b5 => absurd rfl b5)
  refine AT.aload_n M_308 rfl rfl ?_
  refine AT.iconst M_308 rfl (v := 1) (by decide) ?_
  refine AT.cv2i M_308 rfl M_233 rfl (Nat.le_of_ble_eq_true rfl) (xKd.of sh_mod) (by decide) c_233 ?_ (Nat.le_of_ble_eq_true rfl) rfl
  refine AT.iret M_308 rfl rfl ?_
  exact ⟨rfl, rfl⟩
theorem c_308x2 {X : XS} {s : Nat} (hs : s < 7) {x : Int32} (hno : sHasE (xK X 2) s x = false) : RT 308 [some (.ref 388), some (.int (Int32.ofNat s)), some (.int x)] X (some (.int 0)) (xSetT X 1) := by
  refine AT.aload_n M_308 rfl rfl ?_
  refine AT.iconst M_308 rfl (v := 0) (by decide) ?_
  refine AT.w11_2 M_308 rfl ?_
  refine AT.iload_n M_308 rfl rfl ?_
  refine AT.cs1i M_308 rfl M_234 rfl (Nat.le_of_ble_eq_true rfl) rfl (c_234 hs) ?_ (Nat.le_of_ble_eq_true rfl) rfl
  refine AT.if_eq M_308 rfl (fun b5 => absurd b5 (by decide)) (fun b5 => ?_)
  refine AT.aload_n M_308 rfl rfl ?_
  refine AT.r11_0 M_308 rfl ?_
  refine AT.iload_n M_308 rfl rfl ?_
  refine AT.iload_n M_308 rfl rfl ?_
  refine AT.cv3i M_308 rfl M_188 rfl (Nat.le_of_ble_eq_true rfl) (xKd.of (sh_st (o := 2) (by omega) (by omega))) (by decide) (c_188 (X := (xSetT X 0)) (o := 2) (by omega) (by omega) hs) ?_ (Nat.le_of_ble_eq_true rfl) rfl
  refine AT.if_eq M_308 rfl (fun b11 => ?_) (fun b11 => absurd (by rw [show sHasE (xK (xSetT X 0) 2) s x = false from hno]; rfl) b11)
  refine AT.aload_n M_308 rfl rfl ?_
  refine AT.iconst M_308 rfl (v := 1) (by decide) ?_
  refine AT.cv2i M_308 rfl M_233 rfl (Nat.le_of_ble_eq_true rfl) (xKd.of sh_mod) (by decide) c_233 ?_ (Nat.le_of_ble_eq_true rfl) rfl
  refine AT.iret M_308 rfl rfl ?_
  exact ⟨rfl, rfl⟩
theorem c_308 {X : XS} {s : Nat} (hs : s < 7) {x : Int32} {e : ENT} (hk : ∀ i, i < 7 → kWf (xK X 2) i) (hx : sEnt (xK X 2) s x = some e) (he : ¬ e 0 = -1) : RT 308 [some (.ref 388), some (.int (Int32.ofNat s)), some (.int x)] X (some (.int (sCntF (sCopyP (xK X 2) (sMem (xK X 2) s) x (e 0)) 7))) (xSetT X 0) := by
  refine AT.aload_n M_308 rfl rfl ?_
  refine AT.iconst M_308 rfl (v := 0) (by decide) ?_
  refine AT.w11_2 M_308 rfl ?_
  refine AT.iload_n M_308 rfl rfl ?_
  refine AT.cs1i M_308 rfl M_234 rfl (Nat.le_of_ble_eq_true rfl) rfl (c_234 hs) ?_ (Nat.le_of_ble_eq_true rfl) rfl
  refine AT.if_eq M_308 rfl (fun b5 => absurd b5 (by decide)) (fun b5 => ?_)
  refine AT.aload_n M_308 rfl rfl ?_
  refine AT.r11_0 M_308 rfl ?_
  refine AT.iload_n M_308 rfl rfl ?_
  refine AT.iload_n M_308 rfl rfl ?_
  refine AT.cv3i M_308 rfl M_188 rfl (Nat.le_of_ble_eq_true rfl) (xKd.of (sh_st (o := 2) (by omega) (by omega))) (by decide) (c_188 (X := (xSetT X 0)) (o := 2) (by omega) (by omega) hs) ?_ (Nat.le_of_ble_eq_true rfl) rfl
  refine AT.if_eq M_308 rfl (fun b11 => absurd b11 (by rw [show sHasE (xK (xSetT X 0) 2) s x = true from (sHasE_some (K := xK X 2) (hk s hs)).mpr ⟨e, hx⟩]; decide)) (fun b11 => ?_)
  refine AT.aload_n M_308 rfl rfl ?_
  refine AT.r11_0 M_308 rfl ?_
  refine AT.iload_n M_308 rfl rfl ?_
  refine AT.iload_n M_308 rfl rfl ?_
  refine AT.cv3i M_308 rfl M_228 rfl (Nat.le_of_ble_eq_true rfl) (xKd.of (sh_st (o := 2) (by omega) (by omega))) (by decide) (c_228 (X := (xSetT X 0)) (o := 2) (by omega) (by omega) hs hk hx he) ?_ (Nat.le_of_ble_eq_true rfl) rfl
  refine AT.goto M_308 rfl ?_
  refine AT.iret M_308 rfl rfl ?_
  exact ⟨rfl, rfl⟩
theorem c_309x {X : XS} {p : Int32} (hp : p < 0 ∨ ¬ p < 7) : RT 309 [some (.ref 388), some (.int p)] X (some (.int 0)) (xSetT X 1) := by
  refine AT.aload_n M_309 rfl rfl ?_
  refine AT.iconst M_309 rfl (v := 0) (by decide) ?_
  refine AT.w11_2 M_309 rfl ?_
  refine AT.iload_n M_309 rfl rfl ?_
  refine AT.cs1i M_309 rfl M_234 rfl (Nat.le_of_ble_eq_true rfl) rfl (c_234x hp) ?_ (Nat.le_of_ble_eq_true rfl) rfl
  refine AT.if_eq M_309 rfl (fun b5 => ?_) (fun b5 => absurd rfl b5)
  refine AT.aload_n M_309 rfl rfl ?_
  refine AT.iconst M_309 rfl (v := 1) (by decide) ?_
  refine AT.w11_2 M_309 rfl ?_
  refine AT.iconst M_309 rfl (v := 0) (by decide) ?_
  refine AT.zret M_309 rfl rfl (by first | exact Or.inl rfl | exact Or.inr rfl | assumption) ?_
  exact ⟨rfl, rfl⟩
theorem c_309 {X : XS} {s : Nat} (hs : s < 7) (hk : ∀ i, i < 7 → kWf (xK X 2) i) (h7 : ∃ n : Nat, n < 128 ∧ sMem (xK X 2) s = Int32.ofNat n) : RT 309 [some (.ref 388), some (.int (Int32.ofNat s))] X (some (.int (bI (sWin (xK X 2) s (sMem (xK X 2) s))))) (xSetT X 0) := by
  refine AT.aload_n M_309 rfl rfl ?_
  refine AT.iconst M_309 rfl (v := 0) (by decide) ?_
  refine AT.w11_2 M_309 rfl ?_
  refine AT.iload_n M_309 rfl rfl ?_
  refine AT.cs1i M_309 rfl M_234 rfl (Nat.le_of_ble_eq_true rfl) rfl (c_234 hs) ?_ (Nat.le_of_ble_eq_true rfl) rfl
  refine AT.if_eq M_309 rfl (fun b5 => absurd b5 (by decide)) (fun b5 => ?_)
  refine AT.aload_n M_309 rfl rfl ?_
  refine AT.r11_0 M_309 rfl ?_
  refine AT.iload_n M_309 rfl rfl ?_
  refine AT.cv2i M_309 rfl M_229 rfl (Nat.le_of_ble_eq_true rfl) (xKd.of (sh_st (o := 2) (by omega) (by omega))) (by decide) (c_229 (X := (xSetT X 0)) (o := 2) (by omega) (by omega) hs hk h7) ?_ (Nat.le_of_ble_eq_true rfl) rfl
  refine AT.zret M_309 rfl rfl (bI_01 _) ?_
  exact ⟨rfl, rfl⟩
theorem c_310x {X : XS} {p : Int32} (hp : p < 0 ∨ ¬ p < 8) : RT 310 [some (.ref 388), some (.int p), none, none, none, none] X (some (.int 0)) (xSetT X 1) := by
  refine AT.aload_n M_310 rfl rfl ?_
  refine AT.iconst M_310 rfl (v := 0) (by decide) ?_
  refine AT.w11_2 M_310 rfl ?_
  refine AT.iload_n M_310 rfl rfl ?_
  refine AT.cs1i M_310 rfl M_236 rfl (Nat.le_of_ble_eq_true rfl) rfl (c_236x hp) ?_ (Nat.le_of_ble_eq_true rfl) rfl
  refine AT.if_ne M_310 rfl (fun b5 => absurd rfl b5) (fun b5 => ?_)
  refine AT.aload_n M_310 rfl rfl ?_
  refine AT.iconst M_310 rfl (v := 1) (by decide) ?_
  refine AT.cv2i M_310 rfl M_233 rfl (Nat.le_of_ble_eq_true rfl) (xKd.of sh_mod) (by decide) c_233 ?_ (Nat.le_of_ble_eq_true rfl) rfl
  refine AT.iret M_310 rfl rfl ?_
  exact ⟨rfl, rfl⟩
theorem l_310i {X : XS} {s ky : Nat} {acc : Int32} {Q : PO → XS → Prop} (hs : s < 7) (hk8 : ky < 8) : ∀ d q : Nat, q + d = s → (AT 310 53 [some (.ref 388), some (.int (Int32.ofNat ky)), some (.int acc), some (.int (Int32.ofNat s)), some (.int (bI (decide (¬ (xK X 2).1 4 s 0 = 0) && sAllF (sFirP (xK X 2) s ky) s))), some (.int (Int32.ofNat s))] [] (xSetT X 0) Q) → AT 310 25 [some (.ref 388), some (.int (Int32.ofNat ky)), some (.int acc), some (.int (Int32.ofNat s)), some (.int (bI (decide (¬ (xK X 2).1 4 s 0 = 0) && sAllF (sFirP (xK X 2) s ky) q))), some (.int (Int32.ofNat q))] [] (xSetT X 0) Q
  | 0, q, hq, hk => by
    refine AT.iload M_310 rfl rfl ?_
    refine AT.iload_n M_310 rfl rfl ?_
    refine AT.icmp_ge M_310 rfl (fun b27 => ?_) (fun b27 => absurd (by rw [show q = s by omega]; exact Int32.le_refl _) b27)
    rw [show q = s by omega]
    exact hk
  | d + 1, q, hq, hk => by
    refine AT.iload M_310 rfl rfl ?_
    refine AT.iload_n M_310 rfl rfl ?_
    refine AT.icmp_ge M_310 rfl (fun b27 => absurd ((i32_le (a := s) (b := q) (by omega) (by omega)).mp b27) (by omega)) (fun b27 => ?_)
    refine AT.aload_n M_310 rfl rfl ?_
    refine AT.r11_0 M_310 rfl ?_
    refine AT.r10_2 M_310 rfl (show 2 ≤ 2 by omega) (show 2 < 4 by omega) ?_
    refine AT.iload M_310 rfl rfl ?_
    refine AT.ra_4 M_310 rfl rfl (show 2 ≤ 2 by omega) (show 2 < 4 by omega) (by omega) ?_
    refine AT.if_eq M_310 rfl (fun b33 => ?_) (fun b33 => ?_)
    · refine AT.iinc5 M_310 rfl rfl (i32_succ _) ?_
      refine AT.goto M_310 rfl ?_
      rw [show bI (decide (¬ (xK X 2).1 4 s 0 = 0) && sAllF (sFirP (xK X 2) s ky) q) = bI (decide (¬ (xK X 2).1 4 s 0 = 0) && sAllF (sFirP (xK X 2) s ky) (q + 1)) from by
        rw [show sAllF (sFirP (xK X 2) s ky) (q + 1) = (sAllF (sFirP (xK X 2) s ky) q && (sFirP (xK X 2) s ky) q) from rfl, show (sFirP (xK X 2) s ky) q = true from by
          simp [sFirP, show (xK X 2).1 4 q 0 = 0 from b33], Bool.and_true]]
      exact l_310i hs hk8 d (q + 1) (by omega) hk
    · refine AT.aload_n M_310 rfl rfl ?_
      refine AT.r11_0 M_310 rfl ?_
      refine AT.r10_17 M_310 rfl (show 2 ≤ 2 by omega) (show 2 < 4 by omega) ?_
      refine AT.iload M_310 rfl rfl ?_
      refine AT.rr_tab M_310 rfl rfl (show 2 ≤ 2 by omega) (show 2 < 4 by omega) (by omega) ?_
      refine AT.iload_n M_310 rfl rfl ?_
      refine AT.ra_tab M_310 rfl rfl (show 2 ≤ 2 by omega) (show 2 < 4 by omega) (by omega) (by omega) ?_
      refine AT.aload_n M_310 rfl rfl ?_
      refine AT.r11_0 M_310 rfl ?_
      refine AT.r10_17 M_310 rfl (show 2 ≤ 2 by omega) (show 2 < 4 by omega) ?_
      refine AT.iload_n M_310 rfl rfl ?_
      refine AT.rr_tab M_310 rfl rfl (show 2 ≤ 2 by omega) (show 2 < 4 by omega) hs ?_
      refine AT.iload_n M_310 rfl rfl ?_
      refine AT.ra_tab M_310 rfl rfl (show 2 ≤ 2 by omega) (show 2 < 4 by omega) hs (by omega) ?_
      refine AT.icmp_ne M_310 rfl (fun b48 => ?_) (fun b48 => ?_)
      · refine AT.iinc5 M_310 rfl rfl (i32_succ _) ?_
        refine AT.goto M_310 rfl ?_
        rw [show bI (decide (¬ (xK X 2).1 4 s 0 = 0) && sAllF (sFirP (xK X 2) s ky) q) = bI (decide (¬ (xK X 2).1 4 s 0 = 0) && sAllF (sFirP (xK X 2) s ky) (q + 1)) from by
          rw [show sAllF (sFirP (xK X 2) s ky) (q + 1) = (sAllF (sFirP (xK X 2) s ky) q && (sFirP (xK X 2) s ky) q) from rfl, show (sFirP (xK X 2) s ky) q = true from by
            simp [sFirP, show ¬ (xK X 2).1 19 q ky = (xK X 2).1 19 s ky from b48], Bool.and_true]]
        exact l_310i hs hk8 d (q + 1) (by omega) hk
      · refine AT.iconst M_310 rfl (v := 0) (by decide) ?_
        refine AT.ist4 M_310 rfl rfl ?_
        refine AT.iinc5 M_310 rfl rfl (i32_succ _) ?_
        refine AT.goto M_310 rfl ?_
        have e0 : bI (decide (¬ (xK X 2).1 4 s 0 = 0) && sAllF (sFirP (xK X 2) s ky) (q + 1)) = 0 := by
          rw [show sAllF (sFirP (xK X 2) s ky) (q + 1) = (sAllF (sFirP (xK X 2) s ky) q && (sFirP (xK X 2) s ky) q) from rfl, show (sFirP (xK X 2) s ky) q = false from by
            simp [sFirP, show ¬ (xK X 2).1 4 q 0 = 0 from b33, show (xK X 2).1 19 q ky = (xK X 2).1 19 s ky from Classical.not_not.mp b48], Bool.and_false, Bool.and_false]
          rfl
        have h := l_310i hs hk8 d (q + 1) (by omega) hk
        rw [e0] at h
        exact h
theorem l_310m {X : XS} {ky d s : Nat} {x5 : Option Value} (hq : s + (d + 1) = 7) (hk : ∀ s', s' + d = 7 → ∀ x4 x5 : Option Value, AT 310 14 [some (.ref 388), some (.int (Int32.ofNat ky)), some (.int (sCntF (sValP (xK X 2) ky) s')), some (.int (Int32.ofNat s')), x4, x5] [] (xSetT X 0) (fun o' Y => o' = .inl (some (.int (sCntF (sValP (xK X 2) ky) 7))) ∧ Y = (xSetT X 0))) :
    AT 310 53 [some (.ref 388), some (.int (Int32.ofNat ky)), some (.int (sCntF (sValP (xK X 2) ky) s)), some (.int (Int32.ofNat s)), some (.int (bI ((sValP (xK X 2) ky) s))), x5] [] (xSetT X 0) (fun o' Y => o' = .inl (some (.int (sCntF (sValP (xK X 2) ky) 7))) ∧ Y = (xSetT X 0)) := by
  refine AT.iload_n M_310 rfl rfl ?_
  refine AT.iload M_310 rfl rfl ?_
  refine AT.if_eq M_310 rfl (fun b55 => ?_) (fun b55 => ?_)
  · refine AT.iconst M_310 rfl (v := 0) (by decide) ?_
    refine AT.iadd M_310 rfl rfl ?_
    refine AT.ist2 M_310 rfl rfl ?_
    refine AT.iinc3 M_310 rfl rfl (i32_succ _) ?_
    refine AT.goto M_310 rfl ?_
    rw [Int32.add_zero, ← sCntF_f (p := (sValP (xK X 2) ky)) (q := s) (bI_eq0.mp b55)]
    exact hk (s + 1) (by omega) _ _
  · refine AT.iconst M_310 rfl (v := 1) (by decide) ?_
    refine AT.goto M_310 rfl ?_
    refine AT.iadd M_310 rfl rfl ?_
    refine AT.ist2 M_310 rfl rfl ?_
    refine AT.iinc3 M_310 rfl rfl (i32_succ _) ?_
    refine AT.goto M_310 rfl ?_
    rw [show sCntF (sValP (xK X 2) ky) s + 1 = sCntF (sValP (xK X 2) ky) (s + 1) from (sCntF_t (p := (sValP (xK X 2) ky)) (q := s) (bI_ne0.mp b55)).symm]
    exact hk (s + 1) (by omega) _ _
theorem l_310 {X : XS} {ky : Nat} (hk8 : ky < 8) (h01 : ∀ i, i < 7 → (xK X 2).1 4 i 0 = 0 ∨ (xK X 2).1 4 i 0 = 1) : ∀ d s : Nat, s + d = 7 → ∀ x4 x5 : Option Value, AT 310 14 [some (.ref 388), some (.int (Int32.ofNat ky)), some (.int (sCntF (sValP (xK X 2) ky) s)), some (.int (Int32.ofNat s)), x4, x5] [] (xSetT X 0) (fun o' Y => o' = .inl (some (.int (sCntF (sValP (xK X 2) ky) 7))) ∧ Y = (xSetT X 0))
  | 0, s, hq, x4, x5 => by
    refine AT.iload_n M_310 rfl rfl ?_
    refine AT.bipush M_310 rfl (v := 7) (by decide) ?_
    refine AT.icmp_ge M_310 rfl (fun b16 => ?_) (fun b16 => absurd (by rw [show s = 7 by omega]; exact Int32.le_refl _) b16)
    refine AT.iload_n M_310 rfl rfl ?_
    refine AT.iret M_310 rfl rfl ?_
    rw [show s = 7 by omega]
    exact ⟨rfl, rfl⟩
  | d + 1, s, hq, x4, x5 => by
    have hs7 : s < 7 := by omega
    refine AT.iload_n M_310 rfl rfl ?_
    refine AT.bipush M_310 rfl (v := 7) (by decide) ?_
    refine AT.icmp_ge M_310 rfl (fun b16 => absurd ((i32_le (a := 7) (b := s) (by omega) (by omega)).mp b16) (by omega)) (fun b16 => ?_)
    refine AT.aload_n M_310 rfl rfl ?_
    refine AT.r11_0 M_310 rfl ?_
    refine AT.r10_2 M_310 rfl (show 2 ≤ 2 by omega) (show 2 < 4 by omega) ?_
    refine AT.iload_n M_310 rfl rfl ?_
    refine AT.ra_4 M_310 rfl rfl (show 2 ≤ 2 by omega) (show 2 < 4 by omega) hs7 ?_
    rw [show (xK (xSetT X 0) 2).1 4 s 0 = bI (decide (¬ (xK X 2).1 4 s 0 = 0) && sAllF (sFirP (xK X 2) s ky) 0) from by
      rcases h01 s hs7 with z | z
      · rw [show (xK (xSetT X 0) 2).1 4 s 0 = 0 from z, decide_eq_false (fun y => y z)]; rfl
      · rw [show (xK (xSetT X 0) 2).1 4 s 0 = 1 from z, decide_eq_true (by rw [z]; decide)]; rfl]
    refine AT.ist4 M_310 rfl rfl ?_
    refine AT.iconst M_310 rfl (v := 0) (by decide) ?_
    refine AT.ist5 M_310 rfl rfl ?_
    refine l_310i hs7 hk8 s 0 (by omega) ?_
    exact l_310m hq (fun s2 h2 y4 y5 => l_310 hk8 h01 d s2 h2 y4 y5)
theorem c_310 {X : XS} {ky : Nat} (hk8 : ky < 8) : RT 310 [some (.ref 388), some (.int (Int32.ofNat ky)), none, none, none, none] X (some (.int (sCntF (sValP (xK X 2) ky) 7))) (xSetT X 0) := by
  refine AT.rep (fun hr => ?_)
  have h01 := (hr.choose_spec.2.2.2.2.2.2.1 2 (by omega)).2.1
  refine AT.aload_n M_310 rfl rfl ?_
  refine AT.iconst M_310 rfl (v := 0) (by decide) ?_
  refine AT.w11_2 M_310 rfl ?_
  refine AT.iload_n M_310 rfl rfl ?_
  refine AT.cs1i M_310 rfl M_236 rfl (Nat.le_of_ble_eq_true rfl) rfl (c_236 hk8) ?_ (Nat.le_of_ble_eq_true rfl) rfl
  refine AT.if_ne M_310 rfl (fun b5 => ?_) (fun b5 => absurd b5 (by decide))
  refine AT.iconst M_310 rfl (v := 0) (by decide) ?_
  refine AT.ist2 M_310 rfl rfl ?_
  refine AT.iconst M_310 rfl (v := 0) (by decide) ?_
  refine AT.ist3 M_310 rfl rfl ?_
  exact l_310 hk8 h01 7 0 rfl _ _
