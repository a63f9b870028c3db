/-! ===== THE TWIN: numbers of a server ===== -/
theorem c_278 {X : XS} {s : Nat} (hs : s < 7) {a f j : Nat} (hsh : shp a 12 7) (hl : ∀ s, s < 7 → loc 2 f s j a s) (hpr : xPriv f = false) : RT 278 [some (.ref 388), some (.int (Int32.ofNat s)), some (.ref a)] X (some (.int ((xK X 2).1 f s j))) (xSetT X 0) := by
  refine AT.aload_n M_278 rfl rfl ?_
  refine AT.iconst M_278 rfl (v := 0) (by decide) ?_
  refine AT.w11_2 M_278 rfl ?_
  refine AT.iload_n M_278 rfl rfl ?_
  refine AT.cs1i M_278 rfl M_234 rfl (Nat.le_of_ble_eq_true rfl) rfl (c_234 hs) ?_ (Nat.le_of_ble_eq_true rfl) rfl
  refine AT.if_eq M_278 rfl (fun b5 => absurd b5 (by decide)) (fun b5 => ?_)
  refine AT.aload_n M_278 rfl rfl ?_
  refine AT.iload_n M_278 rfl rfl ?_
  refine AT.in (X := (xSetT X 0)) (o := 2) (f := f) (i' := s) (j := j) M_278 rfl rfl hsh hs (by omega) (hl s hs) (if_neg (by rw [hpr]; decide)) ?_
  refine AT.goto M_278 rfl ?_
  refine AT.iret M_278 rfl rfl ?_
  exact ⟨rfl, rfl⟩
theorem c_278x {X : XS} {p : Int32} (hp : p < 0 ∨ ¬ p < 7) {a : Nat} : RT 278 [some (.ref 388), some (.int p), some (.ref a)] X (some (.int 0)) (xSetT X 1) := by
  refine AT.aload_n M_278 rfl rfl ?_
  refine AT.iconst M_278 rfl (v := 0) (by decide) ?_
  refine AT.w11_2 M_278 rfl ?_
  refine AT.iload_n M_278 rfl rfl ?_
  refine AT.cs1i M_278 rfl M_234 rfl (Nat.le_of_ble_eq_true rfl) rfl (c_234x hp) ?_ (Nat.le_of_ble_eq_true rfl) rfl
  refine AT.if_eq M_278 rfl (fun b5 => ?_) (fun b5 => absurd rfl b5)
  refine AT.aload_n M_278 rfl rfl ?_
  refine AT.iconst M_278 rfl (v := 1) (by decide) ?_
  refine AT.cv2i M_278 rfl M_233 rfl (Nat.le_of_ble_eq_true rfl) (xKd.of sh_mod) (by decide) c_233 ?_ (Nat.le_of_ble_eq_true rfl) rfl
  refine AT.iret M_278 rfl rfl ?_
  exact ⟨rfl, rfl⟩
theorem c_280 {X : XS} {s : Nat} (hs : s < 7) : RT 280 [some (.ref 388), some (.int (Int32.ofNat s))] X (some (.int ((xK X 2).1 12 s 0))) (xSetT X 0) := by
  refine AT.aload_n M_280 rfl rfl ?_
  refine AT.iload_n M_280 rfl rfl ?_
  refine AT.aload_n M_280 rfl rfl ?_
  refine AT.r11_0 M_280 rfl ?_
  refine AT.r10_5 M_280 rfl (show 2 ≤ 2 by omega) (show 2 < 4 by omega) ?_
  refine AT.cv3i M_280 rfl M_278 rfl (Nat.le_of_ble_eq_true rfl) (xKd.of sh_mod) (by decide) (c_278 (a := bB 2 + 4) (f := 12) (j := 0) hs (sh_i7 (by omega) (by omega) (by omega) (by omega)) (fun s hs => (lor (f := 12) (by omega) (by omega) (Or.inr (Or.inr (Or.inr (Or.inl ⟨by omega, by omega, hs, rfl, by omega, rfl⟩)))))) rfl) ?_ (Nat.le_of_ble_eq_true rfl) rfl
  refine AT.iret M_280 rfl rfl ?_
  exact ⟨rfl, rfl⟩
theorem c_280x {X : XS} {p : Int32} (hp : p < 0 ∨ ¬ p < 7) : RT 280 [some (.ref 388), some (.int p)] X (some (.int 0)) (xSetT X 1) := by
  refine AT.aload_n M_280 rfl rfl ?_
  refine AT.iload_n M_280 rfl rfl ?_
  refine AT.aload_n M_280 rfl rfl ?_
  refine AT.r11_0 M_280 rfl ?_
  refine AT.r10_5 M_280 rfl (show 2 ≤ 2 by omega) (show 2 < 4 by omega) ?_
  refine AT.cv3i M_280 rfl M_278 rfl (Nat.le_of_ble_eq_true rfl) (xKd.of sh_mod) (by decide) (c_278x hp) ?_ (Nat.le_of_ble_eq_true rfl) rfl
  refine AT.iret M_280 rfl rfl ?_
  exact ⟨rfl, rfl⟩
theorem c_281 {X : XS} {s : Nat} (hs : s < 7) : RT 281 [some (.ref 388), some (.int (Int32.ofNat s))] X (some (.int ((xK X 2).1 5 s 0))) (xSetT X 0) := by
  refine AT.aload_n M_281 rfl rfl ?_
  refine AT.iload_n M_281 rfl rfl ?_
  refine AT.aload_n M_281 rfl rfl ?_
  refine AT.r11_0 M_281 rfl ?_
  refine AT.r10_3 M_281 rfl (show 2 ≤ 2 by omega) (show 2 < 4 by omega) ?_
  refine AT.cv3i M_281 rfl M_278 rfl (Nat.le_of_ble_eq_true rfl) (xKd.of sh_mod) (by decide) (c_278 (a := bB 2 + 2) (f := 5) (j := 0) hs (sh_i7 (by omega) (by omega) (by omega) (by omega)) (fun s hs => (lor (f := 5) (by omega) (by omega) (Or.inr (Or.inr (Or.inl ⟨by omega, by omega, hs, rfl, by omega, rfl⟩))))) rfl) ?_ (Nat.le_of_ble_eq_true rfl) rfl
  refine AT.iret M_281 rfl rfl ?_
  exact ⟨rfl, rfl⟩
theorem c_281x {X : XS} {p : Int32} (hp : p < 0 ∨ ¬ p < 7) : RT 281 [some (.ref 388), some (.int p)] X (some (.int 0)) (xSetT X 1) := by
  refine AT.aload_n M_281 rfl rfl ?_
  refine AT.iload_n M_281 rfl rfl ?_
  refine AT.aload_n M_281 rfl rfl ?_
  refine AT.r11_0 M_281 rfl ?_
  refine AT.r10_3 M_281 rfl (show 2 ≤ 2 by omega) (show 2 < 4 by omega) ?_
  refine AT.cv3i M_281 rfl M_278 rfl (Nat.le_of_ble_eq_true rfl) (xKd.of sh_mod) (by decide) (c_278x hp) ?_ (Nat.le_of_ble_eq_true rfl) rfl
  refine AT.iret M_281 rfl rfl ?_
  exact ⟨rfl, rfl⟩
theorem c_282 {X : XS} {s : Nat} (hs : s < 7) : RT 282 [some (.ref 388), some (.int (Int32.ofNat s))] X (some (.int ((xK X 2).1 6 s 0))) (xSetT X 0) := by
  refine AT.aload_n M_282 rfl rfl ?_
  refine AT.iload_n M_282 rfl rfl ?_
  refine AT.aload_n M_282 rfl rfl ?_
  refine AT.r11_0 M_282 rfl ?_
  refine AT.r10_4 M_282 rfl (show 2 ≤ 2 by omega) (show 2 < 4 by omega) ?_
  refine AT.cv3i M_282 rfl M_278 rfl (Nat.le_of_ble_eq_true rfl) (xKd.of sh_mod) (by decide) (c_278 (a := bB 2 + 3) (f := 6) (j := 0) hs (sh_i7 (by omega) (by omega) (by omega) (by omega)) (fun s hs => (lor (f := 6) (by omega) (by omega) (Or.inr (Or.inr (Or.inl ⟨by omega, by omega, hs, rfl, by omega, rfl⟩))))) rfl) ?_ (Nat.le_of_ble_eq_true rfl) rfl
  refine AT.iret M_282 rfl rfl ?_
  exact ⟨rfl, rfl⟩
theorem c_282x {X : XS} {p : Int32} (hp : p < 0 ∨ ¬ p < 7) : RT 282 [some (.ref 388), some (.int p)] X (some (.int 0)) (xSetT X 1) := by
  refine AT.aload_n M_282 rfl rfl ?_
  refine AT.iload_n M_282 rfl rfl ?_
  refine AT.aload_n M_282 rfl rfl ?_
  refine AT.r11_0 M_282 rfl ?_
  refine AT.r10_4 M_282 rfl (show 2 ≤ 2 by omega) (show 2 < 4 by omega) ?_
  refine AT.cv3i M_282 rfl M_278 rfl (Nat.le_of_ble_eq_true rfl) (xKd.of sh_mod) (by decide) (c_278x hp) ?_ (Nat.le_of_ble_eq_true rfl) rfl
  refine AT.iret M_282 rfl rfl ?_
  exact ⟨rfl, rfl⟩
theorem c_283 {X : XS} {s : Nat} (hs : s < 7) : RT 283 [some (.ref 388), some (.int (Int32.ofNat s))] X (some (.int ((xK X 2).1 13 s 0))) (xSetT X 0) := by
  refine AT.aload_n M_283 rfl rfl ?_
  refine AT.iload_n M_283 rfl rfl ?_
  refine AT.aload_n M_283 rfl rfl ?_
  refine AT.r11_0 M_283 rfl ?_
  refine AT.r10_6 M_283 rfl (show 2 ≤ 2 by omega) (show 2 < 4 by omega) ?_
  refine AT.cv3i M_283 rfl M_278 rfl (Nat.le_of_ble_eq_true rfl) (xKd.of sh_mod) (by decide) (c_278 (a := bB 2 + 5) (f := 13) (j := 0) hs (sh_i7 (by omega) (by omega) (by omega) (by omega)) (fun s hs => (lor (f := 13) (by omega) (by omega) (Or.inr (Or.inr (Or.inr (Or.inl ⟨by omega, by omega, hs, rfl, by omega, rfl⟩)))))) rfl) ?_ (Nat.le_of_ble_eq_true rfl) rfl
  refine AT.iret M_283 rfl rfl ?_
  exact ⟨rfl, rfl⟩
theorem c_283x {X : XS} {p : Int32} (hp : p < 0 ∨ ¬ p < 7) : RT 283 [some (.ref 388), some (.int p)] X (some (.int 0)) (xSetT X 1) := by
  refine AT.aload_n M_283 rfl rfl ?_
  refine AT.iload_n M_283 rfl rfl ?_
  refine AT.aload_n M_283 rfl rfl ?_
  refine AT.r11_0 M_283 rfl ?_
  refine AT.r10_6 M_283 rfl (show 2 ≤ 2 by omega) (show 2 < 4 by omega) ?_
  refine AT.cv3i M_283 rfl M_278 rfl (Nat.le_of_ble_eq_true rfl) (xKd.of sh_mod) (by decide) (c_278x hp) ?_ (Nat.le_of_ble_eq_true rfl) rfl
  refine AT.iret M_283 rfl rfl ?_
  exact ⟨rfl, rfl⟩
theorem c_284 {X : XS} {s : Nat} (hs : s < 7) : RT 284 [some (.ref 388), some (.int (Int32.ofNat s))] X (some (.int ((xK X 2).1 14 s 0))) (xSetT X 0) := by
  refine AT.aload_n M_284 rfl rfl ?_
  refine AT.iload_n M_284 rfl rfl ?_
  refine AT.aload_n M_284 rfl rfl ?_
  refine AT.r11_0 M_284 rfl ?_
  refine AT.r10_7 M_284 rfl (show 2 ≤ 2 by omega) (show 2 < 4 by omega) ?_
  refine AT.cv3i M_284 rfl M_278 rfl (Nat.le_of_ble_eq_true rfl) (xKd.of sh_mod) (by decide) (c_278 (a := bB 2 + 6) (f := 14) (j := 0) hs (sh_i7 (by omega) (by omega) (by omega) (by omega)) (fun s hs => (lor (f := 14) (by omega) (by omega) (Or.inr (Or.inr (Or.inr (Or.inl ⟨by omega, by omega, hs, rfl, by omega, rfl⟩)))))) rfl) ?_ (Nat.le_of_ble_eq_true rfl) rfl
  refine AT.iret M_284 rfl rfl ?_
  exact ⟨rfl, rfl⟩
theorem c_284x {X : XS} {p : Int32} (hp : p < 0 ∨ ¬ p < 7) : RT 284 [some (.ref 388), some (.int p)] X (some (.int 0)) (xSetT X 1) := by
  refine AT.aload_n M_284 rfl rfl ?_
  refine AT.iload_n M_284 rfl rfl ?_
  refine AT.aload_n M_284 rfl rfl ?_
  refine AT.r11_0 M_284 rfl ?_
  refine AT.r10_7 M_284 rfl (show 2 ≤ 2 by omega) (show 2 < 4 by omega) ?_
  refine AT.cv3i M_284 rfl M_278 rfl (Nat.le_of_ble_eq_true rfl) (xKd.of sh_mod) (by decide) (c_278x hp) ?_ (Nat.le_of_ble_eq_true rfl) rfl
  refine AT.iret M_284 rfl rfl ?_
  exact ⟨rfl, rfl⟩
theorem c_286 {X : XS} {s : Nat} (hs : s < 7) : RT 286 [some (.ref 388), some (.int (Int32.ofNat s))] X (some (.int ((xK X 2).1 18 s 0))) (xSetT X 0) := by
  refine AT.aload_n M_286 rfl rfl ?_
  refine AT.iload_n M_286 rfl rfl ?_
  refine AT.aload_n M_286 rfl rfl ?_
  refine AT.r11_0 M_286 rfl ?_
  refine AT.r10_13 M_286 rfl (show 2 ≤ 2 by omega) (show 2 < 4 by omega) ?_
  refine AT.cv3i M_286 rfl M_278 rfl (Nat.le_of_ble_eq_true rfl) (xKd.of sh_mod) (by decide) (c_278 (a := bB 2 + 12) (f := 18) (j := 0) hs (sh_i7 (by omega) (by omega) (by omega) (by omega)) (fun s hs => (lor (by omega) (by omega) (Or.inr (Or.inr (Or.inr (Or.inr (Or.inr (Or.inr (Or.inr (Or.inr (Or.inl ⟨rfl, hs, by omega, rfl, rfl⟩))))))))))) rfl) ?_ (Nat.le_of_ble_eq_true rfl) rfl
  refine AT.iret M_286 rfl rfl ?_
  exact ⟨rfl, rfl⟩
theorem c_286x {X : XS} {p : Int32} (hp : p < 0 ∨ ¬ p < 7) : RT 286 [some (.ref 388), some (.int p)] X (some (.int 0)) (xSetT X 1) := by
  refine AT.aload_n M_286 rfl rfl ?_
  refine AT.iload_n M_286 rfl rfl ?_
  refine AT.aload_n M_286 rfl rfl ?_
  refine AT.r11_0 M_286 rfl ?_
  refine AT.r10_13 M_286 rfl (show 2 ≤ 2 by omega) (show 2 < 4 by omega) ?_
  refine AT.cv3i M_286 rfl M_278 rfl (Nat.le_of_ble_eq_true rfl) (xKd.of sh_mod) (by decide) (c_278x hp) ?_ (Nat.le_of_ble_eq_true rfl) rfl
  refine AT.iret M_286 rfl rfl ?_
  exact ⟨rfl, rfl⟩
theorem c_289 {X : XS} {s : Nat} (hs : s < 7) : RT 289 [some (.ref 388), some (.int (Int32.ofNat s))] X (some (.int ((xK X 2).1 15 s 0))) (xSetT X 0) := by
  refine AT.aload_n M_289 rfl rfl ?_
  refine AT.iload_n M_289 rfl rfl ?_
  refine AT.aload_n M_289 rfl rfl ?_
  refine AT.r11_0 M_289 rfl ?_
  refine AT.r10_8 M_289 rfl (show 2 ≤ 2 by omega) (show 2 < 4 by omega) ?_
  refine AT.cv3i M_289 rfl M_278 rfl (Nat.le_of_ble_eq_true rfl) (xKd.of sh_mod) (by decide) (c_278 (a := bB 2 + 7) (f := 15) (j := 0) hs (sh_i7 (by omega) (by omega) (by omega) (by omega)) (fun s hs => (lor (f := 15) (by omega) (by omega) (Or.inr (Or.inr (Or.inr (Or.inl ⟨by omega, by omega, hs, rfl, by omega, rfl⟩)))))) rfl) ?_ (Nat.le_of_ble_eq_true rfl) rfl
  refine AT.iret M_289 rfl rfl ?_
  exact ⟨rfl, rfl⟩
theorem c_289x {X : XS} {p : Int32} (hp : p < 0 ∨ ¬ p < 7) : RT 289 [some (.ref 388), some (.int p)] X (some (.int 0)) (xSetT X 1) := by
  refine AT.aload_n M_289 rfl rfl ?_
  refine AT.iload_n M_289 rfl rfl ?_
  refine AT.aload_n M_289 rfl rfl ?_
  refine AT.r11_0 M_289 rfl ?_
  refine AT.r10_8 M_289 rfl (show 2 ≤ 2 by omega) (show 2 < 4 by omega) ?_
  refine AT.cv3i M_289 rfl M_278 rfl (Nat.le_of_ble_eq_true rfl) (xKd.of sh_mod) (by decide) (c_278x hp) ?_ (Nat.le_of_ble_eq_true rfl) rfl
  refine AT.iret M_289 rfl rfl ?_
  exact ⟨rfl, rfl⟩
theorem c_279x {X : XS} {p : Int32} (hp : p < 0 ∨ ¬ p < 7) : RT 279 [some (.ref 388), some (.int p)] X (some (.int 0)) (xSetT X 1) := by
  refine AT.aload_n M_279 rfl rfl ?_
  refine AT.iconst M_279 rfl (v := 0) (by decide) ?_
  refine AT.w11_2 M_279 rfl ?_
  refine AT.iload_n M_279 rfl rfl ?_
  refine AT.cs1i M_279 rfl M_234 rfl (Nat.le_of_ble_eq_true rfl) rfl (c_234x hp) ?_ (Nat.le_of_ble_eq_true rfl) rfl
  refine AT.if_eq M_279 rfl (fun b5 => ?_) (fun b5 => absurd rfl b5)
  refine AT.aload_n M_279 rfl rfl ?_
  refine AT.iconst M_279 rfl (v := 1) (by decide) ?_
  refine AT.w11_2 M_279 rfl ?_
  refine AT.iconst M_279 rfl (v := 0) (by decide) ?_
  refine AT.zret M_279 rfl rfl (by first | exact Or.inl rfl | exact Or.inr rfl | assumption) ?_
  exact ⟨rfl, rfl⟩
theorem c_279 {X : XS} {s : Nat} (hs : s < 7) : RT 279 [some (.ref 388), some (.int (Int32.ofNat s))] X (some (.int ((xK X 2).1 4 s 0))) (xSetT X 0) := by
  refine AT.rep (fun hr => ?_)
  have h01 := (hr.choose_spec.2.2.2.2.2.2.1 2 (by omega)).2.1 s hs
  refine AT.aload_n M_279 rfl rfl ?_
  refine AT.iconst M_279 rfl (v := 0) (by decide) ?_
  refine AT.w11_2 M_279 rfl ?_
  refine AT.iload_n M_279 rfl rfl ?_
  refine AT.cs1i M_279 rfl M_234 rfl (Nat.le_of_ble_eq_true rfl) rfl (c_234 hs) ?_ (Nat.le_of_ble_eq_true rfl) rfl
  refine AT.if_eq M_279 rfl (fun b5 => absurd b5 (by decide)) (fun b5 => ?_)
  refine AT.aload_n M_279 rfl rfl ?_
  refine AT.r11_0 M_279 rfl ?_
  refine AT.r10_2 M_279 rfl (show 2 ≤ 2 by omega) (show 2 < 4 by omega) ?_
  refine AT.iload_n M_279 rfl rfl ?_
  refine AT.ra_4 M_279 rfl rfl (show 2 ≤ 2 by omega) (show 2 < 4 by omega) (by assumption) ?_
  refine AT.zret M_279 rfl rfl h01 ?_
  exact ⟨rfl, rfl⟩
theorem c_285x {X : XS} {p : Int32} (hp : p < 0 ∨ ¬ p < 7) : RT 285 [some (.ref 388), some (.int p)] X (some (.int 0)) (xSetT X 1) := by
  refine AT.aload_n M_285 rfl rfl ?_
  refine AT.iconst M_285 rfl (v := 0) (by decide) ?_
  refine AT.w11_2 M_285 rfl ?_
  refine AT.iload_n M_285 rfl rfl ?_
  refine AT.cs1i M_285 rfl M_234 rfl (Nat.le_of_ble_eq_true rfl) rfl (c_234x hp) ?_ (Nat.le_of_ble_eq_true rfl) rfl
  refine AT.if_eq M_285 rfl (fun b5 => ?_) (fun b5 => absurd rfl b5)
  refine AT.aload_n M_285 rfl rfl ?_
  refine AT.iconst M_285 rfl (v := 1) (by decide) ?_
  refine AT.cv2i M_285 rfl M_233 rfl (Nat.le_of_ble_eq_true rfl) (xKd.of sh_mod) (by decide) c_233 ?_ (Nat.le_of_ble_eq_true rfl) rfl
  refine AT.iret M_285 rfl rfl ?_
  exact ⟨rfl, rfl⟩
theorem c_285 {X : XS} {s : Nat} (hs : s < 7) : RT 285 [some (.ref 388), some (.int (Int32.ofNat s))] X (some (.int (sPat s ((xK X 2).1 5 s 0)))) (xSetT X 0) := by
  refine AT.aload_n M_285 rfl rfl ?_
  refine AT.iconst M_285 rfl (v := 0) (by decide) ?_
  refine AT.w11_2 M_285 rfl ?_
  refine AT.iload_n M_285 rfl rfl ?_
  refine AT.cs1i M_285 rfl M_234 rfl (Nat.le_of_ble_eq_true rfl) rfl (c_234 hs) ?_ (Nat.le_of_ble_eq_true rfl) rfl
  refine AT.if_eq M_285 rfl (fun b5 => absurd b5 (by decide)) (fun b5 => ?_)
  refine AT.iload_n M_285 rfl rfl ?_
  refine AT.aload_n M_285 rfl rfl ?_
  refine AT.r11_0 M_285 rfl ?_
  refine AT.r10_3 M_285 rfl (show 2 ≤ 2 by omega) (show 2 < 4 by omega) ?_
  refine AT.iload_n M_285 rfl rfl ?_
  refine AT.ra_5 M_285 rfl rfl (show 2 ≤ 2 by omega) (show 2 < 4 by omega) (by assumption) ?_
  refine AT.cs2i M_285 rfl M_219 rfl (Nat.le_of_ble_eq_true rfl) rfl (c_219 (s := s)) ?_ (Nat.le_of_ble_eq_true rfl) rfl
  refine AT.goto M_285 rfl ?_
  refine AT.iret M_285 rfl rfl ?_
  exact ⟨rfl, rfl⟩
theorem c_287x {X : XS} {p : Int32} (hp : p < 0 ∨ ¬ p < 7) : RT 287 [some (.ref 388), some (.int p)] X (some (.int 0)) (xSetT X 1) := by
  refine AT.aload_n M_287 rfl rfl ?_
  refine AT.iconst M_287 rfl (v := 0) (by decide) ?_
  refine AT.w11_2 M_287 rfl ?_
  refine AT.iload_n M_287 rfl rfl ?_
  refine AT.cs1i M_287 rfl M_234 rfl (Nat.le_of_ble_eq_true rfl) rfl (c_234x hp) ?_ (Nat.le_of_ble_eq_true rfl) rfl
  refine AT.if_eq M_287 rfl (fun b5 => ?_) (fun b5 => absurd rfl b5)
  refine AT.aload_n M_287 rfl rfl ?_
  refine AT.iconst M_287 rfl (v := 1) (by decide) ?_
  refine AT.cv2i M_287 rfl M_233 rfl (Nat.le_of_ble_eq_true rfl) (xKd.of sh_mod) (by decide) c_233 ?_ (Nat.le_of_ble_eq_true rfl) rfl
  refine AT.iret M_287 rfl rfl ?_
  exact ⟨rfl, rfl⟩
theorem c_287 {X : XS} {s : Nat} (hs : s < 7) : RT 287 [some (.ref 388), some (.int (Int32.ofNat s))] X (some (.int (sLast (xK X 2) s))) (xSetT X 0) := by
  refine AT.aload_n M_287 rfl rfl ?_
  refine AT.iconst M_287 rfl (v := 0) (by decide) ?_
  refine AT.w11_2 M_287 rfl ?_
  refine AT.iload_n M_287 rfl rfl ?_
  refine AT.cs1i M_287 rfl M_234 rfl (Nat.le_of_ble_eq_true rfl) rfl (c_234 hs) ?_ (Nat.le_of_ble_eq_true rfl) rfl
  refine AT.if_eq M_287 rfl (fun b5 => absurd b5 (by decide)) (fun b5 => ?_)
  refine AT.aload_n M_287 rfl rfl ?_
  refine AT.r11_0 M_287 rfl ?_
  refine AT.iload_n M_287 rfl rfl ?_
  refine AT.cv2i M_287 rfl M_187 rfl (Nat.le_of_ble_eq_true rfl) (xKd.of (sh_st (o := 2) (by omega) (by omega))) (by decide) (c_187 (X := (xSetT X 0)) (o := 2) (by omega) (by omega) hs) ?_ (Nat.le_of_ble_eq_true rfl) rfl
  refine AT.goto M_287 rfl ?_
  refine AT.iret M_287 rfl rfl ?_
  exact ⟨rfl, rfl⟩
theorem c_288x {X : XS} {p : Int32} (hp : p < 0 ∨ ¬ p < 7) : RT 288 [some (.ref 388), some (.int p)] X (some (.int 0)) (xSetT X 1) := by
  refine AT.aload_n M_288 rfl rfl ?_
  refine AT.iconst M_288 rfl (v := 0) (by decide) ?_
  refine AT.w11_2 M_288 rfl ?_
  refine AT.iload_n M_288 rfl rfl ?_
  refine AT.cs1i M_288 rfl M_234 rfl (Nat.le_of_ble_eq_true rfl) rfl (c_234x hp) ?_ (Nat.le_of_ble_eq_true rfl) rfl
  refine AT.if_eq M_288 rfl (fun b5 => ?_) (fun b5 => absurd rfl b5)
  refine AT.aload_n M_288 rfl rfl ?_
  refine AT.iconst M_288 rfl (v := 1) (by decide) ?_
  refine AT.cv2i M_288 rfl M_233 rfl (Nat.le_of_ble_eq_true rfl) (xKd.of sh_mod) (by decide) c_233 ?_ (Nat.le_of_ble_eq_true rfl) rfl
  refine AT.iret M_288 rfl rfl ?_
  exact ⟨rfl, rfl⟩
theorem c_288 {X : XS} {s : Nat} (hs : s < 7) (hw : kWf (xK X 2) s) : RT 288 [some (.ref 388), some (.int (Int32.ofNat s))] X (some (.int (sLastT (xK X 2) s))) (xSetT X 0) := by
  refine AT.aload_n M_288 rfl rfl ?_
  refine AT.iconst M_288 rfl (v := 0) (by decide) ?_
  refine AT.w11_2 M_288 rfl ?_
  refine AT.iload_n M_288 rfl rfl ?_
  refine AT.cs1i M_288 rfl M_234 rfl (Nat.le_of_ble_eq_true rfl) rfl (c_234 hs) ?_ (Nat.le_of_ble_eq_true rfl) rfl
  refine AT.if_eq M_288 rfl (fun b5 => absurd b5 (by decide)) (fun b5 => ?_)
  refine AT.aload_n M_288 rfl rfl ?_
  refine AT.r11_0 M_288 rfl ?_
  refine AT.iload_n M_288 rfl rfl ?_
  refine AT.cv2i M_288 rfl M_192 rfl (Nat.le_of_ble_eq_true rfl) (xKd.of (sh_st (o := 2) (by omega) (by omega))) (by decide) (c_192 (X := (xSetT X 0)) (o := 2) (by omega) (by omega) hs hw) ?_ (Nat.le_of_ble_eq_true rfl) rfl
  refine AT.goto M_288 rfl ?_
  refine AT.iret M_288 rfl rfl ?_
  exact ⟨rfl, rfl⟩
