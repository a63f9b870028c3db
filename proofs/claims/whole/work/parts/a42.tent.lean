/-! ===== THE TWIN: members, tables, entries ===== -/
theorem c_290x {X : XS} {p : Int32} (hp : p < 0 ∨ ¬ p < 7) : RT 290 [some (.ref 388), some (.int p)] X (some (.int 0)) (xSetT X 1) := by
  refine AT.aload_n M_290 rfl rfl ?_
  refine AT.iconst M_290 rfl (v := 0) (by decide) ?_
  refine AT.w11_2 M_290 rfl ?_
  refine AT.iload_n M_290 rfl rfl ?_
  refine AT.cs1i M_290 rfl M_234 rfl (Nat.le_of_ble_eq_true rfl) rfl (c_234x hp) ?_ (Nat.le_of_ble_eq_true rfl) rfl
  refine AT.if_eq M_290 rfl (fun b5 => ?_) (fun b5 => absurd rfl b5)
  refine AT.aload_n M_290 rfl rfl ?_
  refine AT.iconst M_290 rfl (v := 1) (by decide) ?_
  refine AT.cv2i M_290 rfl M_233 rfl (Nat.le_of_ble_eq_true rfl) (xKd.of sh_mod) (by decide) c_233 ?_ (Nat.le_of_ble_eq_true rfl) rfl
  refine AT.iret M_290 rfl rfl ?_
  exact ⟨rfl, rfl⟩
theorem c_290 {X : XS} {s : Nat} (hs : s < 7) (hk : sOk (xK X 2) s) : RT 290 [some (.ref 388), some (.int (Int32.ofNat s))] X (some (.int (sCnt (sMem (xK X 2) s)))) (xSetT X 0) := by
  refine AT.aload_n M_290 rfl rfl ?_
  refine AT.iconst M_290 rfl (v := 0) (by decide) ?_
  refine AT.w11_2 M_290 rfl ?_
  refine AT.iload_n M_290 rfl rfl ?_
  refine AT.cs1i M_290 rfl M_234 rfl (Nat.le_of_ble_eq_true rfl) rfl (c_234 hs) ?_ (Nat.le_of_ble_eq_true rfl) rfl
  refine AT.if_eq M_290 rfl (fun b5 => absurd b5 (by decide)) (fun b5 => ?_)
  refine AT.aload_n M_290 rfl rfl ?_
  refine AT.r11_0 M_290 rfl ?_
  refine AT.iload_n M_290 rfl rfl ?_
  refine AT.cv2i M_290 rfl M_195 rfl (Nat.le_of_ble_eq_true rfl) (xKd.of (sh_st (o := 2) (by omega) (by omega))) (by decide) (c_195 (X := (xSetT X 0)) (o := 2) (by omega) (by omega) hs hk.wf) ?_ (Nat.le_of_ble_eq_true rfl) rfl
  refine AT.cs1i M_290 rfl M_197 rfl (Nat.le_of_ble_eq_true rfl) rfl (c_197x hk.m128) ?_ (Nat.le_of_ble_eq_true rfl) rfl
  refine AT.goto M_290 rfl ?_
  refine AT.iret M_290 rfl rfl ?_
  exact ⟨rfl, rfl⟩
theorem c_291x1 {X : XS} {p q : Int32} (hp : p < 0 ∨ ¬ p < 7) : RT 291 [some (.ref 388), some (.int p), some (.int q)] X (some (.int 0)) (xSetT X 1) := by
  refine AT.aload_n M_291 rfl rfl ?_
  refine AT.iconst M_291 rfl (v := 0) (by decide) ?_
  refine AT.w11_2 M_291 rfl ?_
  refine AT.iload_n M_291 rfl rfl ?_
  refine AT.cs1i M_291 rfl M_234 rfl (Nat.le_of_ble_eq_true rfl) rfl (c_234x hp) ?_ (Nat.le_of_ble_eq_true rfl) rfl
  refine AT.if_eq M_291 rfl (fun b5 => ?_) (fun b5 => absurd rfl b5)
  refine AT.aload_n M_291 rfl rfl ?_
  refine AT.iconst M_291 rfl (v := 1) (by decide) ?_
  refine AT.w11_2 M_291 rfl ?_
  refine AT.iconst M_291 rfl (v := 0) (by decide) ?_
  refine AT.zret M_291 rfl rfl (by first | exact Or.inl rfl | exact Or.inr rfl | assumption) ?_
  exact ⟨rfl, rfl⟩
theorem c_291x2 {X : XS} {s : Nat} (hs : s < 7) {q : Int32} (hp : q < 0 ∨ ¬ q < 7) : RT 291 [some (.ref 388), some (.int (Int32.ofNat s)), some (.int q)] X (some (.int 0)) (xSetT X 1) := by
  refine AT.aload_n M_291 rfl rfl ?_
  refine AT.iconst M_291 rfl (v := 0) (by decide) ?_
  refine AT.w11_2 M_291 rfl ?_
  refine AT.iload_n M_291 rfl rfl ?_
  refine AT.cs1i M_291 rfl M_234 rfl (Nat.le_of_ble_eq_true rfl) rfl (c_234 hs) ?_ (Nat.le_of_ble_eq_true rfl) rfl
  refine AT.if_eq M_291 rfl (fun b5 => absurd b5 (by decide)) (fun b5 => ?_)
  refine AT.iload_n M_291 rfl rfl ?_
  refine AT.cs1i M_291 rfl M_234 rfl (Nat.le_of_ble_eq_true rfl) rfl (c_234x hp) ?_ (Nat.le_of_ble_eq_true rfl) rfl
  refine AT.if_eq M_291 rfl (fun b8 => ?_) (fun b8 => absurd rfl b8)
  refine AT.aload_n M_291 rfl rfl ?_
  refine AT.iconst M_291 rfl (v := 1) (by decide) ?_
  refine AT.w11_2 M_291 rfl ?_
  refine AT.iconst M_291 rfl (v := 0) (by decide) ?_
  refine AT.zret M_291 rfl rfl (by first | exact Or.inl rfl | exact Or.inr rfl | assumption) ?_
  exact ⟨rfl, rfl⟩
theorem c_291 {X : XS} {s : Nat} (hs : s < 7) {j : Nat} (hj : j < 7) (hk : sOk (xK X 2) s) : RT 291 [some (.ref 388), some (.int (Int32.ofNat s)), some (.int (Int32.ofNat j))] X (some (.int (bI (sBit (sMem (xK X 2) s) j)))) (xSetT X 0) := by
  refine AT.aload_n M_291 rfl rfl ?_
  refine AT.iconst M_291 rfl (v := 0) (by decide) ?_
  refine AT.w11_2 M_291 rfl ?_
  refine AT.iload_n M_291 rfl rfl ?_
  refine AT.cs1i M_291 rfl M_234 rfl (Nat.le_of_ble_eq_true rfl) rfl (c_234 hs) ?_ (Nat.le_of_ble_eq_true rfl) rfl
  refine AT.if_eq M_291 rfl (fun b5 => absurd b5 (by decide)) (fun b5 => ?_)
  refine AT.iload_n M_291 rfl rfl ?_
  refine AT.cs1i M_291 rfl M_234 rfl (Nat.le_of_ble_eq_true rfl) rfl (c_234 hj) ?_ (Nat.le_of_ble_eq_true rfl) rfl
  refine AT.if_eq M_291 rfl (fun b8 => absurd b8 (by decide)) (fun b8 => ?_)
  refine AT.aload_n M_291 rfl rfl ?_
  refine AT.r11_0 M_291 rfl ?_
  refine AT.iload_n M_291 rfl rfl ?_
  refine AT.iload_n M_291 rfl rfl ?_
  refine AT.cv3i M_291 rfl M_196 rfl (Nat.le_of_ble_eq_true rfl) (xKd.of (sh_st (o := 2) (by omega) (by omega))) (by decide) (c_196 (X := (xSetT X 0)) (o := 2) (by omega) (by omega) hs hj hk.wf hk.m128) ?_ (Nat.le_of_ble_eq_true rfl) rfl
  refine AT.zret M_291 rfl rfl (bI_01 _) ?_
  exact ⟨rfl, rfl⟩
theorem c_298x1 {X : XS} {p q : Int32} (hp : p < 0 ∨ ¬ p < 7) : RT 298 [some (.ref 388), some (.int p), some (.int q)] X (some (.int 0)) (xSetT X 1) := by
  refine AT.aload_n M_298 rfl rfl ?_
  refine AT.iconst M_298 rfl (v := 0) (by decide) ?_
  refine AT.w11_2 M_298 rfl ?_
  refine AT.iload_n M_298 rfl rfl ?_
  refine AT.cs1i M_298 rfl M_234 rfl (Nat.le_of_ble_eq_true rfl) rfl (c_234x hp) ?_ (Nat.le_of_ble_eq_true rfl) rfl
  refine AT.if_eq M_298 rfl (fun b5 => ?_) (fun b5 => absurd rfl b5)
  refine AT.aload_n M_298 rfl rfl ?_
  refine AT.iconst M_298 rfl (v := 1) (by decide) ?_
  refine AT.cv2i M_298 rfl M_233 rfl (Nat.le_of_ble_eq_true rfl) (xKd.of sh_mod) (by decide) c_233 ?_ (Nat.le_of_ble_eq_true rfl) rfl
  refine AT.iret M_298 rfl rfl ?_
  exact ⟨rfl, rfl⟩
theorem c_298x2 {X : XS} {s : Nat} (hs : s < 7) {q : Int32} (hp : q < 0 ∨ ¬ q < 8) : RT 298 [some (.ref 388), some (.int (Int32.ofNat s)), some (.int q)] X (some (.int 0)) (xSetT X 1) := by
  refine AT.aload_n M_298 rfl rfl ?_
  refine AT.iconst M_298 rfl (v := 0) (by decide) ?_
  refine AT.w11_2 M_298 rfl ?_
  refine AT.iload_n M_298 rfl rfl ?_
  refine AT.cs1i M_298 rfl M_234 rfl (Nat.le_of_ble_eq_true rfl) rfl (c_234 hs) ?_ (Nat.le_of_ble_eq_true rfl) rfl
  refine AT.if_eq M_298 rfl (fun b5 => absurd b5 (by decide)) (fun b5 => ?_)
  refine AT.iload_n M_298 rfl rfl ?_
  refine AT.cs1i M_298 rfl M_236 rfl (Nat.le_of_ble_eq_true rfl) rfl (c_236x hp) ?_ (Nat.le_of_ble_eq_true rfl) rfl
  refine AT.if_eq M_298 rfl (fun b8 => ?_) (fun b8 => absurd rfl b8)
  refine AT.aload_n M_298 rfl rfl ?_
  refine AT.iconst M_298 rfl (v := 1) (by decide) ?_
  refine AT.cv2i M_298 rfl M_233 rfl (Nat.le_of_ble_eq_true rfl) (xKd.of sh_mod) (by decide) c_233 ?_ (Nat.le_of_ble_eq_true rfl) rfl
  refine AT.iret M_298 rfl rfl ?_
  exact ⟨rfl, rfl⟩
theorem c_298 {X : XS} {s : Nat} (hs : s < 7) {j : Nat} (hj : j < 8) : RT 298 [some (.ref 388), some (.int (Int32.ofNat s)), some (.int (Int32.ofNat j))] X (some (.int ((xK X 2).1 19 s j))) (xSetT X 0) := by
  refine AT.aload_n M_298 rfl rfl ?_
  refine AT.iconst M_298 rfl (v := 0) (by decide) ?_
  refine AT.w11_2 M_298 rfl ?_
  refine AT.iload_n M_298 rfl rfl ?_
  refine AT.cs1i M_298 rfl M_234 rfl (Nat.le_of_ble_eq_true rfl) rfl (c_234 hs) ?_ (Nat.le_of_ble_eq_true rfl) rfl
  refine AT.if_eq M_298 rfl (fun b5 => absurd b5 (by decide)) (fun b5 => ?_)
  refine AT.iload_n M_298 rfl rfl ?_
  refine AT.cs1i M_298 rfl M_236 rfl (Nat.le_of_ble_eq_true rfl) rfl (c_236 hj) ?_ (Nat.le_of_ble_eq_true rfl) rfl
  refine AT.if_eq M_298 rfl (fun b8 => absurd b8 (by decide)) (fun b8 => ?_)
  refine AT.aload_n M_298 rfl rfl ?_
  refine AT.r11_0 M_298 rfl ?_
  refine AT.r10_17 M_298 rfl (show 2 ≤ 2 by omega) (show 2 < 4 by omega) ?_
  refine AT.iload_n M_298 rfl rfl ?_
  refine AT.rr_tab M_298 rfl rfl (show 2 ≤ 2 by omega) (show 2 < 4 by omega) (by assumption) ?_
  refine AT.iload_n M_298 rfl rfl ?_
  refine AT.ra_tab M_298 rfl (j := j) rfl (show 2 ≤ 2 by omega) (show 2 < 4 by omega) (by assumption) (by omega) ?_
  refine AT.goto M_298 rfl ?_
  refine AT.iret M_298 rfl rfl ?_
  exact ⟨rfl, rfl⟩
theorem c_299x1 {X : XS} {p q : Int32} (hp : p < 0 ∨ ¬ p < 7) : RT 299 [some (.ref 388), some (.int p), some (.int q)] X (some (.int 0)) (xSetT X 1) := by
  refine AT.aload_n M_299 rfl rfl ?_
  refine AT.iconst M_299 rfl (v := 0) (by decide) ?_
  refine AT.w11_2 M_299 rfl ?_
  refine AT.iload_n M_299 rfl rfl ?_
  refine AT.cs1i M_299 rfl M_234 rfl (Nat.le_of_ble_eq_true rfl) rfl (c_234x hp) ?_ (Nat.le_of_ble_eq_true rfl) rfl
  refine AT.if_eq M_299 rfl (fun b5 => ?_) (fun b5 => absurd rfl b5)
  refine AT.aload_n M_299 rfl rfl ?_
  refine AT.iconst M_299 rfl (v := 1) (by decide) ?_
  refine AT.cv2i M_299 rfl M_233 rfl (Nat.le_of_ble_eq_true rfl) (xKd.of sh_mod) (by decide) c_233 ?_ (Nat.le_of_ble_eq_true rfl) rfl
  refine AT.iret M_299 rfl rfl ?_
  exact ⟨rfl, rfl⟩
theorem c_299x2 {X : XS} {s : Nat} (hs : s < 7) {q : Int32} (hp : q < 0 ∨ ¬ q < 4) : RT 299 [some (.ref 388), some (.int (Int32.ofNat s)), some (.int q)] X (some (.int 0)) (xSetT X 1) := by
  refine AT.aload_n M_299 rfl rfl ?_
  refine AT.iconst M_299 rfl (v := 0) (by decide) ?_
  refine AT.w11_2 M_299 rfl ?_
  refine AT.iload_n M_299 rfl rfl ?_
  refine AT.cs1i M_299 rfl M_234 rfl (Nat.le_of_ble_eq_true rfl) rfl (c_234 hs) ?_ (Nat.le_of_ble_eq_true rfl) rfl
  refine AT.if_eq M_299 rfl (fun b5 => absurd b5 (by decide)) (fun b5 => ?_)
  refine AT.iload_n M_299 rfl rfl ?_
  refine AT.cs1i M_299 rfl M_235 rfl (Nat.le_of_ble_eq_true rfl) rfl (c_235x hp) ?_ (Nat.le_of_ble_eq_true rfl) rfl
  refine AT.if_eq M_299 rfl (fun b8 => ?_) (fun b8 => absurd rfl b8)
  refine AT.aload_n M_299 rfl rfl ?_
  refine AT.iconst M_299 rfl (v := 1) (by decide) ?_
  refine AT.cv2i M_299 rfl M_233 rfl (Nat.le_of_ble_eq_true rfl) (xKd.of sh_mod) (by decide) c_233 ?_ (Nat.le_of_ble_eq_true rfl) rfl
  refine AT.iret M_299 rfl rfl ?_
  exact ⟨rfl, rfl⟩
theorem c_299 {X : XS} {s : Nat} (hs : s < 7) {j : Nat} (hj : j < 4) : RT 299 [some (.ref 388), some (.int (Int32.ofNat s)), some (.int (Int32.ofNat j))] X (some (.int ((xK X 2).1 19 s (8 + j)))) (xSetT X 0) := by
  refine AT.aload_n M_299 rfl rfl ?_
  refine AT.iconst M_299 rfl (v := 0) (by decide) ?_
  refine AT.w11_2 M_299 rfl ?_
  refine AT.iload_n M_299 rfl rfl ?_
  refine AT.cs1i M_299 rfl M_234 rfl (Nat.le_of_ble_eq_true rfl) rfl (c_234 hs) ?_ (Nat.le_of_ble_eq_true rfl) rfl
  refine AT.if_eq M_299 rfl (fun b5 => absurd b5 (by decide)) (fun b5 => ?_)
  refine AT.iload_n M_299 rfl rfl ?_
  refine AT.cs1i M_299 rfl M_235 rfl (Nat.le_of_ble_eq_true rfl) rfl (c_235 hj) ?_ (Nat.le_of_ble_eq_true rfl) rfl
  refine AT.if_eq M_299 rfl (fun b8 => absurd b8 (by decide)) (fun b8 => ?_)
  refine AT.aload_n M_299 rfl rfl ?_
  refine AT.r11_0 M_299 rfl ?_
  refine AT.r10_17 M_299 rfl (show 2 ≤ 2 by omega) (show 2 < 4 by omega) ?_
  refine AT.iload_n M_299 rfl rfl ?_
  refine AT.rr_tab M_299 rfl rfl (show 2 ≤ 2 by omega) (show 2 < 4 by omega) (by assumption) ?_
  refine AT.bipush M_299 rfl (v := 8) (by decide) ?_
  refine AT.iload_n M_299 rfl rfl ?_
  refine AT.iadd M_299 rfl rfl ?_
  refine AT.ra_tab M_299 rfl (j := 8 + j) (Int32.ofNat_add 8 j).symm (show 2 ≤ 2 by omega) (show 2 < 4 by omega) (by assumption) (by omega) ?_
  refine AT.goto M_299 rfl ?_
  refine AT.iret M_299 rfl rfl ?_
  exact ⟨rfl, rfl⟩
theorem c_293x1 {X : XS} {p x y : Int32} (hp : p < 0 ∨ ¬ p < 7) : RT 293 [some (.ref 388), some (.int p), some (.int x), some (.int y)] X (some (.int 0)) (xSetT X 1) := by
  refine AT.aload_n M_293 rfl rfl ?_
  refine AT.iconst M_293 rfl (v := 0) (by decide) ?_
  refine AT.w11_2 M_293 rfl ?_
  refine AT.iload_n M_293 rfl rfl ?_
  refine AT.cs1i M_293 rfl M_234 rfl (Nat.le_of_ble_eq_true rfl) rfl (c_234x hp) ?_ (Nat.le_of_ble_eq_true rfl) rfl
  refine AT.if_eq M_293 rfl (fun b5 => ?_) (fun b5 => absurd rfl b5)
  refine AT.aload_n M_293 rfl rfl ?_
  refine AT.iconst M_293 rfl (v := 1) (by decide) ?_
  refine AT.cv2i M_293 rfl M_233 rfl (Nat.le_of_ble_eq_true rfl) (xKd.of sh_mod) (by decide) c_233 ?_ (Nat.le_of_ble_eq_true rfl) rfl
  refine AT.iret M_293 rfl rfl ?_
  exact ⟨rfl, rfl⟩
theorem c_293x2 {X : XS} {s : Nat} (hs : s < 7) {x y : Int32} (hno : sHasE (xK (xSetT X 0) 2) s x = false) : RT 293 [some (.ref 388), some (.int (Int32.ofNat s)), some (.int x), some (.int y)] X (some (.int 0)) (xSetT X 1) := by
  refine AT.aload_n M_293 rfl rfl ?_
  refine AT.iconst M_293 rfl (v := 0) (by decide) ?_
  refine AT.w11_2 M_293 rfl ?_
  refine AT.iload_n M_293 rfl rfl ?_
  refine AT.cs1i M_293 rfl M_234 rfl (Nat.le_of_ble_eq_true rfl) rfl (c_234 hs) ?_ (Nat.le_of_ble_eq_true rfl) rfl
  refine AT.if_eq M_293 rfl (fun b5 => absurd b5 (by decide)) (fun b5 => ?_)
  refine AT.aload_n M_293 rfl rfl ?_
  refine AT.r11_0 M_293 rfl ?_
  refine AT.iload_n M_293 rfl rfl ?_
  refine AT.iload_n M_293 rfl rfl ?_
  refine AT.cv3i M_293 rfl M_188 rfl (Nat.le_of_ble_eq_true rfl) (xKd.of (sh_st (o := 2) (by omega) (by omega))) (by decide) (c_188 (X := (xSetT X 0)) (o := 2) (by omega) (by omega) hs) ?_ (Nat.le_of_ble_eq_true rfl) rfl
  refine AT.if_eq M_293 rfl (fun b11 => ?_) (fun b11 => absurd (by rw [hno]; rfl) b11)
  refine AT.aload_n M_293 rfl rfl ?_
  refine AT.iconst M_293 rfl (v := 1) (by decide) ?_
  refine AT.cv2i M_293 rfl M_233 rfl (Nat.le_of_ble_eq_true rfl) (xKd.of sh_mod) (by decide) c_233 ?_ (Nat.le_of_ble_eq_true rfl) rfl
  refine AT.iret M_293 rfl rfl ?_
  exact ⟨rfl, rfl⟩
theorem c_293 {X : XS} {s : Nat} (hs : s < 7) {x y : Int32} {e : ENT} {c : Nat} (hw : kWf (xK X 2) s) (hx : sEnt (xK X 2) s x = some e) (hc : c < 7) (hcc : y = Int32.ofNat c) : RT 293 [some (.ref 388), some (.int (Int32.ofNat s)), some (.int x), some (.int y)] X (some (.int (e c))) (xSetT X 0) := by
  refine AT.aload_n M_293 rfl rfl ?_
  refine AT.iconst M_293 rfl (v := 0) (by decide) ?_
  refine AT.w11_2 M_293 rfl ?_
  refine AT.iload_n M_293 rfl rfl ?_
  refine AT.cs1i M_293 rfl M_234 rfl (Nat.le_of_ble_eq_true rfl) rfl (c_234 hs) ?_ (Nat.le_of_ble_eq_true rfl) rfl
  refine AT.if_eq M_293 rfl (fun b5 => absurd b5 (by decide)) (fun b5 => ?_)
  refine AT.aload_n M_293 rfl rfl ?_
  refine AT.r11_0 M_293 rfl ?_
  refine AT.iload_n M_293 rfl rfl ?_
  refine AT.iload_n M_293 rfl rfl ?_
  refine AT.cv3i M_293 rfl M_188 rfl (Nat.le_of_ble_eq_true rfl) (xKd.of (sh_st (o := 2) (by omega) (by omega))) (by decide) (c_188 (X := (xSetT X 0)) (o := 2) (by omega) (by omega) hs) ?_ (Nat.le_of_ble_eq_true rfl) rfl
  refine AT.if_eq M_293 rfl (fun b11 => absurd b11 (by rw [(sHasE_some (K := xK (xSetT X 0) 2) hw).mpr ⟨e, hx⟩]; decide)) (fun b11 => ?_)
  refine AT.aload_n M_293 rfl rfl ?_
  refine AT.r11_0 M_293 rfl ?_
  refine AT.iload_n M_293 rfl rfl ?_
  refine AT.iload_n M_293 rfl rfl ?_
  refine AT.iload_n M_293 rfl rfl ?_
  refine AT.cv4i M_293 rfl M_190 rfl (Nat.le_of_ble_eq_true rfl) (xKd.of (sh_st (o := 2) (by omega) (by omega))) (by decide) (c_190 (X := (xSetT X 0)) (o := 2) (by omega) (by omega) hs hx hw hc hcc) ?_ (Nat.le_of_ble_eq_true rfl) rfl
  refine AT.goto M_293 rfl ?_
  refine AT.iret M_293 rfl rfl ?_
  exact ⟨rfl, rfl⟩
theorem c_294 {X : XS} {s : Nat} (hs : s < 7) {x : Int32} {e : ENT} (hw : kWf (xK X 2) s) (hx : sEnt (xK X 2) s x = some e) : RT 294 [some (.ref 388), some (.int (Int32.ofNat s)), some (.int x)] X (some (.int (e 1))) (xSetT X 0) := by
  refine AT.aload_n M_294 rfl rfl ?_
  refine AT.iload_n M_294 rfl rfl ?_
  refine AT.iload_n M_294 rfl rfl ?_
  refine AT.iconst M_294 rfl (v := 1) (by decide) ?_
  refine AT.cv4i M_294 rfl M_293 rfl (Nat.le_of_ble_eq_true rfl) (xKd.of sh_mod) (by decide) (c_293 (c := 1) hs hw hx (by omega) rfl) ?_ (Nat.le_of_ble_eq_true rfl) rfl
  refine AT.iret M_294 rfl rfl ?_
  exact ⟨rfl, rfl⟩
theorem c_294x1 {X : XS} {p x : Int32} (hp : p < 0 ∨ ¬ p < 7) : RT 294 [some (.ref 388), some (.int p), some (.int x)] X (some (.int 0)) (xSetT X 1) := by
  refine AT.aload_n M_294 rfl rfl ?_
  refine AT.iload_n M_294 rfl rfl ?_
  refine AT.iload_n M_294 rfl rfl ?_
  refine AT.iconst M_294 rfl (v := 1) (by decide) ?_
  refine AT.cv4i M_294 rfl M_293 rfl (Nat.le_of_ble_eq_true rfl) (xKd.of sh_mod) (by decide) (c_293x1 hp) ?_ (Nat.le_of_ble_eq_true rfl) rfl
  refine AT.iret M_294 rfl rfl ?_
  exact ⟨rfl, rfl⟩
theorem c_294x2 {X : XS} {s : Nat} (hs : s < 7) {x : Int32} (hno : sHasE (xK X 2) s x = false) : RT 294 [some (.ref 388), some (.int (Int32.ofNat s)), some (.int x)] X (some (.int 0)) (xSetT X 1) := by
  refine AT.aload_n M_294 rfl rfl ?_
  refine AT.iload_n M_294 rfl rfl ?_
  refine AT.iload_n M_294 rfl rfl ?_
  refine AT.iconst M_294 rfl (v := 1) (by decide) ?_
  refine AT.cv4i M_294 rfl M_293 rfl (Nat.le_of_ble_eq_true rfl) (xKd.of sh_mod) (by decide) (c_293x2 hs hno) ?_ (Nat.le_of_ble_eq_true rfl) rfl
  refine AT.iret M_294 rfl rfl ?_
  exact ⟨rfl, rfl⟩
theorem c_296 {X : XS} {s : Nat} (hs : s < 7) {x : Int32} {e : ENT} (hw : kWf (xK X 2) s) (hx : sEnt (xK X 2) s x = some e) : RT 296 [some (.ref 388), some (.int (Int32.ofNat s)), some (.int x)] X (some (.int (e 2))) (xSetT X 0) := by
  refine AT.aload_n M_296 rfl rfl ?_
  refine AT.iload_n M_296 rfl rfl ?_
  refine AT.iload_n M_296 rfl rfl ?_
  refine AT.iconst M_296 rfl (v := 2) (by decide) ?_
  refine AT.cv4i M_296 rfl M_293 rfl (Nat.le_of_ble_eq_true rfl) (xKd.of sh_mod) (by decide) (c_293 (c := 2) hs hw hx (by omega) rfl) ?_ (Nat.le_of_ble_eq_true rfl) rfl
  refine AT.iret M_296 rfl rfl ?_
  exact ⟨rfl, rfl⟩
theorem c_296x1 {X : XS} {p x : Int32} (hp : p < 0 ∨ ¬ p < 7) : RT 296 [some (.ref 388), some (.int p), some (.int x)] X (some (.int 0)) (xSetT X 1) := by
  refine AT.aload_n M_296 rfl rfl ?_
  refine AT.iload_n M_296 rfl rfl ?_
  refine AT.iload_n M_296 rfl rfl ?_
  refine AT.iconst M_296 rfl (v := 2) (by decide) ?_
  refine AT.cv4i M_296 rfl M_293 rfl (Nat.le_of_ble_eq_true rfl) (xKd.of sh_mod) (by decide) (c_293x1 hp) ?_ (Nat.le_of_ble_eq_true rfl) rfl
  refine AT.iret M_296 rfl rfl ?_
  exact ⟨rfl, rfl⟩
theorem c_296x2 {X : XS} {s : Nat} (hs : s < 7) {x : Int32} (hno : sHasE (xK X 2) s x = false) : RT 296 [some (.ref 388), some (.int (Int32.ofNat s)), some (.int x)] X (some (.int 0)) (xSetT X 1) := by
  refine AT.aload_n M_296 rfl rfl ?_
  refine AT.iload_n M_296 rfl rfl ?_
  refine AT.iload_n M_296 rfl rfl ?_
  refine AT.iconst M_296 rfl (v := 2) (by decide) ?_
  refine AT.cv4i M_296 rfl M_293 rfl (Nat.le_of_ble_eq_true rfl) (xKd.of sh_mod) (by decide) (c_293x2 hs hno) ?_ (Nat.le_of_ble_eq_true rfl) rfl
  refine AT.iret M_296 rfl rfl ?_
  exact ⟨rfl, rfl⟩
theorem c_297 {X : XS} {s : Nat} (hs : s < 7) {x : Int32} {e : ENT} (hw : kWf (xK X 2) s) (hx : sEnt (xK X 2) s x = some e) : RT 297 [some (.ref 388), some (.int (Int32.ofNat s)), some (.int x)] X (some (.int (e 3))) (xSetT X 0) := by
  refine AT.aload_n M_297 rfl rfl ?_
  refine AT.iload_n M_297 rfl rfl ?_
  refine AT.iload_n M_297 rfl rfl ?_
  refine AT.iconst M_297 rfl (v := 3) (by decide) ?_
  refine AT.cv4i M_297 rfl M_293 rfl (Nat.le_of_ble_eq_true rfl) (xKd.of sh_mod) (by decide) (c_293 (c := 3) hs hw hx (by omega) rfl) ?_ (Nat.le_of_ble_eq_true rfl) rfl
  refine AT.iret M_297 rfl rfl ?_
  exact ⟨rfl, rfl⟩
theorem c_297x1 {X : XS} {p x : Int32} (hp : p < 0 ∨ ¬ p < 7) : RT 297 [some (.ref 388), some (.int p), some (.int x)] X (some (.int 0)) (xSetT X 1) := by
  refine AT.aload_n M_297 rfl rfl ?_
  refine AT.iload_n M_297 rfl rfl ?_
  refine AT.iload_n M_297 rfl rfl ?_
  refine AT.iconst M_297 rfl (v := 3) (by decide) ?_
  refine AT.cv4i M_297 rfl M_293 rfl (Nat.le_of_ble_eq_true rfl) (xKd.of sh_mod) (by decide) (c_293x1 hp) ?_ (Nat.le_of_ble_eq_true rfl) rfl
  refine AT.iret M_297 rfl rfl ?_
  exact ⟨rfl, rfl⟩
theorem c_297x2 {X : XS} {s : Nat} (hs : s < 7) {x : Int32} (hno : sHasE (xK X 2) s x = false) : RT 297 [some (.ref 388), some (.int (Int32.ofNat s)), some (.int x)] X (some (.int 0)) (xSetT X 1) := by
  refine AT.aload_n M_297 rfl rfl ?_
  refine AT.iload_n M_297 rfl rfl ?_
  refine AT.iload_n M_297 rfl rfl ?_
  refine AT.iconst M_297 rfl (v := 3) (by decide) ?_
  refine AT.cv4i M_297 rfl M_293 rfl (Nat.le_of_ble_eq_true rfl) (xKd.of sh_mod) (by decide) (c_293x2 hs hno) ?_ (Nat.le_of_ble_eq_true rfl) rfl
  refine AT.iret M_297 rfl rfl ?_
  exact ⟨rfl, rfl⟩
