/-! ===== THE TWIN: moves ===== -/
theorem c_243x1 {X : XS} {p : Int32} (hp : p < 0 ∨ ¬ p < 7) : RT 243 [some (.ref 388), some (.int p)] X (some (.int 0)) (xSetT X 1) := by
  refine AT.aload_n M_243 rfl rfl ?_
  refine AT.iconst M_243 rfl (v := 0) (by decide) ?_
  refine AT.w11_2 M_243 rfl ?_
  refine AT.iload_n M_243 rfl rfl ?_
  refine AT.cs1i M_243 rfl M_234 rfl (Nat.le_of_ble_eq_true rfl) rfl (c_234x hp) ?_ (Nat.le_of_ble_eq_true rfl) rfl
  refine AT.if_ne M_243 rfl (fun b5 => absurd rfl b5) (fun b5 => ?_)
  refine AT.aload_n M_243 rfl rfl ?_
  refine AT.iconst M_243 rfl (v := 1) (by decide) ?_
  refine AT.cv2i M_243 rfl M_233 rfl (Nat.le_of_ble_eq_true rfl) (xKd.of sh_mod) (by decide) c_233 ?_ (Nat.le_of_ble_eq_true rfl) rfl
  refine AT.iret M_243 rfl rfl ?_
  exact ⟨rfl, rfl⟩
theorem c_243x2 {X : XS} {s : Nat} (hs : s < 7) (hup : (xK X 2).1 4 s 0 = 0) : RT 243 [some (.ref 388), some (.int (Int32.ofNat s))] X (some (.int 0)) (xSetT X 2) := by
  refine AT.aload_n M_243 rfl rfl ?_
  refine AT.iconst M_243 rfl (v := 0) (by decide) ?_
  refine AT.w11_2 M_243 rfl ?_
  refine AT.iload_n M_243 rfl rfl ?_
  refine AT.cs1i M_243 rfl M_234 rfl (Nat.le_of_ble_eq_true rfl) rfl (c_234 hs) ?_ (Nat.le_of_ble_eq_true rfl) rfl
  refine AT.if_ne M_243 rfl (fun b5 => ?_) (fun b5 => absurd b5 (by decide))
  refine AT.aload_n M_243 rfl rfl ?_
  refine AT.r11_0 M_243 rfl ?_
  refine AT.r10_2 M_243 rfl (show 2 ≤ 2 by omega) (show 2 < 4 by omega) ?_
  refine AT.iload_n M_243 rfl rfl ?_
  refine AT.ra_4 M_243 rfl rfl (show 2 ≤ 2 by omega) (show 2 < 4 by omega) (by assumption) ?_
  refine AT.if_ne M_243 rfl (fun b15 => absurd hup b15) (fun b15 => ?_)
  refine AT.aload_n M_243 rfl rfl ?_
  refine AT.iconst M_243 rfl (v := 2) (by decide) ?_
  refine AT.cv2i M_243 rfl M_233 rfl (Nat.le_of_ble_eq_true rfl) (xKd.of sh_mod) (by decide) c_233 ?_ (Nat.le_of_ble_eq_true rfl) rfl
  refine AT.iret M_243 rfl rfl ?_
  exact ⟨rfl, rfl⟩
theorem c_243 {X : XS} {s : Nat} (hs : s < 7) {m : Nat} (hap : aPr X 2) (hup : ¬ (xK X 2).1 4 s 0 = 0) : RU 243 [some (.ref 388), some (.int (Int32.ofNat s))] X (some (.int (sUp (kDown (xK X 2) s)))) (fun Y => rRel0 2 m 0 0 (xSetT X 0) Y (kDown (xK X 2) s) ∧ aPr Y 2) := by
  refine AT.aload_n M_243 rfl rfl ?_
  refine AT.iconst M_243 rfl (v := 0) (by decide) ?_
  refine AT.w11_2 M_243 rfl ?_
  try simp only [xK_same, xSetK_idem, xD_setK, xSetD_setK]
  refine AT.iload_n M_243 rfl rfl ?_
  refine AT.cs1i M_243 rfl M_234 rfl (Nat.le_of_ble_eq_true rfl) rfl (c_234 hs) ?_ (Nat.le_of_ble_eq_true rfl) rfl
  try simp only [xK_same, xSetK_idem, xD_setK, xSetD_setK]
  refine AT.if_ne M_243 rfl (fun b5 => ?_) (fun b5 => absurd b5 (by decide))
  refine AT.aload_n M_243 rfl rfl ?_
  refine AT.r11_0 M_243 rfl ?_
  refine AT.r10_2 M_243 rfl (show 2 ≤ 2 by omega) (show 2 < 4 by omega) ?_
  refine AT.iload_n M_243 rfl rfl ?_
  refine AT.ra_4 M_243 rfl rfl (show 2 ≤ 2 by omega) (show 2 < 4 by omega) (by assumption) ?_
  refine AT.if_ne M_243 rfl (fun b15 => ?_) (fun b15 => absurd (Classical.not_not.mp b15) hup)
  refine AT.aload_n M_243 rfl rfl ?_
  refine AT.r11_0 M_243 rfl ?_
  refine AT.r10_2 M_243 rfl (show 2 ≤ 2 by omega) (show 2 < 4 by omega) ?_
  refine AT.iload_n M_243 rfl rfl ?_
  refine AT.iconst M_243 rfl (v := 0) (by decide) ?_
  refine AT.rs_4 M_243 rfl rfl (by first | exact Or.inl rfl | exact Or.inr rfl | assumption) (show 2 ≤ 2 by omega) (show 2 < 4 by omega) (by assumption) ?_
  try simp only [xK_same, xSetK_idem, xD_setK, xSetD_setK]
  refine AT.aload_n M_243 rfl rfl ?_
  refine AT.r11_0 M_243 rfl ?_
  refine AT.iload_n M_243 rfl rfl ?_
  refine AT.cv20 M_243 rfl M_183 rfl (Nat.le_of_ble_eq_true rfl) (xKd.of (sh_st (o := 2) (by omega) (by omega))) (by decide) (c_183 (o := 2) (by omega) (by omega) hs) ?_ (Nat.le_of_ble_eq_true rfl) rfl
  try simp only [xK_same, xSetK_idem, xD_setK, xSetD_setK]
  refine AT.aload_n M_243 rfl rfl ?_
  refine AT.cv1i M_243 rfl M_239 rfl (Nat.le_of_ble_eq_true rfl) (xKd.of sh_mod) (by decide) c_239 ?_ (Nat.le_of_ble_eq_true rfl) rfl
  try simp only [xK_same, xSetK_idem, xD_setK, xSetD_setK]
  refine AT.iret M_243 rfl rfl ?_
  refine ⟨rfl, (((rRel0.rf 2 m (xSetT X 0)).priv 20 s 0 _).net _), fun i hi => ?_⟩
  rw [xK_same]
  show (if 2 = 2 ∧ 20 = 20 ∧ i = s ∧ 0 = 0 then _ else dV (xD X) 2 20 i 0) = _
  rw [kRest_v, if_neg (show ¬ (15 = 19 ∧ i = s) by omega)]
  by_cases e : i = s
  · rw [if_pos ⟨rfl, rfl, e, rfl⟩, if_pos ⟨rfl, e, rfl⟩]
  · rw [if_neg (fun z => e z.2.2.1), if_neg (fun z => e z.2.1), if_neg (show ¬ (15 = 14 ∧ i = s ∧ 0 = 0) by omega), if_neg (show ¬ (15 = 13 ∧ i = s ∧ 0 = 0) by omega), if_neg (show ¬ (15 = 12 ∧ i = s ∧ 0 = 0) by omega), kSet_ne (by omega)]
    exact hap i hi
theorem c_244x1 {X : XS} {p : Int32} (hp : p < 0 ∨ ¬ p < 7) : RT 244 [some (.ref 388), some (.int p)] X (some (.int 0)) (xSetT X 1) := by
  refine AT.aload_n M_244 rfl rfl ?_
  refine AT.iconst M_244 rfl (v := 0) (by decide) ?_
  refine AT.w11_2 M_244 rfl ?_
  refine AT.iload_n M_244 rfl rfl ?_
  refine AT.cs1i M_244 rfl M_234 rfl (Nat.le_of_ble_eq_true rfl) rfl (c_234x hp) ?_ (Nat.le_of_ble_eq_true rfl) rfl
  refine AT.if_ne M_244 rfl (fun b5 => absurd rfl b5) (fun b5 => ?_)
  refine AT.aload_n M_244 rfl rfl ?_
  refine AT.iconst M_244 rfl (v := 1) (by decide) ?_
  refine AT.cv2i M_244 rfl M_233 rfl (Nat.le_of_ble_eq_true rfl) (xKd.of sh_mod) (by decide) c_233 ?_ (Nat.le_of_ble_eq_true rfl) rfl
  refine AT.iret M_244 rfl rfl ?_
  exact ⟨rfl, rfl⟩
theorem c_244x2 {X : XS} {s : Nat} (hs : s < 7) (hup : ¬ (xK X 2).1 4 s 0 = 0) : RT 244 [some (.ref 388), some (.int (Int32.ofNat s))] X (some (.int 0)) (xSetT X 2) := by
  refine AT.aload_n M_244 rfl rfl ?_
  refine AT.iconst M_244 rfl (v := 0) (by decide) ?_
  refine AT.w11_2 M_244 rfl ?_
  refine AT.iload_n M_244 rfl rfl ?_
  refine AT.cs1i M_244 rfl M_234 rfl (Nat.le_of_ble_eq_true rfl) rfl (c_234 hs) ?_ (Nat.le_of_ble_eq_true rfl) rfl
  refine AT.if_ne M_244 rfl (fun b5 => ?_) (fun b5 => absurd b5 (by decide))
  refine AT.aload_n M_244 rfl rfl ?_
  refine AT.r11_0 M_244 rfl ?_
  refine AT.r10_2 M_244 rfl (show 2 ≤ 2 by omega) (show 2 < 4 by omega) ?_
  refine AT.iload_n M_244 rfl rfl ?_
  refine AT.ra_4 M_244 rfl rfl (show 2 ≤ 2 by omega) (show 2 < 4 by omega) (by assumption) ?_
  refine AT.if_eq M_244 rfl (fun b15 => absurd b15 hup) (fun b15 => ?_)
  refine AT.aload_n M_244 rfl rfl ?_
  refine AT.iconst M_244 rfl (v := 2) (by decide) ?_
  refine AT.cv2i M_244 rfl M_233 rfl (Nat.le_of_ble_eq_true rfl) (xKd.of sh_mod) (by decide) c_233 ?_ (Nat.le_of_ble_eq_true rfl) rfl
  refine AT.iret M_244 rfl rfl ?_
  exact ⟨rfl, rfl⟩
theorem c_244 {X : XS} {s : Nat} (hs : s < 7) {m : Nat} (hap : aPr X 2) (hup : (xK X 2).1 4 s 0 = 0) : RU 244 [some (.ref 388), some (.int (Int32.ofNat s))] X (some (.int (sUp (kSet (xK X 2) 4 s 0 1)))) (fun Y => rRel0 2 m 0 0 (xSetT X 0) Y (kSet (xK X 2) 4 s 0 1) ∧ aPr Y 2) := by
  refine AT.aload_n M_244 rfl rfl ?_
  refine AT.iconst M_244 rfl (v := 0) (by decide) ?_
  refine AT.w11_2 M_244 rfl ?_
  try simp only [xK_same, xSetK_idem, xD_setK, xSetD_setK]
  refine AT.iload_n M_244 rfl rfl ?_
  refine AT.cs1i M_244 rfl M_234 rfl (Nat.le_of_ble_eq_true rfl) rfl (c_234 hs) ?_ (Nat.le_of_ble_eq_true rfl) rfl
  try simp only [xK_same, xSetK_idem, xD_setK, xSetD_setK]
  refine AT.if_ne M_244 rfl (fun b5 => ?_) (fun b5 => absurd b5 (by decide))
  refine AT.aload_n M_244 rfl rfl ?_
  refine AT.r11_0 M_244 rfl ?_
  refine AT.r10_2 M_244 rfl (show 2 ≤ 2 by omega) (show 2 < 4 by omega) ?_
  refine AT.iload_n M_244 rfl rfl ?_
  refine AT.ra_4 M_244 rfl rfl (show 2 ≤ 2 by omega) (show 2 < 4 by omega) (by assumption) ?_
  refine AT.if_eq M_244 rfl (fun b15 => ?_) (fun b15 => absurd hup b15)
  refine AT.aload_n M_244 rfl rfl ?_
  refine AT.r11_0 M_244 rfl ?_
  refine AT.r10_2 M_244 rfl (show 2 ≤ 2 by omega) (show 2 < 4 by omega) ?_
  refine AT.iload_n M_244 rfl rfl ?_
  refine AT.iconst M_244 rfl (v := 1) (by decide) ?_
  refine AT.rs_4 M_244 rfl rfl (by first | exact Or.inl rfl | exact Or.inr rfl | assumption) (show 2 ≤ 2 by omega) (show 2 < 4 by omega) (by assumption) ?_
  try simp only [xK_same, xSetK_idem, xD_setK, xSetD_setK]
  refine AT.aload_n M_244 rfl rfl ?_
  refine AT.cv1i M_244 rfl M_239 rfl (Nat.le_of_ble_eq_true rfl) (xKd.of sh_mod) (by decide) c_239 ?_ (Nat.le_of_ble_eq_true rfl) rfl
  try simp only [xK_same, xSetK_idem, xD_setK, xSetD_setK]
  refine AT.iret M_244 rfl rfl ?_
  refine ⟨rfl, rRel0.set 2 m (xSetT X 0) _, fun i hi => ?_⟩
  rw [xK_same]
  exact (hap i hi).trans (kSet_ne (by omega)).symm
theorem c_249x1 {X : XS} {p : Int32} (hp : p < 0 ∨ ¬ p < 7) : RT 249 [some (.ref 388), some (.int p)] X (some (.int 0)) (xSetT X 1) := by
  refine AT.aload_n M_249 rfl rfl ?_
  refine AT.iconst M_249 rfl (v := 0) (by decide) ?_
  refine AT.w11_2 M_249 rfl ?_
  refine AT.iload_n M_249 rfl rfl ?_
  refine AT.cs1i M_249 rfl M_234 rfl (Nat.le_of_ble_eq_true rfl) rfl (c_234x hp) ?_ (Nat.le_of_ble_eq_true rfl) rfl
  refine AT.if_ne M_249 rfl (fun b5 => absurd rfl b5) (fun b5 => ?_)
  refine AT.aload_n M_249 rfl rfl ?_
  refine AT.iconst M_249 rfl (v := 1) (by decide) ?_
  refine AT.cv2i M_249 rfl M_233 rfl (Nat.le_of_ble_eq_true rfl) (xKd.of sh_mod) (by decide) c_233 ?_ (Nat.le_of_ble_eq_true rfl) rfl
  refine AT.iret M_249 rfl rfl ?_
  exact ⟨rfl, rfl⟩
theorem c_249x2 {X : XS} {s : Nat} (hs : s < 7) (hk : sOk (xK X 2) s) (hb : sMayS (xK X 2) s = false) : RT 249 [some (.ref 388), some (.int (Int32.ofNat s))] X (some (.int 0)) (xSetT X 2) := by
  refine AT.aload_n M_249 rfl rfl ?_
  refine AT.iconst M_249 rfl (v := 0) (by decide) ?_
  refine AT.w11_2 M_249 rfl ?_
  refine AT.iload_n M_249 rfl rfl ?_
  refine AT.cs1i M_249 rfl M_234 rfl (Nat.le_of_ble_eq_true rfl) rfl (c_234 hs) ?_ (Nat.le_of_ble_eq_true rfl) rfl
  refine AT.if_ne M_249 rfl (fun b5 => ?_) (fun b5 => absurd b5 (by decide))
  refine AT.aload_n M_249 rfl rfl ?_
  refine AT.r11_0 M_249 rfl ?_
  refine AT.iload_n M_249 rfl rfl ?_
  refine AT.cv2i M_249 rfl M_226 rfl (Nat.le_of_ble_eq_true rfl) (xKd.of (sh_st (o := 2) (by omega) (by omega))) (by decide) (c_226 (X := (xSetT X 0)) (o := 2) (by omega) (by omega) hs hk) ?_ (Nat.le_of_ble_eq_true rfl) rfl
  refine AT.if_ne M_249 rfl (fun b14 => absurd (by rw [show sMayS (xK (xSetT X 0) 2) s = false from hb]; rfl) b14) (fun b14 => ?_)
  refine AT.aload_n M_249 rfl rfl ?_
  refine AT.iconst M_249 rfl (v := 2) (by decide) ?_
  refine AT.cv2i M_249 rfl M_233 rfl (Nat.le_of_ble_eq_true rfl) (xKd.of sh_mod) (by decide) c_233 ?_ (Nat.le_of_ble_eq_true rfl) rfl
  refine AT.iret M_249 rfl rfl ?_
  exact ⟨rfl, rfl⟩
theorem c_249 {X : XS} {s : Nat} (hs : s < 7) {m : Nat} (hk : sOk (xK X 2) s) (hB : kA (xK X 2) s + ((xK X 2).2.1 s).length + 1 < 400000) (hR : rOkR X 2) (hap : aPr X 2) (hn : ((xK X 2).2.1 s).length + 1 ≤ m) (hb : sMayS (xK X 2) s = true) : RU 249 [some (.ref 388), some (.int (Int32.ofNat s))] X (some (.int ((kSoundA (xK X 2) s).1 12 s 0))) (fun Y => rRel0 2 m (kSoundN (xK X 2) s) (kSoundN (xK X 2) s * 7) (xSetT X 0) Y (kSoundA (xK X 2) s) ∧ aPr Y 2) := by
  refine AT.aload_n M_249 rfl rfl ?_
  refine AT.iconst M_249 rfl (v := 0) (by decide) ?_
  refine AT.w11_2 M_249 rfl ?_
  refine AT.iload_n M_249 rfl rfl ?_
  refine AT.cs1i M_249 rfl M_234 rfl (Nat.le_of_ble_eq_true rfl) rfl (c_234 hs) ?_ (Nat.le_of_ble_eq_true rfl) rfl
  refine AT.if_ne M_249 rfl (fun b5 => ?_) (fun b5 => absurd b5 (by decide))
  refine AT.aload_n M_249 rfl rfl ?_
  refine AT.r11_0 M_249 rfl ?_
  refine AT.iload_n M_249 rfl rfl ?_
  refine AT.cv2i M_249 rfl M_226 rfl (Nat.le_of_ble_eq_true rfl) (xKd.of (sh_st (o := 2) (by omega) (by omega))) (by decide) (c_226 (X := (xSetT X 0)) (o := 2) (by omega) (by omega) hs hk) ?_ (Nat.le_of_ble_eq_true rfl) rfl
  refine AT.if_ne M_249 rfl (fun b14 => ?_) (fun b14 => absurd (Classical.not_not.mp b14) (by rw [show sMayS (xK (xSetT X 0) 2) s = true from hb]; decide))
  refine AT.aload_n M_249 rfl rfl ?_
  refine AT.r11_0 M_249 rfl ?_
  refine AT.iload_n M_249 rfl rfl ?_
  refine AT.cv2w M_249 rfl M_204 rfl (Nat.le_of_ble_eq_true rfl) (xKd.of (sh_st (o := 2) (by omega) (by omega))) (by decide) (c_204 (X := (xSetT X 0)) (o := 2) (n := m) (by omega) (by omega) hs hk hB hR hap hn) (fun Y hc22 => ?_) (Nat.le_of_ble_eq_true rfl) rfl
  have r1 := hc22
  refine AT.aload_n M_249 rfl rfl ?_
  refine AT.r11_0 M_249 rfl ?_
  refine AT.r10_5 M_249 rfl (show 2 ≤ 2 by omega) (show 2 < 4 by omega) ?_
  refine AT.iload_n M_249 rfl rfl ?_
  refine AT.ra_12 M_249 rfl rfl (show 2 ≤ 2 by omega) (show 2 < 4 by omega) (by assumption) ?_
  refine AT.iret M_249 rfl rfl ?_
  rw [r1.k]
  exact ⟨rfl, r1.1, r1.2.2⟩
theorem c_250x1 {X : XS} {p : Int32} (hp : p < 0 ∨ ¬ p < 7) : RT 250 [some (.ref 388), some (.int p)] X (some (.int 0)) (xSetT X 1) := by
  refine AT.aload_n M_250 rfl rfl ?_
  refine AT.iconst M_250 rfl (v := 0) (by decide) ?_
  refine AT.w11_2 M_250 rfl ?_
  refine AT.iload_n M_250 rfl rfl ?_
  refine AT.cs1i M_250 rfl M_234 rfl (Nat.le_of_ble_eq_true rfl) rfl (c_234x hp) ?_ (Nat.le_of_ble_eq_true rfl) rfl
  refine AT.if_ne M_250 rfl (fun b5 => absurd rfl b5) (fun b5 => ?_)
  refine AT.aload_n M_250 rfl rfl ?_
  refine AT.iconst M_250 rfl (v := 1) (by decide) ?_
  refine AT.cv2i M_250 rfl M_233 rfl (Nat.le_of_ble_eq_true rfl) (xKd.of sh_mod) (by decide) c_233 ?_ (Nat.le_of_ble_eq_true rfl) rfl
  refine AT.iret M_250 rfl rfl ?_
  exact ⟨rfl, rfl⟩
theorem c_250x2 {X : XS} {s : Nat} (hs : s < 7) (hb : ¬ (xK X 2).1 12 s 0 = 3) : RT 250 [some (.ref 388), some (.int (Int32.ofNat s))] X (some (.int 0)) (xSetT X 2) := by
  refine AT.aload_n M_250 rfl rfl ?_
  refine AT.iconst M_250 rfl (v := 0) (by decide) ?_
  refine AT.w11_2 M_250 rfl ?_
  refine AT.iload_n M_250 rfl rfl ?_
  refine AT.cs1i M_250 rfl M_234 rfl (Nat.le_of_ble_eq_true rfl) rfl (c_234 hs) ?_ (Nat.le_of_ble_eq_true rfl) rfl
  refine AT.if_ne M_250 rfl (fun b5 => ?_) (fun b5 => absurd b5 (by decide))
  refine AT.aload_n M_250 rfl rfl ?_
  refine AT.iload_n M_250 rfl rfl ?_
  refine AT.cv2i M_250 rfl M_241 rfl (Nat.le_of_ble_eq_true rfl) (xKd.of sh_mod) (by decide) (c_241 (X := (xSetT X 0)) hs) ?_ (Nat.le_of_ble_eq_true rfl) rfl
  refine AT.if_eq M_250 rfl (fun b13 => ?_) (fun b13 => absurd (by rw [show decide ((xK (xSetT X 0) 2).1 12 s 0 = 3) = false from decide_eq_false hb]; rfl) b13)
  refine AT.aload_n M_250 rfl rfl ?_
  refine AT.iconst M_250 rfl (v := 2) (by decide) ?_
  refine AT.cv2i M_250 rfl M_233 rfl (Nat.le_of_ble_eq_true rfl) (xKd.of sh_mod) (by decide) c_233 ?_ (Nat.le_of_ble_eq_true rfl) rfl
  refine AT.iret M_250 rfl rfl ?_
  exact ⟨rfl, rfl⟩
theorem c_250 {X : XS} {s : Nat} (hs : s < 7) {m : Nat} (hk : sOk (xK X 2) s) (hap : aPr X 2) (hb : (xK X 2).1 12 s 0 = 3) (hN : ∀ q, q < 7 → kNx (xK X 2) s q) : RU 250 [some (.ref 388), some (.int (Int32.ofNat s))] X (some (.int (sCntF (sToP s (sMem (xK X 2) s)) 7))) (fun Y => rRel0 2 m 0 0 (xSetT X 0) Y (kSnd (xK X 2) s) ∧ aPr Y 2) := by
  refine AT.aload_n M_250 rfl rfl ?_
  refine AT.iconst M_250 rfl (v := 0) (by decide) ?_
  refine AT.w11_2 M_250 rfl ?_
  refine AT.iload_n M_250 rfl rfl ?_
  refine AT.cs1i M_250 rfl M_234 rfl (Nat.le_of_ble_eq_true rfl) rfl (c_234 hs) ?_ (Nat.le_of_ble_eq_true rfl) rfl
  refine AT.if_ne M_250 rfl (fun b5 => ?_) (fun b5 => absurd b5 (by decide))
  refine AT.aload_n M_250 rfl rfl ?_
  refine AT.iload_n M_250 rfl rfl ?_
  refine AT.cv2i M_250 rfl M_241 rfl (Nat.le_of_ble_eq_true rfl) (xKd.of sh_mod) (by decide) (c_241 (X := (xSetT X 0)) hs) ?_ (Nat.le_of_ble_eq_true rfl) rfl
  refine AT.if_eq M_250 rfl (fun b13 => absurd b13 (by rw [show decide ((xK (xSetT X 0) 2).1 12 s 0 = 3) = true from decide_eq_true hb]; decide)) (fun b13 => ?_)
  refine AT.aload_n M_250 rfl rfl ?_
  refine AT.r11_0 M_250 rfl ?_
  refine AT.iload_n M_250 rfl rfl ?_
  refine AT.cv2u M_250 rfl M_202 rfl (Nat.le_of_ble_eq_true rfl) (xKd.of (sh_st (o := 2) (by omega) (by omega))) (by decide) (c_202 (X := (xSetT X 0)) (o := 2) (m := m) (by omega) (by omega) hs hk.wf hN) (fun Y hc17 => ?_) (Nat.le_of_ble_eq_true rfl) rfl
  obtain ⟨r1, k1⟩ := hc17
  have r2 := r1.sm k1 hap (fun i hi => kSnd_1 _ _ (by omega))
  refine AT.goto M_250 rfl ?_
  refine AT.iret M_250 rfl rfl ?_
  exact ⟨rfl, r2.1, r2.2.2⟩
