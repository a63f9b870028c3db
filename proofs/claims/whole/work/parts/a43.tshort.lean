/-! ===== THE TWIN: shorten ===== -/
theorem cpy_tab {X : XS} {o s : Nat} {r : ENT} (h2 : 2 ≤ o) (h4 : o < 4) (hs : s < 7) (hr : ∀ q, q < 16 → (xK X o).1 19 s q = r (3 + q)) : RT 180 [some (.ref (bB o + 24 + s)), some (.ref (bB o + 16 + s))] X none (xSetK X o (kSnt (xK X o) s r)) := by
  refine c_180 (n := 16) (kd := 12) (v := fun q => r (3 + q)) (src.loc (f := 19) (fi := fun _ => s) (fj := fun q => q) (sh_tab h2 h4 hs) (by omega) (by omega) (fun q hq => by rw [Nat.zero_add]; exact lo_tab h2 h4 hs hq) (fun q hq => hr q hq)) (fun g hg => (hg.2.1 _ _ _ (sh_tab h2 h4 hs)).2 (by omega))
    (dst.num (f := 18) (fi := fun _ => s) (fj := fun q => 3 + q) (sh_snt h2 h4 hs) (by omega) (by omega) (fun q hq => by rw [Nat.zero_add]; exact lo_snt h2 h4 hs hq) rfl (fun z => by omega) (fun z => by omega) rfl (fun q hq => if_pos ⟨rfl, rfl, by omega, by omega⟩) (fun f' i' j' hne => if_neg (fun z => hne (j' - 3) (by omega) ⟨z.1, z.2.1, by omega⟩))) (by omega) (Or.inl rfl)
theorem kAgr_cut {K KY : KK} {s n : Nat} {r : ENT} (hY : KY = kLog K s ((K.2.1 s).drop n)) :
    kAgr (kSnt (kSet (kSet (kSet KY 18 s 0 (r 0)) 18 s 1 (r 1)) 18 s 2 (r 2)) s r) (kCut K s n r) := by
  subst hY
  refine ⟨fun f i j h => ?_, fun i hi => rfl, rfl⟩
  show (if f = 18 ∧ i = s then r j else K.1 f i j) = if f = 18 ∧ i = s ∧ 3 ≤ j ∧ j < 19 then r j else _
  by_cases h18 : f = 18 ∧ i = s
  · rw [if_pos h18, h18.1, h18.2]
    have hj : j < 19 := by unfold kRl at h; omega
    by_cases e : 3 ≤ j
    · rw [if_pos ⟨rfl, rfl, e, hj⟩]
    · rw [if_neg (fun z => e z.2.2.1)]
      rcases (by omega : j = 0 ∨ j = 1 ∨ j = 2) with rfl | rfl | rfl
      · rw [kSet_ne (by omega), kSet_ne (by omega), kSet_at]
      · rw [kSet_ne (by omega), kSet_at]
      · rw [kSet_at]
  · rw [if_neg h18, if_neg (fun z => h18 ⟨z.1, z.2.1⟩), kSet_ne (fun z => h18 ⟨z.1, z.2.1⟩), kSet_ne (fun z => h18 ⟨z.1, z.2.1⟩), kSet_ne (fun z => h18 ⟨z.1, z.2.1⟩)]
    rfl
theorem c_251x1 {X : XS} {p : Int32} (hp : p < 0 ∨ ¬ p < 7) : RT 251 [some (.ref 388), some (.int p), none, none, none, none] X (some (.int 0)) (xSetT X 1) := by
  refine AT.aload_n M_251 rfl rfl ?_
  refine AT.iconst M_251 rfl (v := 0) (by decide) ?_
  refine AT.w11_2 M_251 rfl ?_
  refine AT.iload_n M_251 rfl rfl ?_
  refine AT.cs1i M_251 rfl M_234 rfl (Nat.le_of_ble_eq_true rfl) rfl (c_234x hp) ?_ (Nat.le_of_ble_eq_true rfl) rfl
  refine AT.if_ne M_251 rfl (fun b5 => absurd rfl b5) (fun b5 => ?_)
  refine AT.aload_n M_251 rfl rfl ?_
  refine AT.iconst M_251 rfl (v := 1) (by decide) ?_
  refine AT.cv2i M_251 rfl M_233 rfl (Nat.le_of_ble_eq_true rfl) (xKd.of sh_mod) (by decide) c_233 ?_ (Nat.le_of_ble_eq_true rfl) rfl
  refine AT.iret M_251 rfl rfl ?_
  exact ⟨rfl, rfl⟩
theorem c_251x2 {X : XS} {s : Nat} (hs : s < 7) (hap : aPr X 2) (hup : (xK X 2).1 4 s 0 = 0) : RT 251 [some (.ref 388), some (.int (Int32.ofNat s)), none, none, none, none] X (some (.int 0)) (xSetT X 2) := by
  refine AT.aload_n M_251 rfl rfl ?_
  refine AT.iconst M_251 rfl (v := 0) (by decide) ?_
  refine AT.w11_2 M_251 rfl ?_
  refine AT.iload_n M_251 rfl rfl ?_
  refine AT.cs1i M_251 rfl M_234 rfl (Nat.le_of_ble_eq_true rfl) rfl (c_234 hs) ?_ (Nat.le_of_ble_eq_true rfl) rfl
  refine AT.if_ne M_251 rfl (fun b5 => ?_) (fun b5 => absurd b5 (by decide))
  refine AT.aload_n M_251 rfl rfl ?_
  refine AT.r11_0 M_251 rfl ?_
  refine AT.r10_9 M_251 rfl (show 2 ≤ 2 by omega) (show 2 < 4 by omega) ?_
  refine AT.iload_n M_251 rfl rfl ?_
  refine AT.ra_20 M_251 rfl rfl (show 2 ≤ 2 by omega) (show 2 < 4 by omega) (by assumption) ?_
  rw [show dV (xD (xSetT X 0)) 2 20 s 0 = (xK X 2).1 15 s 0 from hap s hs]
  refine AT.ist2 M_251 rfl rfl ?_
  refine AT.aload_n M_251 rfl rfl ?_
  refine AT.r11_0 M_251 rfl ?_
  refine AT.r10_2 M_251 rfl (show 2 ≤ 2 by omega) (show 2 < 4 by omega) ?_
  refine AT.iload_n M_251 rfl rfl ?_
  refine AT.ra_4 M_251 rfl rfl (show 2 ≤ 2 by omega) (show 2 < 4 by omega) (by assumption) ?_
  refine AT.if_eq M_251 rfl (fun b21 => ?_) (fun b21 => absurd hup b21)
  refine AT.aload_n M_251 rfl rfl ?_
  refine AT.iconst M_251 rfl (v := 2) (by decide) ?_
  refine AT.cv2i M_251 rfl M_233 rfl (Nat.le_of_ble_eq_true rfl) (xKd.of sh_mod) (by decide) c_233 ?_ (Nat.le_of_ble_eq_true rfl) rfl
  refine AT.iret M_251 rfl rfl ?_
  exact ⟨rfl, rfl⟩
theorem c_251x3 {X : XS} {s : Nat} (hs : s < 7) (hap : aPr X 2) (hup : ¬ (xK X 2).1 4 s 0 = 0) (hc : ¬ (xK X 2).1 18 s 0 < (xK X 2).1 15 s 0) : RT 251 [some (.ref 388), some (.int (Int32.ofNat s)), none, none, none, none] X (some (.int 0)) (xSetT X 2) := by
  refine AT.aload_n M_251 rfl rfl ?_
  refine AT.iconst M_251 rfl (v := 0) (by decide) ?_
  refine AT.w11_2 M_251 rfl ?_
  refine AT.iload_n M_251 rfl rfl ?_
  refine AT.cs1i M_251 rfl M_234 rfl (Nat.le_of_ble_eq_true rfl) rfl (c_234 hs) ?_ (Nat.le_of_ble_eq_true rfl) rfl
  refine AT.if_ne M_251 rfl (fun b5 => ?_) (fun b5 => absurd b5 (by decide))
  refine AT.aload_n M_251 rfl rfl ?_
  refine AT.r11_0 M_251 rfl ?_
  refine AT.r10_9 M_251 rfl (show 2 ≤ 2 by omega) (show 2 < 4 by omega) ?_
  refine AT.iload_n M_251 rfl rfl ?_
  refine AT.ra_20 M_251 rfl rfl (show 2 ≤ 2 by omega) (show 2 < 4 by omega) (by assumption) ?_
  rw [show dV (xD (xSetT X 0)) 2 20 s 0 = (xK X 2).1 15 s 0 from hap s hs]
  refine AT.ist2 M_251 rfl rfl ?_
  refine AT.aload_n M_251 rfl rfl ?_
  refine AT.r11_0 M_251 rfl ?_
  refine AT.r10_2 M_251 rfl (show 2 ≤ 2 by omega) (show 2 < 4 by omega) ?_
  refine AT.iload_n M_251 rfl rfl ?_
  refine AT.ra_4 M_251 rfl rfl (show 2 ≤ 2 by omega) (show 2 < 4 by omega) (by assumption) ?_
  refine AT.if_eq M_251 rfl (fun b21 => absurd b21 hup) (fun b21 => ?_)
  refine AT.iload_n M_251 rfl rfl ?_
  refine AT.aload_n M_251 rfl rfl ?_
  refine AT.r11_0 M_251 rfl ?_
  refine AT.r10_13 M_251 rfl (show 2 ≤ 2 by omega) (show 2 < 4 by omega) ?_
  refine AT.iload_n M_251 rfl rfl ?_
  refine AT.ra_18_0 M_251 rfl rfl (show 2 ≤ 2 by omega) (show 2 < 4 by omega) (by assumption) ?_
  refine AT.icmp_gt M_251 rfl (fun b28 => absurd b28 hc) (fun b28 => ?_)
  refine AT.aload_n M_251 rfl rfl ?_
  refine AT.iconst M_251 rfl (v := 2) (by decide) ?_
  refine AT.cv2i M_251 rfl M_233 rfl (Nat.le_of_ble_eq_true rfl) (xKd.of sh_mod) (by decide) c_233 ?_ (Nat.le_of_ble_eq_true rfl) rfl
  refine AT.iret M_251 rfl rfl ?_
  exact ⟨rfl, rfl⟩
theorem c_251 {X : XS} {s : Nat} (hs : s < 7) {m : Nat} (hap : aPr X 2) (hk : sOk (xK X 2) s) (hup : ¬ (xK X 2).1 4 s 0 = 0) (hc : (xK X 2).1 18 s 0 < (xK X 2).1 15 s 0) : RU 251 [some (.ref 388), some (.int (Int32.ofNat s)), none, none, none, none] X (some (.int (Int32.ofNat (kC (xK X 2) s - kA (xK X 2) s)))) (fun Y => rRel0 2 m 0 0 (xSetT X 0) Y (kCut (xK X 2) s (kC (xK X 2) s - kA (xK X 2) s) (sSnap (xK X 2) s (kC (xK X 2) s - kA (xK X 2) s))) ∧ aPr Y 2) := by
  obtain ⟨g1, g2, g3, g4, g5, g6, g7⟩ := hk
  have hk : sOk (xK X 2) s := ⟨g1, g2, g3, g4, g5, g6, g7⟩
  have hcn : kA (xK X 2) s < kC (xK X 2) s := (i32_lt (by omega) (by omega)).mp (by rw [← g1, ← g2]; exact hc)
  have hgn : (xK X 2).1 15 s 0 - (xK X 2).1 18 s 0 = Int32.ofNat (kC (xK X 2) s - kA (xK X 2) s) := by rw [g1, g2]; exact i32_sub0 (by omega)
  have e15 : (xK X 2).1 15 s 0 = Int32.ofNat (kA (xK X 2) s + (kC (xK X 2) s - kA (xK X 2) s)) := by rw [g2]; congr 1; omega
  have hl1 : kA (xK X 2) s + ((xK (xSetT X 0) 2).2.1 s).length < 16777216 := by show kA (xK X 2) s + ((xK X 2).2.1 s).length < _; omega
  have hgl : kC (xK X 2) s - kA (xK X 2) s ≤ ((xK X 2).2.1 s).length := by omega
  have hl3 : ((xK (xSetT X 0) 2).2.1 s).length < 100000000 := by show ((xK X 2).2.1 s).length < _; omega
  have hin : (xK X 2).1 15 s 0 = (xK (xSetT X 0) 2).1 18 s 0 ∨ ∃ e, sEnt (xK (xSetT X 0) 2) s ((xK X 2).1 15 s 0) = some e := Or.inr ((sHasE_some hk.wf).mp (by
    unfold sHasE
    rw [decide_eq_true (Int32.not_le.mpr hc), show sLast (xK X 2) s = Int32.ofNat (kA (xK X 2) s + ((xK X 2).2.1 s).length) from sLast_of g1, decide_eq_true (by rw [g2]; exact (i32_le (by omega) (by omega)).mpr g4)]; rfl))
  refine AT.aload_n M_251 rfl rfl ?_
  refine AT.iconst M_251 rfl (v := 0) (by decide) ?_
  refine AT.w11_2 M_251 rfl ?_
  try simp only [xK_same, xSetK_idem, xD_setK, xSetD_setK]
  refine AT.iload_n M_251 rfl rfl ?_
  refine AT.cs1i M_251 rfl M_234 rfl (Nat.le_of_ble_eq_true rfl) rfl (c_234 hs) ?_ (Nat.le_of_ble_eq_true rfl) rfl
  try simp only [xK_same, xSetK_idem, xD_setK, xSetD_setK]
  refine AT.if_ne M_251 rfl (fun b5 => ?_) (fun b5 => absurd b5 (by decide))
  refine AT.aload_n M_251 rfl rfl ?_
  refine AT.r11_0 M_251 rfl ?_
  refine AT.r10_9 M_251 rfl (show 2 ≤ 2 by omega) (show 2 < 4 by omega) ?_
  refine AT.iload_n M_251 rfl rfl ?_
  refine AT.ra_20 M_251 rfl rfl (show 2 ≤ 2 by omega) (show 2 < 4 by omega) (by assumption) ?_
  rw [show dV (xD (xSetT X 0)) 2 20 s 0 = (xK X 2).1 15 s 0 from hap s hs]
  refine AT.ist2 M_251 rfl rfl ?_
  refine AT.aload_n M_251 rfl rfl ?_
  refine AT.r11_0 M_251 rfl ?_
  refine AT.r10_2 M_251 rfl (show 2 ≤ 2 by omega) (show 2 < 4 by omega) ?_
  refine AT.iload_n M_251 rfl rfl ?_
  refine AT.ra_4 M_251 rfl rfl (show 2 ≤ 2 by omega) (show 2 < 4 by omega) (by assumption) ?_
  refine AT.if_eq M_251 rfl (fun b21 => absurd b21 hup) (fun b21 => ?_)
  refine AT.iload_n M_251 rfl rfl ?_
  refine AT.aload_n M_251 rfl rfl ?_
  refine AT.r11_0 M_251 rfl ?_
  refine AT.r10_13 M_251 rfl (show 2 ≤ 2 by omega) (show 2 < 4 by omega) ?_
  refine AT.iload_n M_251 rfl rfl ?_
  refine AT.ra_18_0 M_251 rfl rfl (show 2 ≤ 2 by omega) (show 2 < 4 by omega) (by assumption) ?_
  refine AT.icmp_gt M_251 rfl (fun b28 => ?_) (fun b28 => absurd hc b28)
  refine AT.iload_n M_251 rfl rfl ?_
  refine AT.aload_n M_251 rfl rfl ?_
  refine AT.r11_0 M_251 rfl ?_
  refine AT.r10_13 M_251 rfl (show 2 ≤ 2 by omega) (show 2 < 4 by omega) ?_
  refine AT.iload_n M_251 rfl rfl ?_
  refine AT.ra_18_0 M_251 rfl rfl (show 2 ≤ 2 by omega) (show 2 < 4 by omega) (by assumption) ?_
  refine AT.isub M_251 rfl rfl ?_
  rw [show (xK X 2).1 15 s 0 - (xK (xSetT X 0) 2).1 18 s 0 = Int32.ofNat (kC (xK X 2) s - kA (xK X 2) s) from hgn]
  refine AT.ist3 M_251 rfl rfl ?_
  refine AT.aload_n M_251 rfl rfl ?_
  refine AT.r11_0 M_251 rfl ?_
  refine AT.iload_n M_251 rfl rfl ?_
  refine AT.iload_n M_251 rfl rfl ?_
  refine AT.cv3i M_251 rfl M_191 rfl (Nat.le_of_ble_eq_true rfl) (xKd.of (sh_st (o := 2) (by omega) (by omega))) (by decide) (c_191 (X := (xSetT X 0)) (o := 2) (by omega) (by omega) hs hk.wf hin) ?_ (Nat.le_of_ble_eq_true rfl) rfl
  try simp only [xK_same, xSetK_idem, xD_setK, xSetD_setK]
  refine AT.ist4 M_251 rfl rfl ?_
  refine AT.aload_n M_251 rfl rfl ?_
  refine AT.r11_0 M_251 rfl ?_
  refine AT.iload_n M_251 rfl rfl ?_
  refine AT.iload_n M_251 rfl rfl ?_
  refine AT.cv3i M_251 rfl M_194 rfl (Nat.le_of_ble_eq_true rfl) (xKd.of (sh_st (o := 2) (by omega) (by omega))) (by decide) (c_194 (X := (xSetT X 0)) (o := 2) (by omega) (by omega) hs (a := kA (xK X 2) s) hk.1 hl1 (n := (kC (xK X 2) s - kA (xK X 2) s)) e15 hgl) ?_ (Nat.le_of_ble_eq_true rfl) rfl
  try simp only [xK_same, xSetK_idem, xD_setK, xSetD_setK]
  refine AT.ist5 M_251 rfl rfl ?_
  refine AT.aload_n M_251 rfl rfl ?_
  refine AT.r11_0 M_251 rfl ?_
  refine AT.iload_n M_251 rfl rfl ?_
  refine AT.aload_n M_251 rfl rfl ?_
  refine AT.r11_0 M_251 rfl ?_
  refine AT.r10_18 M_251 rfl (show 2 ≤ 2 by omega) (show 2 < 4 by omega) ?_
  refine AT.iload_n M_251 rfl rfl ?_
  refine AT.ra_siz M_251 rfl rfl (show 2 ≤ 2 by omega) (show 2 < 4 by omega) (by assumption) ?_
  refine AT.iload_n M_251 rfl rfl ?_
  refine AT.isub M_251 rfl rfl ?_
  rw [show Int32.ofNat ((xK (xSetT X 0) 2).2.1 s).length - Int32.ofNat (kC (xK X 2) s - kA (xK X 2) s) = Int32.ofNat (((xK X 2).2.1 s).length - (kC (xK X 2) s - kA (xK X 2) s)) from i32_sub0 hgl]
  refine AT.cv3w M_251 rfl M_218 rfl (Nat.le_of_ble_eq_true rfl) (xKd.of (sh_st (o := 2) (by omega) (by omega))) (by decide) (c_218 (X := (xSetT X 0)) (o := 2) (by omega) (by omega) hs (n := ((xK X 2).2.1 s).length - (kC (xK X 2) s - kA (xK X 2) s)) (m := m) (Nat.sub_le _ _) hl3) (fun Y hc63 => ?_) (Nat.le_of_ble_eq_true rfl) rfl
  obtain ⟨r1, k1⟩ := hc63
  try simp only [xK_same, xSetK_idem, xD_setK, xSetD_setK]
  refine AT.aload_n M_251 rfl rfl ?_
  refine AT.r11_0 M_251 rfl ?_
  refine AT.r10_13 M_251 rfl (show 2 ≤ 2 by omega) (show 2 < 4 by omega) ?_
  refine AT.iload_n M_251 rfl rfl ?_
  refine AT.iload_n M_251 rfl rfl ?_
  refine AT.rs_18_0 M_251 rfl rfl (show 2 ≤ 2 by omega) (show 2 < 4 by omega) (by assumption) ?_
  try simp only [xK_same, xSetK_idem, xD_setK, xSetD_setK]
  refine AT.aload_n M_251 rfl rfl ?_
  refine AT.r11_0 M_251 rfl ?_
  refine AT.r10_14 M_251 rfl (show 2 ≤ 2 by omega) (show 2 < 4 by omega) ?_
  refine AT.iload_n M_251 rfl rfl ?_
  refine AT.iload M_251 rfl rfl ?_
  refine AT.rs_18_1 M_251 rfl rfl (show 2 ≤ 2 by omega) (show 2 < 4 by omega) (by assumption) ?_
  try simp only [xK_same, xSetK_idem, xD_setK, xSetD_setK]
  refine AT.aload_n M_251 rfl rfl ?_
  refine AT.r11_0 M_251 rfl ?_
  refine AT.r10_15 M_251 rfl (show 2 ≤ 2 by omega) (show 2 < 4 by omega) ?_
  refine AT.iload_n M_251 rfl rfl ?_
  refine AT.iload M_251 rfl rfl ?_
  refine AT.rs_18_2 M_251 rfl rfl (show 2 ≤ 2 by omega) (show 2 < 4 by omega) (by assumption) ?_
  try simp only [xK_same, xSetK_idem, xD_setK, xSetD_setK]
  refine AT.aload_n M_251 rfl rfl ?_
  refine AT.r11_0 M_251 rfl ?_
  refine AT.r10_17 M_251 rfl (show 2 ≤ 2 by omega) (show 2 < 4 by omega) ?_
  refine AT.iload_n M_251 rfl rfl ?_
  refine AT.rr_tab M_251 rfl rfl (show 2 ≤ 2 by omega) (show 2 < 4 by omega) (by assumption) ?_
  refine AT.aload_n M_251 rfl rfl ?_
  refine AT.r11_0 M_251 rfl ?_
  refine AT.r10_16 M_251 rfl (show 2 ≤ 2 by omega) (show 2 < 4 by omega) ?_
  refine AT.iload_n M_251 rfl rfl ?_
  refine AT.rr_snt M_251 rfl rfl (show 2 ≤ 2 by omega) (show 2 < 4 by omega) (by assumption) ?_
  have hr16 : ∀ q, q < 16 → (kSet (kSet (kSet (xK Y 2) 18 s 0 ((xK X 2).1 15 s 0)) 18 s 1 (sTix (xK X 2) s ((xK X 2).1 15 s 0))) 18 s 2 (sMemL (((xK X 2).2.1 s).take (kC (xK X 2) s - kA (xK X 2) s)) ((xK X 2).1 18 s 2))).1 19 s q = sSnap (xK X 2) s (kC (xK X 2) s - kA (xK X 2) s) (3 + q) := fun q hq => by
    rw [kSet_ne (by omega), kSet_ne (by omega), kSet_ne (by omega), r1.k]
    show (xK X 2).1 19 s q = if 3 + q = 0 then _ else if 3 + q = 1 then _ else if 3 + q = 2 then _ else (xK X 2).1 19 s (3 + q - 3)
    rw [if_neg (by omega), if_neg (by omega), if_neg (by omega), show 3 + q - 3 = q by omega]
  refine AT.cs20 M_251 rfl M_180 rfl (Nat.le_of_ble_eq_true rfl) rfl (cpy_tab (r := sSnap (xK X 2) s (kC (xK X 2) s - kA (xK X 2) s)) (by omega) (by omega) hs (by rw [xK_same]; exact hr16)) ?_ (Nat.le_of_ble_eq_true rfl) rfl
  try simp only [xK_same, xSetK_idem, xD_setK, xSetD_setK]
  try simp only [xK_same, xSetK_idem, xD_setK, xSetD_setK]
  refine AT.agr (o := 2) (K := kCut (xK X 2) s (kC (xK X 2) s - kA (xK X 2) s) (sSnap (xK X 2) s (kC (xK X 2) s - kA (xK X 2) s))) ?_ ?_
  · rw [xK_same]
    exact kAgr_cut (r := sSnap (xK X 2) s (kC (xK X 2) s - kA (xK X 2) s)) (r1.k.trans (by rw [show ((xK (xSetT X 0) 2).2.1 s).length - (((xK X 2).2.1 s).length - (kC (xK X 2) s - kA (xK X 2) s)) = (kC (xK X 2) s - kA (xK X 2) s) by show ((xK X 2).2.1 s).length - _ = _; omega]; rfl))
  try simp only [xK_same, xSetK_idem, xD_setK, xSetD_setK]
  refine AT.iload_n M_251 rfl rfl ?_
  refine AT.iret M_251 rfl rfl ?_
  refine ⟨rfl, r1.net _, fun i hi => ?_⟩
  rw [xK_same]
  refine (k1 20 i 0 (by omega) (by omega)).trans ((hap i hi).trans ?_)
  rfl
