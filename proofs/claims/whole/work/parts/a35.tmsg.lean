/-! ===== THE TWIN: messages ===== -/
theorem i32_msg {j n : Nat} (hj : j < n) (hn : n ≤ 60) : bI (decide ((0 : Int32) ≤ Int32.ofNat j ∧ Int32.ofNat j < Int32.ofNat n)) = 1 := by
  rw [decide_eq_true ⟨Int32.not_lt.mp (i32_pos (by omega)), (i32_lt (by omega) (by omega)).mpr hj⟩]; rfl
theorem i32_nmsg {p : Int32} {n : Nat} (hp : p < 0 ∨ ¬ p < Int32.ofNat n) : bI (decide ((0 : Int32) ≤ p ∧ p < Int32.ofNat n)) = 0 := by
  rw [decide_eq_false (fun z => by rcases hp with h | h; exact absurd h (Int32.not_lt.mpr z.1); exact h z.2)]; rfl
theorem c_258x1 {X : XS} {p : Int32} (hp : p < 0 ∨ ¬ p < Int32.ofNat (xK X 2).2.2.length) : RT 258 [some (.ref 388), some (.int p)] X (some (.int 0)) (xSetT X 1) := by
  refine AT.aload_n M_258 rfl rfl ?_
  refine AT.iconst M_258 rfl (v := 0) (by decide) ?_
  refine AT.w11_2 M_258 rfl ?_
  refine AT.aload_n M_258 rfl rfl ?_
  refine AT.iload_n M_258 rfl rfl ?_
  refine AT.cv2i M_258 rfl M_238 rfl (Nat.le_of_ble_eq_true rfl) (xKd.of sh_mod) (by decide) (c_238 (X := (xSetT X 0))) ?_ (Nat.le_of_ble_eq_true rfl) rfl
  rw [i32_nmsg (n := (xK (xSetT X 0) 2).2.2.length) hp]
  refine AT.if_eq M_258 rfl (fun b6 => ?_) (fun b6 => absurd rfl b6)
  refine AT.aload_n M_258 rfl rfl ?_
  refine AT.iconst M_258 rfl (v := 1) (by decide) ?_
  refine AT.w11_2 M_258 rfl ?_
  refine AT.iconst M_258 rfl (v := 0) (by decide) ?_
  refine AT.zret M_258 rfl rfl (by first | exact Or.inl rfl | exact Or.inr rfl | assumption) ?_
  exact ⟨rfl, rfl⟩
theorem c_259x1 {X : XS} {p : Int32} (hp : p < 0 ∨ ¬ p < Int32.ofNat (xK X 2).2.2.length) : RT 259 [some (.ref 388), some (.int p)] X (some (.int 0)) (xSetT X 1) := by
  refine AT.aload_n M_259 rfl rfl ?_
  refine AT.iconst M_259 rfl (v := 0) (by decide) ?_
  refine AT.w11_2 M_259 rfl ?_
  refine AT.aload_n M_259 rfl rfl ?_
  refine AT.iload_n M_259 rfl rfl ?_
  refine AT.cv2i M_259 rfl M_238 rfl (Nat.le_of_ble_eq_true rfl) (xKd.of sh_mod) (by decide) (c_238 (X := (xSetT X 0))) ?_ (Nat.le_of_ble_eq_true rfl) rfl
  rw [i32_nmsg (n := (xK (xSetT X 0) 2).2.2.length) hp]
  refine AT.if_ne M_259 rfl (fun b6 => absurd rfl b6) (fun b6 => ?_)
  refine AT.aload_n M_259 rfl rfl ?_
  refine AT.iconst M_259 rfl (v := 1) (by decide) ?_
  refine AT.cv2i M_259 rfl M_233 rfl (Nat.le_of_ble_eq_true rfl) (xKd.of sh_mod) (by decide) c_233 ?_ (Nat.le_of_ble_eq_true rfl) rfl
  refine AT.iret M_259 rfl rfl ?_
  exact ⟨rfl, rfl⟩
theorem c_260x1 {X : XS} {p : Int32} (hp : p < 0 ∨ ¬ p < Int32.ofNat (xK X 2).2.2.length) : RT 260 [some (.ref 388), some (.int p)] X (some (.int 0)) (xSetT X 1) := by
  refine AT.aload_n M_260 rfl rfl ?_
  refine AT.iconst M_260 rfl (v := 0) (by decide) ?_
  refine AT.w11_2 M_260 rfl ?_
  refine AT.aload_n M_260 rfl rfl ?_
  refine AT.iload_n M_260 rfl rfl ?_
  refine AT.cv2i M_260 rfl M_238 rfl (Nat.le_of_ble_eq_true rfl) (xKd.of sh_mod) (by decide) (c_238 (X := (xSetT X 0))) ?_ (Nat.le_of_ble_eq_true rfl) rfl
  rw [i32_nmsg (n := (xK (xSetT X 0) 2).2.2.length) hp]
  refine AT.if_ne M_260 rfl (fun b6 => absurd rfl b6) (fun b6 => ?_)
  refine AT.aload_n M_260 rfl rfl ?_
  refine AT.iconst M_260 rfl (v := 1) (by decide) ?_
  refine AT.cv2i M_260 rfl M_233 rfl (Nat.le_of_ble_eq_true rfl) (xKd.of sh_mod) (by decide) c_233 ?_ (Nat.le_of_ble_eq_true rfl) rfl
  refine AT.iret M_260 rfl rfl ?_
  exact ⟨rfl, rfl⟩
theorem c_258 {X : XS} {s f m n j : Nat} {w : MSG} (hs : s < 7) (hk : sOk (xK X 2) s) (hB : kA (xK X 2) s + ((xK X 2).2.1 s).length + 1 < 400000) (hR : rOkR X 2) (hap : aPr X 2) (hn : ((xK X 2).2.1 s).length + 1 ≤ m) (hM : m ≤ 399980) (hnm : n ≤ m) (hj : j < (xK X 2).2.2.length) (hu : (xK X 2).2.2[j]? = some w) (w3 : w.1 3 = Int32.ofNat s) (w2 : w.1 2 = Int32.ofNat f) (hf7 : f < 7) (hkd : w.1 1 = 1 ∨ w.1 1 = 2 ∨ w.1 1 = 3 ∨ w.1 1 = 4 ∨ w.1 1 = 5 ∨ w.1 1 = 6 ∨ w.1 1 = 7 ∨ w.1 1 = 8) (hrk : mRk w) (h01 : w.1 5 = 0 ∨ w.1 5 = 1) (hsym : sBit ((xK X 2).1 30 s 0) f = sBit ((xK X 2).1 30 f 0) s) (hgo : goOk n (kEnter (kDrop (xK X 2) j) s w) s f w) : RU 258 [some (.ref 388), some (.int (Int32.ofNat j))] X (some (.int (bI (kArr (xK X 2) s f)))) (fun Z => rRel0 2 m (kHandN (xK X 2) j s f w) (kHandN (xK X 2) j s f w * 7) (xSetT X 0) Z (kHand (xK X 2) j s f w) ∧ aPr Z 2) := by
  refine AT.rep (fun hr => ?_)
  have h60 := (hr.choose_spec.2.2.2.2.2.2.1 2 (by omega)).1
  refine AT.aload_n M_258 rfl rfl ?_
  refine AT.iconst M_258 rfl (v := 0) (by decide) ?_
  refine AT.w11_2 M_258 rfl ?_
  refine AT.aload_n M_258 rfl rfl ?_
  refine AT.iload_n M_258 rfl rfl ?_
  refine AT.cv2i M_258 rfl M_238 rfl (Nat.le_of_ble_eq_true rfl) (xKd.of sh_mod) (by decide) (c_238 (X := (xSetT X 0))) ?_ (Nat.le_of_ble_eq_true rfl) rfl
  rw [i32_msg (n := (xK (xSetT X 0) 2).2.2.length) hj h60]
  refine AT.if_eq M_258 rfl (fun b6 => absurd b6 (by decide)) (fun b6 => ?_)
  refine AT.aload_n M_258 rfl rfl ?_
  refine AT.r11_0 M_258 rfl ?_
  refine AT.iload_n M_258 rfl rfl ?_
  refine AT.cv2u M_258 rfl M_210 rfl (Nat.le_of_ble_eq_true rfl) (xKd.of (sh_st (o := 2) (by omega) (by omega))) (by decide) (c_210 (X := (xSetT X 0)) (o := 2) (m := m) (n := n) (s := s) (f := f) (by omega) (by omega) hs hk hB hR hap hn hM hnm hj hu w3 w2 hf7 hkd hrk h01 hsym hgo) (fun Y hc10 => ?_) (Nat.le_of_ble_eq_true rfl) rfl
  obtain ⟨r1, a1⟩ := hc10
  refine AT.zret M_258 rfl rfl (bI_01 _) ?_
  exact ⟨rfl, r1, a1⟩
theorem c_259 {X : XS} {m j : Nat} (hap : aPr X 2) (hj : j < (xK X 2).2.2.length) : RU 259 [some (.ref 388), some (.int (Int32.ofNat j))] X (some (.int (Int32.ofNat (kLose (kDrop (xK X 2) j)).2.2.length))) (fun Z => rRel0 2 m 0 0 (xSetT X 0) Z (kLose (kDrop (xK X 2) j)) ∧ aPr Z 2) := by
  refine AT.rep (fun hr => ?_)
  have h60 := (hr.choose_spec.2.2.2.2.2.2.1 2 (by omega)).1
  refine AT.aload_n M_259 rfl rfl ?_
  refine AT.iconst M_259 rfl (v := 0) (by decide) ?_
  refine AT.w11_2 M_259 rfl ?_
  refine AT.aload_n M_259 rfl rfl ?_
  refine AT.iload_n M_259 rfl rfl ?_
  refine AT.cv2i M_259 rfl M_238 rfl (Nat.le_of_ble_eq_true rfl) (xKd.of sh_mod) (by decide) (c_238 (X := (xSetT X 0))) ?_ (Nat.le_of_ble_eq_true rfl) rfl
  rw [i32_msg (n := (xK (xSetT X 0) 2).2.2.length) hj h60]
  refine AT.if_ne M_259 rfl (fun b6 => ?_) (fun b6 => absurd b6 (by decide))
  refine AT.aload_n M_259 rfl rfl ?_
  refine AT.r11_0 M_259 rfl ?_
  refine AT.iload_n M_259 rfl rfl ?_
  refine AT.cv2w M_259 rfl M_211 rfl (Nat.le_of_ble_eq_true rfl) (xKd.of (sh_st (o := 2) (by omega) (by omega))) (by decide) (c_211 (X := (xSetT X 0)) (o := 2) (m := m) (by omega) (by omega) hj) (fun Y hc14 => ?_) (Nat.le_of_ble_eq_true rfl) rfl
  obtain ⟨r1, k1⟩ := hc14
  have r2 := r1.sm k1 hap (fun i hi => rfl)
  refine AT.aload_n M_259 rfl rfl ?_
  refine AT.r11_0 M_259 rfl ?_
  refine AT.dup M_259 rfl ?_
  refine AT.r10_1 M_259 rfl (show 2 ≤ 2 by omega) (show 2 < 4 by omega) ?_
  refine AT.iconst M_259 rfl (v := 1) (by decide) ?_
  refine AT.iadd M_259 rfl rfl ?_
  refine AT.w10_1 M_259 rfl (show 2 ≤ 2 by omega) (show 2 < 4 by omega) ?_
  refine AT.aload_n M_259 rfl rfl ?_
  refine AT.r11_0 M_259 rfl ?_
  refine AT.r10_22 M_259 rfl (show 2 ≤ 2 by omega) (show 2 < 4 by omega) ?_
  refine AT.iret M_259 rfl rfl ?_
  have e9 : xK Y 2 = kDrop (xK X 2) j := r1.k
  have e8 : kLose (xK Y 2) = kLose (kDrop (xK X 2) j) := by rw [e9]
  have r3 := rRel.set (n := m) (K := kLose (xK Y 2)) r2.2.2 (fun i hi => kSet_ne (by omega))
  have r4 := r2.tr r3
  refine ⟨?_, (r4.1.up (by omega) (by omega)).send e8, r4.2.2⟩
  rw [xK_same]
  show Sum.inl (some (Value.int (Int32.ofNat (xK Y 2).2.2.length))) = _
  rw [e9]; rfl
theorem c_261x {X : XS} {p q : Int32} (hp : p < 0 ∨ ¬ p < Int32.ofNat (xK X 2).2.2.length) : RT 261 [some (.ref 388), some (.int p), some (.int q)] X (some (.int 0)) (xSetT X 1) := by
  refine AT.aload_n M_261 rfl rfl ?_
  refine AT.iconst M_261 rfl (v := 0) (by decide) ?_
  refine AT.w11_2 M_261 rfl ?_
  refine AT.aload_n M_261 rfl rfl ?_
  refine AT.iload_n M_261 rfl rfl ?_
  refine AT.cv2i M_261 rfl M_238 rfl (Nat.le_of_ble_eq_true rfl) (xKd.of sh_mod) (by decide) (c_238 (X := (xSetT X 0))) ?_ (Nat.le_of_ble_eq_true rfl) rfl
  rw [i32_nmsg (n := (xK (xSetT X 0) 2).2.2.length) hp]
  refine AT.if_eq M_261 rfl (fun b6 => ?_) (fun b6 => absurd rfl b6)
  refine AT.aload_n M_261 rfl rfl ?_
  refine AT.iconst M_261 rfl (v := 1) (by decide) ?_
  refine AT.cv2i M_261 rfl M_233 rfl (Nat.le_of_ble_eq_true rfl) (xKd.of sh_mod) (by decide) c_233 ?_ (Nat.le_of_ble_eq_true rfl) rfl
  refine AT.iret M_261 rfl rfl ?_
  exact ⟨rfl, rfl⟩
theorem c_261 {X : XS} {j c : Nat} {u : MSG} (hu : (xK X 2).2.2[j]? = some u) (hc : c < 8) : RT 261 [some (.ref 388), some (.int (Int32.ofNat j)), some (.int (Int32.ofNat c))] X (some (.int (mRow u c))) (xSetT X 0) := by
  refine AT.rep (fun hr => ?_)
  have h60 := (hr.choose_spec.2.2.2.2.2.2.1 2 (by omega)).1
  have hj := (List.getElem?_eq_some_iff.mp hu).1
  refine AT.aload_n M_261 rfl rfl ?_
  refine AT.iconst M_261 rfl (v := 0) (by decide) ?_
  refine AT.w11_2 M_261 rfl ?_
  refine AT.aload_n M_261 rfl rfl ?_
  refine AT.iload_n M_261 rfl rfl ?_
  refine AT.cv2i M_261 rfl M_238 rfl (Nat.le_of_ble_eq_true rfl) (xKd.of sh_mod) (by decide) (c_238 (X := (xSetT X 0))) ?_ (Nat.le_of_ble_eq_true rfl) rfl
  rw [i32_msg (n := (xK (xSetT X 0) 2).2.2.length) hj h60]
  refine AT.if_eq M_261 rfl (fun b6 => absurd b6 (by decide)) (fun b6 => ?_)
  refine AT.aload_n M_261 rfl rfl ?_
  refine AT.r11_0 M_261 rfl ?_
  refine AT.r10_23 M_261 rfl (show 2 ≤ 2 by omega) (show 2 < 4 by omega) ?_
  refine AT.iload_n M_261 rfl rfl ?_
  refine AT.bipush M_261 rfl (v := 36) (by decide) ?_
  refine AT.imul M_261 rfl rfl ?_
  refine AT.iload_n M_261 rfl rfl ?_
  refine AT.iadd M_261 rfl rfl ?_
  refine AT.ra_post (j := 36 * j + c) M_261 rfl (by rw [i32_36, Int32.ofNat_add]) (show 2 ≤ 2 by omega) (show 2 < 4 by omega) (by omega) ?_
  rw [show dV (xD (xSetT X 0)) 2 41 0 (36 * j + c) = mRow u c from hr.choose_spec.2.2.2.2.2.2.2.2.2.2.2.2.2.1 2 (by omega) (by omega) j u hu c (by omega)]
  refine AT.goto M_261 rfl ?_
  refine AT.iret M_261 rfl rfl ?_
  exact ⟨rfl, rfl⟩
theorem c_262 {X : XS} {j : Nat} {u : MSG} (hu : (xK X 2).2.2[j]? = some u) : RT 262 [some (.ref 388), some (.int (Int32.ofNat j))] X (some (.int (u.1 1))) (xSetT X 0) := by
  refine AT.aload_n M_262 rfl rfl ?_
  refine AT.iload_n M_262 rfl rfl ?_
  refine AT.iconst M_262 rfl (v := 0) (by decide) ?_
  refine AT.cv3i M_262 rfl M_261 rfl (Nat.le_of_ble_eq_true rfl) (xKd.of sh_mod) (by decide) (c_261 (c := 0) hu (by omega)) ?_ (Nat.le_of_ble_eq_true rfl) rfl
  refine AT.iret M_262 rfl rfl ?_
  exact ⟨rfl, rfl⟩
theorem c_262x {X : XS} {p : Int32} (hp : p < 0 ∨ ¬ p < Int32.ofNat (xK X 2).2.2.length) : RT 262 [some (.ref 388), some (.int p)] X (some (.int 0)) (xSetT X 1) := by
  refine AT.aload_n M_262 rfl rfl ?_
  refine AT.iload_n M_262 rfl rfl ?_
  refine AT.iconst M_262 rfl (v := 0) (by decide) ?_
  refine AT.cv3i M_262 rfl M_261 rfl (Nat.le_of_ble_eq_true rfl) (xKd.of sh_mod) (by decide) (c_261x hp) ?_ (Nat.le_of_ble_eq_true rfl) rfl
  refine AT.iret M_262 rfl rfl ?_
  exact ⟨rfl, rfl⟩
theorem c_263 {X : XS} {j : Nat} {u : MSG} (hu : (xK X 2).2.2[j]? = some u) : RT 263 [some (.ref 388), some (.int (Int32.ofNat j))] X (some (.int (u.1 2))) (xSetT X 0) := by
  refine AT.aload_n M_263 rfl rfl ?_
  refine AT.iload_n M_263 rfl rfl ?_
  refine AT.iconst M_263 rfl (v := 1) (by decide) ?_
  refine AT.cv3i M_263 rfl M_261 rfl (Nat.le_of_ble_eq_true rfl) (xKd.of sh_mod) (by decide) (c_261 (c := 1) hu (by omega)) ?_ (Nat.le_of_ble_eq_true rfl) rfl
  refine AT.iret M_263 rfl rfl ?_
  exact ⟨rfl, rfl⟩
theorem c_263x {X : XS} {p : Int32} (hp : p < 0 ∨ ¬ p < Int32.ofNat (xK X 2).2.2.length) : RT 263 [some (.ref 388), some (.int p)] X (some (.int 0)) (xSetT X 1) := by
  refine AT.aload_n M_263 rfl rfl ?_
  refine AT.iload_n M_263 rfl rfl ?_
  refine AT.iconst M_263 rfl (v := 1) (by decide) ?_
  refine AT.cv3i M_263 rfl M_261 rfl (Nat.le_of_ble_eq_true rfl) (xKd.of sh_mod) (by decide) (c_261x hp) ?_ (Nat.le_of_ble_eq_true rfl) rfl
  refine AT.iret M_263 rfl rfl ?_
  exact ⟨rfl, rfl⟩
theorem c_264 {X : XS} {j : Nat} {u : MSG} (hu : (xK X 2).2.2[j]? = some u) : RT 264 [some (.ref 388), some (.int (Int32.ofNat j))] X (some (.int (u.1 3))) (xSetT X 0) := by
  refine AT.aload_n M_264 rfl rfl ?_
  refine AT.iload_n M_264 rfl rfl ?_
  refine AT.iconst M_264 rfl (v := 2) (by decide) ?_
  refine AT.cv3i M_264 rfl M_261 rfl (Nat.le_of_ble_eq_true rfl) (xKd.of sh_mod) (by decide) (c_261 (c := 2) hu (by omega)) ?_ (Nat.le_of_ble_eq_true rfl) rfl
  refine AT.iret M_264 rfl rfl ?_
  exact ⟨rfl, rfl⟩
theorem c_264x {X : XS} {p : Int32} (hp : p < 0 ∨ ¬ p < Int32.ofNat (xK X 2).2.2.length) : RT 264 [some (.ref 388), some (.int p)] X (some (.int 0)) (xSetT X 1) := by
  refine AT.aload_n M_264 rfl rfl ?_
  refine AT.iload_n M_264 rfl rfl ?_
  refine AT.iconst M_264 rfl (v := 2) (by decide) ?_
  refine AT.cv3i M_264 rfl M_261 rfl (Nat.le_of_ble_eq_true rfl) (xKd.of sh_mod) (by decide) (c_261x hp) ?_ (Nat.le_of_ble_eq_true rfl) rfl
  refine AT.iret M_264 rfl rfl ?_
  exact ⟨rfl, rfl⟩
theorem c_265 {X : XS} {j : Nat} {u : MSG} (hu : (xK X 2).2.2[j]? = some u) : RT 265 [some (.ref 388), some (.int (Int32.ofNat j))] X (some (.int (u.1 4))) (xSetT X 0) := by
  refine AT.aload_n M_265 rfl rfl ?_
  refine AT.iload_n M_265 rfl rfl ?_
  refine AT.iconst M_265 rfl (v := 3) (by decide) ?_
  refine AT.cv3i M_265 rfl M_261 rfl (Nat.le_of_ble_eq_true rfl) (xKd.of sh_mod) (by decide) (c_261 (c := 3) hu (by omega)) ?_ (Nat.le_of_ble_eq_true rfl) rfl
  refine AT.iret M_265 rfl rfl ?_
  exact ⟨rfl, rfl⟩
theorem c_265x {X : XS} {p : Int32} (hp : p < 0 ∨ ¬ p < Int32.ofNat (xK X 2).2.2.length) : RT 265 [some (.ref 388), some (.int p)] X (some (.int 0)) (xSetT X 1) := by
  refine AT.aload_n M_265 rfl rfl ?_
  refine AT.iload_n M_265 rfl rfl ?_
  refine AT.iconst M_265 rfl (v := 3) (by decide) ?_
  refine AT.cv3i M_265 rfl M_261 rfl (Nat.le_of_ble_eq_true rfl) (xKd.of sh_mod) (by decide) (c_261x hp) ?_ (Nat.le_of_ble_eq_true rfl) rfl
  refine AT.iret M_265 rfl rfl ?_
  exact ⟨rfl, rfl⟩
