/-! ===== THE LAW: what the script says; calls whose exceptions are caught ===== -/
section LAW
variable {m i pc ln r1 r2 r3 : Nat} {ls : PV} {st : List Value} {X : XS} {Q : PO → XS → Prop} {M : PMet}
theorem AT.scr {y : Int32} {j : Nat} (hM : qPT m = M) (hr : M.1[i]? = some (pc, .iaload, ln, r1, r2, r3)) (hy : y = Int32.ofNat j) (hj : j < (xC X).1) (hL : (xC X).1 ≤ 100000) (k : AT m (i + 1) ls (.int ((xC X).2 j) :: st) X Q) : AT m i ls (.int y :: .ref 0 :: st) X Q :=
  AT.ia hM hr hy hj (by omega) (fun g hg => ⟨Or.inr hg.2.2.2.2.1.2.2.2.1, hg.2.2.2.2.1.2.2.2.2.1⟩) (fun g hg => hg.2.2.2.2.1.2.2.2.2.2 j hj) k
theorem AT.scl (hM : qPT m = M) (hr : M.1[i]? = some (pc, .arraylength, ln, r1, r2, r3)) (k : AT m (i + 1) ls (.int (Int32.ofNat (xC X).1) :: st) X Q) : AT m i ls (.ref 0 :: st) X Q :=
  AT.al hM hr (fun g hg => ⟨by rw [hg.2.2.2.2.1.2.2.2.1]; omega, hg.2.2.2.2.1.2.2.2.2.1⟩) k
theorem AT.cv2h {n : Nat} {a0 : Nat} {a1 : Value} {en : PV} {Mc : PMet} {e h : Nat} {rr : PRow} {ls2 : PV} {Y : XS} (hM : qPT m = M) (hr : M.1[i]? = some (pc, .invokevirtual n, ln, r1, r2, r3)) (hMc : qPT (r1 - 10) = Mc) (hn : Mc.2.2.1 = 2) (hs : st.length ≤ 4) (hx : xKd X a0 Mc.2.2.2.2.2) (ho : Mc.2.2.2.2.2 < 12) (hc : RX (r1 - 10) en X e Y) (h2 : r2 = 0) (hh : pHand M.2.2.2.1 pc e = some h) (hr2 : M.1[h]? = some rr) (hcat : pCat rr.2.1 ls = some ls2) (k : AT m (h + 1) ls2 [] Y Q) (he : (pEnt [.ref a0, a1]).length ≤ Mc.2.1) (hen : pEntry Mc.2.1 [.ref a0, a1] = en) : AT m i ls (a1 :: .ref a0 :: st) X Q :=
  AT.call hM hr rfl hMc (by rw [hn]; unfold pPop; rw [if_pos (by simp)]; rfl) (Or.inl hs) he (pRv_v hx ho) (by rw [hen]; refine AT.mono hc ?_; rintro o Z ⟨rfl, rfl⟩; exact ⟨h2, Or.inr ⟨h, rr, ls2, hh, hr2, hcat, k⟩⟩)
theorem AT.cv3h {n : Nat} {a0 : Nat} {a1 a2 : Value} {en : PV} {Mc : PMet} {e h : Nat} {rr : PRow} {ls2 : PV} {Y : XS} (hM : qPT m = M) (hr : M.1[i]? = some (pc, .invokevirtual n, ln, r1, r2, r3)) (hMc : qPT (r1 - 10) = Mc) (hn : Mc.2.2.1 = 3) (hs : st.length ≤ 4) (hx : xKd X a0 Mc.2.2.2.2.2) (ho : Mc.2.2.2.2.2 < 12) (hc : RX (r1 - 10) en X e Y) (h2 : r2 = 0) (hh : pHand M.2.2.2.1 pc e = some h) (hr2 : M.1[h]? = some rr) (hcat : pCat rr.2.1 ls = some ls2) (k : AT m (h + 1) ls2 [] Y Q) (he : (pEnt [.ref a0, a1, a2]).length ≤ Mc.2.1) (hen : pEntry Mc.2.1 [.ref a0, a1, a2] = en) : AT m i ls (a2 :: a1 :: .ref a0 :: st) X Q :=
  AT.call hM hr rfl hMc (by rw [hn]; unfold pPop; rw [if_pos (by simp)]; rfl) (Or.inl hs) he (pRv_v hx ho) (by rw [hen]; refine AT.mono hc ?_; rintro o Z ⟨rfl, rfl⟩; exact ⟨h2, Or.inr ⟨h, rr, ls2, hh, hr2, hcat, k⟩⟩)
theorem AT.cv4h {n : Nat} {a0 : Nat} {a1 a2 a3 : Value} {en : PV} {Mc : PMet} {e h : Nat} {rr : PRow} {ls2 : PV} {Y : XS} (hM : qPT m = M) (hr : M.1[i]? = some (pc, .invokevirtual n, ln, r1, r2, r3)) (hMc : qPT (r1 - 10) = Mc) (hn : Mc.2.2.1 = 4) (hs : st.length ≤ 4) (hx : xKd X a0 Mc.2.2.2.2.2) (ho : Mc.2.2.2.2.2 < 12) (hc : RX (r1 - 10) en X e Y) (h2 : r2 = 0) (hh : pHand M.2.2.2.1 pc e = some h) (hr2 : M.1[h]? = some rr) (hcat : pCat rr.2.1 ls = some ls2) (k : AT m (h + 1) ls2 [] Y Q) (he : (pEnt [.ref a0, a1, a2, a3]).length ≤ Mc.2.1) (hen : pEntry Mc.2.1 [.ref a0, a1, a2, a3] = en) : AT m i ls (a3 :: a2 :: a1 :: .ref a0 :: st) X Q :=
  AT.call hM hr rfl hMc (by rw [hn]; unfold pPop; rw [if_pos (by simp)]; rfl) (Or.inl hs) he (pRv_v hx ho) (by rw [hen]; refine AT.mono hc ?_; rintro o Z ⟨rfl, rfl⟩; exact ⟨h2, Or.inr ⟨h, rr, ls2, hh, hr2, hcat, k⟩⟩)
theorem AT.cv5h {n : Nat} {a0 : Nat} {a1 a2 a3 a4 : Value} {en : PV} {Mc : PMet} {e h : Nat} {rr : PRow} {ls2 : PV} {Y : XS} (hM : qPT m = M) (hr : M.1[i]? = some (pc, .invokevirtual n, ln, r1, r2, r3)) (hMc : qPT (r1 - 10) = Mc) (hn : Mc.2.2.1 = 5) (hs : st.length ≤ 4) (hx : xKd X a0 Mc.2.2.2.2.2) (ho : Mc.2.2.2.2.2 < 12) (hc : RX (r1 - 10) en X e Y) (h2 : r2 = 0) (hh : pHand M.2.2.2.1 pc e = some h) (hr2 : M.1[h]? = some rr) (hcat : pCat rr.2.1 ls = some ls2) (k : AT m (h + 1) ls2 [] Y Q) (he : (pEnt [.ref a0, a1, a2, a3, a4]).length ≤ Mc.2.1) (hen : pEntry Mc.2.1 [.ref a0, a1, a2, a3, a4] = en) : AT m i ls (a4 :: a3 :: a2 :: a1 :: .ref a0 :: st) X Q :=
  AT.call hM hr rfl hMc (by rw [hn]; unfold pPop; rw [if_pos (by simp)]; rfl) (Or.inl hs) he (pRv_v hx ho) (by rw [hen]; refine AT.mono hc ?_; rintro o Z ⟨rfl, rfl⟩; exact ⟨h2, Or.inr ⟨h, rr, ls2, hh, hr2, hcat, k⟩⟩)
theorem AT.out {y : Int32} (hM : qPT m = M) (hr : M.1[i]? = some (pc, .laload, ln, r1, r2, r3)) (hy : y = Int32.ofNat 0) (k : AT m (i + 1) ls (.long (xO X) :: st) X Q) : AT m i ls (.int y :: .ref 511 :: st) X Q := by
  subst hy
  refine AT.write hM hr rfl (fun g hg => ⟨g, ?_, hg⟩) k
  have h1 := hg.2.1 511 14 1 (Or.inr (Or.inr (Or.inr (Or.inr ⟨rfl, rfl, rfl⟩))))
  have h2 := hg.2.2.2.2.1.2.2.1
  show (if pK g 511 = 14 ∧ ¬ (Int32.ofNat 0 < 0 ∨ pL g 511 ≤ (Int32.ofNat 0).toNatClampNeg) then some (i + 1, ls, pM g 511 (Int32.ofNat 0).toNatClampNeg :: st, g) else none) = _
  rw [if_pos ⟨h1.1, by rw [h1.2 (by omega)]; exact i32_in (by omega) (by omega)⟩, (i32_ix (by omega)).1, h2]
end LAW
theorem w_322 {X : XS} {p0 : Int32} {v : Int32} {P : XS → Prop} (h : RU 95 [some (.ref 1), some (.int p0)] X (some (.int v)) P) : RU 322 [some (.ref 1), some (.int p0), some (.ref 511), none] X (some (.int 0)) (fun Z => ∃ Y, P Y ∧ Z = xSetO Y v.toInt64) := by
  refine AT.aload_n M_322 rfl rfl ?_
  refine AT.iconst M_322 rfl (v := 0) (by decide) ?_
  refine AT.aload_n M_322 rfl rfl ?_
  refine AT.iload_n M_322 rfl rfl ?_
  refine AT.cv2u M_322 rfl M_95 rfl (Nat.le_of_ble_eq_true rfl) (xKd.of (Or.inr (Or.inr (Or.inl ⟨rfl, rfl, rfl⟩)))) (by decide) h (fun Y hc4 => ?_) (Nat.le_of_ble_eq_true rfl) rfl
  have r1 := hc4
  refine AT.i2l M_322 rfl ?_
  refine AT.w511 M_322 rfl rfl ?_
  refine AT.goto M_322 rfl ?_
  refine AT.iconst M_322 rfl (v := 0) (by decide) ?_
  refine AT.iret M_322 rfl rfl ?_
  exact ⟨rfl, Y, r1, rfl⟩
theorem w_322x0 {X Y : XS} {p0 : Int32} (h : RX 95 [some (.ref 1), some (.int p0)] X 0 Y) : RT 322 [some (.ref 1), some (.int p0), some (.ref 511), none] X (some (.int 1)) Y := by
  refine AT.aload_n M_322 rfl rfl ?_
  refine AT.iconst M_322 rfl (v := 0) (by decide) ?_
  refine AT.aload_n M_322 rfl rfl ?_
  refine AT.iload_n M_322 rfl rfl ?_
  refine AT.cv2h M_322 rfl M_95 rfl (Nat.le_of_ble_eq_true rfl) (xKd.of (Or.inr (Or.inr (Or.inl ⟨rfl, rfl, rfl⟩)))) (by decide) h rfl rfl rfl rfl ?_ (Nat.le_of_ble_eq_true rfl) rfl
  refine AT.iconst M_322 rfl (v := 1) (by decide) ?_
  refine AT.iret M_322 rfl rfl ?_
  exact ⟨rfl, rfl⟩
theorem w_323 {X : XS} {p0 : Int32} {v : Int32} {P : XS → Prop} (h : RU 96 [some (.ref 1), some (.int p0), none] X (some (.int v)) P) : RU 323 [some (.ref 1), some (.int p0), some (.ref 511), none] X (some (.int 0)) (fun Z => ∃ Y, P Y ∧ Z = xSetO Y v.toInt64) := by
  refine AT.aload_n M_323 rfl rfl ?_
  refine AT.iconst M_323 rfl (v := 0) (by decide) ?_
  refine AT.aload_n M_323 rfl rfl ?_
  refine AT.iload_n M_323 rfl rfl ?_
  refine AT.cv2u M_323 rfl M_96 rfl (Nat.le_of_ble_eq_true rfl) (xKd.of (Or.inr (Or.inr (Or.inl ⟨rfl, rfl, rfl⟩)))) (by decide) h (fun Y hc4 => ?_) (Nat.le_of_ble_eq_true rfl) rfl
  have r1 := hc4
  refine AT.i2l M_323 rfl ?_
  refine AT.w511 M_323 rfl rfl ?_
  refine AT.goto M_323 rfl ?_
  refine AT.iconst M_323 rfl (v := 0) (by decide) ?_
  refine AT.iret M_323 rfl rfl ?_
  exact ⟨rfl, Y, r1, rfl⟩
theorem w_323x2 {X Y : XS} {p0 : Int32} (h : RX 96 [some (.ref 1), some (.int p0), none] X 2 Y) : RT 323 [some (.ref 1), some (.int p0), some (.ref 511), none] X (some (.int 1)) Y := by
  refine AT.aload_n M_323 rfl rfl ?_
  refine AT.iconst M_323 rfl (v := 0) (by decide) ?_
  refine AT.aload_n M_323 rfl rfl ?_
  refine AT.iload_n M_323 rfl rfl ?_
  refine AT.cv2h M_323 rfl M_96 rfl (Nat.le_of_ble_eq_true rfl) (xKd.of (Or.inr (Or.inr (Or.inl ⟨rfl, rfl, rfl⟩)))) (by decide) h rfl rfl rfl rfl ?_ (Nat.le_of_ble_eq_true rfl) rfl
  refine AT.iconst M_323 rfl (v := 1) (by decide) ?_
  refine AT.iret M_323 rfl rfl ?_
  exact ⟨rfl, rfl⟩
theorem w_323x1 {X Y : XS} {p0 : Int32} (h : RX 96 [some (.ref 1), some (.int p0), none] X 1 Y) : RT 323 [some (.ref 1), some (.int p0), some (.ref 511), none] X (some (.int 2)) Y := by
  refine AT.aload_n M_323 rfl rfl ?_
  refine AT.iconst M_323 rfl (v := 0) (by decide) ?_
  refine AT.aload_n M_323 rfl rfl ?_
  refine AT.iload_n M_323 rfl rfl ?_
  refine AT.cv2h M_323 rfl M_96 rfl (Nat.le_of_ble_eq_true rfl) (xKd.of (Or.inr (Or.inr (Or.inl ⟨rfl, rfl, rfl⟩)))) (by decide) h rfl rfl rfl rfl ?_ (Nat.le_of_ble_eq_true rfl) rfl
  refine AT.iconst M_323 rfl (v := 2) (by decide) ?_
  refine AT.iret M_323 rfl rfl ?_
  exact ⟨rfl, rfl⟩
theorem w_324 {X : XS} {p0 : Int32} {v : Int32} {P : XS → Prop} (h : RU 97 [some (.ref 1), some (.int p0), none] X (some (.int v)) P) : RU 324 [some (.ref 1), some (.int p0), some (.ref 511), none] X (some (.int 0)) (fun Z => ∃ Y, P Y ∧ Z = xSetO Y v.toInt64) := by
  refine AT.aload_n M_324 rfl rfl ?_
  refine AT.iconst M_324 rfl (v := 0) (by decide) ?_
  refine AT.aload_n M_324 rfl rfl ?_
  refine AT.iload_n M_324 rfl rfl ?_
  refine AT.cv2u M_324 rfl M_97 rfl (Nat.le_of_ble_eq_true rfl) (xKd.of (Or.inr (Or.inr (Or.inl ⟨rfl, rfl, rfl⟩)))) (by decide) h (fun Y hc4 => ?_) (Nat.le_of_ble_eq_true rfl) rfl
  have r1 := hc4
  refine AT.i2l M_324 rfl ?_
  refine AT.w511 M_324 rfl rfl ?_
  refine AT.goto M_324 rfl ?_
  refine AT.iconst M_324 rfl (v := 0) (by decide) ?_
  refine AT.iret M_324 rfl rfl ?_
  exact ⟨rfl, Y, r1, rfl⟩
theorem w_324x2 {X Y : XS} {p0 : Int32} (h : RX 97 [some (.ref 1), some (.int p0), none] X 2 Y) : RT 324 [some (.ref 1), some (.int p0), some (.ref 511), none] X (some (.int 1)) Y := by
  refine AT.aload_n M_324 rfl rfl ?_
  refine AT.iconst M_324 rfl (v := 0) (by decide) ?_
  refine AT.aload_n M_324 rfl rfl ?_
  refine AT.iload_n M_324 rfl rfl ?_
  refine AT.cv2h M_324 rfl M_97 rfl (Nat.le_of_ble_eq_true rfl) (xKd.of (Or.inr (Or.inr (Or.inl ⟨rfl, rfl, rfl⟩)))) (by decide) h rfl rfl rfl rfl ?_ (Nat.le_of_ble_eq_true rfl) rfl
  refine AT.iconst M_324 rfl (v := 1) (by decide) ?_
  refine AT.iret M_324 rfl rfl ?_
  exact ⟨rfl, rfl⟩
theorem w_324x1 {X Y : XS} {p0 : Int32} (h : RX 97 [some (.ref 1), some (.int p0), none] X 1 Y) : RT 324 [some (.ref 1), some (.int p0), some (.ref 511), none] X (some (.int 2)) Y := by
  refine AT.aload_n M_324 rfl rfl ?_
  refine AT.iconst M_324 rfl (v := 0) (by decide) ?_
  refine AT.aload_n M_324 rfl rfl ?_
  refine AT.iload_n M_324 rfl rfl ?_
  refine AT.cv2h M_324 rfl M_97 rfl (Nat.le_of_ble_eq_true rfl) (xKd.of (Or.inr (Or.inr (Or.inl ⟨rfl, rfl, rfl⟩)))) (by decide) h rfl rfl rfl rfl ?_ (Nat.le_of_ble_eq_true rfl) rfl
  refine AT.iconst M_324 rfl (v := 2) (by decide) ?_
  refine AT.iret M_324 rfl rfl ?_
  exact ⟨rfl, rfl⟩
theorem w_325 {X : XS} {p0 p1 : Int32} {v : Int32} {P : XS → Prop} (h : RU 98 [some (.ref 1), some (.int p0), some (.int p1)] X (some (.int v)) P) : RU 325 [some (.ref 1), some (.int p0), some (.int p1), some (.ref 511), none] X (some (.int 0)) (fun Z => ∃ Y, P Y ∧ Z = xSetO Y v.toInt64) := by
  refine AT.aload_n M_325 rfl rfl ?_
  refine AT.iconst M_325 rfl (v := 0) (by decide) ?_
  refine AT.aload_n M_325 rfl rfl ?_
  refine AT.iload_n M_325 rfl rfl ?_
  refine AT.iload_n M_325 rfl rfl ?_
  refine AT.cv3u M_325 rfl M_98 rfl (Nat.le_of_ble_eq_true rfl) (xKd.of (Or.inr (Or.inr (Or.inl ⟨rfl, rfl, rfl⟩)))) (by decide) h (fun Y hc5 => ?_) (Nat.le_of_ble_eq_true rfl) rfl
  have r1 := hc5
  refine AT.i2l M_325 rfl ?_
  refine AT.w511 M_325 rfl rfl ?_
  refine AT.goto M_325 rfl ?_
  refine AT.iconst M_325 rfl (v := 0) (by decide) ?_
  refine AT.iret M_325 rfl rfl ?_
  exact ⟨rfl, Y, r1, rfl⟩
theorem w_325x2 {X Y : XS} {p0 p1 : Int32} (h : RX 98 [some (.ref 1), some (.int p0), some (.int p1)] X 2 Y) : RT 325 [some (.ref 1), some (.int p0), some (.int p1), some (.ref 511), none] X (some (.int 1)) Y := by
  refine AT.aload_n M_325 rfl rfl ?_
  refine AT.iconst M_325 rfl (v := 0) (by decide) ?_
  refine AT.aload_n M_325 rfl rfl ?_
  refine AT.iload_n M_325 rfl rfl ?_
  refine AT.iload_n M_325 rfl rfl ?_
  refine AT.cv3h M_325 rfl M_98 rfl (Nat.le_of_ble_eq_true rfl) (xKd.of (Or.inr (Or.inr (Or.inl ⟨rfl, rfl, rfl⟩)))) (by decide) h rfl rfl rfl rfl ?_ (Nat.le_of_ble_eq_true rfl) rfl
  refine AT.iconst M_325 rfl (v := 1) (by decide) ?_
  refine AT.iret M_325 rfl rfl ?_
  exact ⟨rfl, rfl⟩
theorem w_325x0 {X Y : XS} {p0 p1 : Int32} (h : RX 98 [some (.ref 1), some (.int p0), some (.int p1)] X 0 Y) : RT 325 [some (.ref 1), some (.int p0), some (.int p1), some (.ref 511), none] X (some (.int 2)) Y := by
  refine AT.aload_n M_325 rfl rfl ?_
  refine AT.iconst M_325 rfl (v := 0) (by decide) ?_
  refine AT.aload_n M_325 rfl rfl ?_
  refine AT.iload_n M_325 rfl rfl ?_
  refine AT.iload_n M_325 rfl rfl ?_
  refine AT.cv3h M_325 rfl M_98 rfl (Nat.le_of_ble_eq_true rfl) (xKd.of (Or.inr (Or.inr (Or.inl ⟨rfl, rfl, rfl⟩)))) (by decide) h rfl rfl rfl rfl ?_ (Nat.le_of_ble_eq_true rfl) rfl
  refine AT.iconst M_325 rfl (v := 2) (by decide) ?_
  refine AT.iret M_325 rfl rfl ?_
  exact ⟨rfl, rfl⟩
theorem w_325x1 {X Y : XS} {p0 p1 : Int32} (h : RX 98 [some (.ref 1), some (.int p0), some (.int p1)] X 1 Y) : RT 325 [some (.ref 1), some (.int p0), some (.int p1), some (.ref 511), none] X (some (.int 3)) Y := by
  refine AT.aload_n M_325 rfl rfl ?_
  refine AT.iconst M_325 rfl (v := 0) (by decide) ?_
  refine AT.aload_n M_325 rfl rfl ?_
  refine AT.iload_n M_325 rfl rfl ?_
  refine AT.iload_n M_325 rfl rfl ?_
  refine AT.cv3h M_325 rfl M_98 rfl (Nat.le_of_ble_eq_true rfl) (xKd.of (Or.inr (Or.inr (Or.inl ⟨rfl, rfl, rfl⟩)))) (by decide) h rfl rfl rfl rfl ?_ (Nat.le_of_ble_eq_true rfl) rfl
  refine AT.iconst M_325 rfl (v := 3) (by decide) ?_
  refine AT.iret M_325 rfl rfl ?_
  exact ⟨rfl, rfl⟩
theorem w_326 {X : XS} {p0 p1 : Int32} {v : Int32} {P : XS → Prop} (h : RU 99 [some (.ref 1), some (.int p0), some (.int p1)] X (some (.int v)) P) : RU 326 [some (.ref 1), some (.int p0), some (.int p1), some (.ref 511), none] X (some (.int 0)) (fun Z => ∃ Y, P Y ∧ Z = xSetO Y v.toInt64) := by
  refine AT.aload_n M_326 rfl rfl ?_
  refine AT.iconst M_326 rfl (v := 0) (by decide) ?_
  refine AT.aload_n M_326 rfl rfl ?_
  refine AT.iload_n M_326 rfl rfl ?_
  refine AT.iload_n M_326 rfl rfl ?_
  refine AT.cv3u M_326 rfl M_99 rfl (Nat.le_of_ble_eq_true rfl) (xKd.of (Or.inr (Or.inr (Or.inl ⟨rfl, rfl, rfl⟩)))) (by decide) h (fun Y hc5 => ?_) (Nat.le_of_ble_eq_true rfl) rfl
  have r1 := hc5
  refine AT.i2l M_326 rfl ?_
  refine AT.w511 M_326 rfl rfl ?_
  refine AT.goto M_326 rfl ?_
  refine AT.iconst M_326 rfl (v := 0) (by decide) ?_
  refine AT.iret M_326 rfl rfl ?_
  exact ⟨rfl, Y, r1, rfl⟩
theorem w_326x2 {X Y : XS} {p0 p1 : Int32} (h : RX 99 [some (.ref 1), some (.int p0), some (.int p1)] X 2 Y) : RT 326 [some (.ref 1), some (.int p0), some (.int p1), some (.ref 511), none] X (some (.int 1)) Y := by
  refine AT.aload_n M_326 rfl rfl ?_
  refine AT.iconst M_326 rfl (v := 0) (by decide) ?_
  refine AT.aload_n M_326 rfl rfl ?_
  refine AT.iload_n M_326 rfl rfl ?_
  refine AT.iload_n M_326 rfl rfl ?_
  refine AT.cv3h M_326 rfl M_99 rfl (Nat.le_of_ble_eq_true rfl) (xKd.of (Or.inr (Or.inr (Or.inl ⟨rfl, rfl, rfl⟩)))) (by decide) h rfl rfl rfl rfl ?_ (Nat.le_of_ble_eq_true rfl) rfl
  refine AT.iconst M_326 rfl (v := 1) (by decide) ?_
  refine AT.iret M_326 rfl rfl ?_
  exact ⟨rfl, rfl⟩
theorem w_326x0 {X Y : XS} {p0 p1 : Int32} (h : RX 99 [some (.ref 1), some (.int p0), some (.int p1)] X 0 Y) : RT 326 [some (.ref 1), some (.int p0), some (.int p1), some (.ref 511), none] X (some (.int 2)) Y := by
  refine AT.aload_n M_326 rfl rfl ?_
  refine AT.iconst M_326 rfl (v := 0) (by decide) ?_
  refine AT.aload_n M_326 rfl rfl ?_
  refine AT.iload_n M_326 rfl rfl ?_
  refine AT.iload_n M_326 rfl rfl ?_
  refine AT.cv3h M_326 rfl M_99 rfl (Nat.le_of_ble_eq_true rfl) (xKd.of (Or.inr (Or.inr (Or.inl ⟨rfl, rfl, rfl⟩)))) (by decide) h rfl rfl rfl rfl ?_ (Nat.le_of_ble_eq_true rfl) rfl
  refine AT.iconst M_326 rfl (v := 2) (by decide) ?_
  refine AT.iret M_326 rfl rfl ?_
  exact ⟨rfl, rfl⟩
theorem w_326x1 {X Y : XS} {p0 p1 : Int32} (h : RX 99 [some (.ref 1), some (.int p0), some (.int p1)] X 1 Y) : RT 326 [some (.ref 1), some (.int p0), some (.int p1), some (.ref 511), none] X (some (.int 3)) Y := by
  refine AT.aload_n M_326 rfl rfl ?_
  refine AT.iconst M_326 rfl (v := 0) (by decide) ?_
  refine AT.aload_n M_326 rfl rfl ?_
  refine AT.iload_n M_326 rfl rfl ?_
  refine AT.iload_n M_326 rfl rfl ?_
  refine AT.cv3h M_326 rfl M_99 rfl (Nat.le_of_ble_eq_true rfl) (xKd.of (Or.inr (Or.inr (Or.inl ⟨rfl, rfl, rfl⟩)))) (by decide) h rfl rfl rfl rfl ?_ (Nat.le_of_ble_eq_true rfl) rfl
  refine AT.iconst M_326 rfl (v := 3) (by decide) ?_
  refine AT.iret M_326 rfl rfl ?_
  exact ⟨rfl, rfl⟩
theorem w_327 {X : XS} {p0 : Int32} {v : Int32} {P : XS → Prop} (h : RU 100 [some (.ref 1), some (.int p0), none, none] X (some (.int v)) P) : RU 327 [some (.ref 1), some (.int p0), some (.ref 511), none] X (some (.int 0)) (fun Z => ∃ Y, P Y ∧ Z = xSetO Y v.toInt64) := by
  refine AT.aload_n M_327 rfl rfl ?_
  refine AT.iconst M_327 rfl (v := 0) (by decide) ?_
  refine AT.aload_n M_327 rfl rfl ?_
  refine AT.iload_n M_327 rfl rfl ?_
  refine AT.cv2u M_327 rfl M_100 rfl (Nat.le_of_ble_eq_true rfl) (xKd.of (Or.inr (Or.inr (Or.inl ⟨rfl, rfl, rfl⟩)))) (by decide) h (fun Y hc4 => ?_) (Nat.le_of_ble_eq_true rfl) rfl
  have r1 := hc4
  refine AT.i2l M_327 rfl ?_
  refine AT.w511 M_327 rfl rfl ?_
  refine AT.goto M_327 rfl ?_
  refine AT.iconst M_327 rfl (v := 0) (by decide) ?_
  refine AT.iret M_327 rfl rfl ?_
  exact ⟨rfl, Y, r1, rfl⟩
theorem w_327x0 {X Y : XS} {p0 : Int32} (h : RX 100 [some (.ref 1), some (.int p0), none, none] X 0 Y) : RT 327 [some (.ref 1), some (.int p0), some (.ref 511), none] X (some (.int 1)) Y := by
  refine AT.aload_n M_327 rfl rfl ?_
  refine AT.iconst M_327 rfl (v := 0) (by decide) ?_
  refine AT.aload_n M_327 rfl rfl ?_
  refine AT.iload_n M_327 rfl rfl ?_
  refine AT.cv2h M_327 rfl M_100 rfl (Nat.le_of_ble_eq_true rfl) (xKd.of (Or.inr (Or.inr (Or.inl ⟨rfl, rfl, rfl⟩)))) (by decide) h rfl rfl rfl rfl ?_ (Nat.le_of_ble_eq_true rfl) rfl
  refine AT.iconst M_327 rfl (v := 1) (by decide) ?_
  refine AT.iret M_327 rfl rfl ?_
  exact ⟨rfl, rfl⟩
theorem w_328 {X : XS} {p0 : Int32} {v : Int32} {P : XS → Prop} (h : RU 101 [some (.ref 1), some (.int p0), none] X (some (.int v)) P) : RU 328 [some (.ref 1), some (.int p0), some (.ref 511), none] X (some (.int 0)) (fun Z => ∃ Y, P Y ∧ Z = xSetO Y v.toInt64) := by
  refine AT.aload_n M_328 rfl rfl ?_
  refine AT.iconst M_328 rfl (v := 0) (by decide) ?_
  refine AT.aload_n M_328 rfl rfl ?_
  refine AT.iload_n M_328 rfl rfl ?_
  refine AT.cv2u M_328 rfl M_101 rfl (Nat.le_of_ble_eq_true rfl) (xKd.of (Or.inr (Or.inr (Or.inl ⟨rfl, rfl, rfl⟩)))) (by decide) h (fun Y hc4 => ?_) (Nat.le_of_ble_eq_true rfl) rfl
  have r1 := hc4
  refine AT.i2l M_328 rfl ?_
  refine AT.w511 M_328 rfl rfl ?_
  refine AT.goto M_328 rfl ?_
  refine AT.iconst M_328 rfl (v := 0) (by decide) ?_
  refine AT.iret M_328 rfl rfl ?_
  exact ⟨rfl, Y, r1, rfl⟩
theorem w_328x2 {X Y : XS} {p0 : Int32} (h : RX 101 [some (.ref 1), some (.int p0), none] X 2 Y) : RT 328 [some (.ref 1), some (.int p0), some (.ref 511), none] X (some (.int 1)) Y := by
  refine AT.aload_n M_328 rfl rfl ?_
  refine AT.iconst M_328 rfl (v := 0) (by decide) ?_
  refine AT.aload_n M_328 rfl rfl ?_
  refine AT.iload_n M_328 rfl rfl ?_
  refine AT.cv2h M_328 rfl M_101 rfl (Nat.le_of_ble_eq_true rfl) (xKd.of (Or.inr (Or.inr (Or.inl ⟨rfl, rfl, rfl⟩)))) (by decide) h rfl rfl rfl rfl ?_ (Nat.le_of_ble_eq_true rfl) rfl
  refine AT.iconst M_328 rfl (v := 1) (by decide) ?_
  refine AT.iret M_328 rfl rfl ?_
  exact ⟨rfl, rfl⟩
theorem w_328x1 {X Y : XS} {p0 : Int32} (h : RX 101 [some (.ref 1), some (.int p0), none] X 1 Y) : RT 328 [some (.ref 1), some (.int p0), some (.ref 511), none] X (some (.int 2)) Y := by
  refine AT.aload_n M_328 rfl rfl ?_
  refine AT.iconst M_328 rfl (v := 0) (by decide) ?_
  refine AT.aload_n M_328 rfl rfl ?_
  refine AT.iload_n M_328 rfl rfl ?_
  refine AT.cv2h M_328 rfl M_101 rfl (Nat.le_of_ble_eq_true rfl) (xKd.of (Or.inr (Or.inr (Or.inl ⟨rfl, rfl, rfl⟩)))) (by decide) h rfl rfl rfl rfl ?_ (Nat.le_of_ble_eq_true rfl) rfl
  refine AT.iconst M_328 rfl (v := 2) (by decide) ?_
  refine AT.iret M_328 rfl rfl ?_
  exact ⟨rfl, rfl⟩
theorem w_329 {X : XS} {p0 : Int32} {v : Int32} {P : XS → Prop} (h : RU 102 [some (.ref 1), some (.int p0), none] X (some (.int v)) P) : RU 329 [some (.ref 1), some (.int p0), some (.ref 511), none] X (some (.int 0)) (fun Z => ∃ Y, P Y ∧ Z = xSetO Y v.toInt64) := by
  refine AT.aload_n M_329 rfl rfl ?_
  refine AT.iconst M_329 rfl (v := 0) (by decide) ?_
  refine AT.aload_n M_329 rfl rfl ?_
  refine AT.iload_n M_329 rfl rfl ?_
  refine AT.cv2u M_329 rfl M_102 rfl (Nat.le_of_ble_eq_true rfl) (xKd.of (Or.inr (Or.inr (Or.inl ⟨rfl, rfl, rfl⟩)))) (by decide) h (fun Y hc4 => ?_) (Nat.le_of_ble_eq_true rfl) rfl
  have r1 := hc4
  refine AT.i2l M_329 rfl ?_
  refine AT.w511 M_329 rfl rfl ?_
  refine AT.goto M_329 rfl ?_
  refine AT.iconst M_329 rfl (v := 0) (by decide) ?_
  refine AT.iret M_329 rfl rfl ?_
  exact ⟨rfl, Y, r1, rfl⟩
theorem w_329x2 {X Y : XS} {p0 : Int32} (h : RX 102 [some (.ref 1), some (.int p0), none] X 2 Y) : RT 329 [some (.ref 1), some (.int p0), some (.ref 511), none] X (some (.int 1)) Y := by
  refine AT.aload_n M_329 rfl rfl ?_
  refine AT.iconst M_329 rfl (v := 0) (by decide) ?_
  refine AT.aload_n M_329 rfl rfl ?_
  refine AT.iload_n M_329 rfl rfl ?_
  refine AT.cv2h M_329 rfl M_102 rfl (Nat.le_of_ble_eq_true rfl) (xKd.of (Or.inr (Or.inr (Or.inl ⟨rfl, rfl, rfl⟩)))) (by decide) h rfl rfl rfl rfl ?_ (Nat.le_of_ble_eq_true rfl) rfl
  refine AT.iconst M_329 rfl (v := 1) (by decide) ?_
  refine AT.iret M_329 rfl rfl ?_
  exact ⟨rfl, rfl⟩
theorem w_329x1 {X Y : XS} {p0 : Int32} (h : RX 102 [some (.ref 1), some (.int p0), none] X 1 Y) : RT 329 [some (.ref 1), some (.int p0), some (.ref 511), none] X (some (.int 2)) Y := by
  refine AT.aload_n M_329 rfl rfl ?_
  refine AT.iconst M_329 rfl (v := 0) (by decide) ?_
  refine AT.aload_n M_329 rfl rfl ?_
  refine AT.iload_n M_329 rfl rfl ?_
  refine AT.cv2h M_329 rfl M_102 rfl (Nat.le_of_ble_eq_true rfl) (xKd.of (Or.inr (Or.inr (Or.inl ⟨rfl, rfl, rfl⟩)))) (by decide) h rfl rfl rfl rfl ?_ (Nat.le_of_ble_eq_true rfl) rfl
  refine AT.iconst M_329 rfl (v := 2) (by decide) ?_
  refine AT.iret M_329 rfl rfl ?_
  exact ⟨rfl, rfl⟩
theorem w_330 {X : XS} {p0 : Int32} {v : Int32} {P : XS → Prop} (h : RU 103 [some (.ref 1), some (.int p0), none] X (some (.int v)) P) : RU 330 [some (.ref 1), some (.int p0), some (.ref 511), none] X (some (.int 0)) (fun Z => ∃ Y, P Y ∧ Z = xSetO Y v.toInt64) := by
  refine AT.aload_n M_330 rfl rfl ?_
  refine AT.iconst M_330 rfl (v := 0) (by decide) ?_
  refine AT.aload_n M_330 rfl rfl ?_
  refine AT.iload_n M_330 rfl rfl ?_
  refine AT.cv2u M_330 rfl M_103 rfl (Nat.le_of_ble_eq_true rfl) (xKd.of (Or.inr (Or.inr (Or.inl ⟨rfl, rfl, rfl⟩)))) (by decide) h (fun Y hc4 => ?_) (Nat.le_of_ble_eq_true rfl) rfl
  have r1 := hc4
  refine AT.i2l M_330 rfl ?_
  refine AT.w511 M_330 rfl rfl ?_
  refine AT.goto M_330 rfl ?_
  refine AT.iconst M_330 rfl (v := 0) (by decide) ?_
  refine AT.iret M_330 rfl rfl ?_
  exact ⟨rfl, Y, r1, rfl⟩
theorem w_330x2 {X Y : XS} {p0 : Int32} (h : RX 103 [some (.ref 1), some (.int p0), none] X 2 Y) : RT 330 [some (.ref 1), some (.int p0), some (.ref 511), none] X (some (.int 1)) Y := by
  refine AT.aload_n M_330 rfl rfl ?_
  refine AT.iconst M_330 rfl (v := 0) (by decide) ?_
  refine AT.aload_n M_330 rfl rfl ?_
  refine AT.iload_n M_330 rfl rfl ?_
  refine AT.cv2h M_330 rfl M_103 rfl (Nat.le_of_ble_eq_true rfl) (xKd.of (Or.inr (Or.inr (Or.inl ⟨rfl, rfl, rfl⟩)))) (by decide) h rfl rfl rfl rfl ?_ (Nat.le_of_ble_eq_true rfl) rfl
  refine AT.iconst M_330 rfl (v := 1) (by decide) ?_
  refine AT.iret M_330 rfl rfl ?_
  exact ⟨rfl, rfl⟩
theorem w_330x1 {X Y : XS} {p0 : Int32} (h : RX 103 [some (.ref 1), some (.int p0), none] X 1 Y) : RT 330 [some (.ref 1), some (.int p0), some (.ref 511), none] X (some (.int 2)) Y := by
  refine AT.aload_n M_330 rfl rfl ?_
  refine AT.iconst M_330 rfl (v := 0) (by decide) ?_
  refine AT.aload_n M_330 rfl rfl ?_
  refine AT.iload_n M_330 rfl rfl ?_
  refine AT.cv2h M_330 rfl M_103 rfl (Nat.le_of_ble_eq_true rfl) (xKd.of (Or.inr (Or.inr (Or.inl ⟨rfl, rfl, rfl⟩)))) (by decide) h rfl rfl rfl rfl ?_ (Nat.le_of_ble_eq_true rfl) rfl
  refine AT.iconst M_330 rfl (v := 2) (by decide) ?_
  refine AT.iret M_330 rfl rfl ?_
  exact ⟨rfl, rfl⟩
theorem w_331 {X : XS} {p0 p1 : Int32} {v : Int32} {P : XS → Prop} (h : RU 104 [some (.ref 1), some (.int p0), some (.int p1), none] X (some (.int v)) P) : RU 331 [some (.ref 1), some (.int p0), some (.int p1), some (.ref 511), none] X (some (.int 0)) (fun Z => ∃ Y, P Y ∧ Z = xSetO Y v.toInt64) := by
  refine AT.aload_n M_331 rfl rfl ?_
  refine AT.iconst M_331 rfl (v := 0) (by decide) ?_
  refine AT.aload_n M_331 rfl rfl ?_
  refine AT.iload_n M_331 rfl rfl ?_
  refine AT.iload_n M_331 rfl rfl ?_
  refine AT.cv3u M_331 rfl M_104 rfl (Nat.le_of_ble_eq_true rfl) (xKd.of (Or.inr (Or.inr (Or.inl ⟨rfl, rfl, rfl⟩)))) (by decide) h (fun Y hc5 => ?_) (Nat.le_of_ble_eq_true rfl) rfl
  have r1 := hc5
  refine AT.i2l M_331 rfl ?_
  refine AT.w511 M_331 rfl rfl ?_
  refine AT.goto M_331 rfl ?_
  refine AT.iconst M_331 rfl (v := 0) (by decide) ?_
  refine AT.iret M_331 rfl rfl ?_
  exact ⟨rfl, Y, r1, rfl⟩
theorem w_331x2 {X Y : XS} {p0 p1 : Int32} (h : RX 104 [some (.ref 1), some (.int p0), some (.int p1), none] X 2 Y) : RT 331 [some (.ref 1), some (.int p0), some (.int p1), some (.ref 511), none] X (some (.int 1)) Y := by
  refine AT.aload_n M_331 rfl rfl ?_
  refine AT.iconst M_331 rfl (v := 0) (by decide) ?_
  refine AT.aload_n M_331 rfl rfl ?_
  refine AT.iload_n M_331 rfl rfl ?_
  refine AT.iload_n M_331 rfl rfl ?_
  refine AT.cv3h M_331 rfl M_104 rfl (Nat.le_of_ble_eq_true rfl) (xKd.of (Or.inr (Or.inr (Or.inl ⟨rfl, rfl, rfl⟩)))) (by decide) h rfl rfl rfl rfl ?_ (Nat.le_of_ble_eq_true rfl) rfl
  refine AT.iconst M_331 rfl (v := 1) (by decide) ?_
  refine AT.iret M_331 rfl rfl ?_
  exact ⟨rfl, rfl⟩
theorem w_331x0 {X Y : XS} {p0 p1 : Int32} (h : RX 104 [some (.ref 1), some (.int p0), some (.int p1), none] X 0 Y) : RT 331 [some (.ref 1), some (.int p0), some (.int p1), some (.ref 511), none] X (some (.int 2)) Y := by
  refine AT.aload_n M_331 rfl rfl ?_
  refine AT.iconst M_331 rfl (v := 0) (by decide) ?_
  refine AT.aload_n M_331 rfl rfl ?_
  refine AT.iload_n M_331 rfl rfl ?_
  refine AT.iload_n M_331 rfl rfl ?_
  refine AT.cv3h M_331 rfl M_104 rfl (Nat.le_of_ble_eq_true rfl) (xKd.of (Or.inr (Or.inr (Or.inl ⟨rfl, rfl, rfl⟩)))) (by decide) h rfl rfl rfl rfl ?_ (Nat.le_of_ble_eq_true rfl) rfl
  refine AT.iconst M_331 rfl (v := 2) (by decide) ?_
  refine AT.iret M_331 rfl rfl ?_
  exact ⟨rfl, rfl⟩
theorem w_331x1 {X Y : XS} {p0 p1 : Int32} (h : RX 104 [some (.ref 1), some (.int p0), some (.int p1), none] X 1 Y) : RT 331 [some (.ref 1), some (.int p0), some (.int p1), some (.ref 511), none] X (some (.int 3)) Y := by
  refine AT.aload_n M_331 rfl rfl ?_
  refine AT.iconst M_331 rfl (v := 0) (by decide) ?_
  refine AT.aload_n M_331 rfl rfl ?_
  refine AT.iload_n M_331 rfl rfl ?_
  refine AT.iload_n M_331 rfl rfl ?_
  refine AT.cv3h M_331 rfl M_104 rfl (Nat.le_of_ble_eq_true rfl) (xKd.of (Or.inr (Or.inr (Or.inl ⟨rfl, rfl, rfl⟩)))) (by decide) h rfl rfl rfl rfl ?_ (Nat.le_of_ble_eq_true rfl) rfl
  refine AT.iconst M_331 rfl (v := 3) (by decide) ?_
  refine AT.iret M_331 rfl rfl ?_
  exact ⟨rfl, rfl⟩
theorem w_332 {X : XS} {p0 p1 : Int32} {v : Int32} {P : XS → Prop} (h : RU 105 [some (.ref 1), some (.int p0), some (.int p1), none, none] X (some (.int v)) P) : RU 332 [some (.ref 1), some (.int p0), some (.int p1), some (.ref 511), none] X (some (.int 0)) (fun Z => ∃ Y, P Y ∧ Z = xSetO Y v.toInt64) := by
  refine AT.aload_n M_332 rfl rfl ?_
  refine AT.iconst M_332 rfl (v := 0) (by decide) ?_
  refine AT.aload_n M_332 rfl rfl ?_
  refine AT.iload_n M_332 rfl rfl ?_
  refine AT.iload_n M_332 rfl rfl ?_
  refine AT.cv3u M_332 rfl M_105 rfl (Nat.le_of_ble_eq_true rfl) (xKd.of (Or.inr (Or.inr (Or.inl ⟨rfl, rfl, rfl⟩)))) (by decide) h (fun Y hc5 => ?_) (Nat.le_of_ble_eq_true rfl) rfl
  have r1 := hc5
  refine AT.i2l M_332 rfl ?_
  refine AT.w511 M_332 rfl rfl ?_
  refine AT.goto M_332 rfl ?_
  refine AT.iconst M_332 rfl (v := 0) (by decide) ?_
  refine AT.iret M_332 rfl rfl ?_
  exact ⟨rfl, Y, r1, rfl⟩
theorem w_332x2 {X Y : XS} {p0 p1 : Int32} (h : RX 105 [some (.ref 1), some (.int p0), some (.int p1), none, none] X 2 Y) : RT 332 [some (.ref 1), some (.int p0), some (.int p1), some (.ref 511), none] X (some (.int 1)) Y := by
  refine AT.aload_n M_332 rfl rfl ?_
  refine AT.iconst M_332 rfl (v := 0) (by decide) ?_
  refine AT.aload_n M_332 rfl rfl ?_
  refine AT.iload_n M_332 rfl rfl ?_
  refine AT.iload_n M_332 rfl rfl ?_
  refine AT.cv3h M_332 rfl M_105 rfl (Nat.le_of_ble_eq_true rfl) (xKd.of (Or.inr (Or.inr (Or.inl ⟨rfl, rfl, rfl⟩)))) (by decide) h rfl rfl rfl rfl ?_ (Nat.le_of_ble_eq_true rfl) rfl
  refine AT.iconst M_332 rfl (v := 1) (by decide) ?_
  refine AT.iret M_332 rfl rfl ?_
  exact ⟨rfl, rfl⟩
theorem w_332x1 {X Y : XS} {p0 p1 : Int32} (h : RX 105 [some (.ref 1), some (.int p0), some (.int p1), none, none] X 1 Y) : RT 332 [some (.ref 1), some (.int p0), some (.int p1), some (.ref 511), none] X (some (.int 2)) Y := by
  refine AT.aload_n M_332 rfl rfl ?_
  refine AT.iconst M_332 rfl (v := 0) (by decide) ?_
  refine AT.aload_n M_332 rfl rfl ?_
  refine AT.iload_n M_332 rfl rfl ?_
  refine AT.iload_n M_332 rfl rfl ?_
  refine AT.cv3h M_332 rfl M_105 rfl (Nat.le_of_ble_eq_true rfl) (xKd.of (Or.inr (Or.inr (Or.inl ⟨rfl, rfl, rfl⟩)))) (by decide) h rfl rfl rfl rfl ?_ (Nat.le_of_ble_eq_true rfl) rfl
  refine AT.iconst M_332 rfl (v := 2) (by decide) ?_
  refine AT.iret M_332 rfl rfl ?_
  exact ⟨rfl, rfl⟩
theorem w_333 {X : XS} {p0 p1 : Int32} {v : Int32} {P : XS → Prop} (h : RU 106 [some (.ref 1), some (.int p0), some (.int p1), none, none, none] X (some (.int v)) P) : RU 333 [some (.ref 1), some (.int p0), some (.int p1), some (.ref 511), none] X (some (.int 0)) (fun Z => ∃ Y, P Y ∧ Z = xSetO Y v.toInt64) := by
  refine AT.aload_n M_333 rfl rfl ?_
  refine AT.iconst M_333 rfl (v := 0) (by decide) ?_
  refine AT.aload_n M_333 rfl rfl ?_
  refine AT.iload_n M_333 rfl rfl ?_
  refine AT.iload_n M_333 rfl rfl ?_
  refine AT.cv3u M_333 rfl M_106 rfl (Nat.le_of_ble_eq_true rfl) (xKd.of (Or.inr (Or.inr (Or.inl ⟨rfl, rfl, rfl⟩)))) (by decide) h (fun Y hc5 => ?_) (Nat.le_of_ble_eq_true rfl) rfl
  have r1 := hc5
  refine AT.i2l M_333 rfl ?_
  refine AT.w511 M_333 rfl rfl ?_
  refine AT.goto M_333 rfl ?_
  refine AT.iconst M_333 rfl (v := 0) (by decide) ?_
  refine AT.iret M_333 rfl rfl ?_
  exact ⟨rfl, Y, r1, rfl⟩
theorem w_333x2 {X Y : XS} {p0 p1 : Int32} (h : RX 106 [some (.ref 1), some (.int p0), some (.int p1), none, none, none] X 2 Y) : RT 333 [some (.ref 1), some (.int p0), some (.int p1), some (.ref 511), none] X (some (.int 1)) Y := by
  refine AT.aload_n M_333 rfl rfl ?_
  refine AT.iconst M_333 rfl (v := 0) (by decide) ?_
  refine AT.aload_n M_333 rfl rfl ?_
  refine AT.iload_n M_333 rfl rfl ?_
  refine AT.iload_n M_333 rfl rfl ?_
  refine AT.cv3h M_333 rfl M_106 rfl (Nat.le_of_ble_eq_true rfl) (xKd.of (Or.inr (Or.inr (Or.inl ⟨rfl, rfl, rfl⟩)))) (by decide) h rfl rfl rfl rfl ?_ (Nat.le_of_ble_eq_true rfl) rfl
  refine AT.iconst M_333 rfl (v := 1) (by decide) ?_
  refine AT.iret M_333 rfl rfl ?_
  exact ⟨rfl, rfl⟩
theorem w_333x1 {X Y : XS} {p0 p1 : Int32} (h : RX 106 [some (.ref 1), some (.int p0), some (.int p1), none, none, none] X 1 Y) : RT 333 [some (.ref 1), some (.int p0), some (.int p1), some (.ref 511), none] X (some (.int 2)) Y := by
  refine AT.aload_n M_333 rfl rfl ?_
  refine AT.iconst M_333 rfl (v := 0) (by decide) ?_
  refine AT.aload_n M_333 rfl rfl ?_
  refine AT.iload_n M_333 rfl rfl ?_
  refine AT.iload_n M_333 rfl rfl ?_
  refine AT.cv3h M_333 rfl M_106 rfl (Nat.le_of_ble_eq_true rfl) (xKd.of (Or.inr (Or.inr (Or.inl ⟨rfl, rfl, rfl⟩)))) (by decide) h rfl rfl rfl rfl ?_ (Nat.le_of_ble_eq_true rfl) rfl
  refine AT.iconst M_333 rfl (v := 2) (by decide) ?_
  refine AT.iret M_333 rfl rfl ?_
  exact ⟨rfl, rfl⟩
theorem w_334 {X : XS} {p0 : Int32} {v : Int32} {P : XS → Prop} (h : RU 108 [some (.ref 1), some (.int p0)] X (some (.int v)) P) (h01 : v = 0 ∨ v = 1) : RU 334 [some (.ref 1), some (.int p0), some (.ref 511), none] X (some (.int 0)) (fun Z => ∃ Y, P Y ∧ Z = xSetO Y v.toInt64) := by
  refine AT.aload_n M_334 rfl rfl ?_
  refine AT.iconst M_334 rfl (v := 0) (by decide) ?_
  refine AT.aload_n M_334 rfl rfl ?_
  refine AT.iload_n M_334 rfl rfl ?_
  refine AT.cv2u M_334 rfl M_108 rfl (Nat.le_of_ble_eq_true rfl) (xKd.of (Or.inr (Or.inr (Or.inl ⟨rfl, rfl, rfl⟩)))) (by decide) h (fun Y hc4 => ?_) (Nat.le_of_ble_eq_true rfl) rfl
  have r1 := hc4
  refine AT.if_eq M_334 rfl (fun b5 => ?_) (fun b5 => ?_)
  · refine AT.lconst M_334 rfl (v := 0) (by decide) ?_
    refine AT.w511 M_334 rfl rfl ?_
    refine AT.goto M_334 rfl ?_
    refine AT.iconst M_334 rfl (v := 0) (by decide) ?_
    refine AT.iret M_334 rfl rfl ?_
    rw [show v.toInt64 = 0 from by rw [b5]; rfl]
    exact ⟨rfl, Y, r1, rfl⟩
  · refine AT.lconst M_334 rfl (v := 1) (by decide) ?_
    refine AT.goto M_334 rfl ?_
    refine AT.w511 M_334 rfl rfl ?_
    refine AT.goto M_334 rfl ?_
    refine AT.iconst M_334 rfl (v := 0) (by decide) ?_
    refine AT.iret M_334 rfl rfl ?_
    rw [show v.toInt64 = 1 from by rw [h01.resolve_left b5]; rfl]
    exact ⟨rfl, Y, r1, rfl⟩
theorem w_334x2 {X Y : XS} {p0 : Int32} (h : RX 108 [some (.ref 1), some (.int p0)] X 2 Y) : RT 334 [some (.ref 1), some (.int p0), some (.ref 511), none] X (some (.int 1)) Y := by
  refine AT.aload_n M_334 rfl rfl ?_
  refine AT.iconst M_334 rfl (v := 0) (by decide) ?_
  refine AT.aload_n M_334 rfl rfl ?_
  refine AT.iload_n M_334 rfl rfl ?_
  refine AT.cv2h M_334 rfl M_108 rfl (Nat.le_of_ble_eq_true rfl) (xKd.of (Or.inr (Or.inr (Or.inl ⟨rfl, rfl, rfl⟩)))) (by decide) h rfl rfl rfl rfl ?_ (Nat.le_of_ble_eq_true rfl) rfl
  refine AT.iconst M_334 rfl (v := 1) (by decide) ?_
  refine AT.iret M_334 rfl rfl ?_
  exact ⟨rfl, rfl⟩
theorem w_335 {X : XS} {p0 : Int32} {v : Int32} {P : XS → Prop} (h : RU 109 [some (.ref 1), some (.int p0)] X (some (.int v)) P) : RU 335 [some (.ref 1), some (.int p0), some (.ref 511), none] X (some (.int 0)) (fun Z => ∃ Y, P Y ∧ Z = xSetO Y v.toInt64) := by
  refine AT.aload_n M_335 rfl rfl ?_
  refine AT.iconst M_335 rfl (v := 0) (by decide) ?_
  refine AT.aload_n M_335 rfl rfl ?_
  refine AT.iload_n M_335 rfl rfl ?_
  refine AT.cv2u M_335 rfl M_109 rfl (Nat.le_of_ble_eq_true rfl) (xKd.of (Or.inr (Or.inr (Or.inl ⟨rfl, rfl, rfl⟩)))) (by decide) h (fun Y hc4 => ?_) (Nat.le_of_ble_eq_true rfl) rfl
  have r1 := hc4
  refine AT.i2l M_335 rfl ?_
  refine AT.w511 M_335 rfl rfl ?_
  refine AT.goto M_335 rfl ?_
  refine AT.iconst M_335 rfl (v := 0) (by decide) ?_
  refine AT.iret M_335 rfl rfl ?_
  exact ⟨rfl, Y, r1, rfl⟩
theorem w_335x2 {X Y : XS} {p0 : Int32} (h : RX 109 [some (.ref 1), some (.int p0)] X 2 Y) : RT 335 [some (.ref 1), some (.int p0), some (.ref 511), none] X (some (.int 1)) Y := by
  refine AT.aload_n M_335 rfl rfl ?_
  refine AT.iconst M_335 rfl (v := 0) (by decide) ?_
  refine AT.aload_n M_335 rfl rfl ?_
  refine AT.iload_n M_335 rfl rfl ?_
  refine AT.cv2h M_335 rfl M_109 rfl (Nat.le_of_ble_eq_true rfl) (xKd.of (Or.inr (Or.inr (Or.inl ⟨rfl, rfl, rfl⟩)))) (by decide) h rfl rfl rfl rfl ?_ (Nat.le_of_ble_eq_true rfl) rfl
  refine AT.iconst M_335 rfl (v := 1) (by decide) ?_
  refine AT.iret M_335 rfl rfl ?_
  exact ⟨rfl, rfl⟩
theorem w_336 {X : XS} {p0 : Int32} {v : Int32} {P : XS → Prop} (h : RU 110 [some (.ref 1), some (.int p0)] X (some (.int v)) P) : RU 336 [some (.ref 1), some (.int p0), some (.ref 511), none] X (some (.int 0)) (fun Z => ∃ Y, P Y ∧ Z = xSetO Y v.toInt64) := by
  refine AT.aload_n M_336 rfl rfl ?_
  refine AT.iconst M_336 rfl (v := 0) (by decide) ?_
  refine AT.aload_n M_336 rfl rfl ?_
  refine AT.iload_n M_336 rfl rfl ?_
  refine AT.cv2u M_336 rfl M_110 rfl (Nat.le_of_ble_eq_true rfl) (xKd.of (Or.inr (Or.inr (Or.inl ⟨rfl, rfl, rfl⟩)))) (by decide) h (fun Y hc4 => ?_) (Nat.le_of_ble_eq_true rfl) rfl
  have r1 := hc4
  refine AT.i2l M_336 rfl ?_
  refine AT.w511 M_336 rfl rfl ?_
  refine AT.goto M_336 rfl ?_
  refine AT.iconst M_336 rfl (v := 0) (by decide) ?_
  refine AT.iret M_336 rfl rfl ?_
  exact ⟨rfl, Y, r1, rfl⟩
theorem w_336x2 {X Y : XS} {p0 : Int32} (h : RX 110 [some (.ref 1), some (.int p0)] X 2 Y) : RT 336 [some (.ref 1), some (.int p0), some (.ref 511), none] X (some (.int 1)) Y := by
  refine AT.aload_n M_336 rfl rfl ?_
  refine AT.iconst M_336 rfl (v := 0) (by decide) ?_
  refine AT.aload_n M_336 rfl rfl ?_
  refine AT.iload_n M_336 rfl rfl ?_
  refine AT.cv2h M_336 rfl M_110 rfl (Nat.le_of_ble_eq_true rfl) (xKd.of (Or.inr (Or.inr (Or.inl ⟨rfl, rfl, rfl⟩)))) (by decide) h rfl rfl rfl rfl ?_ (Nat.le_of_ble_eq_true rfl) rfl
  refine AT.iconst M_336 rfl (v := 1) (by decide) ?_
  refine AT.iret M_336 rfl rfl ?_
  exact ⟨rfl, rfl⟩
theorem w_336x1 {X Y : XS} {p0 : Int32} (h : RX 110 [some (.ref 1), some (.int p0)] X 1 Y) : RT 336 [some (.ref 1), some (.int p0), some (.ref 511), none] X (some (.int 2)) Y := by
  refine AT.aload_n M_336 rfl rfl ?_
  refine AT.iconst M_336 rfl (v := 0) (by decide) ?_
  refine AT.aload_n M_336 rfl rfl ?_
  refine AT.iload_n M_336 rfl rfl ?_
  refine AT.cv2h M_336 rfl M_110 rfl (Nat.le_of_ble_eq_true rfl) (xKd.of (Or.inr (Or.inr (Or.inl ⟨rfl, rfl, rfl⟩)))) (by decide) h rfl rfl rfl rfl ?_ (Nat.le_of_ble_eq_true rfl) rfl
  refine AT.iconst M_336 rfl (v := 2) (by decide) ?_
  refine AT.iret M_336 rfl rfl ?_
  exact ⟨rfl, rfl⟩
theorem w_337 {X : XS} {p0 : Int32} {v : Int32} {P : XS → Prop} (h : RU 111 [some (.ref 1), some (.int p0)] X (some (.int v)) P) : RU 337 [some (.ref 1), some (.int p0), some (.ref 511), none] X (some (.int 0)) (fun Z => ∃ Y, P Y ∧ Z = xSetO Y v.toInt64) := by
  refine AT.aload_n M_337 rfl rfl ?_
  refine AT.iconst M_337 rfl (v := 0) (by decide) ?_
  refine AT.aload_n M_337 rfl rfl ?_
  refine AT.iload_n M_337 rfl rfl ?_
  refine AT.cv2u M_337 rfl M_111 rfl (Nat.le_of_ble_eq_true rfl) (xKd.of (Or.inr (Or.inr (Or.inl ⟨rfl, rfl, rfl⟩)))) (by decide) h (fun Y hc4 => ?_) (Nat.le_of_ble_eq_true rfl) rfl
  have r1 := hc4
  refine AT.i2l M_337 rfl ?_
  refine AT.w511 M_337 rfl rfl ?_
  refine AT.goto M_337 rfl ?_
  refine AT.iconst M_337 rfl (v := 0) (by decide) ?_
  refine AT.iret M_337 rfl rfl ?_
  exact ⟨rfl, Y, r1, rfl⟩
theorem w_337x2 {X Y : XS} {p0 : Int32} (h : RX 111 [some (.ref 1), some (.int p0)] X 2 Y) : RT 337 [some (.ref 1), some (.int p0), some (.ref 511), none] X (some (.int 1)) Y := by
  refine AT.aload_n M_337 rfl rfl ?_
  refine AT.iconst M_337 rfl (v := 0) (by decide) ?_
  refine AT.aload_n M_337 rfl rfl ?_
  refine AT.iload_n M_337 rfl rfl ?_
  refine AT.cv2h M_337 rfl M_111 rfl (Nat.le_of_ble_eq_true rfl) (xKd.of (Or.inr (Or.inr (Or.inl ⟨rfl, rfl, rfl⟩)))) (by decide) h rfl rfl rfl rfl ?_ (Nat.le_of_ble_eq_true rfl) rfl
  refine AT.iconst M_337 rfl (v := 1) (by decide) ?_
  refine AT.iret M_337 rfl rfl ?_
  exact ⟨rfl, rfl⟩
theorem w_338 {X : XS} {p0 : Int32} {v : Int32} {P : XS → Prop} (h : RU 112 [some (.ref 1), some (.int p0)] X (some (.int v)) P) : RU 338 [some (.ref 1), some (.int p0), some (.ref 511), none] X (some (.int 0)) (fun Z => ∃ Y, P Y ∧ Z = xSetO Y v.toInt64) := by
  refine AT.aload_n M_338 rfl rfl ?_
  refine AT.iconst M_338 rfl (v := 0) (by decide) ?_
  refine AT.aload_n M_338 rfl rfl ?_
  refine AT.iload_n M_338 rfl rfl ?_
  refine AT.cv2u M_338 rfl M_112 rfl (Nat.le_of_ble_eq_true rfl) (xKd.of (Or.inr (Or.inr (Or.inl ⟨rfl, rfl, rfl⟩)))) (by decide) h (fun Y hc4 => ?_) (Nat.le_of_ble_eq_true rfl) rfl
  have r1 := hc4
  refine AT.i2l M_338 rfl ?_
  refine AT.w511 M_338 rfl rfl ?_
  refine AT.goto M_338 rfl ?_
  refine AT.iconst M_338 rfl (v := 0) (by decide) ?_
  refine AT.iret M_338 rfl rfl ?_
  exact ⟨rfl, Y, r1, rfl⟩
theorem w_338x2 {X Y : XS} {p0 : Int32} (h : RX 112 [some (.ref 1), some (.int p0)] X 2 Y) : RT 338 [some (.ref 1), some (.int p0), some (.ref 511), none] X (some (.int 1)) Y := by
  refine AT.aload_n M_338 rfl rfl ?_
  refine AT.iconst M_338 rfl (v := 0) (by decide) ?_
  refine AT.aload_n M_338 rfl rfl ?_
  refine AT.iload_n M_338 rfl rfl ?_
  refine AT.cv2h M_338 rfl M_112 rfl (Nat.le_of_ble_eq_true rfl) (xKd.of (Or.inr (Or.inr (Or.inl ⟨rfl, rfl, rfl⟩)))) (by decide) h rfl rfl rfl rfl ?_ (Nat.le_of_ble_eq_true rfl) rfl
  refine AT.iconst M_338 rfl (v := 1) (by decide) ?_
  refine AT.iret M_338 rfl rfl ?_
  exact ⟨rfl, rfl⟩
theorem w_339 {X : XS} {p0 : Int32} {v : Int32} {P : XS → Prop} (h : RU 113 [some (.ref 1), some (.int p0)] X (some (.int v)) P) : RU 339 [some (.ref 1), some (.int p0), some (.ref 511), none] X (some (.int 0)) (fun Z => ∃ Y, P Y ∧ Z = xSetO Y v.toInt64) := by
  refine AT.aload_n M_339 rfl rfl ?_
  refine AT.iconst M_339 rfl (v := 0) (by decide) ?_
  refine AT.aload_n M_339 rfl rfl ?_
  refine AT.iload_n M_339 rfl rfl ?_
  refine AT.cv2u M_339 rfl M_113 rfl (Nat.le_of_ble_eq_true rfl) (xKd.of (Or.inr (Or.inr (Or.inl ⟨rfl, rfl, rfl⟩)))) (by decide) h (fun Y hc4 => ?_) (Nat.le_of_ble_eq_true rfl) rfl
  have r1 := hc4
  refine AT.i2l M_339 rfl ?_
  refine AT.w511 M_339 rfl rfl ?_
  refine AT.goto M_339 rfl ?_
  refine AT.iconst M_339 rfl (v := 0) (by decide) ?_
  refine AT.iret M_339 rfl rfl ?_
  exact ⟨rfl, Y, r1, rfl⟩
theorem w_339x2 {X Y : XS} {p0 : Int32} (h : RX 113 [some (.ref 1), some (.int p0)] X 2 Y) : RT 339 [some (.ref 1), some (.int p0), some (.ref 511), none] X (some (.int 1)) Y := by
  refine AT.aload_n M_339 rfl rfl ?_
  refine AT.iconst M_339 rfl (v := 0) (by decide) ?_
  refine AT.aload_n M_339 rfl rfl ?_
  refine AT.iload_n M_339 rfl rfl ?_
  refine AT.cv2h M_339 rfl M_113 rfl (Nat.le_of_ble_eq_true rfl) (xKd.of (Or.inr (Or.inr (Or.inl ⟨rfl, rfl, rfl⟩)))) (by decide) h rfl rfl rfl rfl ?_ (Nat.le_of_ble_eq_true rfl) rfl
  refine AT.iconst M_339 rfl (v := 1) (by decide) ?_
  refine AT.iret M_339 rfl rfl ?_
  exact ⟨rfl, rfl⟩
theorem w_340 {X : XS} {p0 : Int32} {v : Int32} {P : XS → Prop} (h : RU 114 [some (.ref 1), some (.int p0)] X (some (.int v)) P) : RU 340 [some (.ref 1), some (.int p0), some (.ref 511), none] X (some (.int 0)) (fun Z => ∃ Y, P Y ∧ Z = xSetO Y v.toInt64) := by
  refine AT.aload_n M_340 rfl rfl ?_
  refine AT.iconst M_340 rfl (v := 0) (by decide) ?_
  refine AT.aload_n M_340 rfl rfl ?_
  refine AT.iload_n M_340 rfl rfl ?_
  refine AT.cv2u M_340 rfl M_114 rfl (Nat.le_of_ble_eq_true rfl) (xKd.of (Or.inr (Or.inr (Or.inl ⟨rfl, rfl, rfl⟩)))) (by decide) h (fun Y hc4 => ?_) (Nat.le_of_ble_eq_true rfl) rfl
  have r1 := hc4
  refine AT.i2l M_340 rfl ?_
  refine AT.w511 M_340 rfl rfl ?_
  refine AT.goto M_340 rfl ?_
  refine AT.iconst M_340 rfl (v := 0) (by decide) ?_
  refine AT.iret M_340 rfl rfl ?_
  exact ⟨rfl, Y, r1, rfl⟩
theorem w_340x2 {X Y : XS} {p0 : Int32} (h : RX 114 [some (.ref 1), some (.int p0)] X 2 Y) : RT 340 [some (.ref 1), some (.int p0), some (.ref 511), none] X (some (.int 1)) Y := by
  refine AT.aload_n M_340 rfl rfl ?_
  refine AT.iconst M_340 rfl (v := 0) (by decide) ?_
  refine AT.aload_n M_340 rfl rfl ?_
  refine AT.iload_n M_340 rfl rfl ?_
  refine AT.cv2h M_340 rfl M_114 rfl (Nat.le_of_ble_eq_true rfl) (xKd.of (Or.inr (Or.inr (Or.inl ⟨rfl, rfl, rfl⟩)))) (by decide) h rfl rfl rfl rfl ?_ (Nat.le_of_ble_eq_true rfl) rfl
  refine AT.iconst M_340 rfl (v := 1) (by decide) ?_
  refine AT.iret M_340 rfl rfl ?_
  exact ⟨rfl, rfl⟩
theorem w_341 {X : XS} {p0 : Int32} {v : Int32} {P : XS → Prop} (h : RU 115 [some (.ref 1), some (.int p0)] X (some (.int v)) P) : RU 341 [some (.ref 1), some (.int p0), some (.ref 511), none] X (some (.int 0)) (fun Z => ∃ Y, P Y ∧ Z = xSetO Y v.toInt64) := by
  refine AT.aload_n M_341 rfl rfl ?_
  refine AT.iconst M_341 rfl (v := 0) (by decide) ?_
  refine AT.aload_n M_341 rfl rfl ?_
  refine AT.iload_n M_341 rfl rfl ?_
  refine AT.cv2u M_341 rfl M_115 rfl (Nat.le_of_ble_eq_true rfl) (xKd.of (Or.inr (Or.inr (Or.inl ⟨rfl, rfl, rfl⟩)))) (by decide) h (fun Y hc4 => ?_) (Nat.le_of_ble_eq_true rfl) rfl
  have r1 := hc4
  refine AT.i2l M_341 rfl ?_
  refine AT.w511 M_341 rfl rfl ?_
  refine AT.goto M_341 rfl ?_
  refine AT.iconst M_341 rfl (v := 0) (by decide) ?_
  refine AT.iret M_341 rfl rfl ?_
  exact ⟨rfl, Y, r1, rfl⟩
theorem w_341x2 {X Y : XS} {p0 : Int32} (h : RX 115 [some (.ref 1), some (.int p0)] X 2 Y) : RT 341 [some (.ref 1), some (.int p0), some (.ref 511), none] X (some (.int 1)) Y := by
  refine AT.aload_n M_341 rfl rfl ?_
  refine AT.iconst M_341 rfl (v := 0) (by decide) ?_
  refine AT.aload_n M_341 rfl rfl ?_
  refine AT.iload_n M_341 rfl rfl ?_
  refine AT.cv2h M_341 rfl M_115 rfl (Nat.le_of_ble_eq_true rfl) (xKd.of (Or.inr (Or.inr (Or.inl ⟨rfl, rfl, rfl⟩)))) (by decide) h rfl rfl rfl rfl ?_ (Nat.le_of_ble_eq_true rfl) rfl
  refine AT.iconst M_341 rfl (v := 1) (by decide) ?_
  refine AT.iret M_341 rfl rfl ?_
  exact ⟨rfl, rfl⟩
theorem w_342 {X : XS} {p0 p1 p2 : Int32} {v : Int32} {P : XS → Prop} (h : RU 116 [some (.ref 1), some (.int p0), some (.int p1), some (.int p2)] X (some (.int v)) P) : RU 342 [some (.ref 1), some (.int p0), some (.int p1), some (.int p2), some (.ref 511), none] X (some (.int 0)) (fun Z => ∃ Y, P Y ∧ Z = xSetO Y v.toInt64) := by
  refine AT.aload M_342 rfl rfl ?_
  refine AT.iconst M_342 rfl (v := 0) (by decide) ?_
  refine AT.aload_n M_342 rfl rfl ?_
  refine AT.iload_n M_342 rfl rfl ?_
  refine AT.iload_n M_342 rfl rfl ?_
  refine AT.iload_n M_342 rfl rfl ?_
  refine AT.cv4u M_342 rfl M_116 rfl (Nat.le_of_ble_eq_true rfl) (xKd.of (Or.inr (Or.inr (Or.inl ⟨rfl, rfl, rfl⟩)))) (by decide) h (fun Y hc6 => ?_) (Nat.le_of_ble_eq_true rfl) rfl
  have r1 := hc6
  refine AT.i2l M_342 rfl ?_
  refine AT.w511 M_342 rfl rfl ?_
  refine AT.goto M_342 rfl ?_
  refine AT.iconst M_342 rfl (v := 0) (by decide) ?_
  refine AT.iret M_342 rfl rfl ?_
  exact ⟨rfl, Y, r1, rfl⟩
theorem w_342x2 {X Y : XS} {p0 p1 p2 : Int32} (h : RX 116 [some (.ref 1), some (.int p0), some (.int p1), some (.int p2)] X 2 Y) : RT 342 [some (.ref 1), some (.int p0), some (.int p1), some (.int p2), some (.ref 511), none] X (some (.int 1)) Y := by
  refine AT.aload M_342 rfl rfl ?_
  refine AT.iconst M_342 rfl (v := 0) (by decide) ?_
  refine AT.aload_n M_342 rfl rfl ?_
  refine AT.iload_n M_342 rfl rfl ?_
  refine AT.iload_n M_342 rfl rfl ?_
  refine AT.iload_n M_342 rfl rfl ?_
  refine AT.cv4h M_342 rfl M_116 rfl (Nat.le_of_ble_eq_true rfl) (xKd.of (Or.inr (Or.inr (Or.inl ⟨rfl, rfl, rfl⟩)))) (by decide) h rfl rfl rfl rfl ?_ (Nat.le_of_ble_eq_true rfl) rfl
  refine AT.iconst M_342 rfl (v := 1) (by decide) ?_
  refine AT.iret M_342 rfl rfl ?_
  exact ⟨rfl, rfl⟩
theorem w_342x0 {X Y : XS} {p0 p1 p2 : Int32} (h : RX 116 [some (.ref 1), some (.int p0), some (.int p1), some (.int p2)] X 0 Y) : RT 342 [some (.ref 1), some (.int p0), some (.int p1), some (.int p2), some (.ref 511), none] X (some (.int 2)) Y := by
  refine AT.aload M_342 rfl rfl ?_
  refine AT.iconst M_342 rfl (v := 0) (by decide) ?_
  refine AT.aload_n M_342 rfl rfl ?_
  refine AT.iload_n M_342 rfl rfl ?_
  refine AT.iload_n M_342 rfl rfl ?_
  refine AT.iload_n M_342 rfl rfl ?_
  refine AT.cv4h M_342 rfl M_116 rfl (Nat.le_of_ble_eq_true rfl) (xKd.of (Or.inr (Or.inr (Or.inl ⟨rfl, rfl, rfl⟩)))) (by decide) h rfl rfl rfl rfl ?_ (Nat.le_of_ble_eq_true rfl) rfl
  refine AT.iconst M_342 rfl (v := 2) (by decide) ?_
  refine AT.iret M_342 rfl rfl ?_
  exact ⟨rfl, rfl⟩
theorem w_342x1 {X Y : XS} {p0 p1 p2 : Int32} (h : RX 116 [some (.ref 1), some (.int p0), some (.int p1), some (.int p2)] X 1 Y) : RT 342 [some (.ref 1), some (.int p0), some (.int p1), some (.int p2), some (.ref 511), none] X (some (.int 3)) Y := by
  refine AT.aload M_342 rfl rfl ?_
  refine AT.iconst M_342 rfl (v := 0) (by decide) ?_
  refine AT.aload_n M_342 rfl rfl ?_
  refine AT.iload_n M_342 rfl rfl ?_
  refine AT.iload_n M_342 rfl rfl ?_
  refine AT.iload_n M_342 rfl rfl ?_
  refine AT.cv4h M_342 rfl M_116 rfl (Nat.le_of_ble_eq_true rfl) (xKd.of (Or.inr (Or.inr (Or.inl ⟨rfl, rfl, rfl⟩)))) (by decide) h rfl rfl rfl rfl ?_ (Nat.le_of_ble_eq_true rfl) rfl
  refine AT.iconst M_342 rfl (v := 3) (by decide) ?_
  refine AT.iret M_342 rfl rfl ?_
  exact ⟨rfl, rfl⟩
theorem w_343 {X : XS} {p0 p1 p2 : Int32} {v : Int32} {P : XS → Prop} (h : RU 117 [some (.ref 1), some (.int p0), some (.int p1), some (.int p2)] X (some (.int v)) P) : RU 343 [some (.ref 1), some (.int p0), some (.int p1), some (.int p2), some (.ref 511), none] X (some (.int 0)) (fun Z => ∃ Y, P Y ∧ Z = xSetO Y v.toInt64) := by
  refine AT.aload M_343 rfl rfl ?_
  refine AT.iconst M_343 rfl (v := 0) (by decide) ?_
  refine AT.aload_n M_343 rfl rfl ?_
  refine AT.iload_n M_343 rfl rfl ?_
  refine AT.iload_n M_343 rfl rfl ?_
  refine AT.iload_n M_343 rfl rfl ?_
  refine AT.cv4u M_343 rfl M_117 rfl (Nat.le_of_ble_eq_true rfl) (xKd.of (Or.inr (Or.inr (Or.inl ⟨rfl, rfl, rfl⟩)))) (by decide) h (fun Y hc6 => ?_) (Nat.le_of_ble_eq_true rfl) rfl
  have r1 := hc6
  refine AT.i2l M_343 rfl ?_
  refine AT.w511 M_343 rfl rfl ?_
  refine AT.goto M_343 rfl ?_
  refine AT.iconst M_343 rfl (v := 0) (by decide) ?_
  refine AT.iret M_343 rfl rfl ?_
  exact ⟨rfl, Y, r1, rfl⟩
theorem w_343x2 {X Y : XS} {p0 p1 p2 : Int32} (h : RX 117 [some (.ref 1), some (.int p0), some (.int p1), some (.int p2)] X 2 Y) : RT 343 [some (.ref 1), some (.int p0), some (.int p1), some (.int p2), some (.ref 511), none] X (some (.int 1)) Y := by
  refine AT.aload M_343 rfl rfl ?_
  refine AT.iconst M_343 rfl (v := 0) (by decide) ?_
  refine AT.aload_n M_343 rfl rfl ?_
  refine AT.iload_n M_343 rfl rfl ?_
  refine AT.iload_n M_343 rfl rfl ?_
  refine AT.iload_n M_343 rfl rfl ?_
  refine AT.cv4h M_343 rfl M_117 rfl (Nat.le_of_ble_eq_true rfl) (xKd.of (Or.inr (Or.inr (Or.inl ⟨rfl, rfl, rfl⟩)))) (by decide) h rfl rfl rfl rfl ?_ (Nat.le_of_ble_eq_true rfl) rfl
  refine AT.iconst M_343 rfl (v := 1) (by decide) ?_
  refine AT.iret M_343 rfl rfl ?_
  exact ⟨rfl, rfl⟩
theorem w_343x0 {X Y : XS} {p0 p1 p2 : Int32} (h : RX 117 [some (.ref 1), some (.int p0), some (.int p1), some (.int p2)] X 0 Y) : RT 343 [some (.ref 1), some (.int p0), some (.int p1), some (.int p2), some (.ref 511), none] X (some (.int 2)) Y := by
  refine AT.aload M_343 rfl rfl ?_
  refine AT.iconst M_343 rfl (v := 0) (by decide) ?_
  refine AT.aload_n M_343 rfl rfl ?_
  refine AT.iload_n M_343 rfl rfl ?_
  refine AT.iload_n M_343 rfl rfl ?_
  refine AT.iload_n M_343 rfl rfl ?_
  refine AT.cv4h M_343 rfl M_117 rfl (Nat.le_of_ble_eq_true rfl) (xKd.of (Or.inr (Or.inr (Or.inl ⟨rfl, rfl, rfl⟩)))) (by decide) h rfl rfl rfl rfl ?_ (Nat.le_of_ble_eq_true rfl) rfl
  refine AT.iconst M_343 rfl (v := 2) (by decide) ?_
  refine AT.iret M_343 rfl rfl ?_
  exact ⟨rfl, rfl⟩
theorem w_343x1 {X Y : XS} {p0 p1 p2 : Int32} (h : RX 117 [some (.ref 1), some (.int p0), some (.int p1), some (.int p2)] X 1 Y) : RT 343 [some (.ref 1), some (.int p0), some (.int p1), some (.int p2), some (.ref 511), none] X (some (.int 3)) Y := by
  refine AT.aload M_343 rfl rfl ?_
  refine AT.iconst M_343 rfl (v := 0) (by decide) ?_
  refine AT.aload_n M_343 rfl rfl ?_
  refine AT.iload_n M_343 rfl rfl ?_
  refine AT.iload_n M_343 rfl rfl ?_
  refine AT.iload_n M_343 rfl rfl ?_
  refine AT.cv4h M_343 rfl M_117 rfl (Nat.le_of_ble_eq_true rfl) (xKd.of (Or.inr (Or.inr (Or.inl ⟨rfl, rfl, rfl⟩)))) (by decide) h rfl rfl rfl rfl ?_ (Nat.le_of_ble_eq_true rfl) rfl
  refine AT.iconst M_343 rfl (v := 3) (by decide) ?_
  refine AT.iret M_343 rfl rfl ?_
  exact ⟨rfl, rfl⟩
theorem w_344 {X : XS} {p0 p1 p2 p3 : Int32} {v : Int32} {P : XS → Prop} (h : RU 118 [some (.ref 1), some (.int p0), some (.int p1), some (.int p2), some (.int p3)] X (some (.int v)) P) : RU 344 [some (.ref 1), some (.int p0), some (.int p1), some (.int p2), some (.int p3), some (.ref 511), none] X (some (.int 0)) (fun Z => ∃ Y, P Y ∧ Z = xSetO Y v.toInt64) := by
  refine AT.aload M_344 rfl rfl ?_
  refine AT.iconst M_344 rfl (v := 0) (by decide) ?_
  refine AT.aload_n M_344 rfl rfl ?_
  refine AT.iload_n M_344 rfl rfl ?_
  refine AT.iload_n M_344 rfl rfl ?_
  refine AT.iload_n M_344 rfl rfl ?_
  refine AT.iload M_344 rfl rfl ?_
  refine AT.cv5u M_344 rfl M_118 rfl (Nat.le_of_ble_eq_true rfl) (xKd.of (Or.inr (Or.inr (Or.inl ⟨rfl, rfl, rfl⟩)))) (by decide) h (fun Y hc7 => ?_) (Nat.le_of_ble_eq_true rfl) rfl
  have r1 := hc7
  refine AT.i2l M_344 rfl ?_
  refine AT.w511 M_344 rfl rfl ?_
  refine AT.goto M_344 rfl ?_
  refine AT.iconst M_344 rfl (v := 0) (by decide) ?_
  refine AT.iret M_344 rfl rfl ?_
  exact ⟨rfl, Y, r1, rfl⟩
theorem w_344x2 {X Y : XS} {p0 p1 p2 p3 : Int32} (h : RX 118 [some (.ref 1), some (.int p0), some (.int p1), some (.int p2), some (.int p3)] X 2 Y) : RT 344 [some (.ref 1), some (.int p0), some (.int p1), some (.int p2), some (.int p3), some (.ref 511), none] X (some (.int 1)) Y := by
  refine AT.aload M_344 rfl rfl ?_
  refine AT.iconst M_344 rfl (v := 0) (by decide) ?_
  refine AT.aload_n M_344 rfl rfl ?_
  refine AT.iload_n M_344 rfl rfl ?_
  refine AT.iload_n M_344 rfl rfl ?_
  refine AT.iload_n M_344 rfl rfl ?_
  refine AT.iload M_344 rfl rfl ?_
  refine AT.cv5h M_344 rfl M_118 rfl (Nat.le_of_ble_eq_true rfl) (xKd.of (Or.inr (Or.inr (Or.inl ⟨rfl, rfl, rfl⟩)))) (by decide) h rfl rfl rfl rfl ?_ (Nat.le_of_ble_eq_true rfl) rfl
  refine AT.iconst M_344 rfl (v := 1) (by decide) ?_
  refine AT.iret M_344 rfl rfl ?_
  exact ⟨rfl, rfl⟩
theorem w_344x0 {X Y : XS} {p0 p1 p2 p3 : Int32} (h : RX 118 [some (.ref 1), some (.int p0), some (.int p1), some (.int p2), some (.int p3)] X 0 Y) : RT 344 [some (.ref 1), some (.int p0), some (.int p1), some (.int p2), some (.int p3), some (.ref 511), none] X (some (.int 2)) Y := by
  refine AT.aload M_344 rfl rfl ?_
  refine AT.iconst M_344 rfl (v := 0) (by decide) ?_
  refine AT.aload_n M_344 rfl rfl ?_
  refine AT.iload_n M_344 rfl rfl ?_
  refine AT.iload_n M_344 rfl rfl ?_
  refine AT.iload_n M_344 rfl rfl ?_
  refine AT.iload M_344 rfl rfl ?_
  refine AT.cv5h M_344 rfl M_118 rfl (Nat.le_of_ble_eq_true rfl) (xKd.of (Or.inr (Or.inr (Or.inl ⟨rfl, rfl, rfl⟩)))) (by decide) h rfl rfl rfl rfl ?_ (Nat.le_of_ble_eq_true rfl) rfl
  refine AT.iconst M_344 rfl (v := 2) (by decide) ?_
  refine AT.iret M_344 rfl rfl ?_
  exact ⟨rfl, rfl⟩
theorem w_344x1 {X Y : XS} {p0 p1 p2 p3 : Int32} (h : RX 118 [some (.ref 1), some (.int p0), some (.int p1), some (.int p2), some (.int p3)] X 1 Y) : RT 344 [some (.ref 1), some (.int p0), some (.int p1), some (.int p2), some (.int p3), some (.ref 511), none] X (some (.int 3)) Y := by
  refine AT.aload M_344 rfl rfl ?_
  refine AT.iconst M_344 rfl (v := 0) (by decide) ?_
  refine AT.aload_n M_344 rfl rfl ?_
  refine AT.iload_n M_344 rfl rfl ?_
  refine AT.iload_n M_344 rfl rfl ?_
  refine AT.iload_n M_344 rfl rfl ?_
  refine AT.iload M_344 rfl rfl ?_
  refine AT.cv5h M_344 rfl M_118 rfl (Nat.le_of_ble_eq_true rfl) (xKd.of (Or.inr (Or.inr (Or.inl ⟨rfl, rfl, rfl⟩)))) (by decide) h rfl rfl rfl rfl ?_ (Nat.le_of_ble_eq_true rfl) rfl
  refine AT.iconst M_344 rfl (v := 3) (by decide) ?_
  refine AT.iret M_344 rfl rfl ?_
  exact ⟨rfl, rfl⟩
theorem w_345 {X : XS} {p0 p1 : Int32} {v : Int32} {P : XS → Prop} (h : RU 119 [some (.ref 1), some (.int p0), some (.int p1), none, none, none] X (some (.int v)) P) : RU 345 [some (.ref 1), some (.int p0), some (.int p1), some (.ref 511), none] X (some (.int 0)) (fun Z => ∃ Y, P Y ∧ Z = xSetO Y v.toInt64) := by
  refine AT.aload_n M_345 rfl rfl ?_
  refine AT.iconst M_345 rfl (v := 0) (by decide) ?_
  refine AT.aload_n M_345 rfl rfl ?_
  refine AT.iload_n M_345 rfl rfl ?_
  refine AT.iload_n M_345 rfl rfl ?_
  refine AT.cv3u M_345 rfl M_119 rfl (Nat.le_of_ble_eq_true rfl) (xKd.of (Or.inr (Or.inr (Or.inl ⟨rfl, rfl, rfl⟩)))) (by decide) h (fun Y hc5 => ?_) (Nat.le_of_ble_eq_true rfl) rfl
  have r1 := hc5
  refine AT.i2l M_345 rfl ?_
  refine AT.w511 M_345 rfl rfl ?_
  refine AT.goto M_345 rfl ?_
  refine AT.iconst M_345 rfl (v := 0) (by decide) ?_
  refine AT.iret M_345 rfl rfl ?_
  exact ⟨rfl, Y, r1, rfl⟩
theorem w_345x2 {X Y : XS} {p0 p1 : Int32} (h : RX 119 [some (.ref 1), some (.int p0), some (.int p1), none, none, none] X 2 Y) : RT 345 [some (.ref 1), some (.int p0), some (.int p1), some (.ref 511), none] X (some (.int 1)) Y := by
  refine AT.aload_n M_345 rfl rfl ?_
  refine AT.iconst M_345 rfl (v := 0) (by decide) ?_
  refine AT.aload_n M_345 rfl rfl ?_
  refine AT.iload_n M_345 rfl rfl ?_
  refine AT.iload_n M_345 rfl rfl ?_
  refine AT.cv3h M_345 rfl M_119 rfl (Nat.le_of_ble_eq_true rfl) (xKd.of (Or.inr (Or.inr (Or.inl ⟨rfl, rfl, rfl⟩)))) (by decide) h rfl rfl rfl rfl ?_ (Nat.le_of_ble_eq_true rfl) rfl
  refine AT.iconst M_345 rfl (v := 1) (by decide) ?_
  refine AT.iret M_345 rfl rfl ?_
  exact ⟨rfl, rfl⟩
theorem w_345x1 {X Y : XS} {p0 p1 : Int32} (h : RX 119 [some (.ref 1), some (.int p0), some (.int p1), none, none, none] X 1 Y) : RT 345 [some (.ref 1), some (.int p0), some (.int p1), some (.ref 511), none] X (some (.int 2)) Y := by
  refine AT.aload_n M_345 rfl rfl ?_
  refine AT.iconst M_345 rfl (v := 0) (by decide) ?_
  refine AT.aload_n M_345 rfl rfl ?_
  refine AT.iload_n M_345 rfl rfl ?_
  refine AT.iload_n M_345 rfl rfl ?_
  refine AT.cv3h M_345 rfl M_119 rfl (Nat.le_of_ble_eq_true rfl) (xKd.of (Or.inr (Or.inr (Or.inl ⟨rfl, rfl, rfl⟩)))) (by decide) h rfl rfl rfl rfl ?_ (Nat.le_of_ble_eq_true rfl) rfl
  refine AT.iconst M_345 rfl (v := 2) (by decide) ?_
  refine AT.iret M_345 rfl rfl ?_
  exact ⟨rfl, rfl⟩
theorem w_346 {X : XS} {p0 : Int32} {v : Int32} {P : XS → Prop} (h : RU 120 [some (.ref 1), some (.int p0)] X (some (.int v)) P) : RU 346 [some (.ref 1), some (.int p0), some (.ref 511), none] X (some (.int 0)) (fun Z => ∃ Y, P Y ∧ Z = xSetO Y v.toInt64) := by
  refine AT.aload_n M_346 rfl rfl ?_
  refine AT.iconst M_346 rfl (v := 0) (by decide) ?_
  refine AT.aload_n M_346 rfl rfl ?_
  refine AT.iload_n M_346 rfl rfl ?_
  refine AT.cv2u M_346 rfl M_120 rfl (Nat.le_of_ble_eq_true rfl) (xKd.of (Or.inr (Or.inr (Or.inl ⟨rfl, rfl, rfl⟩)))) (by decide) h (fun Y hc4 => ?_) (Nat.le_of_ble_eq_true rfl) rfl
  have r1 := hc4
  refine AT.i2l M_346 rfl ?_
  refine AT.w511 M_346 rfl rfl ?_
  refine AT.goto M_346 rfl ?_
  refine AT.iconst M_346 rfl (v := 0) (by decide) ?_
  refine AT.iret M_346 rfl rfl ?_
  exact ⟨rfl, Y, r1, rfl⟩
theorem w_346x2 {X Y : XS} {p0 : Int32} (h : RX 120 [some (.ref 1), some (.int p0)] X 2 Y) : RT 346 [some (.ref 1), some (.int p0), some (.ref 511), none] X (some (.int 1)) Y := by
  refine AT.aload_n M_346 rfl rfl ?_
  refine AT.iconst M_346 rfl (v := 0) (by decide) ?_
  refine AT.aload_n M_346 rfl rfl ?_
  refine AT.iload_n M_346 rfl rfl ?_
  refine AT.cv2h M_346 rfl M_120 rfl (Nat.le_of_ble_eq_true rfl) (xKd.of (Or.inr (Or.inr (Or.inl ⟨rfl, rfl, rfl⟩)))) (by decide) h rfl rfl rfl rfl ?_ (Nat.le_of_ble_eq_true rfl) rfl
  refine AT.iconst M_346 rfl (v := 1) (by decide) ?_
  refine AT.iret M_346 rfl rfl ?_
  exact ⟨rfl, rfl⟩
theorem w_347 {X : XS} {p0 : Int32} {v : Int32} {P : XS → Prop} (h : RU 121 [some (.ref 1), some (.int p0)] X (some (.int v)) P) (h01 : v = 0 ∨ v = 1) : RU 347 [some (.ref 1), some (.int p0), some (.ref 511), none] X (some (.int 0)) (fun Z => ∃ Y, P Y ∧ Z = xSetO Y v.toInt64) := by
  refine AT.aload_n M_347 rfl rfl ?_
  refine AT.iconst M_347 rfl (v := 0) (by decide) ?_
  refine AT.aload_n M_347 rfl rfl ?_
  refine AT.iload_n M_347 rfl rfl ?_
  refine AT.cv2u M_347 rfl M_121 rfl (Nat.le_of_ble_eq_true rfl) (xKd.of (Or.inr (Or.inr (Or.inl ⟨rfl, rfl, rfl⟩)))) (by decide) h (fun Y hc4 => ?_) (Nat.le_of_ble_eq_true rfl) rfl
  have r1 := hc4
  refine AT.if_eq M_347 rfl (fun b5 => ?_) (fun b5 => ?_)
  · refine AT.lconst M_347 rfl (v := 0) (by decide) ?_
    refine AT.w511 M_347 rfl rfl ?_
    refine AT.goto M_347 rfl ?_
    refine AT.iconst M_347 rfl (v := 0) (by decide) ?_
    refine AT.iret M_347 rfl rfl ?_
    rw [show v.toInt64 = 0 from by rw [b5]; rfl]
    exact ⟨rfl, Y, r1, rfl⟩
  · refine AT.lconst M_347 rfl (v := 1) (by decide) ?_
    refine AT.goto M_347 rfl ?_
    refine AT.w511 M_347 rfl rfl ?_
    refine AT.goto M_347 rfl ?_
    refine AT.iconst M_347 rfl (v := 0) (by decide) ?_
    refine AT.iret M_347 rfl rfl ?_
    rw [show v.toInt64 = 1 from by rw [h01.resolve_left b5]; rfl]
    exact ⟨rfl, Y, r1, rfl⟩
theorem w_347x2 {X Y : XS} {p0 : Int32} (h : RX 121 [some (.ref 1), some (.int p0)] X 2 Y) : RT 347 [some (.ref 1), some (.int p0), some (.ref 511), none] X (some (.int 1)) Y := by
  refine AT.aload_n M_347 rfl rfl ?_
  refine AT.iconst M_347 rfl (v := 0) (by decide) ?_
  refine AT.aload_n M_347 rfl rfl ?_
  refine AT.iload_n M_347 rfl rfl ?_
  refine AT.cv2h M_347 rfl M_121 rfl (Nat.le_of_ble_eq_true rfl) (xKd.of (Or.inr (Or.inr (Or.inl ⟨rfl, rfl, rfl⟩)))) (by decide) h rfl rfl rfl rfl ?_ (Nat.le_of_ble_eq_true rfl) rfl
  refine AT.iconst M_347 rfl (v := 1) (by decide) ?_
  refine AT.iret M_347 rfl rfl ?_
  exact ⟨rfl, rfl⟩
theorem w_348 {X : XS} {p0 : Int32} {v : Int32} {P : XS → Prop} (h : RU 122 [some (.ref 1), some (.int p0)] X (some (.int v)) P) : RU 348 [some (.ref 1), some (.int p0), some (.ref 511), none] X (some (.int 0)) (fun Z => ∃ Y, P Y ∧ Z = xSetO Y v.toInt64) := by
  refine AT.aload_n M_348 rfl rfl ?_
  refine AT.iconst M_348 rfl (v := 0) (by decide) ?_
  refine AT.aload_n M_348 rfl rfl ?_
  refine AT.iload_n M_348 rfl rfl ?_
  refine AT.cv2u M_348 rfl M_122 rfl (Nat.le_of_ble_eq_true rfl) (xKd.of (Or.inr (Or.inr (Or.inl ⟨rfl, rfl, rfl⟩)))) (by decide) h (fun Y hc4 => ?_) (Nat.le_of_ble_eq_true rfl) rfl
  have r1 := hc4
  refine AT.i2l M_348 rfl ?_
  refine AT.w511 M_348 rfl rfl ?_
  refine AT.goto M_348 rfl ?_
  refine AT.iconst M_348 rfl (v := 0) (by decide) ?_
  refine AT.iret M_348 rfl rfl ?_
  exact ⟨rfl, Y, r1, rfl⟩
theorem w_348x2 {X Y : XS} {p0 : Int32} (h : RX 122 [some (.ref 1), some (.int p0)] X 2 Y) : RT 348 [some (.ref 1), some (.int p0), some (.ref 511), none] X (some (.int 1)) Y := by
  refine AT.aload_n M_348 rfl rfl ?_
  refine AT.iconst M_348 rfl (v := 0) (by decide) ?_
  refine AT.aload_n M_348 rfl rfl ?_
  refine AT.iload_n M_348 rfl rfl ?_
  refine AT.cv2h M_348 rfl M_122 rfl (Nat.le_of_ble_eq_true rfl) (xKd.of (Or.inr (Or.inr (Or.inl ⟨rfl, rfl, rfl⟩)))) (by decide) h rfl rfl rfl rfl ?_ (Nat.le_of_ble_eq_true rfl) rfl
  refine AT.iconst M_348 rfl (v := 1) (by decide) ?_
  refine AT.iret M_348 rfl rfl ?_
  exact ⟨rfl, rfl⟩
theorem w_348x1 {X Y : XS} {p0 : Int32} (h : RX 122 [some (.ref 1), some (.int p0)] X 1 Y) : RT 348 [some (.ref 1), some (.int p0), some (.ref 511), none] X (some (.int 2)) Y := by
  refine AT.aload_n M_348 rfl rfl ?_
  refine AT.iconst M_348 rfl (v := 0) (by decide) ?_
  refine AT.aload_n M_348 rfl rfl ?_
  refine AT.iload_n M_348 rfl rfl ?_
  refine AT.cv2h M_348 rfl M_122 rfl (Nat.le_of_ble_eq_true rfl) (xKd.of (Or.inr (Or.inr (Or.inl ⟨rfl, rfl, rfl⟩)))) (by decide) h rfl rfl rfl rfl ?_ (Nat.le_of_ble_eq_true rfl) rfl
  refine AT.iconst M_348 rfl (v := 2) (by decide) ?_
  refine AT.iret M_348 rfl rfl ?_
  exact ⟨rfl, rfl⟩
theorem w_349 {X : XS} {p0 : Int32} {v : Int32} {P : XS → Prop} (h : RU 125 [some (.ref 1), some (.int p0)] X (some (.int v)) P) (h01 : v = 0 ∨ v = 1) : RU 349 [some (.ref 1), some (.int p0), some (.ref 511), none] X (some (.int 0)) (fun Z => ∃ Y, P Y ∧ Z = xSetO Y v.toInt64) := by
  refine AT.aload_n M_349 rfl rfl ?_
  refine AT.iconst M_349 rfl (v := 0) (by decide) ?_
  refine AT.aload_n M_349 rfl rfl ?_
  refine AT.iload_n M_349 rfl rfl ?_
  refine AT.cv2u M_349 rfl M_125 rfl (Nat.le_of_ble_eq_true rfl) (xKd.of (Or.inr (Or.inr (Or.inl ⟨rfl, rfl, rfl⟩)))) (by decide) h (fun Y hc4 => ?_) (Nat.le_of_ble_eq_true rfl) rfl
  have r1 := hc4
  refine AT.if_eq M_349 rfl (fun b5 => ?_) (fun b5 => ?_)
  · refine AT.lconst M_349 rfl (v := 0) (by decide) ?_
    refine AT.w511 M_349 rfl rfl ?_
    refine AT.goto M_349 rfl ?_
    refine AT.iconst M_349 rfl (v := 0) (by decide) ?_
    refine AT.iret M_349 rfl rfl ?_
    rw [show v.toInt64 = 0 from by rw [b5]; rfl]
    exact ⟨rfl, Y, r1, rfl⟩
  · refine AT.lconst M_349 rfl (v := 1) (by decide) ?_
    refine AT.goto M_349 rfl ?_
    refine AT.w511 M_349 rfl rfl ?_
    refine AT.goto M_349 rfl ?_
    refine AT.iconst M_349 rfl (v := 0) (by decide) ?_
    refine AT.iret M_349 rfl rfl ?_
    rw [show v.toInt64 = 1 from by rw [h01.resolve_left b5]; rfl]
    exact ⟨rfl, Y, r1, rfl⟩
theorem w_349x2 {X Y : XS} {p0 : Int32} (h : RX 125 [some (.ref 1), some (.int p0)] X 2 Y) : RT 349 [some (.ref 1), some (.int p0), some (.ref 511), none] X (some (.int 1)) Y := by
  refine AT.aload_n M_349 rfl rfl ?_
  refine AT.iconst M_349 rfl (v := 0) (by decide) ?_
  refine AT.aload_n M_349 rfl rfl ?_
  refine AT.iload_n M_349 rfl rfl ?_
  refine AT.cv2h M_349 rfl M_125 rfl (Nat.le_of_ble_eq_true rfl) (xKd.of (Or.inr (Or.inr (Or.inl ⟨rfl, rfl, rfl⟩)))) (by decide) h rfl rfl rfl rfl ?_ (Nat.le_of_ble_eq_true rfl) rfl
  refine AT.iconst M_349 rfl (v := 1) (by decide) ?_
  refine AT.iret M_349 rfl rfl ?_
  exact ⟨rfl, rfl⟩
theorem w_350 {X : XS} {p0 : Int32} {v : Int32} {P : XS → Prop} (h : RU 126 [some (.ref 1), some (.int p0)] X (some (.int v)) P) : RU 350 [some (.ref 1), some (.int p0), some (.ref 511), none] X (some (.int 0)) (fun Z => ∃ Y, P Y ∧ Z = xSetO Y v.toInt64) := by
  refine AT.aload_n M_350 rfl rfl ?_
  refine AT.iconst M_350 rfl (v := 0) (by decide) ?_
  refine AT.aload_n M_350 rfl rfl ?_
  refine AT.iload_n M_350 rfl rfl ?_
  refine AT.cv2u M_350 rfl M_126 rfl (Nat.le_of_ble_eq_true rfl) (xKd.of (Or.inr (Or.inr (Or.inl ⟨rfl, rfl, rfl⟩)))) (by decide) h (fun Y hc4 => ?_) (Nat.le_of_ble_eq_true rfl) rfl
  have r1 := hc4
  refine AT.i2l M_350 rfl ?_
  refine AT.w511 M_350 rfl rfl ?_
  refine AT.goto M_350 rfl ?_
  refine AT.iconst M_350 rfl (v := 0) (by decide) ?_
  refine AT.iret M_350 rfl rfl ?_
  exact ⟨rfl, Y, r1, rfl⟩
theorem w_350x2 {X Y : XS} {p0 : Int32} (h : RX 126 [some (.ref 1), some (.int p0)] X 2 Y) : RT 350 [some (.ref 1), some (.int p0), some (.ref 511), none] X (some (.int 1)) Y := by
  refine AT.aload_n M_350 rfl rfl ?_
  refine AT.iconst M_350 rfl (v := 0) (by decide) ?_
  refine AT.aload_n M_350 rfl rfl ?_
  refine AT.iload_n M_350 rfl rfl ?_
  refine AT.cv2h M_350 rfl M_126 rfl (Nat.le_of_ble_eq_true rfl) (xKd.of (Or.inr (Or.inr (Or.inl ⟨rfl, rfl, rfl⟩)))) (by decide) h rfl rfl rfl rfl ?_ (Nat.le_of_ble_eq_true rfl) rfl
  refine AT.iconst M_350 rfl (v := 1) (by decide) ?_
  refine AT.iret M_350 rfl rfl ?_
  exact ⟨rfl, rfl⟩
theorem w_351 {X : XS} {p0 : Int32} {v : Int32} {P : XS → Prop} (h : RU 127 [some (.ref 1), some (.int p0)] X (some (.int v)) P) : RU 351 [some (.ref 1), some (.int p0), some (.ref 511), none] X (some (.int 0)) (fun Z => ∃ Y, P Y ∧ Z = xSetO Y v.toInt64) := by
  refine AT.aload_n M_351 rfl rfl ?_
  refine AT.iconst M_351 rfl (v := 0) (by decide) ?_
  refine AT.aload_n M_351 rfl rfl ?_
  refine AT.iload_n M_351 rfl rfl ?_
  refine AT.cv2u M_351 rfl M_127 rfl (Nat.le_of_ble_eq_true rfl) (xKd.of (Or.inr (Or.inr (Or.inl ⟨rfl, rfl, rfl⟩)))) (by decide) h (fun Y hc4 => ?_) (Nat.le_of_ble_eq_true rfl) rfl
  have r1 := hc4
  refine AT.i2l M_351 rfl ?_
  refine AT.w511 M_351 rfl rfl ?_
  refine AT.goto M_351 rfl ?_
  refine AT.iconst M_351 rfl (v := 0) (by decide) ?_
  refine AT.iret M_351 rfl rfl ?_
  exact ⟨rfl, Y, r1, rfl⟩
theorem w_351x2 {X Y : XS} {p0 : Int32} (h : RX 127 [some (.ref 1), some (.int p0)] X 2 Y) : RT 351 [some (.ref 1), some (.int p0), some (.ref 511), none] X (some (.int 1)) Y := by
  refine AT.aload_n M_351 rfl rfl ?_
  refine AT.iconst M_351 rfl (v := 0) (by decide) ?_
  refine AT.aload_n M_351 rfl rfl ?_
  refine AT.iload_n M_351 rfl rfl ?_
  refine AT.cv2h M_351 rfl M_127 rfl (Nat.le_of_ble_eq_true rfl) (xKd.of (Or.inr (Or.inr (Or.inl ⟨rfl, rfl, rfl⟩)))) (by decide) h rfl rfl rfl rfl ?_ (Nat.le_of_ble_eq_true rfl) rfl
  refine AT.iconst M_351 rfl (v := 1) (by decide) ?_
  refine AT.iret M_351 rfl rfl ?_
  exact ⟨rfl, rfl⟩
theorem w_352 {X : XS} {p0 : Int32} {v : Int32} {P : XS → Prop} (h : RU 128 [some (.ref 1), some (.int p0)] X (some (.int v)) P) : RU 352 [some (.ref 1), some (.int p0), some (.ref 511), none] X (some (.int 0)) (fun Z => ∃ Y, P Y ∧ Z = xSetO Y v.toInt64) := by
  refine AT.aload_n M_352 rfl rfl ?_
  refine AT.iconst M_352 rfl (v := 0) (by decide) ?_
  refine AT.aload_n M_352 rfl rfl ?_
  refine AT.iload_n M_352 rfl rfl ?_
  refine AT.cv2u M_352 rfl M_128 rfl (Nat.le_of_ble_eq_true rfl) (xKd.of (Or.inr (Or.inr (Or.inl ⟨rfl, rfl, rfl⟩)))) (by decide) h (fun Y hc4 => ?_) (Nat.le_of_ble_eq_true rfl) rfl
  have r1 := hc4
  refine AT.i2l M_352 rfl ?_
  refine AT.w511 M_352 rfl rfl ?_
  refine AT.goto M_352 rfl ?_
  refine AT.iconst M_352 rfl (v := 0) (by decide) ?_
  refine AT.iret M_352 rfl rfl ?_
  exact ⟨rfl, Y, r1, rfl⟩
theorem w_352x2 {X Y : XS} {p0 : Int32} (h : RX 128 [some (.ref 1), some (.int p0)] X 2 Y) : RT 352 [some (.ref 1), some (.int p0), some (.ref 511), none] X (some (.int 1)) Y := by
  refine AT.aload_n M_352 rfl rfl ?_
  refine AT.iconst M_352 rfl (v := 0) (by decide) ?_
  refine AT.aload_n M_352 rfl rfl ?_
  refine AT.iload_n M_352 rfl rfl ?_
  refine AT.cv2h M_352 rfl M_128 rfl (Nat.le_of_ble_eq_true rfl) (xKd.of (Or.inr (Or.inr (Or.inl ⟨rfl, rfl, rfl⟩)))) (by decide) h rfl rfl rfl rfl ?_ (Nat.le_of_ble_eq_true rfl) rfl
  refine AT.iconst M_352 rfl (v := 1) (by decide) ?_
  refine AT.iret M_352 rfl rfl ?_
  exact ⟨rfl, rfl⟩
theorem w_353 {X : XS} {p0 : Int32} {v : Int32} {P : XS → Prop} (h : RU 129 [some (.ref 1), some (.int p0)] X (some (.int v)) P) : RU 353 [some (.ref 1), some (.int p0), some (.ref 511), none] X (some (.int 0)) (fun Z => ∃ Y, P Y ∧ Z = xSetO Y v.toInt64) := by
  refine AT.aload_n M_353 rfl rfl ?_
  refine AT.iconst M_353 rfl (v := 0) (by decide) ?_
  refine AT.aload_n M_353 rfl rfl ?_
  refine AT.iload_n M_353 rfl rfl ?_
  refine AT.cv2u M_353 rfl M_129 rfl (Nat.le_of_ble_eq_true rfl) (xKd.of (Or.inr (Or.inr (Or.inl ⟨rfl, rfl, rfl⟩)))) (by decide) h (fun Y hc4 => ?_) (Nat.le_of_ble_eq_true rfl) rfl
  have r1 := hc4
  refine AT.i2l M_353 rfl ?_
  refine AT.w511 M_353 rfl rfl ?_
  refine AT.goto M_353 rfl ?_
  refine AT.iconst M_353 rfl (v := 0) (by decide) ?_
  refine AT.iret M_353 rfl rfl ?_
  exact ⟨rfl, Y, r1, rfl⟩
theorem w_353x2 {X Y : XS} {p0 : Int32} (h : RX 129 [some (.ref 1), some (.int p0)] X 2 Y) : RT 353 [some (.ref 1), some (.int p0), some (.ref 511), none] X (some (.int 1)) Y := by
  refine AT.aload_n M_353 rfl rfl ?_
  refine AT.iconst M_353 rfl (v := 0) (by decide) ?_
  refine AT.aload_n M_353 rfl rfl ?_
  refine AT.iload_n M_353 rfl rfl ?_
  refine AT.cv2h M_353 rfl M_129 rfl (Nat.le_of_ble_eq_true rfl) (xKd.of (Or.inr (Or.inr (Or.inl ⟨rfl, rfl, rfl⟩)))) (by decide) h rfl rfl rfl rfl ?_ (Nat.le_of_ble_eq_true rfl) rfl
  refine AT.iconst M_353 rfl (v := 1) (by decide) ?_
  refine AT.iret M_353 rfl rfl ?_
  exact ⟨rfl, rfl⟩
theorem w_354 {X : XS} {p0 : Int32} {v : Int32} {P : XS → Prop} (h : RU 130 [some (.ref 1), some (.int p0)] X (some (.int v)) P) : RU 354 [some (.ref 1), some (.int p0), some (.ref 511), none] X (some (.int 0)) (fun Z => ∃ Y, P Y ∧ Z = xSetO Y v.toInt64) := by
  refine AT.aload_n M_354 rfl rfl ?_
  refine AT.iconst M_354 rfl (v := 0) (by decide) ?_
  refine AT.aload_n M_354 rfl rfl ?_
  refine AT.iload_n M_354 rfl rfl ?_
  refine AT.cv2u M_354 rfl M_130 rfl (Nat.le_of_ble_eq_true rfl) (xKd.of (Or.inr (Or.inr (Or.inl ⟨rfl, rfl, rfl⟩)))) (by decide) h (fun Y hc4 => ?_) (Nat.le_of_ble_eq_true rfl) rfl
  have r1 := hc4
  refine AT.i2l M_354 rfl ?_
  refine AT.w511 M_354 rfl rfl ?_
  refine AT.goto M_354 rfl ?_
  refine AT.iconst M_354 rfl (v := 0) (by decide) ?_
  refine AT.iret M_354 rfl rfl ?_
  exact ⟨rfl, Y, r1, rfl⟩
theorem w_354x2 {X Y : XS} {p0 : Int32} (h : RX 130 [some (.ref 1), some (.int p0)] X 2 Y) : RT 354 [some (.ref 1), some (.int p0), some (.ref 511), none] X (some (.int 1)) Y := by
  refine AT.aload_n M_354 rfl rfl ?_
  refine AT.iconst M_354 rfl (v := 0) (by decide) ?_
  refine AT.aload_n M_354 rfl rfl ?_
  refine AT.iload_n M_354 rfl rfl ?_
  refine AT.cv2h M_354 rfl M_130 rfl (Nat.le_of_ble_eq_true rfl) (xKd.of (Or.inr (Or.inr (Or.inl ⟨rfl, rfl, rfl⟩)))) (by decide) h rfl rfl rfl rfl ?_ (Nat.le_of_ble_eq_true rfl) rfl
  refine AT.iconst M_354 rfl (v := 1) (by decide) ?_
  refine AT.iret M_354 rfl rfl ?_
  exact ⟨rfl, rfl⟩
theorem w_355 {X : XS} {p0 : Int32} {v : Int32} {P : XS → Prop} (h : RU 131 [some (.ref 1), some (.int p0)] X (some (.int v)) P) : RU 355 [some (.ref 1), some (.int p0), some (.ref 511), none] X (some (.int 0)) (fun Z => ∃ Y, P Y ∧ Z = xSetO Y v.toInt64) := by
  refine AT.aload_n M_355 rfl rfl ?_
  refine AT.iconst M_355 rfl (v := 0) (by decide) ?_
  refine AT.aload_n M_355 rfl rfl ?_
  refine AT.iload_n M_355 rfl rfl ?_
  refine AT.cv2u M_355 rfl M_131 rfl (Nat.le_of_ble_eq_true rfl) (xKd.of (Or.inr (Or.inr (Or.inl ⟨rfl, rfl, rfl⟩)))) (by decide) h (fun Y hc4 => ?_) (Nat.le_of_ble_eq_true rfl) rfl
  have r1 := hc4
  refine AT.i2l M_355 rfl ?_
  refine AT.w511 M_355 rfl rfl ?_
  refine AT.goto M_355 rfl ?_
  refine AT.iconst M_355 rfl (v := 0) (by decide) ?_
  refine AT.iret M_355 rfl rfl ?_
  exact ⟨rfl, Y, r1, rfl⟩
theorem w_355x2 {X Y : XS} {p0 : Int32} (h : RX 131 [some (.ref 1), some (.int p0)] X 2 Y) : RT 355 [some (.ref 1), some (.int p0), some (.ref 511), none] X (some (.int 1)) Y := by
  refine AT.aload_n M_355 rfl rfl ?_
  refine AT.iconst M_355 rfl (v := 0) (by decide) ?_
  refine AT.aload_n M_355 rfl rfl ?_
  refine AT.iload_n M_355 rfl rfl ?_
  refine AT.cv2h M_355 rfl M_131 rfl (Nat.le_of_ble_eq_true rfl) (xKd.of (Or.inr (Or.inr (Or.inl ⟨rfl, rfl, rfl⟩)))) (by decide) h rfl rfl rfl rfl ?_ (Nat.le_of_ble_eq_true rfl) rfl
  refine AT.iconst M_355 rfl (v := 1) (by decide) ?_
  refine AT.iret M_355 rfl rfl ?_
  exact ⟨rfl, rfl⟩
theorem w_356 {X : XS} {p0 : Int32} {v : Int32} {P : XS → Prop} (h : RU 132 [some (.ref 1), some (.int p0)] X (some (.int v)) P) : RU 356 [some (.ref 1), some (.int p0), some (.ref 511), none] X (some (.int 0)) (fun Z => ∃ Y, P Y ∧ Z = xSetO Y v.toInt64) := by
  refine AT.aload_n M_356 rfl rfl ?_
  refine AT.iconst M_356 rfl (v := 0) (by decide) ?_
  refine AT.aload_n M_356 rfl rfl ?_
  refine AT.iload_n M_356 rfl rfl ?_
  refine AT.cv2u M_356 rfl M_132 rfl (Nat.le_of_ble_eq_true rfl) (xKd.of (Or.inr (Or.inr (Or.inl ⟨rfl, rfl, rfl⟩)))) (by decide) h (fun Y hc4 => ?_) (Nat.le_of_ble_eq_true rfl) rfl
  have r1 := hc4
  refine AT.i2l M_356 rfl ?_
  refine AT.w511 M_356 rfl rfl ?_
  refine AT.goto M_356 rfl ?_
  refine AT.iconst M_356 rfl (v := 0) (by decide) ?_
  refine AT.iret M_356 rfl rfl ?_
  exact ⟨rfl, Y, r1, rfl⟩
theorem w_356x2 {X Y : XS} {p0 : Int32} (h : RX 132 [some (.ref 1), some (.int p0)] X 2 Y) : RT 356 [some (.ref 1), some (.int p0), some (.ref 511), none] X (some (.int 1)) Y := by
  refine AT.aload_n M_356 rfl rfl ?_
  refine AT.iconst M_356 rfl (v := 0) (by decide) ?_
  refine AT.aload_n M_356 rfl rfl ?_
  refine AT.iload_n M_356 rfl rfl ?_
  refine AT.cv2h M_356 rfl M_132 rfl (Nat.le_of_ble_eq_true rfl) (xKd.of (Or.inr (Or.inr (Or.inl ⟨rfl, rfl, rfl⟩)))) (by decide) h rfl rfl rfl rfl ?_ (Nat.le_of_ble_eq_true rfl) rfl
  refine AT.iconst M_356 rfl (v := 1) (by decide) ?_
  refine AT.iret M_356 rfl rfl ?_
  exact ⟨rfl, rfl⟩
theorem w_357 {X : XS} {p0 : Int32} {v : Int32} {P : XS → Prop} (h : RU 133 [some (.ref 1), some (.int p0)] X (some (.int v)) P) : RU 357 [some (.ref 1), some (.int p0), some (.ref 511), none] X (some (.int 0)) (fun Z => ∃ Y, P Y ∧ Z = xSetO Y v.toInt64) := by
  refine AT.aload_n M_357 rfl rfl ?_
  refine AT.iconst M_357 rfl (v := 0) (by decide) ?_
  refine AT.aload_n M_357 rfl rfl ?_
  refine AT.iload_n M_357 rfl rfl ?_
  refine AT.cv2u M_357 rfl M_133 rfl (Nat.le_of_ble_eq_true rfl) (xKd.of (Or.inr (Or.inr (Or.inl ⟨rfl, rfl, rfl⟩)))) (by decide) h (fun Y hc4 => ?_) (Nat.le_of_ble_eq_true rfl) rfl
  have r1 := hc4
  refine AT.i2l M_357 rfl ?_
  refine AT.w511 M_357 rfl rfl ?_
  refine AT.goto M_357 rfl ?_
  refine AT.iconst M_357 rfl (v := 0) (by decide) ?_
  refine AT.iret M_357 rfl rfl ?_
  exact ⟨rfl, Y, r1, rfl⟩
theorem w_357x2 {X Y : XS} {p0 : Int32} (h : RX 133 [some (.ref 1), some (.int p0)] X 2 Y) : RT 357 [some (.ref 1), some (.int p0), some (.ref 511), none] X (some (.int 1)) Y := by
  refine AT.aload_n M_357 rfl rfl ?_
  refine AT.iconst M_357 rfl (v := 0) (by decide) ?_
  refine AT.aload_n M_357 rfl rfl ?_
  refine AT.iload_n M_357 rfl rfl ?_
  refine AT.cv2h M_357 rfl M_133 rfl (Nat.le_of_ble_eq_true rfl) (xKd.of (Or.inr (Or.inr (Or.inl ⟨rfl, rfl, rfl⟩)))) (by decide) h rfl rfl rfl rfl ?_ (Nat.le_of_ble_eq_true rfl) rfl
  refine AT.iconst M_357 rfl (v := 1) (by decide) ?_
  refine AT.iret M_357 rfl rfl ?_
  exact ⟨rfl, rfl⟩
theorem w_358 {X : XS} {p0 : Int32} {v : Int32} {P : XS → Prop} (h : RU 134 [some (.ref 1), some (.int p0)] X (some (.int v)) P) : RU 358 [some (.ref 1), some (.int p0), some (.ref 511), none] X (some (.int 0)) (fun Z => ∃ Y, P Y ∧ Z = xSetO Y v.toInt64) := by
  refine AT.aload_n M_358 rfl rfl ?_
  refine AT.iconst M_358 rfl (v := 0) (by decide) ?_
  refine AT.aload_n M_358 rfl rfl ?_
  refine AT.iload_n M_358 rfl rfl ?_
  refine AT.cv2u M_358 rfl M_134 rfl (Nat.le_of_ble_eq_true rfl) (xKd.of (Or.inr (Or.inr (Or.inl ⟨rfl, rfl, rfl⟩)))) (by decide) h (fun Y hc4 => ?_) (Nat.le_of_ble_eq_true rfl) rfl
  have r1 := hc4
  refine AT.i2l M_358 rfl ?_
  refine AT.w511 M_358 rfl rfl ?_
  refine AT.goto M_358 rfl ?_
  refine AT.iconst M_358 rfl (v := 0) (by decide) ?_
  refine AT.iret M_358 rfl rfl ?_
  exact ⟨rfl, Y, r1, rfl⟩
theorem w_358x2 {X Y : XS} {p0 : Int32} (h : RX 134 [some (.ref 1), some (.int p0)] X 2 Y) : RT 358 [some (.ref 1), some (.int p0), some (.ref 511), none] X (some (.int 1)) Y := by
  refine AT.aload_n M_358 rfl rfl ?_
  refine AT.iconst M_358 rfl (v := 0) (by decide) ?_
  refine AT.aload_n M_358 rfl rfl ?_
  refine AT.iload_n M_358 rfl rfl ?_
  refine AT.cv2h M_358 rfl M_134 rfl (Nat.le_of_ble_eq_true rfl) (xKd.of (Or.inr (Or.inr (Or.inl ⟨rfl, rfl, rfl⟩)))) (by decide) h rfl rfl rfl rfl ?_ (Nat.le_of_ble_eq_true rfl) rfl
  refine AT.iconst M_358 rfl (v := 1) (by decide) ?_
  refine AT.iret M_358 rfl rfl ?_
  exact ⟨rfl, rfl⟩
theorem w_359 {X : XS} {p0 : Int32} {v : Int32} {P : XS → Prop} (h : RU 135 [some (.ref 1), some (.int p0)] X (some (.int v)) P) : RU 359 [some (.ref 1), some (.int p0), some (.ref 511), none] X (some (.int 0)) (fun Z => ∃ Y, P Y ∧ Z = xSetO Y v.toInt64) := by
  refine AT.aload_n M_359 rfl rfl ?_
  refine AT.iconst M_359 rfl (v := 0) (by decide) ?_
  refine AT.aload_n M_359 rfl rfl ?_
  refine AT.iload_n M_359 rfl rfl ?_
  refine AT.cv2u M_359 rfl M_135 rfl (Nat.le_of_ble_eq_true rfl) (xKd.of (Or.inr (Or.inr (Or.inl ⟨rfl, rfl, rfl⟩)))) (by decide) h (fun Y hc4 => ?_) (Nat.le_of_ble_eq_true rfl) rfl
  have r1 := hc4
  refine AT.i2l M_359 rfl ?_
  refine AT.w511 M_359 rfl rfl ?_
  refine AT.goto M_359 rfl ?_
  refine AT.iconst M_359 rfl (v := 0) (by decide) ?_
  refine AT.iret M_359 rfl rfl ?_
  exact ⟨rfl, Y, r1, rfl⟩
theorem w_359x2 {X Y : XS} {p0 : Int32} (h : RX 135 [some (.ref 1), some (.int p0)] X 2 Y) : RT 359 [some (.ref 1), some (.int p0), some (.ref 511), none] X (some (.int 1)) Y := by
  refine AT.aload_n M_359 rfl rfl ?_
  refine AT.iconst M_359 rfl (v := 0) (by decide) ?_
  refine AT.aload_n M_359 rfl rfl ?_
  refine AT.iload_n M_359 rfl rfl ?_
  refine AT.cv2h M_359 rfl M_135 rfl (Nat.le_of_ble_eq_true rfl) (xKd.of (Or.inr (Or.inr (Or.inl ⟨rfl, rfl, rfl⟩)))) (by decide) h rfl rfl rfl rfl ?_ (Nat.le_of_ble_eq_true rfl) rfl
  refine AT.iconst M_359 rfl (v := 1) (by decide) ?_
  refine AT.iret M_359 rfl rfl ?_
  exact ⟨rfl, rfl⟩
theorem w_360 {X : XS} {p0 : Int32} {v : Int32} {P : XS → Prop} (h : RU 136 [some (.ref 1), some (.int p0)] X (some (.int v)) P) : RU 360 [some (.ref 1), some (.int p0), some (.ref 511), none] X (some (.int 0)) (fun Z => ∃ Y, P Y ∧ Z = xSetO Y v.toInt64) := by
  refine AT.aload_n M_360 rfl rfl ?_
  refine AT.iconst M_360 rfl (v := 0) (by decide) ?_
  refine AT.aload_n M_360 rfl rfl ?_
  refine AT.iload_n M_360 rfl rfl ?_
  refine AT.cv2u M_360 rfl M_136 rfl (Nat.le_of_ble_eq_true rfl) (xKd.of (Or.inr (Or.inr (Or.inl ⟨rfl, rfl, rfl⟩)))) (by decide) h (fun Y hc4 => ?_) (Nat.le_of_ble_eq_true rfl) rfl
  have r1 := hc4
  refine AT.i2l M_360 rfl ?_
  refine AT.w511 M_360 rfl rfl ?_
  refine AT.goto M_360 rfl ?_
  refine AT.iconst M_360 rfl (v := 0) (by decide) ?_
  refine AT.iret M_360 rfl rfl ?_
  exact ⟨rfl, Y, r1, rfl⟩
theorem w_360x2 {X Y : XS} {p0 : Int32} (h : RX 136 [some (.ref 1), some (.int p0)] X 2 Y) : RT 360 [some (.ref 1), some (.int p0), some (.ref 511), none] X (some (.int 1)) Y := by
  refine AT.aload_n M_360 rfl rfl ?_
  refine AT.iconst M_360 rfl (v := 0) (by decide) ?_
  refine AT.aload_n M_360 rfl rfl ?_
  refine AT.iload_n M_360 rfl rfl ?_
  refine AT.cv2h M_360 rfl M_136 rfl (Nat.le_of_ble_eq_true rfl) (xKd.of (Or.inr (Or.inr (Or.inl ⟨rfl, rfl, rfl⟩)))) (by decide) h rfl rfl rfl rfl ?_ (Nat.le_of_ble_eq_true rfl) rfl
  refine AT.iconst M_360 rfl (v := 1) (by decide) ?_
  refine AT.iret M_360 rfl rfl ?_
  exact ⟨rfl, rfl⟩
theorem w_361 {X : XS} {p0 p1 : Int32} {v : Int32} {P : XS → Prop} (h : RU 137 [some (.ref 1), some (.int p0), some (.int p1)] X (some (.int v)) P) (h01 : v = 0 ∨ v = 1) : RU 361 [some (.ref 1), some (.int p0), some (.int p1), some (.ref 511), none] X (some (.int 0)) (fun Z => ∃ Y, P Y ∧ Z = xSetO Y v.toInt64) := by
  refine AT.aload_n M_361 rfl rfl ?_
  refine AT.iconst M_361 rfl (v := 0) (by decide) ?_
  refine AT.aload_n M_361 rfl rfl ?_
  refine AT.iload_n M_361 rfl rfl ?_
  refine AT.iload_n M_361 rfl rfl ?_
  refine AT.cv3u M_361 rfl M_137 rfl (Nat.le_of_ble_eq_true rfl) (xKd.of (Or.inr (Or.inr (Or.inl ⟨rfl, rfl, rfl⟩)))) (by decide) h (fun Y hc5 => ?_) (Nat.le_of_ble_eq_true rfl) rfl
  have r1 := hc5
  refine AT.if_eq M_361 rfl (fun b6 => ?_) (fun b6 => ?_)
  · refine AT.lconst M_361 rfl (v := 0) (by decide) ?_
    refine AT.w511 M_361 rfl rfl ?_
    refine AT.goto M_361 rfl ?_
    refine AT.iconst M_361 rfl (v := 0) (by decide) ?_
    refine AT.iret M_361 rfl rfl ?_
    rw [show v.toInt64 = 0 from by rw [b6]; rfl]
    exact ⟨rfl, Y, r1, rfl⟩
  · refine AT.lconst M_361 rfl (v := 1) (by decide) ?_
    refine AT.goto M_361 rfl ?_
    refine AT.w511 M_361 rfl rfl ?_
    refine AT.goto M_361 rfl ?_
    refine AT.iconst M_361 rfl (v := 0) (by decide) ?_
    refine AT.iret M_361 rfl rfl ?_
    rw [show v.toInt64 = 1 from by rw [h01.resolve_left b6]; rfl]
    exact ⟨rfl, Y, r1, rfl⟩
theorem w_361x2 {X Y : XS} {p0 p1 : Int32} (h : RX 137 [some (.ref 1), some (.int p0), some (.int p1)] X 2 Y) : RT 361 [some (.ref 1), some (.int p0), some (.int p1), some (.ref 511), none] X (some (.int 1)) Y := by
  refine AT.aload_n M_361 rfl rfl ?_
  refine AT.iconst M_361 rfl (v := 0) (by decide) ?_
  refine AT.aload_n M_361 rfl rfl ?_
  refine AT.iload_n M_361 rfl rfl ?_
  refine AT.iload_n M_361 rfl rfl ?_
  refine AT.cv3h M_361 rfl M_137 rfl (Nat.le_of_ble_eq_true rfl) (xKd.of (Or.inr (Or.inr (Or.inl ⟨rfl, rfl, rfl⟩)))) (by decide) h rfl rfl rfl rfl ?_ (Nat.le_of_ble_eq_true rfl) rfl
  refine AT.iconst M_361 rfl (v := 1) (by decide) ?_
  refine AT.iret M_361 rfl rfl ?_
  exact ⟨rfl, rfl⟩
theorem w_362 {X : XS} {p0 p1 : Int32} {v : Int32} {P : XS → Prop} (h : RU 138 [some (.ref 1), some (.int p0), some (.int p1), none] X (some (.int v)) P) : RU 362 [some (.ref 1), some (.int p0), some (.int p1), some (.ref 511), none] X (some (.int 0)) (fun Z => ∃ Y, P Y ∧ Z = xSetO Y v.toInt64) := by
  refine AT.aload_n M_362 rfl rfl ?_
  refine AT.iconst M_362 rfl (v := 0) (by decide) ?_
  refine AT.aload_n M_362 rfl rfl ?_
  refine AT.iload_n M_362 rfl rfl ?_
  refine AT.iload_n M_362 rfl rfl ?_
  refine AT.cv3u M_362 rfl M_138 rfl (Nat.le_of_ble_eq_true rfl) (xKd.of (Or.inr (Or.inr (Or.inl ⟨rfl, rfl, rfl⟩)))) (by decide) h (fun Y hc5 => ?_) (Nat.le_of_ble_eq_true rfl) rfl
  have r1 := hc5
  refine AT.i2l M_362 rfl ?_
  refine AT.w511 M_362 rfl rfl ?_
  refine AT.goto M_362 rfl ?_
  refine AT.iconst M_362 rfl (v := 0) (by decide) ?_
  refine AT.iret M_362 rfl rfl ?_
  exact ⟨rfl, Y, r1, rfl⟩
theorem w_362x2 {X Y : XS} {p0 p1 : Int32} (h : RX 138 [some (.ref 1), some (.int p0), some (.int p1), none] X 2 Y) : RT 362 [some (.ref 1), some (.int p0), some (.int p1), some (.ref 511), none] X (some (.int 1)) Y := by
  refine AT.aload_n M_362 rfl rfl ?_
  refine AT.iconst M_362 rfl (v := 0) (by decide) ?_
  refine AT.aload_n M_362 rfl rfl ?_
  refine AT.iload_n M_362 rfl rfl ?_
  refine AT.iload_n M_362 rfl rfl ?_
  refine AT.cv3h M_362 rfl M_138 rfl (Nat.le_of_ble_eq_true rfl) (xKd.of (Or.inr (Or.inr (Or.inl ⟨rfl, rfl, rfl⟩)))) (by decide) h rfl rfl rfl rfl ?_ (Nat.le_of_ble_eq_true rfl) rfl
  refine AT.iconst M_362 rfl (v := 1) (by decide) ?_
  refine AT.iret M_362 rfl rfl ?_
  exact ⟨rfl, rfl⟩
theorem w_363 {X : XS} {p0 p1 : Int32} {v : Int32} {P : XS → Prop} (h : RU 139 [some (.ref 1), some (.int p0), some (.int p1)] X (some (.int v)) P) : RU 363 [some (.ref 1), some (.int p0), some (.int p1), some (.ref 511), none] X (some (.int 0)) (fun Z => ∃ Y, P Y ∧ Z = xSetO Y v.toInt64) := by
  refine AT.aload_n M_363 rfl rfl ?_
  refine AT.iconst M_363 rfl (v := 0) (by decide) ?_
  refine AT.aload_n M_363 rfl rfl ?_
  refine AT.iload_n M_363 rfl rfl ?_
  refine AT.iload_n M_363 rfl rfl ?_
  refine AT.cv3u M_363 rfl M_139 rfl (Nat.le_of_ble_eq_true rfl) (xKd.of (Or.inr (Or.inr (Or.inl ⟨rfl, rfl, rfl⟩)))) (by decide) h (fun Y hc5 => ?_) (Nat.le_of_ble_eq_true rfl) rfl
  have r1 := hc5
  refine AT.i2l M_363 rfl ?_
  refine AT.w511 M_363 rfl rfl ?_
  refine AT.goto M_363 rfl ?_
  refine AT.iconst M_363 rfl (v := 0) (by decide) ?_
  refine AT.iret M_363 rfl rfl ?_
  exact ⟨rfl, Y, r1, rfl⟩
theorem w_363x2 {X Y : XS} {p0 p1 : Int32} (h : RX 139 [some (.ref 1), some (.int p0), some (.int p1)] X 2 Y) : RT 363 [some (.ref 1), some (.int p0), some (.int p1), some (.ref 511), none] X (some (.int 1)) Y := by
  refine AT.aload_n M_363 rfl rfl ?_
  refine AT.iconst M_363 rfl (v := 0) (by decide) ?_
  refine AT.aload_n M_363 rfl rfl ?_
  refine AT.iload_n M_363 rfl rfl ?_
  refine AT.iload_n M_363 rfl rfl ?_
  refine AT.cv3h M_363 rfl M_139 rfl (Nat.le_of_ble_eq_true rfl) (xKd.of (Or.inr (Or.inr (Or.inl ⟨rfl, rfl, rfl⟩)))) (by decide) h rfl rfl rfl rfl ?_ (Nat.le_of_ble_eq_true rfl) rfl
  refine AT.iconst M_363 rfl (v := 1) (by decide) ?_
  refine AT.iret M_363 rfl rfl ?_
  exact ⟨rfl, rfl⟩
theorem w_364 {X : XS} {p0 p1 : Int32} {v : Int32} {P : XS → Prop} (h : RU 140 [some (.ref 1), some (.int p0), some (.int p1)] X (some (.int v)) P) : RU 364 [some (.ref 1), some (.int p0), some (.int p1), some (.ref 511), none] X (some (.int 0)) (fun Z => ∃ Y, P Y ∧ Z = xSetO Y v.toInt64) := by
  refine AT.aload_n M_364 rfl rfl ?_
  refine AT.iconst M_364 rfl (v := 0) (by decide) ?_
  refine AT.aload_n M_364 rfl rfl ?_
  refine AT.iload_n M_364 rfl rfl ?_
  refine AT.iload_n M_364 rfl rfl ?_
  refine AT.cv3u M_364 rfl M_140 rfl (Nat.le_of_ble_eq_true rfl) (xKd.of (Or.inr (Or.inr (Or.inl ⟨rfl, rfl, rfl⟩)))) (by decide) h (fun Y hc5 => ?_) (Nat.le_of_ble_eq_true rfl) rfl
  have r1 := hc5
  refine AT.i2l M_364 rfl ?_
  refine AT.w511 M_364 rfl rfl ?_
  refine AT.goto M_364 rfl ?_
  refine AT.iconst M_364 rfl (v := 0) (by decide) ?_
  refine AT.iret M_364 rfl rfl ?_
  exact ⟨rfl, Y, r1, rfl⟩
theorem w_364x2 {X Y : XS} {p0 p1 : Int32} (h : RX 140 [some (.ref 1), some (.int p0), some (.int p1)] X 2 Y) : RT 364 [some (.ref 1), some (.int p0), some (.int p1), some (.ref 511), none] X (some (.int 1)) Y := by
  refine AT.aload_n M_364 rfl rfl ?_
  refine AT.iconst M_364 rfl (v := 0) (by decide) ?_
  refine AT.aload_n M_364 rfl rfl ?_
  refine AT.iload_n M_364 rfl rfl ?_
  refine AT.iload_n M_364 rfl rfl ?_
  refine AT.cv3h M_364 rfl M_140 rfl (Nat.le_of_ble_eq_true rfl) (xKd.of (Or.inr (Or.inr (Or.inl ⟨rfl, rfl, rfl⟩)))) (by decide) h rfl rfl rfl rfl ?_ (Nat.le_of_ble_eq_true rfl) rfl
  refine AT.iconst M_364 rfl (v := 1) (by decide) ?_
  refine AT.iret M_364 rfl rfl ?_
  exact ⟨rfl, rfl⟩
theorem w_365 {X : XS} {p0 p1 : Int32} {v : Int32} {P : XS → Prop} (h : RU 141 [some (.ref 1), some (.int p0), some (.int p1)] X (some (.int v)) P) : RU 365 [some (.ref 1), some (.int p0), some (.int p1), some (.ref 511), none] X (some (.int 0)) (fun Z => ∃ Y, P Y ∧ Z = xSetO Y v.toInt64) := by
  refine AT.aload_n M_365 rfl rfl ?_
  refine AT.iconst M_365 rfl (v := 0) (by decide) ?_
  refine AT.aload_n M_365 rfl rfl ?_
  refine AT.iload_n M_365 rfl rfl ?_
  refine AT.iload_n M_365 rfl rfl ?_
  refine AT.cv3u M_365 rfl M_141 rfl (Nat.le_of_ble_eq_true rfl) (xKd.of (Or.inr (Or.inr (Or.inl ⟨rfl, rfl, rfl⟩)))) (by decide) h (fun Y hc5 => ?_) (Nat.le_of_ble_eq_true rfl) rfl
  have r1 := hc5
  refine AT.i2l M_365 rfl ?_
  refine AT.w511 M_365 rfl rfl ?_
  refine AT.goto M_365 rfl ?_
  refine AT.iconst M_365 rfl (v := 0) (by decide) ?_
  refine AT.iret M_365 rfl rfl ?_
  exact ⟨rfl, Y, r1, rfl⟩
theorem w_365x2 {X Y : XS} {p0 p1 : Int32} (h : RX 141 [some (.ref 1), some (.int p0), some (.int p1)] X 2 Y) : RT 365 [some (.ref 1), some (.int p0), some (.int p1), some (.ref 511), none] X (some (.int 1)) Y := by
  refine AT.aload_n M_365 rfl rfl ?_
  refine AT.iconst M_365 rfl (v := 0) (by decide) ?_
  refine AT.aload_n M_365 rfl rfl ?_
  refine AT.iload_n M_365 rfl rfl ?_
  refine AT.iload_n M_365 rfl rfl ?_
  refine AT.cv3h M_365 rfl M_141 rfl (Nat.le_of_ble_eq_true rfl) (xKd.of (Or.inr (Or.inr (Or.inl ⟨rfl, rfl, rfl⟩)))) (by decide) h rfl rfl rfl rfl ?_ (Nat.le_of_ble_eq_true rfl) rfl
  refine AT.iconst M_365 rfl (v := 1) (by decide) ?_
  refine AT.iret M_365 rfl rfl ?_
  exact ⟨rfl, rfl⟩
theorem w_366 {X : XS} {p0 p1 : Int32} {v : Int32} {P : XS → Prop} (h : RU 142 [some (.ref 1), some (.int p0), some (.int p1)] X (some (.int v)) P) : RU 366 [some (.ref 1), some (.int p0), some (.int p1), some (.ref 511), none] X (some (.int 0)) (fun Z => ∃ Y, P Y ∧ Z = xSetO Y v.toInt64) := by
  refine AT.aload_n M_366 rfl rfl ?_
  refine AT.iconst M_366 rfl (v := 0) (by decide) ?_
  refine AT.aload_n M_366 rfl rfl ?_
  refine AT.iload_n M_366 rfl rfl ?_
  refine AT.iload_n M_366 rfl rfl ?_
  refine AT.cv3u M_366 rfl M_142 rfl (Nat.le_of_ble_eq_true rfl) (xKd.of (Or.inr (Or.inr (Or.inl ⟨rfl, rfl, rfl⟩)))) (by decide) h (fun Y hc5 => ?_) (Nat.le_of_ble_eq_true rfl) rfl
  have r1 := hc5
  refine AT.i2l M_366 rfl ?_
  refine AT.w511 M_366 rfl rfl ?_
  refine AT.goto M_366 rfl ?_
  refine AT.iconst M_366 rfl (v := 0) (by decide) ?_
  refine AT.iret M_366 rfl rfl ?_
  exact ⟨rfl, Y, r1, rfl⟩
theorem w_366x2 {X Y : XS} {p0 p1 : Int32} (h : RX 142 [some (.ref 1), some (.int p0), some (.int p1)] X 2 Y) : RT 366 [some (.ref 1), some (.int p0), some (.int p1), some (.ref 511), none] X (some (.int 1)) Y := by
  refine AT.aload_n M_366 rfl rfl ?_
  refine AT.iconst M_366 rfl (v := 0) (by decide) ?_
  refine AT.aload_n M_366 rfl rfl ?_
  refine AT.iload_n M_366 rfl rfl ?_
  refine AT.iload_n M_366 rfl rfl ?_
  refine AT.cv3h M_366 rfl M_142 rfl (Nat.le_of_ble_eq_true rfl) (xKd.of (Or.inr (Or.inr (Or.inl ⟨rfl, rfl, rfl⟩)))) (by decide) h rfl rfl rfl rfl ?_ (Nat.le_of_ble_eq_true rfl) rfl
  refine AT.iconst M_366 rfl (v := 1) (by decide) ?_
  refine AT.iret M_366 rfl rfl ?_
  exact ⟨rfl, rfl⟩
theorem w_367 {X : XS} {p0 p1 : Int32} {v : Int32} {P : XS → Prop} (h : RU 143 [some (.ref 1), some (.int p0), some (.int p1)] X (some (.int v)) P) : RU 367 [some (.ref 1), some (.int p0), some (.int p1), some (.ref 511), none] X (some (.int 0)) (fun Z => ∃ Y, P Y ∧ Z = xSetO Y v.toInt64) := by
  refine AT.aload_n M_367 rfl rfl ?_
  refine AT.iconst M_367 rfl (v := 0) (by decide) ?_
  refine AT.aload_n M_367 rfl rfl ?_
  refine AT.iload_n M_367 rfl rfl ?_
  refine AT.iload_n M_367 rfl rfl ?_
  refine AT.cv3u M_367 rfl M_143 rfl (Nat.le_of_ble_eq_true rfl) (xKd.of (Or.inr (Or.inr (Or.inl ⟨rfl, rfl, rfl⟩)))) (by decide) h (fun Y hc5 => ?_) (Nat.le_of_ble_eq_true rfl) rfl
  have r1 := hc5
  refine AT.i2l M_367 rfl ?_
  refine AT.w511 M_367 rfl rfl ?_
  refine AT.goto M_367 rfl ?_
  refine AT.iconst M_367 rfl (v := 0) (by decide) ?_
  refine AT.iret M_367 rfl rfl ?_
  exact ⟨rfl, Y, r1, rfl⟩
theorem w_367x2 {X Y : XS} {p0 p1 : Int32} (h : RX 143 [some (.ref 1), some (.int p0), some (.int p1)] X 2 Y) : RT 367 [some (.ref 1), some (.int p0), some (.int p1), some (.ref 511), none] X (some (.int 1)) Y := by
  refine AT.aload_n M_367 rfl rfl ?_
  refine AT.iconst M_367 rfl (v := 0) (by decide) ?_
  refine AT.aload_n M_367 rfl rfl ?_
  refine AT.iload_n M_367 rfl rfl ?_
  refine AT.iload_n M_367 rfl rfl ?_
  refine AT.cv3h M_367 rfl M_143 rfl (Nat.le_of_ble_eq_true rfl) (xKd.of (Or.inr (Or.inr (Or.inl ⟨rfl, rfl, rfl⟩)))) (by decide) h rfl rfl rfl rfl ?_ (Nat.le_of_ble_eq_true rfl) rfl
  refine AT.iconst M_367 rfl (v := 1) (by decide) ?_
  refine AT.iret M_367 rfl rfl ?_
  exact ⟨rfl, rfl⟩
theorem w_368 {X : XS} {p0 p1 : Int32} {v : Int32} {P : XS → Prop} (h : RU 144 [some (.ref 1), some (.int p0), some (.int p1)] X (some (.int v)) P) : RU 368 [some (.ref 1), some (.int p0), some (.int p1), some (.ref 511), none] X (some (.int 0)) (fun Z => ∃ Y, P Y ∧ Z = xSetO Y v.toInt64) := by
  refine AT.aload_n M_368 rfl rfl ?_
  refine AT.iconst M_368 rfl (v := 0) (by decide) ?_
  refine AT.aload_n M_368 rfl rfl ?_
  refine AT.iload_n M_368 rfl rfl ?_
  refine AT.iload_n M_368 rfl rfl ?_
  refine AT.cv3u M_368 rfl M_144 rfl (Nat.le_of_ble_eq_true rfl) (xKd.of (Or.inr (Or.inr (Or.inl ⟨rfl, rfl, rfl⟩)))) (by decide) h (fun Y hc5 => ?_) (Nat.le_of_ble_eq_true rfl) rfl
  have r1 := hc5
  refine AT.i2l M_368 rfl ?_
  refine AT.w511 M_368 rfl rfl ?_
  refine AT.goto M_368 rfl ?_
  refine AT.iconst M_368 rfl (v := 0) (by decide) ?_
  refine AT.iret M_368 rfl rfl ?_
  exact ⟨rfl, Y, r1, rfl⟩
theorem w_368x2 {X Y : XS} {p0 p1 : Int32} (h : RX 144 [some (.ref 1), some (.int p0), some (.int p1)] X 2 Y) : RT 368 [some (.ref 1), some (.int p0), some (.int p1), some (.ref 511), none] X (some (.int 1)) Y := by
  refine AT.aload_n M_368 rfl rfl ?_
  refine AT.iconst M_368 rfl (v := 0) (by decide) ?_
  refine AT.aload_n M_368 rfl rfl ?_
  refine AT.iload_n M_368 rfl rfl ?_
  refine AT.iload_n M_368 rfl rfl ?_
  refine AT.cv3h M_368 rfl M_144 rfl (Nat.le_of_ble_eq_true rfl) (xKd.of (Or.inr (Or.inr (Or.inl ⟨rfl, rfl, rfl⟩)))) (by decide) h rfl rfl rfl rfl ?_ (Nat.le_of_ble_eq_true rfl) rfl
  refine AT.iconst M_368 rfl (v := 1) (by decide) ?_
  refine AT.iret M_368 rfl rfl ?_
  exact ⟨rfl, rfl⟩
theorem w_369 {X : XS} {p0 p1 : Int32} {v : Int32} {P : XS → Prop} (h : RU 145 [some (.ref 1), some (.int p0), some (.int p1)] X (some (.int v)) P) : RU 369 [some (.ref 1), some (.int p0), some (.int p1), some (.ref 511), none] X (some (.int 0)) (fun Z => ∃ Y, P Y ∧ Z = xSetO Y v.toInt64) := by
  refine AT.aload_n M_369 rfl rfl ?_
  refine AT.iconst M_369 rfl (v := 0) (by decide) ?_
  refine AT.aload_n M_369 rfl rfl ?_
  refine AT.iload_n M_369 rfl rfl ?_
  refine AT.iload_n M_369 rfl rfl ?_
  refine AT.cv3u M_369 rfl M_145 rfl (Nat.le_of_ble_eq_true rfl) (xKd.of (Or.inr (Or.inr (Or.inl ⟨rfl, rfl, rfl⟩)))) (by decide) h (fun Y hc5 => ?_) (Nat.le_of_ble_eq_true rfl) rfl
  have r1 := hc5
  refine AT.i2l M_369 rfl ?_
  refine AT.w511 M_369 rfl rfl ?_
  refine AT.goto M_369 rfl ?_
  refine AT.iconst M_369 rfl (v := 0) (by decide) ?_
  refine AT.iret M_369 rfl rfl ?_
  exact ⟨rfl, Y, r1, rfl⟩
theorem w_369x2 {X Y : XS} {p0 p1 : Int32} (h : RX 145 [some (.ref 1), some (.int p0), some (.int p1)] X 2 Y) : RT 369 [some (.ref 1), some (.int p0), some (.int p1), some (.ref 511), none] X (some (.int 1)) Y := by
  refine AT.aload_n M_369 rfl rfl ?_
  refine AT.iconst M_369 rfl (v := 0) (by decide) ?_
  refine AT.aload_n M_369 rfl rfl ?_
  refine AT.iload_n M_369 rfl rfl ?_
  refine AT.iload_n M_369 rfl rfl ?_
  refine AT.cv3h M_369 rfl M_145 rfl (Nat.le_of_ble_eq_true rfl) (xKd.of (Or.inr (Or.inr (Or.inl ⟨rfl, rfl, rfl⟩)))) (by decide) h rfl rfl rfl rfl ?_ (Nat.le_of_ble_eq_true rfl) rfl
  refine AT.iconst M_369 rfl (v := 1) (by decide) ?_
  refine AT.iret M_369 rfl rfl ?_
  exact ⟨rfl, rfl⟩
theorem w_369x0 {X Y : XS} {p0 p1 : Int32} (h : RX 145 [some (.ref 1), some (.int p0), some (.int p1)] X 0 Y) : RT 369 [some (.ref 1), some (.int p0), some (.int p1), some (.ref 511), none] X (some (.int 2)) Y := by
  refine AT.aload_n M_369 rfl rfl ?_
  refine AT.iconst M_369 rfl (v := 0) (by decide) ?_
  refine AT.aload_n M_369 rfl rfl ?_
  refine AT.iload_n M_369 rfl rfl ?_
  refine AT.iload_n M_369 rfl rfl ?_
  refine AT.cv3h M_369 rfl M_145 rfl (Nat.le_of_ble_eq_true rfl) (xKd.of (Or.inr (Or.inr (Or.inl ⟨rfl, rfl, rfl⟩)))) (by decide) h rfl rfl rfl rfl ?_ (Nat.le_of_ble_eq_true rfl) rfl
  refine AT.iconst M_369 rfl (v := 2) (by decide) ?_
  refine AT.iret M_369 rfl rfl ?_
  exact ⟨rfl, rfl⟩
theorem w_369x1 {X Y : XS} {p0 p1 : Int32} (h : RX 145 [some (.ref 1), some (.int p0), some (.int p1)] X 1 Y) : RT 369 [some (.ref 1), some (.int p0), some (.int p1), some (.ref 511), none] X (some (.int 3)) Y := by
  refine AT.aload_n M_369 rfl rfl ?_
  refine AT.iconst M_369 rfl (v := 0) (by decide) ?_
  refine AT.aload_n M_369 rfl rfl ?_
  refine AT.iload_n M_369 rfl rfl ?_
  refine AT.iload_n M_369 rfl rfl ?_
  refine AT.cv3h M_369 rfl M_145 rfl (Nat.le_of_ble_eq_true rfl) (xKd.of (Or.inr (Or.inr (Or.inl ⟨rfl, rfl, rfl⟩)))) (by decide) h rfl rfl rfl rfl ?_ (Nat.le_of_ble_eq_true rfl) rfl
  refine AT.iconst M_369 rfl (v := 3) (by decide) ?_
  refine AT.iret M_369 rfl rfl ?_
  exact ⟨rfl, rfl⟩
theorem w_370 {X : XS} {p0 p1 : Int32} {v : Int32} {P : XS → Prop} (h : RU 146 [some (.ref 1), some (.int p0), some (.int p1)] X (some (.int v)) P) : RU 370 [some (.ref 1), some (.int p0), some (.int p1), some (.ref 511), none] X (some (.int 0)) (fun Z => ∃ Y, P Y ∧ Z = xSetO Y v.toInt64) := by
  refine AT.aload_n M_370 rfl rfl ?_
  refine AT.iconst M_370 rfl (v := 0) (by decide) ?_
  refine AT.aload_n M_370 rfl rfl ?_
  refine AT.iload_n M_370 rfl rfl ?_
  refine AT.iload_n M_370 rfl rfl ?_
  refine AT.cv3u M_370 rfl M_146 rfl (Nat.le_of_ble_eq_true rfl) (xKd.of (Or.inr (Or.inr (Or.inl ⟨rfl, rfl, rfl⟩)))) (by decide) h (fun Y hc5 => ?_) (Nat.le_of_ble_eq_true rfl) rfl
  have r1 := hc5
  refine AT.i2l M_370 rfl ?_
  refine AT.w511 M_370 rfl rfl ?_
  refine AT.goto M_370 rfl ?_
  refine AT.iconst M_370 rfl (v := 0) (by decide) ?_
  refine AT.iret M_370 rfl rfl ?_
  exact ⟨rfl, Y, r1, rfl⟩
theorem w_370x2 {X Y : XS} {p0 p1 : Int32} (h : RX 146 [some (.ref 1), some (.int p0), some (.int p1)] X 2 Y) : RT 370 [some (.ref 1), some (.int p0), some (.int p1), some (.ref 511), none] X (some (.int 1)) Y := by
  refine AT.aload_n M_370 rfl rfl ?_
  refine AT.iconst M_370 rfl (v := 0) (by decide) ?_
  refine AT.aload_n M_370 rfl rfl ?_
  refine AT.iload_n M_370 rfl rfl ?_
  refine AT.iload_n M_370 rfl rfl ?_
  refine AT.cv3h M_370 rfl M_146 rfl (Nat.le_of_ble_eq_true rfl) (xKd.of (Or.inr (Or.inr (Or.inl ⟨rfl, rfl, rfl⟩)))) (by decide) h rfl rfl rfl rfl ?_ (Nat.le_of_ble_eq_true rfl) rfl
  refine AT.iconst M_370 rfl (v := 1) (by decide) ?_
  refine AT.iret M_370 rfl rfl ?_
  exact ⟨rfl, rfl⟩
theorem w_370x0 {X Y : XS} {p0 p1 : Int32} (h : RX 146 [some (.ref 1), some (.int p0), some (.int p1)] X 0 Y) : RT 370 [some (.ref 1), some (.int p0), some (.int p1), some (.ref 511), none] X (some (.int 2)) Y := by
  refine AT.aload_n M_370 rfl rfl ?_
  refine AT.iconst M_370 rfl (v := 0) (by decide) ?_
  refine AT.aload_n M_370 rfl rfl ?_
  refine AT.iload_n M_370 rfl rfl ?_
  refine AT.iload_n M_370 rfl rfl ?_
  refine AT.cv3h M_370 rfl M_146 rfl (Nat.le_of_ble_eq_true rfl) (xKd.of (Or.inr (Or.inr (Or.inl ⟨rfl, rfl, rfl⟩)))) (by decide) h rfl rfl rfl rfl ?_ (Nat.le_of_ble_eq_true rfl) rfl
  refine AT.iconst M_370 rfl (v := 2) (by decide) ?_
  refine AT.iret M_370 rfl rfl ?_
  exact ⟨rfl, rfl⟩
theorem w_370x1 {X Y : XS} {p0 p1 : Int32} (h : RX 146 [some (.ref 1), some (.int p0), some (.int p1)] X 1 Y) : RT 370 [some (.ref 1), some (.int p0), some (.int p1), some (.ref 511), none] X (some (.int 3)) Y := by
  refine AT.aload_n M_370 rfl rfl ?_
  refine AT.iconst M_370 rfl (v := 0) (by decide) ?_
  refine AT.aload_n M_370 rfl rfl ?_
  refine AT.iload_n M_370 rfl rfl ?_
  refine AT.iload_n M_370 rfl rfl ?_
  refine AT.cv3h M_370 rfl M_146 rfl (Nat.le_of_ble_eq_true rfl) (xKd.of (Or.inr (Or.inr (Or.inl ⟨rfl, rfl, rfl⟩)))) (by decide) h rfl rfl rfl rfl ?_ (Nat.le_of_ble_eq_true rfl) rfl
  refine AT.iconst M_370 rfl (v := 3) (by decide) ?_
  refine AT.iret M_370 rfl rfl ?_
  exact ⟨rfl, rfl⟩
theorem w_371 {X : XS} {p0 p1 : Int32} {v : Int32} {P : XS → Prop} (h : RU 150 [some (.ref 1), some (.int p0), some (.int p1)] X (some (.int v)) P) : RU 371 [some (.ref 1), some (.int p0), some (.int p1), some (.ref 511), none] X (some (.int 0)) (fun Z => ∃ Y, P Y ∧ Z = xSetO Y v.toInt64) := by
  refine AT.aload_n M_371 rfl rfl ?_
  refine AT.iconst M_371 rfl (v := 0) (by decide) ?_
  refine AT.aload_n M_371 rfl rfl ?_
  refine AT.iload_n M_371 rfl rfl ?_
  refine AT.iload_n M_371 rfl rfl ?_
  refine AT.cv3u M_371 rfl M_150 rfl (Nat.le_of_ble_eq_true rfl) (xKd.of (Or.inr (Or.inr (Or.inl ⟨rfl, rfl, rfl⟩)))) (by decide) h (fun Y hc5 => ?_) (Nat.le_of_ble_eq_true rfl) rfl
  have r1 := hc5
  refine AT.i2l M_371 rfl ?_
  refine AT.w511 M_371 rfl rfl ?_
  refine AT.goto M_371 rfl ?_
  refine AT.iconst M_371 rfl (v := 0) (by decide) ?_
  refine AT.iret M_371 rfl rfl ?_
  exact ⟨rfl, Y, r1, rfl⟩
theorem w_371x2 {X Y : XS} {p0 p1 : Int32} (h : RX 150 [some (.ref 1), some (.int p0), some (.int p1)] X 2 Y) : RT 371 [some (.ref 1), some (.int p0), some (.int p1), some (.ref 511), none] X (some (.int 1)) Y := by
  refine AT.aload_n M_371 rfl rfl ?_
  refine AT.iconst M_371 rfl (v := 0) (by decide) ?_
  refine AT.aload_n M_371 rfl rfl ?_
  refine AT.iload_n M_371 rfl rfl ?_
  refine AT.iload_n M_371 rfl rfl ?_
  refine AT.cv3h M_371 rfl M_150 rfl (Nat.le_of_ble_eq_true rfl) (xKd.of (Or.inr (Or.inr (Or.inl ⟨rfl, rfl, rfl⟩)))) (by decide) h rfl rfl rfl rfl ?_ (Nat.le_of_ble_eq_true rfl) rfl
  refine AT.iconst M_371 rfl (v := 1) (by decide) ?_
  refine AT.iret M_371 rfl rfl ?_
  exact ⟨rfl, rfl⟩
theorem w_372 {X : XS} {p0 p1 : Int32} {v : Int32} {P : XS → Prop} (h : RU 151 [some (.ref 1), some (.int p0), some (.int p1), none] X (some (.int v)) P) : RU 372 [some (.ref 1), some (.int p0), some (.int p1), some (.ref 511), none] X (some (.int 0)) (fun Z => ∃ Y, P Y ∧ Z = xSetO Y v.toInt64) := by
  refine AT.aload_n M_372 rfl rfl ?_
  refine AT.iconst M_372 rfl (v := 0) (by decide) ?_
  refine AT.aload_n M_372 rfl rfl ?_
  refine AT.iload_n M_372 rfl rfl ?_
  refine AT.iload_n M_372 rfl rfl ?_
  refine AT.cv3u M_372 rfl M_151 rfl (Nat.le_of_ble_eq_true rfl) (xKd.of (Or.inr (Or.inr (Or.inl ⟨rfl, rfl, rfl⟩)))) (by decide) h (fun Y hc5 => ?_) (Nat.le_of_ble_eq_true rfl) rfl
  have r1 := hc5
  refine AT.i2l M_372 rfl ?_
  refine AT.w511 M_372 rfl rfl ?_
  refine AT.goto M_372 rfl ?_
  refine AT.iconst M_372 rfl (v := 0) (by decide) ?_
  refine AT.iret M_372 rfl rfl ?_
  exact ⟨rfl, Y, r1, rfl⟩
theorem w_372x2 {X Y : XS} {p0 p1 : Int32} (h : RX 151 [some (.ref 1), some (.int p0), some (.int p1), none] X 2 Y) : RT 372 [some (.ref 1), some (.int p0), some (.int p1), some (.ref 511), none] X (some (.int 1)) Y := by
  refine AT.aload_n M_372 rfl rfl ?_
  refine AT.iconst M_372 rfl (v := 0) (by decide) ?_
  refine AT.aload_n M_372 rfl rfl ?_
  refine AT.iload_n M_372 rfl rfl ?_
  refine AT.iload_n M_372 rfl rfl ?_
  refine AT.cv3h M_372 rfl M_151 rfl (Nat.le_of_ble_eq_true rfl) (xKd.of (Or.inr (Or.inr (Or.inl ⟨rfl, rfl, rfl⟩)))) (by decide) h rfl rfl rfl rfl ?_ (Nat.le_of_ble_eq_true rfl) rfl
  refine AT.iconst M_372 rfl (v := 1) (by decide) ?_
  refine AT.iret M_372 rfl rfl ?_
  exact ⟨rfl, rfl⟩
theorem w_373 {X : XS} {p0 : Int32} {v : Int32} {P : XS → Prop} (h : RU 152 [some (.ref 1), some (.int p0)] X (some (.int v)) P) (h01 : v = 0 ∨ v = 1) : RU 373 [some (.ref 1), some (.int p0), some (.ref 511), none] X (some (.int 0)) (fun Z => ∃ Y, P Y ∧ Z = xSetO Y v.toInt64) := by
  refine AT.aload_n M_373 rfl rfl ?_
  refine AT.iconst M_373 rfl (v := 0) (by decide) ?_
  refine AT.aload_n M_373 rfl rfl ?_
  refine AT.iload_n M_373 rfl rfl ?_
  refine AT.cv2u M_373 rfl M_152 rfl (Nat.le_of_ble_eq_true rfl) (xKd.of (Or.inr (Or.inr (Or.inl ⟨rfl, rfl, rfl⟩)))) (by decide) h (fun Y hc4 => ?_) (Nat.le_of_ble_eq_true rfl) rfl
  have r1 := hc4
  refine AT.if_eq M_373 rfl (fun b5 => ?_) (fun b5 => ?_)
  · refine AT.lconst M_373 rfl (v := 0) (by decide) ?_
    refine AT.w511 M_373 rfl rfl ?_
    refine AT.goto M_373 rfl ?_
    refine AT.iconst M_373 rfl (v := 0) (by decide) ?_
    refine AT.iret M_373 rfl rfl ?_
    rw [show v.toInt64 = 0 from by rw [b5]; rfl]
    exact ⟨rfl, Y, r1, rfl⟩
  · refine AT.lconst M_373 rfl (v := 1) (by decide) ?_
    refine AT.goto M_373 rfl ?_
    refine AT.w511 M_373 rfl rfl ?_
    refine AT.goto M_373 rfl ?_
    refine AT.iconst M_373 rfl (v := 0) (by decide) ?_
    refine AT.iret M_373 rfl rfl ?_
    rw [show v.toInt64 = 1 from by rw [h01.resolve_left b5]; rfl]
    exact ⟨rfl, Y, r1, rfl⟩
theorem w_373x2 {X Y : XS} {p0 : Int32} (h : RX 152 [some (.ref 1), some (.int p0)] X 2 Y) : RT 373 [some (.ref 1), some (.int p0), some (.ref 511), none] X (some (.int 1)) Y := by
  refine AT.aload_n M_373 rfl rfl ?_
  refine AT.iconst M_373 rfl (v := 0) (by decide) ?_
  refine AT.aload_n M_373 rfl rfl ?_
  refine AT.iload_n M_373 rfl rfl ?_
  refine AT.cv2h M_373 rfl M_152 rfl (Nat.le_of_ble_eq_true rfl) (xKd.of (Or.inr (Or.inr (Or.inl ⟨rfl, rfl, rfl⟩)))) (by decide) h rfl rfl rfl rfl ?_ (Nat.le_of_ble_eq_true rfl) rfl
  refine AT.iconst M_373 rfl (v := 1) (by decide) ?_
  refine AT.iret M_373 rfl rfl ?_
  exact ⟨rfl, rfl⟩
theorem w_374 {X : XS} {p0 : Int32} {v : Int32} {P : XS → Prop} (h : RU 153 [some (.ref 1), some (.int p0)] X (some (.int v)) P) : RU 374 [some (.ref 1), some (.int p0), some (.ref 511), none] X (some (.int 0)) (fun Z => ∃ Y, P Y ∧ Z = xSetO Y v.toInt64) := by
  refine AT.aload_n M_374 rfl rfl ?_
  refine AT.iconst M_374 rfl (v := 0) (by decide) ?_
  refine AT.aload_n M_374 rfl rfl ?_
  refine AT.iload_n M_374 rfl rfl ?_
  refine AT.cv2u M_374 rfl M_153 rfl (Nat.le_of_ble_eq_true rfl) (xKd.of (Or.inr (Or.inr (Or.inl ⟨rfl, rfl, rfl⟩)))) (by decide) h (fun Y hc4 => ?_) (Nat.le_of_ble_eq_true rfl) rfl
  have r1 := hc4
  refine AT.i2l M_374 rfl ?_
  refine AT.w511 M_374 rfl rfl ?_
  refine AT.goto M_374 rfl ?_
  refine AT.iconst M_374 rfl (v := 0) (by decide) ?_
  refine AT.iret M_374 rfl rfl ?_
  exact ⟨rfl, Y, r1, rfl⟩
theorem w_374x2 {X Y : XS} {p0 : Int32} (h : RX 153 [some (.ref 1), some (.int p0)] X 2 Y) : RT 374 [some (.ref 1), some (.int p0), some (.ref 511), none] X (some (.int 1)) Y := by
  refine AT.aload_n M_374 rfl rfl ?_
  refine AT.iconst M_374 rfl (v := 0) (by decide) ?_
  refine AT.aload_n M_374 rfl rfl ?_
  refine AT.iload_n M_374 rfl rfl ?_
  refine AT.cv2h M_374 rfl M_153 rfl (Nat.le_of_ble_eq_true rfl) (xKd.of (Or.inr (Or.inr (Or.inl ⟨rfl, rfl, rfl⟩)))) (by decide) h rfl rfl rfl rfl ?_ (Nat.le_of_ble_eq_true rfl) rfl
  refine AT.iconst M_374 rfl (v := 1) (by decide) ?_
  refine AT.iret M_374 rfl rfl ?_
  exact ⟨rfl, rfl⟩
theorem w_375 {X : XS} {p0 : Int32} {v : Int32} {P : XS → Prop} (h : RU 155 [some (.ref 1), some (.int p0)] X (some (.int v)) P) : RU 375 [some (.ref 1), some (.int p0), some (.ref 511), none] X (some (.int 0)) (fun Z => ∃ Y, P Y ∧ Z = xSetO Y v.toInt64) := by
  refine AT.aload_n M_375 rfl rfl ?_
  refine AT.iconst M_375 rfl (v := 0) (by decide) ?_
  refine AT.aload_n M_375 rfl rfl ?_
  refine AT.iload_n M_375 rfl rfl ?_
  refine AT.cv2u M_375 rfl M_155 rfl (Nat.le_of_ble_eq_true rfl) (xKd.of (Or.inr (Or.inr (Or.inl ⟨rfl, rfl, rfl⟩)))) (by decide) h (fun Y hc4 => ?_) (Nat.le_of_ble_eq_true rfl) rfl
  have r1 := hc4
  refine AT.i2l M_375 rfl ?_
  refine AT.w511 M_375 rfl rfl ?_
  refine AT.goto M_375 rfl ?_
  refine AT.iconst M_375 rfl (v := 0) (by decide) ?_
  refine AT.iret M_375 rfl rfl ?_
  exact ⟨rfl, Y, r1, rfl⟩
theorem w_375x2 {X Y : XS} {p0 : Int32} (h : RX 155 [some (.ref 1), some (.int p0)] X 2 Y) : RT 375 [some (.ref 1), some (.int p0), some (.ref 511), none] X (some (.int 1)) Y := by
  refine AT.aload_n M_375 rfl rfl ?_
  refine AT.iconst M_375 rfl (v := 0) (by decide) ?_
  refine AT.aload_n M_375 rfl rfl ?_
  refine AT.iload_n M_375 rfl rfl ?_
  refine AT.cv2h M_375 rfl M_155 rfl (Nat.le_of_ble_eq_true rfl) (xKd.of (Or.inr (Or.inr (Or.inl ⟨rfl, rfl, rfl⟩)))) (by decide) h rfl rfl rfl rfl ?_ (Nat.le_of_ble_eq_true rfl) rfl
  refine AT.iconst M_375 rfl (v := 1) (by decide) ?_
  refine AT.iret M_375 rfl rfl ?_
  exact ⟨rfl, rfl⟩
theorem w_376 {X : XS} {p0 : Int32} {v : Int32} {P : XS → Prop} (h : RU 157 [some (.ref 1), some (.int p0), none, none] X (some (.int v)) P) : RU 376 [some (.ref 1), some (.int p0), some (.ref 511), none] X (some (.int 0)) (fun Z => ∃ Y, P Y ∧ Z = xSetO Y v.toInt64) := by
  refine AT.aload_n M_376 rfl rfl ?_
  refine AT.iconst M_376 rfl (v := 0) (by decide) ?_
  refine AT.aload_n M_376 rfl rfl ?_
  refine AT.iload_n M_376 rfl rfl ?_
  refine AT.cv2u M_376 rfl M_157 rfl (Nat.le_of_ble_eq_true rfl) (xKd.of (Or.inr (Or.inr (Or.inl ⟨rfl, rfl, rfl⟩)))) (by decide) h (fun Y hc4 => ?_) (Nat.le_of_ble_eq_true rfl) rfl
  have r1 := hc4
  refine AT.i2l M_376 rfl ?_
  refine AT.w511 M_376 rfl rfl ?_
  refine AT.goto M_376 rfl ?_
  refine AT.iconst M_376 rfl (v := 0) (by decide) ?_
  refine AT.iret M_376 rfl rfl ?_
  exact ⟨rfl, Y, r1, rfl⟩
theorem w_376x2 {X Y : XS} {p0 : Int32} (h : RX 157 [some (.ref 1), some (.int p0), none, none] X 2 Y) : RT 376 [some (.ref 1), some (.int p0), some (.ref 511), none] X (some (.int 1)) Y := by
  refine AT.aload_n M_376 rfl rfl ?_
  refine AT.iconst M_376 rfl (v := 0) (by decide) ?_
  refine AT.aload_n M_376 rfl rfl ?_
  refine AT.iload_n M_376 rfl rfl ?_
  refine AT.cv2h M_376 rfl M_157 rfl (Nat.le_of_ble_eq_true rfl) (xKd.of (Or.inr (Or.inr (Or.inl ⟨rfl, rfl, rfl⟩)))) (by decide) h rfl rfl rfl rfl ?_ (Nat.le_of_ble_eq_true rfl) rfl
  refine AT.iconst M_376 rfl (v := 1) (by decide) ?_
  refine AT.iret M_376 rfl rfl ?_
  exact ⟨rfl, rfl⟩
theorem w_377 {X : XS} {p0 : Int32} {v : Int32} {P : XS → Prop} (h : RU 158 [some (.ref 1), some (.int p0)] X (some (.int v)) P) : RU 377 [some (.ref 1), some (.int p0), some (.ref 511), none] X (some (.int 0)) (fun Z => ∃ Y, P Y ∧ Z = xSetO Y v.toInt64) := by
  refine AT.aload_n M_377 rfl rfl ?_
  refine AT.iconst M_377 rfl (v := 0) (by decide) ?_
  refine AT.aload_n M_377 rfl rfl ?_
  refine AT.iload_n M_377 rfl rfl ?_
  refine AT.cv2u M_377 rfl M_158 rfl (Nat.le_of_ble_eq_true rfl) (xKd.of (Or.inr (Or.inr (Or.inl ⟨rfl, rfl, rfl⟩)))) (by decide) h (fun Y hc4 => ?_) (Nat.le_of_ble_eq_true rfl) rfl
  have r1 := hc4
  refine AT.i2l M_377 rfl ?_
  refine AT.w511 M_377 rfl rfl ?_
  refine AT.goto M_377 rfl ?_
  refine AT.iconst M_377 rfl (v := 0) (by decide) ?_
  refine AT.iret M_377 rfl rfl ?_
  exact ⟨rfl, Y, r1, rfl⟩
theorem w_377x2 {X Y : XS} {p0 : Int32} (h : RX 158 [some (.ref 1), some (.int p0)] X 2 Y) : RT 377 [some (.ref 1), some (.int p0), some (.ref 511), none] X (some (.int 1)) Y := by
  refine AT.aload_n M_377 rfl rfl ?_
  refine AT.iconst M_377 rfl (v := 0) (by decide) ?_
  refine AT.aload_n M_377 rfl rfl ?_
  refine AT.iload_n M_377 rfl rfl ?_
  refine AT.cv2h M_377 rfl M_158 rfl (Nat.le_of_ble_eq_true rfl) (xKd.of (Or.inr (Or.inr (Or.inl ⟨rfl, rfl, rfl⟩)))) (by decide) h rfl rfl rfl rfl ?_ (Nat.le_of_ble_eq_true rfl) rfl
  refine AT.iconst M_377 rfl (v := 1) (by decide) ?_
  refine AT.iret M_377 rfl rfl ?_
  exact ⟨rfl, rfl⟩
theorem w_377x1 {X Y : XS} {p0 : Int32} (h : RX 158 [some (.ref 1), some (.int p0)] X 1 Y) : RT 377 [some (.ref 1), some (.int p0), some (.ref 511), none] X (some (.int 2)) Y := by
  refine AT.aload_n M_377 rfl rfl ?_
  refine AT.iconst M_377 rfl (v := 0) (by decide) ?_
  refine AT.aload_n M_377 rfl rfl ?_
  refine AT.iload_n M_377 rfl rfl ?_
  refine AT.cv2h M_377 rfl M_158 rfl (Nat.le_of_ble_eq_true rfl) (xKd.of (Or.inr (Or.inr (Or.inl ⟨rfl, rfl, rfl⟩)))) (by decide) h rfl rfl rfl rfl ?_ (Nat.le_of_ble_eq_true rfl) rfl
  refine AT.iconst M_377 rfl (v := 2) (by decide) ?_
  refine AT.iret M_377 rfl rfl ?_
  exact ⟨rfl, rfl⟩
