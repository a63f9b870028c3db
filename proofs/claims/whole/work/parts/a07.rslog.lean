/-! ===== THE REFERENCE: the log is sent ===== -/
theorem AT.cv3i8 {m i pc ln r1 r2 r3 : Nat} {ls : PV} {st : List Value} {X : XS} {Q : PO → XS → Prop} {M : PMet} {n : Nat} {a0 : Nat} {a1 a2 : Value} {en : PV} {Mc : PMet} {x : Value} {Y : XS} (hM : qPT m = M) (hr : M.1[i]? = some (pc, .invokevirtual n, ln, r1, r2, r3)) (hMc : qPT (r1 - 10) = Mc) (hn : Mc.2.2.1 = 3) (hs : (st.map fun v => v.category).sum ≤ 8) (hx : xKd X a0 Mc.2.2.2.2.2) (ho : Mc.2.2.2.2.2 < 12) (hc : RT (r1 - 10) en X (some x) Y) (k : AT m (i + 1) ls (x :: st) Y Q) (he : (pEnt [.ref a0, a1, a2]).length ≤ Mc.2.1) (hen : pEntry Mc.2.1 [.ref a0, a1, a2] = en) : AT m i ls (a2 :: a1 :: .ref a0 :: st) X Q := AT.call hM hr rfl hMc (by rw [hn]; unfold pPop; rw [if_pos (by simp)]; rfl) (Or.inr hs) he (pRv_v hx ho) (by rw [hen]; refine AT.mono hc ?_; rintro o Z ⟨rfl, rfl⟩; exact k)
/-- from X a message with a given row was sent -/
def sPend (n o : Nat) (X : XS) (r : Nat → Int32) (Y : XS) : Prop := rRel0 o n 0 0 X Y (kNet (xK X o) ((xK X o).2.2 ++ [uRow r])) ∧ rSm o X Y ∧ (xK X o).2.2.length < 60 ∧ rowOk r
theorem sPend.len {n o : Nat} {X Y : XS} {r : Nat → Int32} (h : sPend n o X r Y) : (xK Y o).2.2.length = (xK X o).2.2.length + 1 := by
  rw [h.1.k]
  show ((xK X o).2.2 ++ [uRow r]).length = _
  rw [List.length_append, List.length_singleton]
theorem sPend.fin {n o : Nat} {X Y : XS} {r : Nat → Int32} (h : sPend n o X r Y) (w : Nat → Int32) (l' : List MSG) : rRel0 o n 0 0 X (xSetK (xSetD Y (dRowV (xD Y) o 41 0 w)) o (kNet (xK Y o) l')) (kNet (xK X o) l') ∧ rSm o X (xSetK (xSetD Y (dRowV (xD Y) o 41 0 w)) o (kNet (xK Y o) l')) := by
  have h1 := (h.1.row 41 0 w).net (kNet (xK Y o) l')
  rw [show kNet (xK Y o) l' = kNet (xK X o) l' from by rw [h.1.k]; rfl] at h1 ⊢
  exact ⟨h1, h.2.1.row (Or.inl rfl)⟩
theorem sPend.at {n o : Nat} {X Y : XS} {r : Nat → Int32} (h : sPend n o X r Y) (hpo : rPo Y) (h2 : 2 ≤ o) (h4 : o < 4) {k : Nat} (hk : k < 36) : dV (xD Y) o 41 0 (36 * (xK X o).2.2.length + k) = r k := by
  refine (hpo o h2 h4 _ (uRow r) ?_ k hk).trans (uRow_row h.2.2.2 hk)
  rw [h.1.k]
  show ((xK X o).2.2 ++ [uRow r])[(xK X o).2.2.length]? = _
  rw [List.getElem?_append_right (Nat.le_refl _), Nat.sub_self]; rfl
theorem sPend.row {n o : Nat} {X Y : XS} {r w : Nat → Int32} {u : MSG} (h : sPend n o X r Y) (hpo : rPo Y) (h2 : 2 ≤ o) (h4 : o < 4) (hw : ∀ q, q < 36 * (xK X o).2.2.length → w q = dV (xD Y) o 41 0 q)
    (hu : ∀ k, k < 36 → w (36 * (xK X o).2.2.length + k) = mRow u k) (j' : Nat) (u' : MSG) (hu' : ((xK X o).2.2 ++ [u])[j']? = some u') (k : Nat) (hk : k < 36) : w (36 * j' + k) = mRow u' k := by
  rcases Nat.lt_or_ge j' (xK X o).2.2.length with z | z
  · rw [hw _ (by omega)]
    refine hpo o h2 h4 j' u' ?_ k hk
    rw [h.1.k]
    rw [List.getElem?_append_left z] at hu'
    show ((xK X o).2.2 ++ [uRow r])[j']? = _
    rw [List.getElem?_append_left z]
    exact hu'
  · have hj : j' = (xK X o).2.2.length := by
      have := (List.getElem?_eq_some_iff.mp hu').1
      rw [List.length_append, List.length_singleton] at this
      omega
    subst hj
    rw [List.getElem?_append_right (Nat.le_refl _), Nat.sub_self] at hu'
    have hu2 : u = u' := Option.some.inj hu'
    subst hu2
    exact hu k hk
/-- a number more in its row -/
theorem AT.rs_last {m i pc ln r1 r2 r3 : Nat} {ls : PV} {st : List Value} {X Y : XS} {Q : PO → XS → Prop} {M : PMet} {n o c : Nat} {y v : Int32} {r : Nat → Int32} (hM : qPT m = M) (hr : M.1[i]? = some (pc, .iastore, ln, r1, r2, r3)) (hp : sPend n o X r Y) (hy : y = Int32.ofNat (36 * (xK X o).2.2.length + c)) (h2 : 2 ≤ o) (h4 : o < 4) (hc : c < 36)
    (hok : rowOk (fun q => if q = c then v else r q)) (k : ∀ Z, sPend n o X (fun q => if q = c then v else r q) Z → AT m (i + 1) ls st Z Q) : AT m i ls (.int v :: .int y :: .ref (bB o + 56) :: st) Y Q := by
  refine AT.rep (fun hr9 => ?_)
  have hpo := hr9.choose_spec.2.2.2.2.2.2.2.2.2.2.2.2.2.1
  have hl := hp.len
  have h6 := hp.2.2.1
  refine AT.rs_pl (l' := (xK X o).2.2 ++ [uRow (fun q => if q = c then v else r q)]) hM hr hy h2 h4 (by omega) (by rw [hl, List.length_append, List.length_singleton]) (fun j' u' hu' q hq => ?_) (k _ ?_)
  · refine hp.row (u := uRow (fun q => if q = c then v else r q)) (w := fun q => if q = 36 * (xK X o).2.2.length + c then v else dV (xD Y) o 41 0 q) hpo h2 h4 (fun q hq => if_neg (by omega)) (fun q hq => ?_) j' u' hu' q hq
    rw [uRow_row hok hq]
    show (if _ then v else _) = if _ then v else _
    by_cases e : q = c
    · rw [if_pos e, if_pos (by rw [e])]
    · rw [if_neg e, if_neg (by omega)]; exact hp.at hpo h2 h4 hq
  · have h9 := hp.fin (fun q => if q = 36 * (xK X o).2.2.length + c then v else dV (xD Y) o 41 0 q) ((xK X o).2.2 ++ [uRow (fun q => if q = c then v else r q)])
    exact ⟨h9.1, h9.2, h6, hok⟩
theorem mLog_snp {K : KK} {s q : Nat} (h : ¬ K.1 18 s 0 < K.1 2 s q) {k : Nat} (hk : k < 36) : mRow (mLog K s q) k = vPut (fun c => if c = 6 then K.1 18 s 2 else rw6 7 (Int32.ofNat s) (Int32.ofNat q) (K.1 5 s 0) (K.1 18 s 0) (K.1 18 s 1) c) 8 16 (fun c => K.1 18 s (3 + c)) k := by
  unfold mLog
  rw [if_neg h]
  unfold vPut rw6 mRow
  rcases (by omega : k = 0 ∨ k = 1 ∨ k = 2 ∨ k = 3 ∨ k = 4 ∨ k = 5 ∨ k = 6 ∨ k = 7 ∨ 8 ≤ k) with rfl | rfl | rfl | rfl | rfl | rfl | rfl | rfl | z
  · rfl
  · rfl
  · rfl
  · rfl
  · rfl
  · rfl
  · rfl
  · rfl
  · have e1 : (mSet (mNew0 7 (Int32.ofNat s) (Int32.ofNat q) (K.1 5 s 0)) 6 (K.1 18 s 0)).1 1 = 7 := rfl
    dsimp only
    rw [if_neg (by omega), if_neg (by omega), if_neg (by omega), if_neg (by omega), if_neg (by omega), if_pos e1]
    by_cases e : k < 24
    · rw [if_pos e, if_pos (by omega)]
      show K.1 18 s (k - 5) = K.1 18 s (3 + (k - 8))
      rw [show 3 + (k - 8) = k - 5 by omega]
    · rw [if_neg e, if_neg (by omega), if_neg (by omega), if_neg (by omega), if_neg (by omega), if_neg (by omega), if_neg (by omega), if_neg (by omega), if_neg (by omega)]
theorem mLog_ent {K : KK} {s q a j : Nat} {w : Nat → Int32} (h : K.1 18 s 0 < K.1 2 s q) (ha : K.1 18 s 0 = Int32.ofNat a) (hl : a + (K.2.1 s).length < 16777216) (hx : K.1 2 s q = Int32.ofNat (a + 1 + j)) (hj : j ≤ (K.2.1 s).length)
    (hw : ∀ i e, (K.2.1 s)[i]? = some e → ∀ c, c < 7 → w (7 * i + c) = e c) {k : Nat} (hk : k < 36) : mRow (mLog K s q) k = vPut (fun c => if c = 7 then Int32.ofNat (min 4 ((K.2.1 s).length - j)) else if c = 6 then K.1 15 s 0 else rw6 5 (Int32.ofNat s) (Int32.ofNat q) (K.1 5 s 0) (K.1 2 s q - 1) (sTix K s (K.1 2 s q - 1)) c) 8 (7 * min 4 ((K.2.1 s).length - j)) (fun c => w (7 * j + c)) k := by
  have hE : (eFrom K s (K.1 2 s q)).length = min 4 ((K.2.1 s).length - j) := by
    unfold eFrom
    rw [hx, ha, List.length_take, List.length_drop]
    rw [show (Int32.ofNat (a + 1 + j) - Int32.ofNat a - 1).toNatClampNeg = j from by
      rw [Int32.ofNat_add, Int32.ofNat_add, show (Int32.ofNat a + Int32.ofNat 1 + Int32.ofNat j - Int32.ofNat a - 1 : Int32) = Int32.ofNat j from i32_sub3 _ _]
      exact (i32_ix (by omega)).1]
  unfold mLog
  rw [if_pos h]
  unfold vPut rw6 mRow
  rcases (by omega : k = 0 ∨ k = 1 ∨ k = 2 ∨ k = 3 ∨ k = 4 ∨ k = 5 ∨ k = 6 ∨ k = 7 ∨ 8 ≤ k) with rfl | rfl | rfl | rfl | rfl | rfl | rfl | rfl | z
  · rfl
  · rfl
  · rfl
  · rfl
  · rfl
  · rfl
  · rfl
  · show (mEnts K s q _).1 9 = _
    rw [mEnts_9, hE]; rfl
  · rw [if_neg (by omega), if_neg (by omega), if_neg (by omega), if_neg (by omega), if_neg (by omega), if_neg (show ¬ (mEnts K s q _).1 1 = 7 by show ¬ (5 : Int32) = 7; decide)]
    show (((eFrom K s (K.1 2 s q)).take _).getD ((k - 8) / 7) (fun _ => 0)) ((k - 8) % 7) = _
    rw [List.take_length]
    by_cases e : k < 8 + 7 * min 4 ((K.2.1 s).length - j)
    · rw [if_pos ⟨z, e⟩]
      have h1 := (eFrom_ix ha hl hj ((k - 8) / 7) (by omega)).1
      rw [← hx, List.getElem?_eq_getElem (by omega : j + (k - 8) / 7 < (K.2.1 s).length)] at h1
      rw [List.getD_eq_getElem?_getD, h1]
      have h3 := hw (j + (k - 8) / 7) _ (List.getElem?_eq_getElem (by omega)) ((k - 8) % 7) (by omega)
      show _ = w (7 * j + (k - 8))
      rw [show 7 * j + (k - 8) = 7 * (j + (k - 8) / 7) + (k - 8) % 7 by omega, h3]
      rfl
    · rw [if_neg (fun y => e y.2)]
      dsimp only
      rw [if_neg (by omega), if_neg (by omega), if_neg (by omega), if_neg (by omega), if_neg (by omega), if_neg (by omega), if_neg (by omega), if_neg (by omega)]
      rw [List.getD_eq_getElem?_getD, List.getElem?_eq_none (by omega)]
      rfl
theorem i32_min4 {n : Nat} (h : n < 2147483648) : (if Int32.ofNat n < (4 : Int32) then Int32.ofNat n else 4) = Int32.ofNat (min 4 n) := by
  have : Int32.ofNat n < (4 : Int32) ↔ n < 4 := i32_lt (a := n) (b := 4) h (by omega)
  by_cases e : n < 4
  · rw [if_pos (this.mpr e), Nat.min_eq_right (by omega)]
  · rw [if_neg (fun z => e (this.mp z)), Nat.min_eq_left (by omega)]; rfl
theorem i32_plc {a j : Nat} : (Int32.ofNat (a + 1 + j) - 1 + 1 - Int32.ofNat a - 1) * 7 = Int32.ofNat (7 * j) := by
  rw [Int32.ofNat_add, Int32.ofNat_add, show (Int32.ofNat a + Int32.ofNat 1 + Int32.ofNat j - 1 + 1 - Int32.ofNat a - 1 : Int32) = Int32.ofNat j from (by grind : ∀ u v : Int32, u + 1 + v - 1 + 1 - u - 1 = v) _ _, Nat.mul_comm, Int32.ofNat_mul]
  rfl
theorem c_201 {X : XS} {o s q n : Nat} (h2 : 2 ≤ o) (h4 : o < 4) (hs : s < 7) (hq : q < 7) (hw : kWf (xK X o) s) (hnx : kNx (xK X o) s q) : RU 201 [some (.ref (bB o)), some (.int (Int32.ofNat s)), some (.int (Int32.ofNat q)), none, none, none] X none (fun Y => rRel0 o n 0 0 X Y (kSend (xK X o) (mLog (xK X o) s q)) ∧ rSm o X Y) := by
  by_cases hg : (xK X o).1 18 s 0 < (xK X o).1 2 s q
  · obtain ⟨a, j, ha, hx, hj, hl⟩ := hnx hg
    have hin : (xK X o).1 2 s q - 1 = (xK X o).1 18 s 0 ∨ ∃ e, sEnt (xK X o) s ((xK X o).1 2 s q - 1) = some e := by
      rw [hx]
      cases j with
      | zero => left; rw [ha]; exact i32_sc a
      | succ j =>
        right
        rw [show a + 1 + (j + 1) = a + 1 + j + 1 by omega, i32_sc, sEnt_at ha hl (by omega)]
        exact ⟨_, List.getElem?_eq_getElem (by omega)⟩
    have eD : ∀ Y : XS, xK Y o = xK X o → True := fun _ _ => trivial
    by_cases hn : (xK X o).2.2.length < 60
    · skip
      refine AT.aload_n M_201 rfl rfl ?_
      refine AT.r10_20 M_201 rfl h2 h4 ?_
      refine AT.iload_n M_201 rfl rfl ?_
      refine AT.rr_nxt M_201 rfl rfl h2 h4 (by assumption) ?_
      refine AT.iload_n M_201 rfl rfl ?_
      refine AT.ra_nxt M_201 rfl rfl h2 h4 (by assumption) (by assumption) ?_
      refine AT.aload_n M_201 rfl rfl ?_
      refine AT.r10_13 M_201 rfl h2 h4 ?_
      refine AT.iload_n M_201 rfl rfl ?_
      refine AT.ra_18_0 M_201 rfl rfl h2 h4 (by assumption) ?_
      refine AT.icmp_gt M_201 rfl (fun b10 => ?_) (fun b10 => absurd hg b10)
      refine AT.aload_n M_201 rfl rfl ?_
      refine AT.r10_20 M_201 rfl h2 h4 ?_
      refine AT.iload_n M_201 rfl rfl ?_
      refine AT.rr_nxt M_201 rfl rfl h2 h4 (by assumption) ?_
      refine AT.iload_n M_201 rfl rfl ?_
      refine AT.ra_nxt M_201 rfl rfl h2 h4 (by assumption) (by assumption) ?_
      refine AT.iconst M_201 rfl (v := 1) (by decide) ?_
      refine AT.isub M_201 rfl rfl ?_
      refine AT.ist3 M_201 rfl rfl ?_
      refine AT.aload_n M_201 rfl rfl ?_
      refine AT.iconst M_201 rfl (v := 5) (by decide) ?_
      refine AT.iload_n M_201 rfl rfl ?_
      refine AT.iload_n M_201 rfl rfl ?_
      refine AT.aload_n M_201 rfl rfl ?_
      refine AT.r10_3 M_201 rfl h2 h4 ?_
      refine AT.iload_n M_201 rfl rfl ?_
      refine AT.ra_5 M_201 rfl rfl h2 h4 (by assumption) ?_
      refine AT.iload_n M_201 rfl rfl ?_
      refine AT.aload_n M_201 rfl rfl ?_
      refine AT.iload_n M_201 rfl rfl ?_
      refine AT.iload_n M_201 rfl rfl ?_
      refine AT.cv3i8 M_201 rfl M_191 rfl (show (6 : Nat) ≤ 8 by omega) (xKd.of (sh_st h2 h4)) (by decide) (c_191 h2 h4 hs hw hin) ?_ (Nat.le_of_ble_eq_true rfl) rfl
      refine AT.cv7u M_201 rfl M_200 rfl (Nat.le_of_ble_eq_true rfl) (xKd.of (sh_st h2 h4)) (by decide) (c_200 (n := n) h2 h4 (fun k hk => uRow_row (r := (rw6 5 (Int32.ofNat s) (Int32.ofNat q) ((xK X o).1 5 s 0) ((xK X o).1 2 s q - 1) (sTix (xK X o) s ((xK X o).1 2 s q - 1)))) (Or.inl rfl) hk)) (fun Y hc78 => ?_) (Nat.le_of_ble_eq_true rfl) rfl
      obtain ⟨r1, k1⟩ := hc78
      rw [if_pos hn]
      rw [show kSend (xK X o) (uRow (rw6 5 (Int32.ofNat s) (Int32.ofNat q) ((xK X o).1 5 s 0) ((xK X o).1 2 s q - 1) (sTix (xK X o) s ((xK X o).1 2 s q - 1)))) = kNet (xK X o) ((xK X o).2.2 ++ [uRow (rw6 5 (Int32.ofNat s) (Int32.ofNat q) ((xK X o).1 5 s 0) ((xK X o).1 2 s q - 1) (sTix (xK X o) s ((xK X o).1 2 s q - 1)))]) from if_pos hn] at r1
      have hp : sPend n o X (rw6 5 (Int32.ofNat s) (Int32.ofNat q) ((xK X o).1 5 s 0) ((xK X o).1 2 s q - 1) (sTix (xK X o) s ((xK X o).1 2 s q - 1))) Y := ⟨r1, k1, hn, Or.inl rfl⟩
      refine AT.ist4 M_201 rfl rfl ?_
      refine AT.iload M_201 rfl rfl ?_
      refine AT.iconst M_201 rfl (v := (-1)) (by decide) ?_
      refine AT.icmp_ne M_201 rfl (fun b82 => ?_) (fun b82 => absurd (Classical.not_not.mp b82) (i32_m1 (by omega)))
      refine AT.iconst M_201 rfl (v := 4) (by decide) ?_
      refine AT.aload_n M_201 rfl rfl ?_
      refine AT.iload_n M_201 rfl rfl ?_
      refine AT.cv2i M_201 rfl M_187 rfl (Nat.le_of_ble_eq_true rfl) (xKd.of (sh_st h2 h4)) (by decide) (c_187 h2 h4 hs) ?_ (Nat.le_of_ble_eq_true rfl) rfl
      refine AT.iload_n M_201 rfl rfl ?_
      refine AT.isub M_201 rfl rfl ?_
      rw [show sLast (xK Y o) s - ((xK X o).1 2 s q - 1) = Int32.ofNat (((xK X o).2.1 s).length - j) from by
        rw [hp.1.k]
        show sLast (xK X o) s - _ = _
        rw [sLast_of ha, hx, show a + 1 + j = a + j + 1 by omega, i32_sc, i32_sub0 (by omega)]
        congr 1; omega]
      refine AT.min M_201 rfl rfl (Nat.le_of_ble_eq_true rfl) (v := Int32.ofNat (min 4 (((xK X o).2.1 s).length - j))) (i32_min4 (by omega)) ?_
      refine AT.ist5 M_201 rfl rfl ?_
      refine AT.aload_n M_201 rfl rfl ?_
      refine AT.r10_23 M_201 rfl h2 h4 ?_
      refine AT.iload M_201 rfl rfl ?_
      refine AT.bipush M_201 rfl (v := 6) (by decide) ?_
      refine AT.iadd M_201 rfl rfl ?_
      refine AT.aload_n M_201 rfl rfl ?_
      refine AT.r10_8 M_201 rfl h2 h4 ?_
      refine AT.iload_n M_201 rfl rfl ?_
      refine AT.ra_15 M_201 rfl rfl h2 h4 (by assumption) ?_
      rw [show (xK Y o).1 15 s 0 = (xK X o).1 15 s 0 from by rw [hp.1.k]; rfl]
      refine AT.rs_last (c := 6) M_201 rfl hp (by rw [Int32.ofNat_add]; rfl) h2 h4 (by omega) (Or.inl rfl) (fun Y1 hp1 => ?_)
      refine AT.aload_n M_201 rfl rfl ?_
      refine AT.r10_23 M_201 rfl h2 h4 ?_
      refine AT.iload M_201 rfl rfl ?_
      refine AT.bipush M_201 rfl (v := 7) (by decide) ?_
      refine AT.iadd M_201 rfl rfl ?_
      refine AT.iload M_201 rfl rfl ?_
      refine AT.rs_last (c := 7) M_201 rfl hp1 (by rw [Int32.ofNat_add]; rfl) h2 h4 (by omega) (Or.inl rfl) (fun Y2 hp2 => ?_)
      refine AT.aload_n M_201 rfl rfl ?_
      refine AT.r10_19 M_201 rfl h2 h4 ?_
      refine AT.iload_n M_201 rfl rfl ?_
      refine AT.rr_log M_201 rfl rfl h2 h4 (by assumption) ?_
      refine AT.aload_n M_201 rfl rfl ?_
      refine AT.iload_n M_201 rfl rfl ?_
      refine AT.iload_n M_201 rfl rfl ?_
      refine AT.iconst M_201 rfl (v := 1) (by decide) ?_
      refine AT.iadd M_201 rfl rfl ?_
      refine AT.cv3i M_201 rfl M_189 rfl (Nat.le_of_ble_eq_true rfl) (xKd.of (sh_st h2 h4)) (by decide) (c_189 h2 h4 hs) ?_ (Nat.le_of_ble_eq_true rfl) rfl
      refine AT.aload_n M_201 rfl rfl ?_
      refine AT.r10_23 M_201 rfl h2 h4 ?_
      refine AT.iload M_201 rfl rfl ?_
      refine AT.bipush M_201 rfl (v := 8) (by decide) ?_
      refine AT.iadd M_201 rfl rfl ?_
      refine AT.iload M_201 rfl rfl ?_
      refine AT.bipush M_201 rfl (v := 7) (by decide) ?_
      refine AT.imul M_201 rfl rfl ?_
      refine AT.rep (fun hr2 => ?_)
      have hpo := hr2.choose_spec.2.2.2.2.2.2.2.2.2.2.2.2.2.1
      have hlr := hr2.choose_spec.2.2.2.2.2.2.2.2.1 o s h2 h4 hs
      have e21 : (xK Y2 o).2.1 s = (xK X o).2.1 s := by rw [hp2.1.k]; rfl
      rw [e21] at hlr
      have e18 : (xK Y2 o).1 18 s 0 = (xK X o).1 18 s 0 := by rw [hp2.1.k]; rfl
      have hl6 := hp.2.2.1
      refine AT.acp M_201 rfl rfl (Nat.le_of_ble_eq_true rfl) (n := 7 * min 4 (((xK X o).2.1 s).length - j)) (p := 7 * j) (q := 36 * (xK X o).2.2.length + 8) (by rw [Nat.mul_comm 7, Int32.ofNat_mul]; rfl) (by rw [e18, ha, hx]; exact i32_plc) (by rw [Int32.ofNat_add]; rfl) ⟨by omega, by omega, by omega⟩ (Or.inl rfl) (src.log h2 h4 hs (v := fun c => dV (xD Y2) o 42 s (7 * j + c)) (by omega) (fun c hc => rfl)) (dst.postL (l' := (xK X o).2.2 ++ [mLog (xK X o) s q]) h2 h4 (by omega) (by rw [hp2.len, List.length_append, List.length_singleton]) (fun j' u hu c hc => ?_)) ?_
      · refine hp2.row (u := mLog (xK X o) s q) (w := vPut (dV (xD Y2) o 41 0) (36 * (xK X o).2.2.length + 8) (7 * min 4 (((xK X o).2.1 s).length - j)) (fun c => dV (xD Y2) o 42 s (7 * j + c))) hpo h2 h4 (fun t ht => if_neg (by omega)) (fun t ht => ?_) j' u hu c hc
        rw [mLog_ent (w := dV (xD Y2) o 42 s) hg ha hl hx hj hlr.2.2.2.2.2.2 ht]
        unfold vPut
        by_cases e : 8 ≤ t ∧ t < 8 + 7 * min 4 (((xK X o).2.1 s).length - j)
        · rw [if_pos e, if_pos (by omega), show 36 * (xK X o).2.2.length + t - (36 * (xK X o).2.2.length + 8) = t - 8 by omega]
        · rw [if_neg e, if_neg (by omega)]; exact hp2.at hpo h2 h4 ht
      have hf := hp2.fin (vPut (dV (xD Y2) o 41 0) (36 * (xK X o).2.2.length + 8) (7 * min 4 (((xK X o).2.1 s).length - j)) (fun c => dV (xD Y2) o 42 s (7 * j + c))) ((xK X o).2.2 ++ [mLog (xK X o) s q])
      refine AT.vret M_201 rfl rfl ?_
      rw [show kSend (xK X o) (mLog (xK X o) s q) = kNet (xK X o) ((xK X o).2.2 ++ [mLog (xK X o) s q]) from if_pos hn]
      exact ⟨rfl, hf⟩
    · skip
      refine AT.aload_n M_201 rfl rfl ?_
      refine AT.r10_20 M_201 rfl h2 h4 ?_
      refine AT.iload_n M_201 rfl rfl ?_
      refine AT.rr_nxt M_201 rfl rfl h2 h4 (by assumption) ?_
      refine AT.iload_n M_201 rfl rfl ?_
      refine AT.ra_nxt M_201 rfl rfl h2 h4 (by assumption) (by assumption) ?_
      refine AT.aload_n M_201 rfl rfl ?_
      refine AT.r10_13 M_201 rfl h2 h4 ?_
      refine AT.iload_n M_201 rfl rfl ?_
      refine AT.ra_18_0 M_201 rfl rfl h2 h4 (by assumption) ?_
      refine AT.icmp_gt M_201 rfl (fun b10 => ?_) (fun b10 => absurd hg b10)
      refine AT.aload_n M_201 rfl rfl ?_
      refine AT.r10_20 M_201 rfl h2 h4 ?_
      refine AT.iload_n M_201 rfl rfl ?_
      refine AT.rr_nxt M_201 rfl rfl h2 h4 (by assumption) ?_
      refine AT.iload_n M_201 rfl rfl ?_
      refine AT.ra_nxt M_201 rfl rfl h2 h4 (by assumption) (by assumption) ?_
      refine AT.iconst M_201 rfl (v := 1) (by decide) ?_
      refine AT.isub M_201 rfl rfl ?_
      refine AT.ist3 M_201 rfl rfl ?_
      refine AT.aload_n M_201 rfl rfl ?_
      refine AT.iconst M_201 rfl (v := 5) (by decide) ?_
      refine AT.iload_n M_201 rfl rfl ?_
      refine AT.iload_n M_201 rfl rfl ?_
      refine AT.aload_n M_201 rfl rfl ?_
      refine AT.r10_3 M_201 rfl h2 h4 ?_
      refine AT.iload_n M_201 rfl rfl ?_
      refine AT.ra_5 M_201 rfl rfl h2 h4 (by assumption) ?_
      refine AT.iload_n M_201 rfl rfl ?_
      refine AT.aload_n M_201 rfl rfl ?_
      refine AT.iload_n M_201 rfl rfl ?_
      refine AT.iload_n M_201 rfl rfl ?_
      refine AT.cv3i8 M_201 rfl M_191 rfl (show (6 : Nat) ≤ 8 by omega) (xKd.of (sh_st h2 h4)) (by decide) (c_191 h2 h4 hs hw hin) ?_ (Nat.le_of_ble_eq_true rfl) rfl
      refine AT.cv7u M_201 rfl M_200 rfl (Nat.le_of_ble_eq_true rfl) (xKd.of (sh_st h2 h4)) (by decide) (c_200 (n := n) h2 h4 (fun k hk => uRow_row (r := (rw6 5 (Int32.ofNat s) (Int32.ofNat q) ((xK X o).1 5 s 0) ((xK X o).1 2 s q - 1) (sTix (xK X o) s ((xK X o).1 2 s q - 1)))) (Or.inl rfl) hk)) (fun Y hc78 => ?_) (Nat.le_of_ble_eq_true rfl) rfl
      obtain ⟨r1, k1⟩ := hc78
      rw [if_neg hn]
      refine AT.ist4 M_201 rfl rfl ?_
      refine AT.iload M_201 rfl rfl ?_
      refine AT.iconst M_201 rfl (v := (-1)) (by decide) ?_
      refine AT.icmp_ne M_201 rfl (fun b82 => absurd rfl b82) (fun b82 => ?_)
      refine AT.vret M_201 rfl rfl ?_
      rw [show kSend (xK X o) (uRow (rw6 5 (Int32.ofNat s) (Int32.ofNat q) ((xK X o).1 5 s 0) ((xK X o).1 2 s q - 1) (sTix (xK X o) s ((xK X o).1 2 s q - 1)))) = kSend (xK X o) (mLog (xK X o) s q) from (if_neg hn).trans (if_neg hn).symm] at r1
      exact ⟨rfl, r1, k1⟩
  · by_cases hn : (xK X o).2.2.length < 60
    · skip
      refine AT.aload_n M_201 rfl rfl ?_
      refine AT.r10_20 M_201 rfl h2 h4 ?_
      refine AT.iload_n M_201 rfl rfl ?_
      refine AT.rr_nxt M_201 rfl rfl h2 h4 (by assumption) ?_
      refine AT.iload_n M_201 rfl rfl ?_
      refine AT.ra_nxt M_201 rfl rfl h2 h4 (by assumption) (by assumption) ?_
      refine AT.aload_n M_201 rfl rfl ?_
      refine AT.r10_13 M_201 rfl h2 h4 ?_
      refine AT.iload_n M_201 rfl rfl ?_
      refine AT.ra_18_0 M_201 rfl rfl h2 h4 (by assumption) ?_
      refine AT.icmp_gt M_201 rfl (fun b10 => absurd b10 hg) (fun b10 => ?_)
      refine AT.aload_n M_201 rfl rfl ?_
      refine AT.bipush M_201 rfl (v := 7) (by decide) ?_
      refine AT.iload_n M_201 rfl rfl ?_
      refine AT.iload_n M_201 rfl rfl ?_
      refine AT.aload_n M_201 rfl rfl ?_
      refine AT.r10_3 M_201 rfl h2 h4 ?_
      refine AT.iload_n M_201 rfl rfl ?_
      refine AT.ra_5 M_201 rfl rfl h2 h4 (by assumption) ?_
      refine AT.aload_n M_201 rfl rfl ?_
      refine AT.r10_13 M_201 rfl h2 h4 ?_
      refine AT.iload_n M_201 rfl rfl ?_
      refine AT.ra_18_0 M_201 rfl rfl h2 h4 (by assumption) ?_
      refine AT.aload_n M_201 rfl rfl ?_
      refine AT.r10_14 M_201 rfl h2 h4 ?_
      refine AT.iload_n M_201 rfl rfl ?_
      refine AT.ra_18_1 M_201 rfl rfl h2 h4 (by assumption) ?_
      refine AT.cv7u M_201 rfl M_200 rfl (Nat.le_of_ble_eq_true rfl) (xKd.of (sh_st h2 h4)) (by decide) (c_200 (n := n) h2 h4 (fun k hk => uRow_row (r := (rw6 7 (Int32.ofNat s) (Int32.ofNat q) ((xK X o).1 5 s 0) ((xK X o).1 18 s 0) ((xK X o).1 18 s 1))) (Or.inr ⟨rfl, fun k h1 h2 => by unfold rw6; rw [if_neg (by omega), if_neg (by omega), if_neg (by omega), if_neg (by omega), if_neg (by omega), if_neg (by omega)]⟩) hk)) (fun Y hc27 => ?_) (Nat.le_of_ble_eq_true rfl) rfl
      obtain ⟨r1, k1⟩ := hc27
      rw [if_pos hn]
      rw [show kSend (xK X o) (uRow (rw6 7 (Int32.ofNat s) (Int32.ofNat q) ((xK X o).1 5 s 0) ((xK X o).1 18 s 0) ((xK X o).1 18 s 1))) = kNet (xK X o) ((xK X o).2.2 ++ [uRow (rw6 7 (Int32.ofNat s) (Int32.ofNat q) ((xK X o).1 5 s 0) ((xK X o).1 18 s 0) ((xK X o).1 18 s 1))]) from if_pos hn] at r1
      have hp : sPend n o X (rw6 7 (Int32.ofNat s) (Int32.ofNat q) ((xK X o).1 5 s 0) ((xK X o).1 18 s 0) ((xK X o).1 18 s 1)) Y := ⟨r1, k1, hn, Or.inr ⟨rfl, fun k h1 h2 => by unfold rw6; rw [if_neg (by omega), if_neg (by omega), if_neg (by omega), if_neg (by omega), if_neg (by omega), if_neg (by omega)]⟩⟩
      refine AT.ist3 M_201 rfl rfl ?_
      refine AT.iload_n M_201 rfl rfl ?_
      refine AT.iconst M_201 rfl (v := (-1)) (by decide) ?_
      refine AT.icmp_ne M_201 rfl (fun b31 => ?_) (fun b31 => absurd (Classical.not_not.mp b31) (i32_m1 (by omega)))
      refine AT.aload_n M_201 rfl rfl ?_
      refine AT.r10_23 M_201 rfl h2 h4 ?_
      refine AT.iload_n M_201 rfl rfl ?_
      refine AT.bipush M_201 rfl (v := 6) (by decide) ?_
      refine AT.iadd M_201 rfl rfl ?_
      refine AT.aload_n M_201 rfl rfl ?_
      refine AT.r10_15 M_201 rfl h2 h4 ?_
      refine AT.iload_n M_201 rfl rfl ?_
      refine AT.ra_18_2 M_201 rfl rfl h2 h4 (by assumption) ?_
      rw [show (xK Y o).1 18 s 2 = (xK X o).1 18 s 2 from by rw [hp.1.k]; rfl]
      refine AT.rs_last (c := 6) M_201 rfl hp (by rw [Int32.ofNat_add]; rfl) h2 h4 (by omega) (Or.inr ⟨rfl, fun k h1 h2 => by show (if k = 6 then _ else rw6 _ _ _ _ _ _ k) = 0; unfold rw6; rw [if_neg (by omega), if_neg (by omega), if_neg (by omega), if_neg (by omega), if_neg (by omega), if_neg (by omega), if_neg (by omega)]⟩) (fun Y1 hp1 => ?_)
      refine AT.aload_n M_201 rfl rfl ?_
      refine AT.r10_16 M_201 rfl h2 h4 ?_
      refine AT.iload_n M_201 rfl rfl ?_
      refine AT.rr_snt M_201 rfl rfl h2 h4 (by assumption) ?_
      refine AT.iconst M_201 rfl (v := 0) (by decide) ?_
      refine AT.aload_n M_201 rfl rfl ?_
      refine AT.r10_23 M_201 rfl h2 h4 ?_
      refine AT.iload_n M_201 rfl rfl ?_
      refine AT.bipush M_201 rfl (v := 8) (by decide) ?_
      refine AT.iadd M_201 rfl rfl ?_
      refine AT.bipush M_201 rfl (v := 16) (by decide) ?_
      refine AT.rep (fun hr2 => ?_)
      have hpo := hr2.choose_spec.2.2.2.2.2.2.2.2.2.2.2.2.2.1
      have hl6 := hp.2.2.1
      refine AT.acp M_201 rfl rfl (Nat.le_of_ble_eq_true rfl) (n := 16) (p := 0) (q := 36 * (xK X o).2.2.length + 8) rfl rfl (by rw [Int32.ofNat_add]; rfl) ⟨by omega, by omega, by omega⟩ (Or.inl rfl) (src.loc (f := 18) (fi := fun _ => s) (fj := fun c => 3 + c) (v := fun c => (xK X o).1 18 s (3 + c)) (sh_snt h2 h4 hs) (by omega) (by omega) (fun c hc => by rw [Nat.zero_add]; exact lo_snt h2 h4 hs hc) (fun c hc => by show (xK Y1 o).1 18 s (3 + c) = _; rw [hp1.1.k]; rfl)) (dst.postL (l' := (xK X o).2.2 ++ [mLog (xK X o) s q]) h2 h4 (by omega) (by rw [hp1.len, List.length_append, List.length_singleton]) (fun j' u hu c hc => ?_)) ?_
      · refine hp1.row (u := mLog (xK X o) s q) (w := vPut (dV (xD Y1) o 41 0) (36 * (xK X o).2.2.length + 8) 16 (fun c => (xK X o).1 18 s (3 + c))) hpo h2 h4 (fun t ht => if_neg (by omega)) (fun t ht => ?_) j' u hu c hc
        rw [mLog_snp hg ht]
        unfold vPut
        by_cases e : 8 ≤ t ∧ t < 8 + 16
        · rw [if_pos e, if_pos (by omega), show 36 * (xK X o).2.2.length + t - (36 * (xK X o).2.2.length + 8) = t - 8 by omega]
        · rw [if_neg e, if_neg (by omega)]; exact hp1.at hpo h2 h4 ht
      have hf := hp1.fin (vPut (dV (xD Y1) o 41 0) (36 * (xK X o).2.2.length + 8) 16 (fun c => (xK X o).1 18 s (3 + c))) ((xK X o).2.2 ++ [mLog (xK X o) s q])
      refine AT.vret M_201 rfl rfl ?_
      rw [show kSend (xK X o) (mLog (xK X o) s q) = kNet (xK X o) ((xK X o).2.2 ++ [mLog (xK X o) s q]) from if_pos hn]
      exact ⟨rfl, hf⟩
    · skip
      refine AT.aload_n M_201 rfl rfl ?_
      refine AT.r10_20 M_201 rfl h2 h4 ?_
      refine AT.iload_n M_201 rfl rfl ?_
      refine AT.rr_nxt M_201 rfl rfl h2 h4 (by assumption) ?_
      refine AT.iload_n M_201 rfl rfl ?_
      refine AT.ra_nxt M_201 rfl rfl h2 h4 (by assumption) (by assumption) ?_
      refine AT.aload_n M_201 rfl rfl ?_
      refine AT.r10_13 M_201 rfl h2 h4 ?_
      refine AT.iload_n M_201 rfl rfl ?_
      refine AT.ra_18_0 M_201 rfl rfl h2 h4 (by assumption) ?_
      refine AT.icmp_gt M_201 rfl (fun b10 => absurd b10 hg) (fun b10 => ?_)
      refine AT.aload_n M_201 rfl rfl ?_
      refine AT.bipush M_201 rfl (v := 7) (by decide) ?_
      refine AT.iload_n M_201 rfl rfl ?_
      refine AT.iload_n M_201 rfl rfl ?_
      refine AT.aload_n M_201 rfl rfl ?_
      refine AT.r10_3 M_201 rfl h2 h4 ?_
      refine AT.iload_n M_201 rfl rfl ?_
      refine AT.ra_5 M_201 rfl rfl h2 h4 (by assumption) ?_
      refine AT.aload_n M_201 rfl rfl ?_
      refine AT.r10_13 M_201 rfl h2 h4 ?_
      refine AT.iload_n M_201 rfl rfl ?_
      refine AT.ra_18_0 M_201 rfl rfl h2 h4 (by assumption) ?_
      refine AT.aload_n M_201 rfl rfl ?_
      refine AT.r10_14 M_201 rfl h2 h4 ?_
      refine AT.iload_n M_201 rfl rfl ?_
      refine AT.ra_18_1 M_201 rfl rfl h2 h4 (by assumption) ?_
      refine AT.cv7u M_201 rfl M_200 rfl (Nat.le_of_ble_eq_true rfl) (xKd.of (sh_st h2 h4)) (by decide) (c_200 (n := n) h2 h4 (fun k hk => uRow_row (r := (rw6 7 (Int32.ofNat s) (Int32.ofNat q) ((xK X o).1 5 s 0) ((xK X o).1 18 s 0) ((xK X o).1 18 s 1))) (Or.inr ⟨rfl, fun k h1 h2 => by unfold rw6; rw [if_neg (by omega), if_neg (by omega), if_neg (by omega), if_neg (by omega), if_neg (by omega), if_neg (by omega)]⟩) hk)) (fun Y hc27 => ?_) (Nat.le_of_ble_eq_true rfl) rfl
      obtain ⟨r1, k1⟩ := hc27
      rw [if_neg hn]
      refine AT.ist3 M_201 rfl rfl ?_
      refine AT.iload_n M_201 rfl rfl ?_
      refine AT.iconst M_201 rfl (v := (-1)) (by decide) ?_
      refine AT.icmp_ne M_201 rfl (fun b31 => absurd rfl b31) (fun b31 => ?_)
      refine AT.vret M_201 rfl rfl ?_
      rw [show kSend (xK X o) (uRow (rw6 7 (Int32.ofNat s) (Int32.ofNat q) ((xK X o).1 5 s 0) ((xK X o).1 18 s 0) ((xK X o).1 18 s 1))) = kSend (xK X o) (mLog (xK X o) s q) from (if_neg hn).trans (if_neg hn).symm] at r1
      exact ⟨rfl, r1, k1⟩
