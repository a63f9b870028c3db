/-! ===== ENTRIES COME ===== -/
section CV8
variable {m i pc ln r1 r2 r3 : Nat} {ins : Instr} {ls : PV} {st : List Value} {X : XS} {Q : PO → XS → Prop} {M : PMet}
theorem AT.cv2i8 {n : Nat} {a0 : Nat} {a1 : Value} {en : PV} {Mc : PMet} {x : Value} {Y : XS} (hM : qPT m = M) (hr : M.1[i]? = some (pc, .invokevirtual n, ln, r1, r2, r3)) (hMc : qPT (r1 - 10) = Mc) (hn : Mc.2.2.1 = 2) (hs : (st.map fun v => v.category).sum ≤ 8) (hx : xKd X a0 Mc.2.2.2.2.2) (ho : Mc.2.2.2.2.2 < 12) (hc : RT (r1 - 10) en X (some x) Y) (k : AT m (i + 1) ls (x :: st) Y Q) (he : (pEnt [.ref a0, a1]).length ≤ Mc.2.1) (hen : pEntry Mc.2.1 [.ref a0, a1] = en) : AT m i ls (a1 :: .ref a0 :: st) X Q := AT.call hM hr rfl hMc (by rw [hn]; unfold pPop; rw [if_pos (by simp)]; rfl) (Or.inr hs) he (pRv_v hx ho) (by rw [hen]; refine AT.mono hc ?_; rintro o Z ⟨rfl, rfl⟩; exact k)
end CV8
section HND
variable {m i pc ln r3 : Nat} {ls : PV} {st : List Value} {X : XS} {Q : PO → XS → Prop} {M : PMet} {o a : Nat} {w : MSG}
theorem AT.h_ents {n : Nat} (hM : qPT m = M) (hr : M.1[i]? = some (pc, .getfield n, ln, 3, 0, r3)) (hh : hnd X o a w) (ho : o < 2) (hq : dP (xD X) o 60 < 61) (k : AT m (i + 1) ls (.ref (a + 1) :: st) X Q) : AT m i ls (.ref a :: st) X Q := by
  obtain ⟨h1, h2, h3⟩ := hh
  subst h1
  exact AT.f_3_0 hM hr ho hq k
theorem AT.h_slot {r1 r2 : Nat} {y : Int32} {j : Nat} {e : ENT} (hM : qPT m = M) (hr : M.1[i]? = some (pc, .aaload, ln, r1, r2, r3)) (hy : y = Int32.ofNat j) (hh : hnd X o a w) (ho : o < 2) (hq : dP (xD X) o 60 < 61) (hj : j < 4) (he : w.2.2[j]? = some e) (k : ∀ p, dE (xD X) p = (1, e) → AT m (i + 1) ls (.ref p :: st) X Q) : AT m i ls (.int y :: .ref (a + 1) :: st) X Q := by
  obtain ⟨h1, h2, h3⟩ := hh
  subst h1
  refine AT.a_slot hM hr hy ho hq hj (fun x _ hx => ?_)
  obtain ⟨p, rfl, hp⟩ := hx e (by rw [show dH (xD X) o (dP (xD X) o 60) = w from h2]; exact he)
  exact k p hp
end HND
theorem Rep.h61 {X : XS} {g : PS} (h : Rep X g) {o : Nat} (ho : o < 2) : dP (xD X) o 60 < 61 := (h.2.2.2.2.2.2.2.2.2.2.2.2.1 o ho).2.2.1 60 (by omega)
theorem Rep.u4 {X : XS} {g : PS} (h : Rep X g) {o : Nat} (ho : o < 2) : (uHand X o).2.2.length ≤ 4 := ((h.2.2.2.2.2.2.2.2.2.2.2.2.1 o ho).2.2.2.2.1 _ (h.h61 ho)).2.2.2.2.1.1
theorem kMin_nat {a b : Nat} (ha : a < 2147483648) (hb : b < 2147483648) : kMin (Int32.ofNat a) (Int32.ofNat b) = Int32.ofNat (min a b) := by
  unfold kMin
  by_cases h : b < a
  · rw [if_pos (by rw [i32_lt hb ha]; exact h), Nat.min_eq_right (by omega)]
  · rw [if_neg (by rw [i32_lt hb ha]; exact h), Nat.min_eq_left (by omega)]
theorem kCommTo_1 {K : KK} {s : Nat} {x : Int32} {f i j : Nat} (h : ¬ (f = 35 ∨ f = 36)) (h2 : ¬ (f = 19 ∧ i = s)) (h3 : ¬ (f = 15 ∧ i = s ∧ j = 0)) : (kCommTo K s x).1 f i j = K.1 f i j := kComm_1 h h2 h3
theorem sSame.commTo (K : KK) (t : Nat) (x : Int32) (s : Nat) : sSame K (kCommTo K t x) s := sSame.comm _ _ _ _ _
/-- the message of entries is well formed -/
def mEok (w : MSG) (x6 c8 : Nat) : Prop := w.1 6 = Int32.ofNat x6 ∧ w.1 8 = Int32.ofNat c8 ∧ w.1 9 = Int32.ofNat w.2.2.length ∧ x6 + w.2.2.length < 399980 ∧ c8 < 400000 ∧ ∀ e, e ∈ w.2.2 → eOk e
theorem l_35 {o s n a : Nat} {w : MSG} (ho : o < 2) (hs : s < 7) {x6 c8 : Nat} (hm : mEok w x6 c8) (hn : x6 + w.2.2.length ≤ n) : ∀ (t : List ENT) (j : Nat) (Y : XS), hnd Y o a w → mPr Y o → sOk (xK Y o) s → w.2.2.drop j = t → w.2.2.length ≤ 4 → j ≤ w.2.2.length →
    x6 + 1 + j ≤ kA (xK Y o) s + ((xK Y o).2.1 s).length + 1 → kAccOk s (xK Y o) (Int32.ofNat (x6 + 1 + j)) t → ((xK Y o).2.1 s).length ≤ n → ∀ x4 : Option Value,
    AT 35 39 [some (.ref (aB o)), some (.ref (aS o s)), some (.ref a), some (.int (Int32.ofNat j)), x4] [] Y (fun o' Z => o' = .inl none ∧ cRel o n 0 0 Y Z (kEntT (kAccs s (xK Y o) (Int32.ofNat (x6 + 1 + j)) t) s w))
  | [], j, Y, hh, hp, hk, ht, h4, hj, hxl, hA, hln, x4 => by
    have hw : xMs Y a w := hh.ms ho
    have hwK : ∀ K, xMs (xSetK Y o K) a w := fun K => (hh.setK K).ms ho
    have hjl : j = w.2.2.length := by
      have := congrArg List.length ht
      rw [List.length_drop, List.length_nil] at this
      omega
    have h4x := hm.2.2.2.1
    have hc8 := hm.2.2.2.2.1
    have hmin : kMin (w.1 8) (w.1 6 + w.1 9) = Int32.ofNat (min c8 (x6 + w.2.2.length)) := by
      rw [hm.1, hm.2.1, hm.2.2.1, ← Int32.ofNat_add]
      exact kMin_nat (by omega) (by omega)
    have hx0 : ((kMin (w.1 8) (w.1 6 + w.1 9)).toNatClampNeg - kC (xK Y o) s = 0 ∧ kMin (w.1 8) (w.1 6 + w.1 9) ≤ Int32.ofNat (kC (xK Y o) s)) ∨ kMin (w.1 8) (w.1 6 + w.1 9) = Int32.ofNat (kC (xK Y o) s + ((kMin (w.1 8) (w.1 6 + w.1 9)).toNatClampNeg - kC (xK Y o) s)) := by
      have hcl := hk.2.2.2.1
      have hal := hk.2.2.2.2.1
      rw [hmin, (i32_ix (by omega)).1]
      by_cases c : min c8 (x6 + w.2.2.length) ≤ kC (xK Y o) s
      · left
        exact ⟨by omega, by rw [i32_le (by omega) (by omega)]; exact c⟩
      · right
        congr 1
        omega
    show AT 35 39 _ [] Y (fun o' Z => o' = .inl none ∧ cRel o n 0 0 Y Z (kEntT (xK Y o) s w))
    refine AT.iload_n M_35 rfl rfl ?_
    refine AT.aload_n M_35 rfl rfl ?_
    refine AT.f_3_9 M_35 rfl (by first | exact hw | exact hwK _) ?_
    refine AT.icmp_ge M_35 rfl (fun b42 => ?_) (fun b42 => ?_)
    · refine AT.aload_n M_35 rfl rfl ?_
      refine AT.f_3_6 M_35 rfl (by first | exact hw | exact hwK _) ?_
      refine AT.aload_n M_35 rfl rfl ?_
      refine AT.f_3_9 M_35 rfl (by first | exact hw | exact hwK _) ?_
      refine AT.iadd M_35 rfl rfl ?_
      refine AT.ist3 M_35 rfl rfl ?_
      refine AT.aload_n M_35 rfl rfl ?_
      refine AT.aload_n M_35 rfl rfl ?_
      refine AT.aload_n M_35 rfl rfl ?_
      refine AT.f_3_8 M_35 rfl (by first | exact hw | exact hwK _) ?_
      refine AT.iload_n M_35 rfl rfl ?_
      refine AT.min M_35 rfl rfl (Nat.le_of_ble_eq_true rfl) rfl ?_
      rw [show (if w.1 6 + w.1 9 < w.1 8 then w.1 6 + w.1 9 else w.1 8) = kMin (w.1 8) (w.1 6 + w.1 9) from rfl]
      refine AT.cv30 M_35 rfl M_29 rfl (Nat.le_of_ble_eq_true rfl) (xKd.of (shp_cl (by assumption))) (by decide) (c_29 (a := kA (xK Y o) s) (c := kC (xK Y o) s) (m := (kMin (w.1 8) (w.1 6 + w.1 9)).toNatClampNeg - kC (xK Y o) s) ho hs hk.1 hk.2.2.1 (by rw [hmin, (i32_ix (by omega)).1]; have := hk.2.2.2.1; omega) (by have := hk.2.2.2.2.1; omega) hk.2.2.2.2.2.1 hk.2.1 hx0) ?_ (Nat.le_of_ble_eq_true rfl) rfl
      refine AT.aload_n M_35 rfl rfl ?_
      refine AT.bipush M_35 rfl (v := 6) (by decide) ?_
      refine AT.aload_n M_35 rfl rfl ?_
      refine AT.aload_n M_35 rfl rfl ?_
      refine AT.f_6_5 M_35 rfl (by assumption) (by assumption) ?_
      refine AT.iconst M_35 rfl (v := 1) (by decide) ?_
      refine AT.iload_n M_35 rfl rfl ?_
      refine AT.cv60 M_35 rfl M_31 rfl (Nat.le_of_ble_eq_true rfl) (xKd.of (shp_cl (by assumption))) (by decide) (c_31 (w := w) ho (by first | exact hw | exact hwK _) (by first | exact Or.inl rfl | exact Or.inr rfl)) ?_ (Nat.le_of_ble_eq_true rfl) rfl
      refine AT.vret M_35 rfl rfl ?_
      refine ⟨rfl, ?_⟩
      have r1 := cRel.set (n := n) (K := kCommTo (xK Y o) s (kMin (w.1 8) (w.1 6 + w.1 9))) hp (fun i _ => sSame.commTo _ _ _ _)
      have r2 := cRel.send (n := n) (mRep w 6 ((xK Y o).1 5 s 0) 1 (w.1 6 + w.1 9)) r1.pr
      rw [r1.k] at r2
      have r3 := r1.tr r2
      rw [show kEntT (xK Y o) s w = kSend (kCommTo (xK Y o) s (kMin (w.1 8) (w.1 6 + w.1 9))) (mRep w 6 ((xK Y o).1 5 s 0) 1 (w.1 6 + w.1 9)) from rfl]
      rw [xK_same, kComm_1 (f := 5) (i := s) (j := 0) (s := s) (by decide) (by omega) (by omega)]
      exact r3
    · exact absurd (by rw [hm.2.2.1, hjl]; exact Int32.le_refl _) b42
  | e :: t, j, Y, hh, hp, hk, ht, h4, hj, hxl, hA, hln, x4 => by
    have hw : xMs Y a w := hh.ms ho
    have hwK : ∀ K, xMs (xSetK Y o K) a w := fun K => (hh.setK K).ms ho
    refine AT.rep (fun hr => ?_)
    have h61 := hr.choose_spec.h61 ho
    have h64 := hr.choose_spec.d64 ho hs
    have hlt : j + (t.length + 1) = w.2.2.length := by
      have := congrArg List.length ht
      rw [List.length_drop, List.length_cons] at this
      omega
    have he : w.2.2[j]? = some e := by
      have := congrArg (fun l => l[0]?) ht
      simp only [List.getElem?_drop, Nat.add_zero, List.getElem?_cons_zero] at this
      exact this
    have h4x := hm.2.2.2.1
    have hx6 : w.1 6 + 1 + Int32.ofNat j = Int32.ofNat (x6 + 1 + j) := by rw [hm.1, i32_suc1, ← Int32.ofNat_add]
    refine AT.iload_n M_35 rfl rfl ?_
    refine AT.aload_n M_35 rfl rfl ?_
    refine AT.f_3_9 M_35 rfl (by first | exact hw | exact hwK _) ?_
    refine AT.icmp_ge M_35 rfl (fun b42 => ?_) (fun b42 => ?_)
    · exact absurd ((i32_le (a := w.2.2.length) (b := j) (by omega) (by omega)).mp (by rw [← hm.2.2.1]; exact b42)) (by omega)
    · refine AT.iload_n M_35 rfl rfl ?_
      refine AT.iconst M_35 rfl (v := 4) (by decide) ?_
      refine AT.icmp_ge M_35 rfl (fun b45 => ?_) (fun b45 => ?_)
      · exact absurd ((i32_le (b := j) (a := 4) (by omega) (by omega)).mp b45) (by omega)
      · refine AT.aload_n M_35 rfl rfl ?_
        refine AT.h_ents M_35 rfl hh ho h61 ?_
        refine AT.iload_n M_35 rfl rfl ?_
        refine AT.h_slot M_35 rfl rfl hh ho h61 (by omega) he (fun p49 hp49 => ?_)
        refine AT.ast4 M_35 rfl rfl ?_
        refine AT.aload M_35 rfl rfl ?_
        refine AT.ifnull1 M_35 rfl ?_
        refine AT.aload_n M_35 rfl rfl ?_
        refine AT.aload_n M_35 rfl rfl ?_
        refine AT.f_3_6 M_35 rfl (by first | exact hw | exact hwK _) ?_
        refine AT.iconst M_35 rfl (v := 1) (by decide) ?_
        refine AT.iadd M_35 rfl rfl ?_
        refine AT.iload_n M_35 rfl rfl ?_
        refine AT.iadd M_35 rfl rfl ?_
        refine AT.aload M_35 rfl rfl ?_
        refine AT.cv3w M_35 rfl M_84 rfl (Nat.le_of_ble_eq_true rfl) (xKd.of (shp_sv (by assumption) (by assumption))) (by decide) (c_84 ho hs hk.wf hp49 (by have := hk.2.2.2.2.1; omega)) (fun Y_1 hc61 => ?_) (Nat.le_of_ble_eq_true rfl) rfl
        rw [hx6] at hc61
        have r1 := rAcc.rel (n := n) hs hp h64 hln hc61
        obtain ⟨q1, q2, q3⟩ := kAcc_ok hk hxl (by omega) (hm.2.2.2.2.2 e (List.mem_of_getElem? he)) hA.1
        have ea := (kAcc_C (xK Y o) s (Int32.ofNat (x6 + 1 + j)) e s).1
        refine AT.iinc3 M_35 rfl rfl (i32_succ _) ?_
        refine AT.goto M_35 rfl ?_
        have ih := l_35 ho hs hm hn t (j + 1) Y_1 (hh.mv r1.2) r1.pr (by rw [r1.k]; exact q1) (by have := congrArg List.tail ht; rw [List.tail_drop] at this; exact this) h4 (by omega) (by rw [r1.k, ea]; omega) (by rw [r1.k]; rw [show x6 + 1 + (j + 1) = x6 + 1 + j + 1 by omega, ← i32_suc1]; exact hA.2) (by rw [r1.k]; omega) (some (.ref p49))
        refine AT.mono ih ?_
        rintro o' Z ⟨h1, h2⟩
        rw [r1.k, show x6 + 1 + (j + 1) = x6 + 1 + j + 1 by omega, ← i32_suc1] at h2
        exact ⟨h1, r1.tr h2⟩
theorem c_35 {X : XS} {o s n a : Nat} {w : MSG} (ho : o < 2) (hs : s < 7) {x6 c8 : Nat} (hm : mEok w x6 c8) (hn : x6 + w.2.2.length ≤ n) (hp : mPr X o) (hk : sOk (xK X o) s) (hh : hnd X o a w) (hln : ((xK X o).2.1 s).length ≤ n) (hA : (xK X o).1 5 s 0 ≤ w.1 4 → (w.1 6 ≤ (kObey (xK X o) s (w.1 2)).1 18 s 0 ∨ sHas (kObey (xK X o) s (w.1 2)) s (w.1 6) (w.1 7) = true) → kAccOk s (kObey (xK X o) s (w.1 2)) (Int32.ofNat (x6 + 1)) w.2.2) : RU 35 [some (.ref (aB o)), some (.ref (aS o s)), some (.ref a), none, none] X none (fun Y => cRel o n 0 0 X Y (kOnEnt (xK X o) s w)) := by
  have hw : xMs X a w := hh.ms ho
  have hwK : ∀ K, xMs (xSetK X o K) a w := fun K => (hh.setK K).ms ho
  have hwf : kWf (xK (xSetK X o (kObey (xK X o) s (w.1 2))) o) s := by rw [xK_same]; exact kWf_congr hk.wf (kObey_1 (by omega)) rfl
  refine AT.aload_n M_35 rfl rfl ?_
  refine AT.f_3_4 M_35 rfl (by first | exact hw | exact hwK _ | exact hnd.ms (show hnd _ o a w from hh) ho) ?_
  refine AT.aload_n M_35 rfl rfl ?_
  refine AT.f_6_5 M_35 rfl (by assumption) (by assumption) ?_
  refine AT.icmp_ge M_35 rfl (fun b4 => ?_) (fun b4 => ?_)
  · refine AT.aload_n M_35 rfl rfl ?_
    refine AT.aload_n M_35 rfl rfl ?_
    refine AT.f_3_2 M_35 rfl (by first | exact hw | exact hwK _ | exact hnd.ms (show hnd _ o a w from hh) ho) ?_
    refine AT.cv20 M_35 rfl M_86 rfl (Nat.le_of_ble_eq_true rfl) (xKd.of (shp_sv (by assumption) (by assumption))) (by decide) (c_86 ho hs) ?_ (Nat.le_of_ble_eq_true rfl) rfl
    refine AT.aload_n M_35 rfl rfl ?_
    refine AT.aload_n M_35 rfl rfl ?_
    refine AT.f_3_6 M_35 rfl (by first | exact hw | exact hwK _ | exact hnd.ms (show hnd _ o a w from hh) ho) ?_
    refine AT.aload_n M_35 rfl rfl ?_
    refine AT.f_3_7 M_35 rfl (by first | exact hw | exact hwK _ | exact hnd.ms (show hnd _ o a w from hh) ho) ?_
    refine AT.cv3i M_35 rfl M_82 rfl (Nat.le_of_ble_eq_true rfl) (xKd.of (shp_sv (by assumption) (by assumption))) (by decide) (c_82 ho hs hwf) ?_ (Nat.le_of_ble_eq_true rfl) rfl
    refine AT.if_ne M_35 rfl (fun b24 => ?_) (fun b24 => ?_)
    · refine AT.iconst M_35 rfl (v := 0) (by decide) ?_
      refine AT.ist3 M_35 rfl rfl ?_
      have r1 := cRel.set (n := n) (K := (kObey (xK X o) s (w.1 2))) hp (fun i _ => sSame.obey _ _ _ _)
      have hc := bI_ne0.mp b24
      rw [xK_same] at hc
      have hc2 : w.1 6 ≤ (kObey (xK X o) s (w.1 2)).1 18 s 0 ∨ sHas (kObey (xK X o) s (w.1 2)) s (w.1 6) (w.1 7) = true := by simpa using hc
      have eS := sSame.obey (xK X o) s (w.1 2) s
      have hk1 : sOk (kObey (xK X o) s (w.1 2)) s := eS.ok (kObey_1 (by omega)) hk
      have hA1 := hA b4 hc2
      have hxl : x6 + 1 + 0 ≤ kA (kObey (xK X o) s (w.1 2)) s + ((kObey (xK X o) s (w.1 2)).2.1 s).length + 1 := by
        rcases hc2 with z | z
        · rw [hm.1, hk1.1, i32_le (by have := hm.2.2.2.1; omega) (by have := hk1.2.2.2.2.1; omega)] at z; omega
        · unfold sHas at z
          cases hE : sEnt (kObey (xK X o) s (w.1 2)) s (w.1 6) with
          | none => rw [hE] at z; cases z
          | some e' =>
            have := (sEnt_some hE hk1.wf).2.1
            rw [sLast_of hk1.1, hm.1, i32_le (by have := hm.2.2.2.1; omega) (by have := hk1.2.2.2.2.1; omega)] at this
            omega
      refine AT.rep (fun hr => ?_)
      have h4 : w.2.2.length ≤ 4 := by have := hr.choose_spec.u4 ho; rw [show uHand (xSetK X o (kObey (xK X o) s (w.1 2))) o = w from hh.2.1] at this; exact this
      have ih := l_35 (a := a) ho hs hm hn w.2.2 0 (xSetK X o (kObey (xK X o) s (w.1 2))) hh r1.pr (by rw [xK_same]; exact hk1) rfl h4 (Nat.zero_le _) (by rw [xK_same]; exact hxl) (by rw [xK_same]; exact hA1) (by rw [xK_same]; exact hln) none
      refine AT.mono ih ?_
      rintro o' Z ⟨h1, h2⟩
      refine ⟨h1, ?_⟩
      rw [xK_same] at h2
      rw [show kOnEnt (xK X o) s w = kEntT (kAccs s (kObey (xK X o) s (w.1 2)) (w.1 6 + 1) w.2.2) s w from (if_neg (Int32.not_lt.mpr b4)).trans (if_pos hc2), hm.1, i32_suc1]
      exact r1.tr h2
    · refine AT.aload_n M_35 rfl rfl ?_
      refine AT.bipush M_35 rfl (v := 6) (by decide) ?_
      refine AT.aload_n M_35 rfl rfl ?_
      refine AT.aload_n M_35 rfl rfl ?_
      refine AT.f_6_5 M_35 rfl (by assumption) (by assumption) ?_
      refine AT.iconst M_35 rfl (v := 0) (by decide) ?_
      refine AT.aload_n M_35 rfl rfl ?_
      refine AT.aload_n M_35 rfl rfl ?_
      refine AT.f_3_6 M_35 rfl (by first | exact hw | exact hwK _ | exact hnd.ms (show hnd _ o a w from hh) ho) ?_
      refine AT.cv2i8 M_35 rfl M_83 rfl (Nat.le_of_ble_eq_true rfl) (xKd.of (shp_sv (by assumption) (by assumption))) (by decide) (c_83 ho hs hwf) ?_ (Nat.le_of_ble_eq_true rfl) rfl
      refine AT.cv60 M_35 rfl M_31 rfl (Nat.le_of_ble_eq_true rfl) (xKd.of (shp_cl (by assumption))) (by decide) (c_31 (w := w) ho (by first | exact hw | exact hwK _ | exact hnd.ms (show hnd _ o a w from hh) ho) (by first | exact Or.inl rfl | exact Or.inr rfl)) ?_ (Nat.le_of_ble_eq_true rfl) rfl
      refine AT.vret M_35 rfl rfl ?_
      refine ⟨rfl, ?_⟩
      have r1 := cRel.set (n := n) (K := (kObey (xK X o) s (w.1 2))) hp (fun i _ => sSame.obey _ _ _ _)
      have r2 := cRel.send (n := n) (mRep w 6 ((kObey (xK X o) s (w.1 2)).1 5 s 0) 0 (sTry (kObey (xK X o) s (w.1 2)) s (w.1 6))) r1.pr
      rw [r1.k] at r2
      have hc := bI_eq0.mp (Classical.not_not.mp b24)
      rw [xK_same] at hc
      rw [show kOnEnt (xK X o) s w = kSend (kObey (xK X o) s (w.1 2)) (mRep w 6 ((kObey (xK X o) s (w.1 2)).1 5 s 0) 0 (sTry (kObey (xK X o) s (w.1 2)) s (w.1 6))) from (if_neg (Int32.not_lt.mpr b4)).trans (if_neg (fun z => by rcases z with z | z <;> simp [z] at hc)), xK_same]
      exact r1.tr r2
  · refine AT.aload_n M_35 rfl rfl ?_
    refine AT.bipush M_35 rfl (v := 6) (by decide) ?_
    refine AT.aload_n M_35 rfl rfl ?_
    refine AT.aload_n M_35 rfl rfl ?_
    refine AT.f_6_5 M_35 rfl (by assumption) (by assumption) ?_
    refine AT.iconst M_35 rfl (v := 0) (by decide) ?_
    refine AT.iconst M_35 rfl (v := 0) (by decide) ?_
    refine AT.cv60 M_35 rfl M_31 rfl (Nat.le_of_ble_eq_true rfl) (xKd.of (shp_cl (by assumption))) (by decide) (c_31 (w := w) ho (by first | exact hw | exact hwK _ | exact hnd.ms (show hnd _ o a w from hh) ho) (by first | exact Or.inl rfl | exact Or.inr rfl)) ?_ (Nat.le_of_ble_eq_true rfl) rfl
    refine AT.vret M_35 rfl rfl ?_
    refine ⟨rfl, ?_⟩
    rw [show kOnEnt (xK X o) s w = kSend (xK X o) (mRep w 6 ((xK X o).1 5 s 0) 0 0) from if_pos (Int32.not_le.mp b4)]
    exact cRel.send _ hp
