/-! ===== A SNAPSHOT COMES, AN ANSWER COMES ===== -/
theorem c_27x {X : XS} {o s q : Nat} {x : Int32} (ho : o < 2) (hs : s < 7) (hx : x = Int32.ofNat q) (hq7 : q < 7) (hw : kWf (xK X o) s) (hN : kNx (xK X o) s q) : RT 27 [some (.ref (aB o)), some (.ref (aS o s)), some (.int x), none, none, none, none] X none (xSend X o (mLog (xK X o) s q)) := by
  subst hx; exact c_27 ho hs hq7 hw hN
theorem c_89x {X : XS} {o s j : Nat} {y x : Int32} (ho : o < 2) (hs : s < 7) (hy : y = Int32.ofNat j) (hj : j < 7) : RT 89 [some (.ref (aS o s)), some (.int y), some (.int x)] X none (xSetK X o (kLearn (xK X o) s j x)) := by
  subst hy; exact c_89 ho hs hj
theorem kRow_ne {K : KK} {f i a b c : Nat} {r : Nat → Int32} (h : ¬ (a = f ∧ b = i)) : (kRow K f i r).1 a b c = K.1 a b c := if_neg h
theorem kTab_1 {K : KK} {s a b c : Nat} {r : ENT} (h : ¬ (a = 19 ∧ b = s)) : (kTab K s r).1 a b c = K.1 a b c := kRow_ne h
theorem kCut_1 {K : KK} {s gn a b c : Nat} {r : ENT} (h : ¬ (a = 18 ∧ b = s)) : (kCut K s gn r).1 a b c = K.1 a b c := kRow_ne h
theorem sSame.cut {K : KK} {s gn : Nat} {r : ENT} {i : Nat} (h : ¬ i = s) : sSame K (kCut K s gn r) i := ⟨if_neg h, fun j _ => if_neg (fun z => h z.2)⟩
theorem sSame.tab (K : KK) (s : Nat) (r : ENT) (i : Nat) : sSame K (kTab K s r) i := ⟨rfl, fun _ _ => kTab_1 (by omega)⟩
theorem kNx_congr {K K' : KK} {s q : Nat} (h1 : K'.1 18 s 0 = K.1 18 s 0) (h2 : K'.1 2 s q = K.1 2 s q) (h3 : K'.2.1 s = K.2.1 s) (h : kNx K s q) : kNx K' s q := by
  unfold kNx
  rw [h1, h2, h3]
  exact h
theorem c_36 {X : XS} {o s n a : Nat} {w : MSG} (ho : o < 2) (hs : s < 7) (hp : mPr X o) (hk : sOk (xK X o) s) (hh : hnd X o a w) : RU 36 [some (.ref (aB o)), some (.ref (aS o s)), some (.ref a), none] X none (fun Y => cRel o n 0 0 X Y (kOnSnp (xK X o) s w)) := by
  have hw : xMs X a w := hh.ms ho
  have hwK : ∀ K, xMs (xSetK X o K) a w := fun K => (hh.setK K).ms ho
  have hwf : kWf (xK (xSetK X o (kObey (xK X o) s (w.1 2))) o) s := by rw [xK_same]; exact kWf_congr hk.wf (kObey_1 (by omega)) rfl
  cases hsn : w.2.1 with
  | none =>
    refine AT.aload_n M_36 rfl rfl ?_
    refine AT.f_3_4 M_36 rfl (by first | exact hw | exact hwK _ | exact hnd.ms (show hnd _ o a w from hh) ho) ?_
    refine AT.aload_n M_36 rfl rfl ?_
    refine AT.f_6_5 M_36 rfl (by assumption) (by assumption) ?_
    refine AT.icmp_ge M_36 rfl (fun b4 => ?_) (fun b4 => ?_)
    · refine AT.aload_n M_36 rfl rfl ?_
      refine AT.aload_n M_36 rfl rfl ?_
      refine AT.f_3_2 M_36 rfl (by first | exact hw | exact hwK _ | exact hnd.ms (show hnd _ o a w from hh) ho) ?_
      refine AT.cv20 M_36 rfl M_86 rfl (Nat.le_of_ble_eq_true rfl) (xKd.of (shp_sv (by assumption) (by assumption))) (by decide) (c_86 ho hs) ?_ (Nat.le_of_ble_eq_true rfl) rfl
      refine AT.aload_n M_36 rfl rfl ?_
      refine AT.f_3_10n M_36 rfl (by first | exact hw | exact hwK _ | exact hnd.ms (show hnd _ o a w from hh) ho) hsn ?_
      refine AT.zst3 M_36 rfl rfl ?_
      refine AT.aload_n0 M_36 rfl rfl ?_
      refine AT.ifnull0 M_36 rfl ?_
      refine AT.aload_n M_36 rfl rfl ?_
      refine AT.bipush M_36 rfl (v := 6) (by decide) ?_
      refine AT.aload_n M_36 rfl rfl ?_
      refine AT.aload_n M_36 rfl rfl ?_
      refine AT.f_6_5 M_36 rfl (by assumption) (by assumption) ?_
      refine AT.iconst M_36 rfl (v := 1) (by decide) ?_
      refine AT.aload_n M_36 rfl rfl ?_
      refine AT.f_3_6 M_36 rfl (by first | exact hw | exact hwK _ | exact hnd.ms (show hnd _ o a w from hh) ho) ?_
      refine AT.cv60 M_36 rfl M_31 rfl (Nat.le_of_ble_eq_true rfl) (xKd.of (shp_cl (by assumption))) (by decide) (c_31 (w := w) ho (by first | exact hw | exact hwK _ | exact hnd.ms (show hnd _ o a w from hh) ho) (by first | exact Or.inl rfl | exact Or.inr rfl)) ?_ (Nat.le_of_ble_eq_true rfl) rfl
      refine AT.vret M_36 rfl rfl ?_
      refine ⟨rfl, ?_⟩
      have r1 := cRel.set (n := n) (K := kObey (xK X o) s (w.1 2)) hp (fun i _ => sSame.obey _ _ _ _)
      rw [xK_same, kObey_1 (by omega), show kOnSnp (xK X o) s w = kSend (kObey (xK X o) s (w.1 2)) (mRep w 6 ((xK X o).1 5 s 0) 1 (w.1 6)) from by unfold kOnSnp; rw [if_neg (Int32.not_lt.mpr b4), hsn]; rfl]
      have r3 := cRel.send (n := n) (mRep w 6 ((xK X o).1 5 s 0) 1 (w.1 6)) r1.pr
      rw [r1.k] at r3
      exact r1.tr r3
    · refine AT.aload_n M_36 rfl rfl ?_
      refine AT.bipush M_36 rfl (v := 6) (by decide) ?_
      refine AT.aload_n M_36 rfl rfl ?_
      refine AT.aload_n M_36 rfl rfl ?_
      refine AT.f_6_5 M_36 rfl (by assumption) (by assumption) ?_
      refine AT.iconst M_36 rfl (v := 0) (by decide) ?_
      refine AT.iconst M_36 rfl (v := 0) (by decide) ?_
      refine AT.cv60 M_36 rfl M_31 rfl (Nat.le_of_ble_eq_true rfl) (xKd.of (shp_cl (by assumption))) (by decide) (c_31 (w := w) ho (by first | exact hw | exact hwK _ | exact hnd.ms (show hnd _ o a w from hh) ho) (by first | exact Or.inl rfl | exact Or.inr rfl)) ?_ (Nat.le_of_ble_eq_true rfl) rfl
      refine AT.vret M_36 rfl rfl ?_
      refine ⟨rfl, ?_⟩
      rw [show kOnSnp (xK X o) s w = kSend (xK X o) (mRep w 6 ((xK X o).1 5 s 0) 0 0) from if_pos (Int32.not_le.mp b4)]
      exact cRel.send _ hp
  | some r =>
    refine AT.aload_n M_36 rfl rfl ?_
    refine AT.f_3_4 M_36 rfl (by first | exact hw | exact hwK _ | exact hnd.ms (show hnd _ o a w from hh) ho) ?_
    refine AT.aload_n M_36 rfl rfl ?_
    refine AT.f_6_5 M_36 rfl (by assumption) (by assumption) ?_
    refine AT.icmp_ge M_36 rfl (fun b4 => ?_) (fun b4 => ?_)
    · refine AT.aload_n M_36 rfl rfl ?_
      refine AT.aload_n M_36 rfl rfl ?_
      refine AT.f_3_2 M_36 rfl (by first | exact hw | exact hwK _ | exact hnd.ms (show hnd _ o a w from hh) ho) ?_
      refine AT.cv20 M_36 rfl M_86 rfl (Nat.le_of_ble_eq_true rfl) (xKd.of (shp_sv (by assumption) (by assumption))) (by decide) (c_86 ho hs) ?_ (Nat.le_of_ble_eq_true rfl) rfl
      refine AT.aload_n M_36 rfl rfl ?_
      refine AT.f_3_10s M_36 rfl (by first | exact hw | exact hwK _ | exact hnd.ms (show hnd _ o a w from hh) ho) hsn (fun p19 hp19 => ?_)
      refine AT.ast3 M_36 rfl rfl ?_
      refine AT.aload_n M_36 rfl rfl ?_
      refine AT.ifnull1 M_36 rfl ?_
      refine AT.aload_n M_36 rfl rfl ?_
      refine AT.f_7_0 M_36 rfl (by assumption) ?_
      refine AT.aload_n M_36 rfl rfl ?_
      refine AT.f_6_15 M_36 rfl (by assumption) (by assumption) ?_
      refine AT.icmp_le M_36 rfl (fun b27 => ?_) (fun b27 => ?_)
      · refine AT.aload_n M_36 rfl rfl ?_
        refine AT.bipush M_36 rfl (v := 6) (by decide) ?_
        refine AT.aload_n M_36 rfl rfl ?_
        refine AT.aload_n M_36 rfl rfl ?_
        refine AT.f_6_5 M_36 rfl (by assumption) (by assumption) ?_
        refine AT.iconst M_36 rfl (v := 1) (by decide) ?_
        refine AT.aload_n M_36 rfl rfl ?_
        refine AT.f_3_6 M_36 rfl (by first | exact hw | exact hwK _ | exact hnd.ms (show hnd _ o a w from hh) ho) ?_
        refine AT.cv60 M_36 rfl M_31 rfl (Nat.le_of_ble_eq_true rfl) (xKd.of (shp_cl (by assumption))) (by decide) (c_31 (w := w) ho (by first | exact hw | exact hwK _ | exact hnd.ms (show hnd _ o a w from hh) ho) (by first | exact Or.inl rfl | exact Or.inr rfl)) ?_ (Nat.le_of_ble_eq_true rfl) rfl
        refine AT.vret M_36 rfl rfl ?_
        refine ⟨rfl, ?_⟩
        have r1 := cRel.set (n := n) (K := kObey (xK X o) s (w.1 2)) hp (fun i _ => sSame.obey _ _ _ _)
        rw [xK_same, kObey_1 (by omega)] at b27
        rw [xK_same, kObey_1 (by omega), show kOnSnp (xK X o) s w = kSend (kObey (xK X o) s (w.1 2)) (mRep w 6 ((xK X o).1 5 s 0) 1 (w.1 6)) from by
          unfold kOnSnp; rw [if_neg (Int32.not_lt.mpr b4), hsn]
          show kSend (if _ then _ else _) _ = _
          rw [if_neg (by rw [kObey_1 (by omega)]; exact Int32.not_lt.mpr b27)]]
        have r3 := cRel.send (n := n) (mRep w 6 ((xK X o).1 5 s 0) 1 (w.1 6)) r1.pr
        rw [r1.k] at r3
        exact r1.tr r3
      · refine AT.aload_n M_36 rfl rfl ?_
        refine AT.aload_n M_36 rfl rfl ?_
        refine AT.cv2w M_36 rfl M_79 rfl (Nat.le_of_ble_eq_true rfl) (xKd.of (shp_sv (by assumption) (by assumption))) (by decide) (c_79 ho hs hp19 hwf) (fun Y hc30 => ?_) (Nat.le_of_ble_eq_true rfl) rfl
        obtain ⟨qf, rfl⟩ := hc30
        refine AT.aload_n M_36 rfl rfl ?_
        refine AT.bipush M_36 rfl (v := 6) (by decide) ?_
        refine AT.aload_n M_36 rfl rfl ?_
        refine AT.aload_n M_36 rfl rfl ?_
        refine AT.f_6_5 M_36 rfl (by assumption) (by assumption) ?_
        refine AT.iconst M_36 rfl (v := 1) (by decide) ?_
        refine AT.aload_n M_36 rfl rfl ?_
        refine AT.f_3_6 M_36 rfl (by first | exact hw | exact hwK _ | exact hnd.ms (show hnd _ o a w from hh) ho) ?_
        refine AT.cv60 M_36 rfl M_31 rfl (Nat.le_of_ble_eq_true rfl) (xKd.of (shp_cl (by assumption))) (by decide) (c_31 (w := w) ho (by first | exact hw | exact hwK _ | exact hnd.ms (show hnd _ o a w from hh) ho) (by first | exact Or.inl rfl | exact Or.inr rfl)) ?_ (Nat.le_of_ble_eq_true rfl) rfl
        refine AT.vret M_36 rfl rfl ?_
        refine ⟨rfl, ?_⟩
        have r1 := cRel.set (n := n) (K := kObey (xK X o) s (w.1 2)) hp (fun i _ => sSame.obey _ _ _ _)
        rw [xK_same, kObey_1 (by omega)] at b27
        have r2 := cRel.mem (n := n) (s := s) (D := dWithQ (xD (xSetK X o (kObey (xK X o) s (w.1 2)))) qf) (K1 := kCut (kObey (xK X o) s (w.1 2)) s (sCutN (kObey (xK X o) s (w.1 2)) s r) r) (K2 := kTab (kSet (kCut (kObey (xK X o) s (w.1 2)) s (sCutN (kObey (xK X o) s (w.1 2)) s r) r) 15 s 0 (r 0)) s r) r1.pr rfl rfl rfl rfl rfl rfl (fun i _ hi => by rw [xK_same]; exact sSame.cut hi) (fun i _ => (sSame.set (by decide) i).tr (sSame.tab _ _ _ _))
        have r3 := cRel.send (n := n) (mRep w 6 ((xK X o).1 5 s 0) 1 (w.1 6)) r2.pr
        rw [r2.k] at r3
        have e1 : kOnSnp (xK X o) s w = kSend (kTab (kSet (kCut (kObey (xK X o) s (w.1 2)) s (sCutN (kObey (xK X o) s (w.1 2)) s r) r) 15 s 0 (r 0)) s r) (mRep w 6 ((xK X o).1 5 s 0) 1 (w.1 6)) := by
          unfold kOnSnp; rw [if_neg (Int32.not_lt.mpr b4), hsn]
          show kSend (if _ then _ else _) _ = _
          rw [if_pos (by rw [kObey_1 (by omega)]; exact Int32.not_le.mp b27)]
        have e2 : (kTab (kSet (kCut (kObey (xK X o) s (w.1 2)) s (sCutN (kObey (xK X o) s (w.1 2)) s r) r) 15 s 0 (r 0)) s r).1 5 s 0 = (xK X o).1 5 s 0 := by
          rw [kTab_1 (by omega), kSet_ne (by omega), kCut_1 (by omega)]
          exact kObey_1 (by omega)
        simp only [xK_same] at r2 r3 ⊢
        rw [e1, e2]
        exact (r1.tr r2).tr r3
    · refine AT.aload_n M_36 rfl rfl ?_
      refine AT.bipush M_36 rfl (v := 6) (by decide) ?_
      refine AT.aload_n M_36 rfl rfl ?_
      refine AT.aload_n M_36 rfl rfl ?_
      refine AT.f_6_5 M_36 rfl (by assumption) (by assumption) ?_
      refine AT.iconst M_36 rfl (v := 0) (by decide) ?_
      refine AT.iconst M_36 rfl (v := 0) (by decide) ?_
      refine AT.cv60 M_36 rfl M_31 rfl (Nat.le_of_ble_eq_true rfl) (xKd.of (shp_cl (by assumption))) (by decide) (c_31 (w := w) ho (by first | exact hw | exact hwK _ | exact hnd.ms (show hnd _ o a w from hh) ho) (by first | exact Or.inl rfl | exact Or.inr rfl)) ?_ (Nat.le_of_ble_eq_true rfl) rfl
      refine AT.vret M_36 rfl rfl ?_
      refine ⟨rfl, ?_⟩
      rw [show kOnSnp (xK X o) s w = kSend (xK X o) (mRep w 6 ((xK X o).1 5 s 0) 0 0) from if_pos (Int32.not_le.mp b4)]
      exact cRel.send _ hp
theorem kStep_1 {K : KK} {t a b c : Nat} {mm mx : Int32} (h : ¬ (a = 12 ∨ a = 13)) : (kStep K t mm mx).1 a b c = K.1 a b c := by
  unfold kStep
  split
  · rw [kSet_ne (by omega), kSet_ne (by omega)]
  · rfl
theorem kLk_1 {K : KK} {t a b c : Nat} (h : ¬ (a = 12 ∨ a = 13 ∨ a = 15 ∨ a = 19 ∨ a = 35 ∨ a = 36)) : (kLk K t).1 a b c = K.1 a b c := (kStep_1 (by omega)).trans (kComm_1 (by omega) (by omega) (by omega))
theorem c_37 {X : XS} {o s n a : Nat} {w : MSG} (ho : o < 2) (hs : s < 7) (hp : mPr X o) (hk : sOk (xK X o) s) (hh : hnd X o a w) {f : Nat} (hf : w.1 2 = Int32.ofNat f) (hf7 : f < 7) (hA : (xK X o).1 12 s 0 = 3 → w.1 4 = (xK X o).1 5 s 0 → (w.1 5 = 0 → kNx (kSet (xK X o) 2 s f (kMax (w.1 6) ((xK X o).1 3 s f) + 1)) s f) ∧ (¬ w.1 5 = 0 → kNx (kLearn (xK X o) s f (w.1 6)) s f)) : RU 37 [some (.ref (aB o)), some (.ref (aS o s)), some (.ref a)] X none (fun Y => cRel o n 0 0 X Y (kOnAns (xK X o) s f w)) := by
  have hw : xMs X a w := hh.ms ho
  have hwK : ∀ K, xMs (xSetK X o K) a w := fun K => (hh.setK K).ms ho
  refine AT.aload_n M_37 rfl rfl ?_
  refine AT.f_6_12 M_37 rfl (by assumption) (by assumption) ?_
  refine AT.iconst M_37 rfl (v := 3) (by decide) ?_
  refine AT.icmp_ne M_37 rfl (fun b3 => ?_) (fun b3 => ?_)
  · refine AT.vret M_37 rfl rfl ?_
    refine ⟨rfl, ?_⟩
    rw [show kOnAns (xK X o) s f w = xK X o from if_neg (fun z => b3 z.1)]
    exact cRel.rf n hp
  · refine AT.aload_n M_37 rfl rfl ?_
    refine AT.f_3_4 M_37 rfl (by first | exact hw | exact hwK _ | exact hnd.ms (show hnd _ o a w from hh) ho) ?_
    refine AT.aload_n M_37 rfl rfl ?_
    refine AT.f_6_5 M_37 rfl (by assumption) (by assumption) ?_
    refine AT.icmp_eq M_37 rfl (fun b8 => ?_) (fun b8 => ?_)
    · refine AT.aload_n M_37 rfl rfl ?_
      refine AT.f_3_5 M_37 rfl (by first | exact hw | exact hwK _ | exact hnd.ms (show hnd _ o a w from hh) ho) ?_
      refine AT.if_ne M_37 rfl (fun b12 => ?_) (fun b12 => ?_)
      · have hS := sSame.learn (xK X o) s f (w.1 6) s
        have hS2 := hS.tr (sSame.lk (kLearn (xK X o) s f (w.1 6)) s s)
        have hN0 := (hA (Classical.not_not.mp b3) b8).2 b12
        have hN2 : kNx (kLk (kLearn (xK X o) s f (w.1 6)) s) s f := by
          refine kNx_congr (K := (kLearn (xK X o) s f (w.1 6))) ((sSame.lk _ s s).2 0 (by omega)) (kLk_1 (by omega)) (sSame.lk _ s s).1 hN0
        refine AT.aload_n M_37 rfl rfl ?_
        refine AT.aload_n M_37 rfl rfl ?_
        refine AT.f_3_2 M_37 rfl (by first | exact hw | exact hwK _ | exact hnd.ms (show hnd _ o a w from hh) ho) ?_
        refine AT.aload_n M_37 rfl rfl ?_
        refine AT.f_3_6 M_37 rfl (by first | exact hw | exact hwK _ | exact hnd.ms (show hnd _ o a w from hh) ho) ?_
        refine AT.cv30 M_37 rfl M_89 rfl (Nat.le_of_ble_eq_true rfl) (xKd.of (shp_sv (by assumption) (by assumption))) (by decide) (c_89x ho hs hf hf7) ?_ (Nat.le_of_ble_eq_true rfl) rfl
        refine AT.aload_n M_37 rfl rfl ?_
        refine AT.aload_n M_37 rfl rfl ?_
        refine AT.cv20 M_37 rfl M_28 rfl (Nat.le_of_ble_eq_true rfl) (xKd.of (shp_cl (by assumption))) (by decide) (c_28 (a := kA (xK X o) s) (c := kC (xK X o) s) (n := kA (xK X o) s + ((xK X o).2.1 s).length - kC (xK X o) s) ho hs (hp s hs).1 (hp s hs).2 (by rw [xK_same, kLearn_1 (by omega)]; exact hk.1) (by rw [xK_same, kLearn_1 (by omega)]; exact hk.2.1) hk.2.2.1 (by rw [xK_same, hS.1]; have := hk.2.2.2.1; omega) (by rw [xK_same, hS.1]; have := hk.2.2.2.2.1; omega) (by rw [xK_same, hS.1]; exact hk.2.2.2.2.2.1)) ?_ (Nat.le_of_ble_eq_true rfl) rfl
        rw [xK_same, xSetK_idem, show kLook (kLearn (xK X o) s f (w.1 6)) s (sMem (xK X o) s) (sMix (xK X o) s) (kC (xK X o) s) (kA (xK X o) s + ((xK X o).2.1 s).length - kC (xK X o) s) = (kLk (kLearn (xK X o) s f (w.1 6)) s) from by unfold kLk; rw [hS.mem, hS.mix, hS.ka, hS.1, show kC (kLearn (xK X o) s f (w.1 6)) s = kC (xK X o) s from by unfold kC; rw [kLearn_1 (by omega)]]]
        refine AT.aload_n M_37 rfl rfl ?_
        refine AT.f_6_12 M_37 rfl (by assumption) (by assumption) ?_
        refine AT.iconst M_37 rfl (v := 3) (by decide) ?_
        refine AT.icmp_ne M_37 rfl (fun b46 => ?_) (fun b46 => ?_)
        · refine AT.vret M_37 rfl rfl ?_
          refine ⟨rfl, ?_⟩
          rw [show kOnAns (xK X o) s f w = kAns6 (kLk (kLearn (xK X o) s f (w.1 6)) s) s f from (if_pos ⟨Classical.not_not.mp b3, b8⟩).trans (if_neg b12)]
          have r1 := cRel.set (n := n) (K := (kLk (kLearn (xK X o) s f (w.1 6)) s)) hp (fun i _ => (sSame.learn _ _ _ _ _).tr (sSame.lk _ _ _))
          rw [xK_same] at b46
          rw [show kAns6 (kLk (kLearn (xK X o) s f (w.1 6)) s) s f = (kLk (kLearn (xK X o) s f (w.1 6)) s) from if_neg (fun z => b46 z.1)]
          exact r1
        · refine AT.aload_n M_37 rfl rfl ?_
          refine AT.f_6_2 M_37 rfl (by assumption) (by assumption) ?_
          refine AT.aload_n M_37 rfl rfl ?_
          refine AT.f_3_2 M_37 rfl (by first | exact hw | exact hwK _ | exact hnd.ms (show hnd _ o a w from hh) ho) ?_
          refine AT.a_nxt M_37 rfl hf (by assumption) (by assumption) (by assumption) ?_
          refine AT.aload_n M_37 rfl rfl ?_
          refine AT.cv1i M_37 rfl M_62 rfl (Nat.le_of_ble_eq_true rfl) (xKd.of (shp_sv (by assumption) (by assumption))) (by decide) (c_62 ho hs) ?_ (Nat.le_of_ble_eq_true rfl) rfl
          refine AT.icmp_gt M_37 rfl (fun b54 => ?_) (fun b54 => ?_)
          · refine AT.vret M_37 rfl rfl ?_
            refine ⟨rfl, ?_⟩
            rw [show kOnAns (xK X o) s f w = kAns6 (kLk (kLearn (xK X o) s f (w.1 6)) s) s f from (if_pos ⟨Classical.not_not.mp b3, b8⟩).trans (if_neg b12)]
            have r1 := cRel.set (n := n) (K := (kLk (kLearn (xK X o) s f (w.1 6)) s)) hp (fun i _ => (sSame.learn _ _ _ _ _).tr (sSame.lk _ _ _))
            rw [xK_same] at b54
            rw [show kAns6 (kLk (kLearn (xK X o) s f (w.1 6)) s) s f = (kLk (kLearn (xK X o) s f (w.1 6)) s) from if_neg (fun z => absurd b54 (Int32.not_lt.mpr z.2))]
            exact r1
          · refine AT.aload_n M_37 rfl rfl ?_
            refine AT.aload_n M_37 rfl rfl ?_
            refine AT.aload_n M_37 rfl rfl ?_
            refine AT.f_3_2 M_37 rfl (by first | exact hw | exact hwK _ | exact hnd.ms (show hnd _ o a w from hh) ho) ?_
            refine AT.cv30 M_37 rfl M_27 rfl (Nat.le_of_ble_eq_true rfl) (xKd.of (shp_cl (by assumption))) (by decide) (c_27x ho hs hf hf7 (by rw [xK_same]; exact kWf_congr hk.wf (hS2.2 0 (by omega)) hS2.1) (by rw [xK_same]; exact hN2)) ?_ (Nat.le_of_ble_eq_true rfl) rfl
            refine AT.vret M_37 rfl rfl ?_
            refine ⟨rfl, ?_⟩
            rw [show kOnAns (xK X o) s f w = kAns6 (kLk (kLearn (xK X o) s f (w.1 6)) s) s f from (if_pos ⟨Classical.not_not.mp b3, b8⟩).trans (if_neg b12)]
            have r1 := cRel.set (n := n) (K := (kLk (kLearn (xK X o) s f (w.1 6)) s)) hp (fun i _ => (sSame.learn _ _ _ _ _).tr (sSame.lk _ _ _))
            rw [xK_same] at b46 b54
            rw [show kAns6 (kLk (kLearn (xK X o) s f (w.1 6)) s) s f = kSend (kLk (kLearn (xK X o) s f (w.1 6)) s) (mLog (kLk (kLearn (xK X o) s f (w.1 6)) s) s f) from if_pos ⟨Classical.not_not.mp b46, Int32.not_lt.mp b54⟩, xK_same]
            have r2 := cRel.send (n := n) (mLog (kLk (kLearn (xK X o) s f (w.1 6)) s) s f) r1.pr
            rw [r1.k] at r2
            exact r1.tr r2
      · have hN1 := (hA (Classical.not_not.mp b3) b8).1 (Classical.not_not.mp b12)
        refine AT.aload_n M_37 rfl rfl ?_
        refine AT.f_6_2 M_37 rfl (by assumption) (by assumption) ?_
        refine AT.aload_n M_37 rfl rfl ?_
        refine AT.f_3_2 M_37 rfl (by first | exact hw | exact hwK _ | exact hnd.ms (show hnd _ o a w from hh) ho) ?_
        refine AT.aload_n M_37 rfl rfl ?_
        refine AT.f_3_6 M_37 rfl (by first | exact hw | exact hwK _ | exact hnd.ms (show hnd _ o a w from hh) ho) ?_
        refine AT.aload_n M_37 rfl rfl ?_
        refine AT.f_6_3 M_37 rfl (by assumption) (by assumption) ?_
        refine AT.aload_n M_37 rfl rfl ?_
        refine AT.f_3_2 M_37 rfl (by first | exact hw | exact hwK _ | exact hnd.ms (show hnd _ o a w from hh) ho) ?_
        refine AT.a_mat M_37 rfl hf (by assumption) (by assumption) (by assumption) ?_
        refine AT.max M_37 rfl rfl (Nat.le_of_ble_eq_true rfl) rfl ?_
        rw [show (if w.1 6 < (xK X o).1 3 s f then (xK X o).1 3 s f else w.1 6) = kMax (w.1 6) ((xK X o).1 3 s f) from rfl]
        refine AT.iconst M_37 rfl (v := 1) (by decide) ?_
        refine AT.iadd M_37 rfl rfl ?_
        refine AT.s_nxt M_37 rfl hf (by assumption) (by assumption) (by assumption) ?_
        try simp only [xK_same, xSetK_idem, xD_setK, xK_setD, xD_setD, xSetD_setK, xSetD_idem, kSet_1, kSet_2, kRow_1, kRow_2, kLog_1, kLog_2, kLog_l, kLog_idem, List.take_zero, if_true]
        refine AT.aload_n M_37 rfl rfl ?_
        refine AT.aload_n M_37 rfl rfl ?_
        refine AT.aload_n M_37 rfl rfl ?_
        refine AT.f_3_2 M_37 rfl (by first | exact hw | exact hwK _ | exact hnd.ms (show hnd _ o a w from hh) ho) ?_
        refine AT.cv30 M_37 rfl M_27 rfl (Nat.le_of_ble_eq_true rfl) (xKd.of (shp_cl (by assumption))) (by decide) (c_27x ho hs hf hf7 (by rw [xK_same]; exact kWf_congr hk.wf (kSet_ne (by omega)) rfl) (by rw [xK_same]; exact hN1)) ?_ (Nat.le_of_ble_eq_true rfl) rfl
        try simp only [xK_same, xSetK_idem, xD_setK, xK_setD, xD_setD, xSetD_setK, xSetD_idem, kSet_1, kSet_2, kRow_1, kRow_2, kLog_1, kLog_2, kLog_l, kLog_idem, List.take_zero, if_true]
        refine AT.vret M_37 rfl rfl ?_
        refine ⟨rfl, ?_⟩
        have r1 := cRel.set (n := n) (K := (kSet (xK X o) 2 s f (kMax (w.1 6) ((xK X o).1 3 s f) + 1))) hp (fun i _ => sSame.set (by decide) i)
        have r2 := cRel.send (n := n) (mLog (kSet (xK X o) 2 s f (kMax (w.1 6) ((xK X o).1 3 s f) + 1)) s f) r1.pr
        rw [r1.k] at r2
        try rw [xK_same]
        rw [show kOnAns (xK X o) s f w = kSend (kSet (xK X o) 2 s f (kMax (w.1 6) ((xK X o).1 3 s f) + 1)) (mLog (kSet (xK X o) 2 s f (kMax (w.1 6) ((xK X o).1 3 s f) + 1)) s f) from (if_pos ⟨Classical.not_not.mp b3, b8⟩).trans (if_pos (Classical.not_not.mp b12))]
        exact r1.tr r2
    · refine AT.vret M_37 rfl rfl ?_
      refine ⟨rfl, ?_⟩
      rw [show kOnAns (xK X o) s f w = xK X o from if_neg (fun z => b8 z.2)]
      exact cRel.rf n hp
