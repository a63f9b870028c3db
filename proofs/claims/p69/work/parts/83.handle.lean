/-! ===== A MESSAGE IS CARRIED OUT ===== -/
section SW
variable {m i pc ln r1 r2 r3 : Nat} {ins : Instr} {ls : PV} {st : List Value} {X : XS} {Q : PO → XS → Prop} {M : PMet}
theorem AT.sw {q : Nat × List Value} {h0 : Nat} (hM : qPT m = M) (hr : M.1[i]? = some (pc, ins, ln, r1, r2, r3)) (hk : pKind ins r1 = 6) (hs : pSw ins pc st = some q) (hi : pIdx M.1 q.1 0 = some h0) (k : AT m h0 ls q.2 X Q) : AT m i ls st X Q := fun g hg => PW.sw hM hr hk hs hi (k g hg)
end SW
def kOnSnd (K : KK) (s : Nat) (w : MSG) : KK := kSend K (mRep w 2 (if sSnd K s w = true then w.1 4 else K.1 5 s 0) (bI (sSnd K s w)) 0)
def kOnCal (K : KK) (s : Nat) (w : MSG) : KK := kSend (kGrant K s w) (mRep w 4 ((kGrant K s w).1 5 s 0) (bI (sGrant K s w)) 0)
def kOnYes (K : KK) (s : Nat) (w : MSG) (rl tm st : Int32) : KK := if sYes K s w rl tm = true then (if sMost (sMem K s) ((kYes K s w).1 16 s 0) = true then kRise (kYes K s w) s st else kYes K s w) else K
/-- the message w of server f is carried out by server s -/
def kGo (K : KK) (s f : Nat) (w : MSG) : KK :=
  if w.1 1 = 1 then kOnSnd K s w else if w.1 1 = 2 then kOnYes K s w 1 (K.1 5 s 0 + 1) 2 else if w.1 1 = 3 then kOnCal K s w else if w.1 1 = 4 then kOnYes K s w 2 (K.1 5 s 0) 3
  else if w.1 1 = 5 then kOnEnt K s w else if w.1 1 = 6 then kOnAns K s f w else if w.1 1 = 7 then kOnSnp K s w else if sHur K s (sMem K s) w = true then kStandA K s else K
def kOnYesN (K : KK) (s : Nat) (w : MSG) (rl tm st : Int32) : Nat := if sYes K s w rl tm = true then (if sMost (sMem K s) ((kYes K s w).1 16 s 0) = true then kRiseN (kYes K s w) s st else 0) else 0
/-- how many begin to lead by it -/
def kGoN (K : KK) (s : Nat) (w : MSG) : Nat :=
  if w.1 1 = 1 then 0 else if w.1 1 = 2 then kOnYesN K s w 1 (K.1 5 s 0 + 1) 2 else if w.1 1 = 3 then 0 else if w.1 1 = 4 then kOnYesN K s w 2 (K.1 5 s 0) 3
  else if w.1 1 = 5 then 0 else if w.1 1 = 6 then 0 else if w.1 1 = 7 then 0 else if sHur K s (sMem K s) w = true then kStandN K s else 0
def kEnter (K : KK) (s : Nat) (w : MSG) : KK := if K.1 5 s 0 < w.1 4 ∧ sBears w = true then kTerm K s (w.1 4) else K
def kLose (K : KK) : KK := kSet K 32 0 0 (K.1 32 0 0 + 1)
/-- does the message arrive -/
def kArr (K : KK) (s f : Nat) : Bool := decide (¬ K.1 4 s 0 = 0) && !sBit (K.1 30 f 0) s
def kDrop (K : KK) (j : Nat) : KK := kNet K (K.2.2.eraseIdx j)
def kHand (K : KK) (j s f : Nat) (w : MSG) : KK := if kArr K s f = true then kGo (kEnter (kDrop K j) s w) s f w else kLose (kDrop K j)
def kHandN (K : KK) (j s f : Nat) (w : MSG) : Nat := if kArr K s f = true then kGoN (kEnter (kDrop K j) s w) s w else 0
/-- what must hold of a message that is carried out -/
def goOk (n : Nat) (K : KK) (s f : Nat) (w : MSG) : Prop :=
  (w.1 1 = 5 → ∃ x6 c8, mEok w x6 c8 ∧ x6 + w.2.2.length ≤ n ∧ (K.1 5 s 0 ≤ w.1 4 → (w.1 6 ≤ (kObey K s (w.1 2)).1 18 s 0 ∨ sHas (kObey K s (w.1 2)) s (w.1 6) (w.1 7) = true) → kAccOk s (kObey K s (w.1 2)) (Int32.ofNat (x6 + 1)) w.2.2)) ∧
  (w.1 1 = 6 → K.1 12 s 0 = 3 → w.1 4 = K.1 5 s 0 → (w.1 5 = 0 → kNx (kSet K 2 s f (kMax (w.1 6) (K.1 3 s f) + 1)) s f) ∧ (¬ w.1 5 = 0 → kNx (kLearn K s f (w.1 6)) s f))
theorem sSame.term (K : KK) (t : Nat) (v : Int32) (s : Nat) : sSame K (kTerm K t v) s := (((sSame.set (by decide) s).tr (sSame.set (by decide) s)).tr (sSame.set (by decide) s)).tr (sSame.set (by decide) s)
theorem kTerm_1 {K : KK} {t a b c : Nat} {v : Int32} (h : ¬ (b = t ∧ (a = 5 ∨ a = 6 ∨ a = 12 ∨ a = 13))) : (kTerm K t v).1 a b c = K.1 a b c := by
  unfold kTerm
  rw [kSet_ne (by omega), kSet_ne (by omega), kSet_ne (by omega), kSet_ne (by omega)]
theorem sSame.enter (K : KK) (t : Nat) (w : MSG) (s : Nat) : sSame K (kEnter K t w) s := by
  unfold kEnter; split
  · exact sSame.term _ _ _ _
  · exact sSame.rf _ _
theorem kEnter_1 {K : KK} {t a b c : Nat} {w : MSG} (h : ¬ (b = t ∧ (a = 5 ∨ a = 6 ∨ a = 12 ∨ a = 13))) : (kEnter K t w).1 a b c = K.1 a b c := by
  unfold kEnter; split
  · exact kTerm_1 h
  · rfl
theorem sSame.grant (K : KK) (t : Nat) (w : MSG) (s : Nat) : sSame K (kGrant K t w) s := by
  unfold kGrant; split
  · exact (sSame.set (by decide) s).tr (sSame.set (by decide) s)
  · exact sSame.rf _ _
theorem sSame.drop (K : KK) (j s : Nat) : sSame K (kDrop K j) s := ⟨rfl, fun _ _ => rfl⟩
theorem c_50x {X : XS} {o s j : Nat} {x y : Int32} (ho : o < 2) (hx : x = Int32.ofNat s) (hs : s < 7) (hy : y = Int32.ofNat j) (hj : j < 7) : RT 50 [some (.ref (aB o + 3)), some (.int x), some (.int y)] X (some (.int (bI (sBit ((xK X o).1 30 s 0) j)))) X := by
  subst hx; subst hy; exact c_50 ho hs hj
theorem c_22z {X : XS} {o s : Nat} : RT 22 [some (.ref (aB o)), some (.ref (aS o s)), some (.int 0), none] X none X := by
  refine AT.iload_n M_22 rfl rfl ?_
  refine AT.ist3 M_22 rfl rfl ?_
  refine AT.iload_n M_22 rfl rfl ?_
  refine AT.iconst M_22 rfl (v := 1) (by decide) ?_
  refine AT.icmp_ne M_22 rfl (fun b4 => ?_) (fun b4 => ?_)
  · refine AT.iload_n M_22 rfl rfl ?_
    refine AT.iconst M_22 rfl (v := 2) (by decide) ?_
    refine AT.icmp_ne M_22 rfl (fun b11 => ?_) (fun b11 => ?_)
    · refine AT.iload_n M_22 rfl rfl ?_
      refine AT.iconst M_22 rfl (v := 3) (by decide) ?_
      refine AT.icmp_ne M_22 rfl (fun b18 => ?_) (fun b18 => ?_)
      · refine AT.vret M_22 rfl rfl ?_
        exact ⟨rfl, rfl⟩
      · exact absurd (Classical.not_not.mp b18) (by decide)
    · exact absurd (Classical.not_not.mp b11) (by decide)
  · exact absurd (Classical.not_not.mp b4) (by decide)
theorem t_30 {X : XS} {o s f n a : Nat} {w : MSG} (ho : o < 2) (hs : s < 7) (hp : mPr X o) (hk : sOk (xK X o) s) (hB : kA (xK X o) s + ((xK X o).2.1 s).length + 1 < 400000) (hn : ((xK X o).2.1 s).length ≤ n) (hh : hnd X o a w) (hf : w.1 2 = Int32.ofNat f) (hf7 : f < 7) (hG : goOk n (xK X o) s f w) (hK8 : w.1 1 = 1 ∨ w.1 1 = 2 ∨ w.1 1 = 3 ∨ w.1 1 = 4 ∨ w.1 1 = 5 ∨ w.1 1 = 6 ∨ w.1 1 = 7 ∨ w.1 1 = 8) (x1 : Int32) (x4 : Option Value) : AT 30 52 [some (.ref (aB o)), some (.int x1), some (.ref a), some (.ref (aS o s)), x4] [] X (fun o' Y => o' = .inl (some (.int 1)) ∧ cRel o n (kGoN (xK X o) s w) (kGoN (xK X o) s w * pF 2) X Y (kGo (xK X o) s f w)) := by
  have hw : xMs X a w := hh.ms ho
  have hwK : ∀ K, xMs (xSetK X o K) a w := fun K => (hh.setK K).ms ho
  have c_32h : RT 32 [some (.ref (aB o)), some (.ref (aS o s)), some (.ref a), none, none] X none (xSend X o (mRep w 2 (if sSnd (xK X o) s w = true then w.1 4 else (xK X o).1 5 s 0) (bI (sSnd (xK X o) s w)) 0)) := by
    have h := c_32 (X := X) ho hs
    unfold xSnd at h
    rw [hh.1, hh.2.1] at h
    exact h
  have c_33h : RT 33 [some (.ref (aB o)), some (.ref (aS o s)), some (.ref a), none, none] X none (xSend (xSetK X o (kGrant (xK X o) s w)) o (mRep w 4 ((kGrant (xK X o) s w).1 5 s 0) (bI (sGrant (xK X o) s w)) 0)) := by
    have h := c_33 (X := X) ho hs
    unfold xCall at h
    rw [hh.1, hh.2.1] at h
    exact h
  rcases hK8 with hkd | hkd | hkd | hkd | hkd | hkd | hkd | hkd
  · refine AT.iconst M_30 rfl (v := 0) (by decide) ?_
    refine AT.ist4 M_30 rfl rfl ?_
    refine AT.aload_n M_30 rfl rfl ?_
    refine AT.f_3_1 M_30 rfl hw ?_
    rw [hkd]
    refine AT.sw (h0 := 57) M_30 rfl rfl rfl rfl ?_
    refine AT.aload_n M_30 rfl rfl ?_
    refine AT.aload_n M_30 rfl rfl ?_
    refine AT.aload_n M_30 rfl rfl ?_
    refine AT.cv30 M_30 rfl M_32 rfl (Nat.le_of_ble_eq_true rfl) (xKd.of (shp_cl (by assumption))) (by decide) c_32h ?_ (Nat.le_of_ble_eq_true rfl) rfl
    refine AT.goto M_30 rfl ?_
    refine AT.aload_n M_30 rfl rfl ?_
    refine AT.aload_n M_30 rfl rfl ?_
    refine AT.iload M_30 rfl rfl ?_
    refine AT.cv30 M_30 rfl M_22 rfl (Nat.le_of_ble_eq_true rfl) (xKd.of (shp_cl (by assumption))) (by decide) c_22z ?_ (Nat.le_of_ble_eq_true rfl) rfl
    refine AT.iconst M_30 rfl (v := 1) (by decide) ?_
    refine AT.zret M_30 rfl rfl (by first | exact Or.inl rfl | exact Or.inr rfl | assumption) ?_
    have hg : kGo (xK X o) s f w = kOnSnd (xK X o) s w := by
      unfold kGo
      rw [hkd]
      exact if_pos rfl
    have hgn : kGoN (xK X o) s w = 0 := by
      unfold kGoN
      rw [hkd]
      exact if_pos rfl
    rw [hg, hgn]
    exact ⟨rfl, (cRel.send (n := n) _ hp).up (by omega) (by omega)⟩
  · refine AT.iconst M_30 rfl (v := 0) (by decide) ?_
    refine AT.ist4 M_30 rfl rfl ?_
    refine AT.aload_n M_30 rfl rfl ?_
    refine AT.f_3_1 M_30 rfl hw ?_
    rw [hkd]
    refine AT.sw (h0 := 62) M_30 rfl rfl rfl rfl ?_
    refine AT.aload_n M_30 rfl rfl ?_
    refine AT.aload_n M_30 rfl rfl ?_
    refine AT.aload_n M_30 rfl rfl ?_
    refine AT.iconst M_30 rfl (v := 1) (by decide) ?_
    refine AT.aload_n M_30 rfl rfl ?_
    refine AT.f_6_5 M_30 rfl (by assumption) (by assumption) ?_
    refine AT.iconst M_30 rfl (v := 1) (by decide) ?_
    refine AT.iadd M_30 rfl rfl ?_
    refine AT.cv5i M_30 rfl M_34 rfl (Nat.le_of_ble_eq_true rfl) (xKd.of (shp_cl (by assumption))) (by decide) (c_34 ho hs hw (hp s hs).1 hk.m128) ?_ (Nat.le_of_ble_eq_true rfl) rfl
    by_cases hy : sYes (xK X o) s w 1 ((xK X o).1 5 s 0 + 1) = true
    · rw [if_pos hy, if_pos hy]
      have hS := (sSame.set (K := xK X o) (f := 16) (i := s) (j := 0) (v := (xK X o).1 16 s 0 ||| ((1 : Int32) <<< (w.1 2 &&& 31))) (by decide))
      have r1 := cRel.set (n := n) (K := (kYes (xK X o) s w)) hp (fun i _ => hS i)
      by_cases hm : sMost (sMem (xK X o) s) ((kYes (xK X o) s w).1 16 s 0) = true
      · refine AT.if_eq M_30 rfl (fun b71 => ?_) (fun b71 => ?_)
        · exact absurd b71 (by rw [hm]; decide)
        · refine AT.iconst M_30 rfl (v := 2) (by decide) ?_
          refine AT.goto M_30 rfl ?_
          refine AT.ist4 M_30 rfl rfl ?_
          refine AT.goto M_30 rfl ?_
          refine AT.aload_n M_30 rfl rfl ?_
          refine AT.aload_n M_30 rfl rfl ?_
          refine AT.iload M_30 rfl rfl ?_
          refine AT.cv3w M_30 rfl M_22 rfl (Nat.le_of_ble_eq_true rfl) (xKd.of (shp_cl (by assumption))) (by decide) (c_22 (n := n) ho hs r1.pr (by rw [xK_same]; exact (hS s).ok (kSet_ne (by omega)) hk) (by rw [xK_same]; exact hB) (by rw [xK_same]; exact hn)) (fun Y hc122 => ?_) (Nat.le_of_ble_eq_true rfl) rfl
          refine AT.iconst M_30 rfl (v := 1) (by decide) ?_
          refine AT.zret M_30 rfl rfl (by first | exact Or.inl rfl | exact Or.inr rfl | assumption) ?_
          have hg : kGo (xK X o) s f w = kOnYes (xK X o) s w 1 ((xK X o).1 5 s 0 + 1) 2 := by
            unfold kGo
            rw [hkd]
            rw [if_neg (by decide)]
            exact if_pos rfl
          have hgn : kGoN (xK X o) s w = kOnYesN (xK X o) s w 1 ((xK X o).1 5 s 0 + 1) 2 := by
            unfold kGoN
            rw [hkd]
            rw [if_neg (by decide)]
            exact if_pos rfl
          rw [hg, hgn]
          rw [show kOnYes (xK X o) s w 1 ((xK X o).1 5 s 0 + 1) 2 = kRise (kYes (xK X o) s w) s 2 from (if_pos hy).trans (if_pos hm), show kOnYesN (xK X o) s w 1 ((xK X o).1 5 s 0 + 1) 2 = kRiseN (kYes (xK X o) s w) s 2 from (if_pos hy).trans (if_pos hm)]
          rw [xK_same] at hc122
          exact ⟨rfl, (r1.tr hc122).up (by omega) (by omega)⟩
      · rw [Bool.eq_false_iff.mpr hm]
        refine AT.if_eq M_30 rfl (fun b71 => ?_) (fun b71 => ?_)
        · refine AT.iconst M_30 rfl (v := 0) (by decide) ?_
          refine AT.ist4 M_30 rfl rfl ?_
          refine AT.goto M_30 rfl ?_
          refine AT.aload_n M_30 rfl rfl ?_
          refine AT.aload_n M_30 rfl rfl ?_
          refine AT.iload M_30 rfl rfl ?_
          refine AT.cv30 M_30 rfl M_22 rfl (Nat.le_of_ble_eq_true rfl) (xKd.of (shp_cl (by assumption))) (by decide) c_22z ?_ (Nat.le_of_ble_eq_true rfl) rfl
          refine AT.iconst M_30 rfl (v := 1) (by decide) ?_
          refine AT.zret M_30 rfl rfl (by first | exact Or.inl rfl | exact Or.inr rfl | assumption) ?_
          have hg : kGo (xK X o) s f w = kOnYes (xK X o) s w 1 ((xK X o).1 5 s 0 + 1) 2 := by
            unfold kGo
            rw [hkd]
            rw [if_neg (by decide)]
            exact if_pos rfl
          have hgn : kGoN (xK X o) s w = kOnYesN (xK X o) s w 1 ((xK X o).1 5 s 0 + 1) 2 := by
            unfold kGoN
            rw [hkd]
            rw [if_neg (by decide)]
            exact if_pos rfl
          rw [hg, hgn]
          rw [show kOnYes (xK X o) s w 1 ((xK X o).1 5 s 0 + 1) 2 = (kYes (xK X o) s w) from (if_pos hy).trans (if_neg hm), show kOnYesN (xK X o) s w 1 ((xK X o).1 5 s 0 + 1) 2 = 0 from (if_pos hy).trans (if_neg hm)]
          exact ⟨rfl, r1.up (by omega) (by omega)⟩
        · exact absurd rfl b71
    · rw [if_neg hy, if_neg hy]
      refine AT.if_eq M_30 rfl (fun b71 => ?_) (fun b71 => ?_)
      · refine AT.iconst M_30 rfl (v := 0) (by decide) ?_
        refine AT.ist4 M_30 rfl rfl ?_
        refine AT.goto M_30 rfl ?_
        refine AT.aload_n M_30 rfl rfl ?_
        refine AT.aload_n M_30 rfl rfl ?_
        refine AT.iload M_30 rfl rfl ?_
        refine AT.cv30 M_30 rfl M_22 rfl (Nat.le_of_ble_eq_true rfl) (xKd.of (shp_cl (by assumption))) (by decide) c_22z ?_ (Nat.le_of_ble_eq_true rfl) rfl
        refine AT.iconst M_30 rfl (v := 1) (by decide) ?_
        refine AT.zret M_30 rfl rfl (by first | exact Or.inl rfl | exact Or.inr rfl | assumption) ?_
        have hg : kGo (xK X o) s f w = kOnYes (xK X o) s w 1 ((xK X o).1 5 s 0 + 1) 2 := by
          unfold kGo
          rw [hkd]
          rw [if_neg (by decide)]
          exact if_pos rfl
        have hgn : kGoN (xK X o) s w = kOnYesN (xK X o) s w 1 ((xK X o).1 5 s 0 + 1) 2 := by
          unfold kGoN
          rw [hkd]
          rw [if_neg (by decide)]
          exact if_pos rfl
        rw [hg, hgn]
        rw [show kOnYes (xK X o) s w 1 ((xK X o).1 5 s 0 + 1) 2 = xK X o from if_neg hy, show kOnYesN (xK X o) s w 1 ((xK X o).1 5 s 0 + 1) 2 = 0 from if_neg hy]
        exact ⟨rfl, (cRel.rf n hp).up (by omega) (by omega)⟩
      · exact absurd rfl b71
  · refine AT.iconst M_30 rfl (v := 0) (by decide) ?_
    refine AT.ist4 M_30 rfl rfl ?_
    refine AT.aload_n M_30 rfl rfl ?_
    refine AT.f_3_1 M_30 rfl hw ?_
    rw [hkd]
    refine AT.sw (h0 := 77) M_30 rfl rfl rfl rfl ?_
    refine AT.aload_n M_30 rfl rfl ?_
    refine AT.aload_n M_30 rfl rfl ?_
    refine AT.aload_n M_30 rfl rfl ?_
    refine AT.cv30 M_30 rfl M_33 rfl (Nat.le_of_ble_eq_true rfl) (xKd.of (shp_cl (by assumption))) (by decide) c_33h ?_ (Nat.le_of_ble_eq_true rfl) rfl
    refine AT.goto M_30 rfl ?_
    refine AT.aload_n M_30 rfl rfl ?_
    refine AT.aload_n M_30 rfl rfl ?_
    refine AT.iload M_30 rfl rfl ?_
    refine AT.cv30 M_30 rfl M_22 rfl (Nat.le_of_ble_eq_true rfl) (xKd.of (shp_cl (by assumption))) (by decide) c_22z ?_ (Nat.le_of_ble_eq_true rfl) rfl
    refine AT.iconst M_30 rfl (v := 1) (by decide) ?_
    refine AT.zret M_30 rfl rfl (by first | exact Or.inl rfl | exact Or.inr rfl | assumption) ?_
    have hg : kGo (xK X o) s f w = kOnCal (xK X o) s w := by
      unfold kGo
      rw [hkd]
      rw [if_neg (by decide)]
      rw [if_neg (by decide)]
      exact if_pos rfl
    have hgn : kGoN (xK X o) s w = 0 := by
      unfold kGoN
      rw [hkd]
      rw [if_neg (by decide)]
      rw [if_neg (by decide)]
      exact if_pos rfl
    rw [hg, hgn]
    have r1 := cRel.set (n := n) (K := kGrant (xK X o) s w) hp (fun i _ => sSame.grant _ _ _ _)
    have r2 := cRel.send (n := n) (mRep w 4 ((kGrant (xK X o) s w).1 5 s 0) (bI (sGrant (xK X o) s w)) 0) r1.pr
    rw [r1.k] at r2
    exact ⟨rfl, (r1.tr r2).up (by omega) (by omega)⟩
  · refine AT.iconst M_30 rfl (v := 0) (by decide) ?_
    refine AT.ist4 M_30 rfl rfl ?_
    refine AT.aload_n M_30 rfl rfl ?_
    refine AT.f_3_1 M_30 rfl hw ?_
    rw [hkd]
    refine AT.sw (h0 := 82) M_30 rfl rfl rfl rfl ?_
    refine AT.aload_n M_30 rfl rfl ?_
    refine AT.aload_n M_30 rfl rfl ?_
    refine AT.aload_n M_30 rfl rfl ?_
    refine AT.iconst M_30 rfl (v := 2) (by decide) ?_
    refine AT.aload_n M_30 rfl rfl ?_
    refine AT.f_6_5 M_30 rfl (by assumption) (by assumption) ?_
    refine AT.cv5i M_30 rfl M_34 rfl (Nat.le_of_ble_eq_true rfl) (xKd.of (shp_cl (by assumption))) (by decide) (c_34 ho hs hw (hp s hs).1 hk.m128) ?_ (Nat.le_of_ble_eq_true rfl) rfl
    by_cases hy : sYes (xK X o) s w 2 ((xK X o).1 5 s 0) = true
    · rw [if_pos hy, if_pos hy]
      have hS := (sSame.set (K := xK X o) (f := 16) (i := s) (j := 0) (v := (xK X o).1 16 s 0 ||| ((1 : Int32) <<< (w.1 2 &&& 31))) (by decide))
      have r1 := cRel.set (n := n) (K := (kYes (xK X o) s w)) hp (fun i _ => hS i)
      by_cases hm : sMost (sMem (xK X o) s) ((kYes (xK X o) s w).1 16 s 0) = true
      · refine AT.if_eq M_30 rfl (fun b89 => ?_) (fun b89 => ?_)
        · exact absurd b89 (by rw [hm]; decide)
        · refine AT.iconst M_30 rfl (v := 3) (by decide) ?_
          refine AT.goto M_30 rfl ?_
          refine AT.ist4 M_30 rfl rfl ?_
          refine AT.goto M_30 rfl ?_
          refine AT.aload_n M_30 rfl rfl ?_
          refine AT.aload_n M_30 rfl rfl ?_
          refine AT.iload M_30 rfl rfl ?_
          refine AT.cv3w M_30 rfl M_22 rfl (Nat.le_of_ble_eq_true rfl) (xKd.of (shp_cl (by assumption))) (by decide) (c_22 (n := n) ho hs r1.pr (by rw [xK_same]; exact (hS s).ok (kSet_ne (by omega)) hk) (by rw [xK_same]; exact hB) (by rw [xK_same]; exact hn)) (fun Y hc122 => ?_) (Nat.le_of_ble_eq_true rfl) rfl
          refine AT.iconst M_30 rfl (v := 1) (by decide) ?_
          refine AT.zret M_30 rfl rfl (by first | exact Or.inl rfl | exact Or.inr rfl | assumption) ?_
          have hg : kGo (xK X o) s f w = kOnYes (xK X o) s w 2 ((xK X o).1 5 s 0) 3 := by
            unfold kGo
            rw [hkd]
            rw [if_neg (by decide)]
            rw [if_neg (by decide)]
            rw [if_neg (by decide)]
            exact if_pos rfl
          have hgn : kGoN (xK X o) s w = kOnYesN (xK X o) s w 2 ((xK X o).1 5 s 0) 3 := by
            unfold kGoN
            rw [hkd]
            rw [if_neg (by decide)]
            rw [if_neg (by decide)]
            rw [if_neg (by decide)]
            exact if_pos rfl
          rw [hg, hgn]
          rw [show kOnYes (xK X o) s w 2 ((xK X o).1 5 s 0) 3 = kRise (kYes (xK X o) s w) s 3 from (if_pos hy).trans (if_pos hm), show kOnYesN (xK X o) s w 2 ((xK X o).1 5 s 0) 3 = kRiseN (kYes (xK X o) s w) s 3 from (if_pos hy).trans (if_pos hm)]
          rw [xK_same] at hc122
          exact ⟨rfl, (r1.tr hc122).up (by omega) (by omega)⟩
      · rw [Bool.eq_false_iff.mpr hm]
        refine AT.if_eq M_30 rfl (fun b89 => ?_) (fun b89 => ?_)
        · refine AT.iconst M_30 rfl (v := 0) (by decide) ?_
          refine AT.ist4 M_30 rfl rfl ?_
          refine AT.goto M_30 rfl ?_
          refine AT.aload_n M_30 rfl rfl ?_
          refine AT.aload_n M_30 rfl rfl ?_
          refine AT.iload M_30 rfl rfl ?_
          refine AT.cv30 M_30 rfl M_22 rfl (Nat.le_of_ble_eq_true rfl) (xKd.of (shp_cl (by assumption))) (by decide) c_22z ?_ (Nat.le_of_ble_eq_true rfl) rfl
          refine AT.iconst M_30 rfl (v := 1) (by decide) ?_
          refine AT.zret M_30 rfl rfl (by first | exact Or.inl rfl | exact Or.inr rfl | assumption) ?_
          have hg : kGo (xK X o) s f w = kOnYes (xK X o) s w 2 ((xK X o).1 5 s 0) 3 := by
            unfold kGo
            rw [hkd]
            rw [if_neg (by decide)]
            rw [if_neg (by decide)]
            rw [if_neg (by decide)]
            exact if_pos rfl
          have hgn : kGoN (xK X o) s w = kOnYesN (xK X o) s w 2 ((xK X o).1 5 s 0) 3 := by
            unfold kGoN
            rw [hkd]
            rw [if_neg (by decide)]
            rw [if_neg (by decide)]
            rw [if_neg (by decide)]
            exact if_pos rfl
          rw [hg, hgn]
          rw [show kOnYes (xK X o) s w 2 ((xK X o).1 5 s 0) 3 = (kYes (xK X o) s w) from (if_pos hy).trans (if_neg hm), show kOnYesN (xK X o) s w 2 ((xK X o).1 5 s 0) 3 = 0 from (if_pos hy).trans (if_neg hm)]
          exact ⟨rfl, r1.up (by omega) (by omega)⟩
        · exact absurd rfl b89
    · rw [if_neg hy, if_neg hy]
      refine AT.if_eq M_30 rfl (fun b89 => ?_) (fun b89 => ?_)
      · refine AT.iconst M_30 rfl (v := 0) (by decide) ?_
        refine AT.ist4 M_30 rfl rfl ?_
        refine AT.goto M_30 rfl ?_
        refine AT.aload_n M_30 rfl rfl ?_
        refine AT.aload_n M_30 rfl rfl ?_
        refine AT.iload M_30 rfl rfl ?_
        refine AT.cv30 M_30 rfl M_22 rfl (Nat.le_of_ble_eq_true rfl) (xKd.of (shp_cl (by assumption))) (by decide) c_22z ?_ (Nat.le_of_ble_eq_true rfl) rfl
        refine AT.iconst M_30 rfl (v := 1) (by decide) ?_
        refine AT.zret M_30 rfl rfl (by first | exact Or.inl rfl | exact Or.inr rfl | assumption) ?_
        have hg : kGo (xK X o) s f w = kOnYes (xK X o) s w 2 ((xK X o).1 5 s 0) 3 := by
          unfold kGo
          rw [hkd]
          rw [if_neg (by decide)]
          rw [if_neg (by decide)]
          rw [if_neg (by decide)]
          exact if_pos rfl
        have hgn : kGoN (xK X o) s w = kOnYesN (xK X o) s w 2 ((xK X o).1 5 s 0) 3 := by
          unfold kGoN
          rw [hkd]
          rw [if_neg (by decide)]
          rw [if_neg (by decide)]
          rw [if_neg (by decide)]
          exact if_pos rfl
        rw [hg, hgn]
        rw [show kOnYes (xK X o) s w 2 ((xK X o).1 5 s 0) 3 = xK X o from if_neg hy, show kOnYesN (xK X o) s w 2 ((xK X o).1 5 s 0) 3 = 0 from if_neg hy]
        exact ⟨rfl, (cRel.rf n hp).up (by omega) (by omega)⟩
      · exact absurd rfl b89
  · obtain ⟨x6, c8, hmE, hnE, hAE⟩ := hG.1 hkd
    refine AT.iconst M_30 rfl (v := 0) (by decide) ?_
    refine AT.ist4 M_30 rfl rfl ?_
    refine AT.aload_n M_30 rfl rfl ?_
    refine AT.f_3_1 M_30 rfl hw ?_
    rw [hkd]
    refine AT.sw (h0 := 95) M_30 rfl rfl rfl rfl ?_
    refine AT.aload_n M_30 rfl rfl ?_
    refine AT.aload_n M_30 rfl rfl ?_
    refine AT.aload_n M_30 rfl rfl ?_
    refine AT.cv3w M_30 rfl M_35 rfl (Nat.le_of_ble_eq_true rfl) (xKd.of (shp_cl (by assumption))) (by decide) (c_35 ho hs hmE hnE hp hk hh hn hAE) (fun Y hc98 => ?_) (Nat.le_of_ble_eq_true rfl) rfl
    refine AT.goto M_30 rfl ?_
    refine AT.aload_n M_30 rfl rfl ?_
    refine AT.aload_n M_30 rfl rfl ?_
    refine AT.iload M_30 rfl rfl ?_
    refine AT.cv30 M_30 rfl M_22 rfl (Nat.le_of_ble_eq_true rfl) (xKd.of (shp_cl (by assumption))) (by decide) c_22z ?_ (Nat.le_of_ble_eq_true rfl) rfl
    refine AT.iconst M_30 rfl (v := 1) (by decide) ?_
    refine AT.zret M_30 rfl rfl (by first | exact Or.inl rfl | exact Or.inr rfl | assumption) ?_
    have hg : kGo (xK X o) s f w = kOnEnt (xK X o) s w := by
      unfold kGo
      rw [hkd]
      rw [if_neg (by decide)]
      rw [if_neg (by decide)]
      rw [if_neg (by decide)]
      rw [if_neg (by decide)]
      exact if_pos rfl
    have hgn : kGoN (xK X o) s w = 0 := by
      unfold kGoN
      rw [hkd]
      rw [if_neg (by decide)]
      rw [if_neg (by decide)]
      rw [if_neg (by decide)]
      rw [if_neg (by decide)]
      exact if_pos rfl
    rw [hg, hgn]
    exact ⟨rfl, hc98.up (by omega) (by omega)⟩
  · refine AT.iconst M_30 rfl (v := 0) (by decide) ?_
    refine AT.ist4 M_30 rfl rfl ?_
    refine AT.aload_n M_30 rfl rfl ?_
    refine AT.f_3_1 M_30 rfl hw ?_
    rw [hkd]
    refine AT.sw (h0 := 100) M_30 rfl rfl rfl rfl ?_
    refine AT.aload_n M_30 rfl rfl ?_
    refine AT.aload_n M_30 rfl rfl ?_
    refine AT.aload_n M_30 rfl rfl ?_
    refine AT.cv3w M_30 rfl M_37 rfl (Nat.le_of_ble_eq_true rfl) (xKd.of (shp_cl (by assumption))) (by decide) (c_37 (n := n) ho hs hp hk hh hf hf7 (hG.2 hkd)) (fun Y hc103 => ?_) (Nat.le_of_ble_eq_true rfl) rfl
    refine AT.goto M_30 rfl ?_
    refine AT.aload_n M_30 rfl rfl ?_
    refine AT.aload_n M_30 rfl rfl ?_
    refine AT.iload M_30 rfl rfl ?_
    refine AT.cv30 M_30 rfl M_22 rfl (Nat.le_of_ble_eq_true rfl) (xKd.of (shp_cl (by assumption))) (by decide) c_22z ?_ (Nat.le_of_ble_eq_true rfl) rfl
    refine AT.iconst M_30 rfl (v := 1) (by decide) ?_
    refine AT.zret M_30 rfl rfl (by first | exact Or.inl rfl | exact Or.inr rfl | assumption) ?_
    have hg : kGo (xK X o) s f w = kOnAns (xK X o) s f w := by
      unfold kGo
      rw [hkd]
      rw [if_neg (by decide)]
      rw [if_neg (by decide)]
      rw [if_neg (by decide)]
      rw [if_neg (by decide)]
      rw [if_neg (by decide)]
      exact if_pos rfl
    have hgn : kGoN (xK X o) s w = 0 := by
      unfold kGoN
      rw [hkd]
      rw [if_neg (by decide)]
      rw [if_neg (by decide)]
      rw [if_neg (by decide)]
      rw [if_neg (by decide)]
      rw [if_neg (by decide)]
      exact if_pos rfl
    rw [hg, hgn]
    exact ⟨rfl, hc103.up (by omega) (by omega)⟩
  · refine AT.iconst M_30 rfl (v := 0) (by decide) ?_
    refine AT.ist4 M_30 rfl rfl ?_
    refine AT.aload_n M_30 rfl rfl ?_
    refine AT.f_3_1 M_30 rfl hw ?_
    rw [hkd]
    refine AT.sw (h0 := 105) M_30 rfl rfl rfl rfl ?_
    refine AT.aload_n M_30 rfl rfl ?_
    refine AT.aload_n M_30 rfl rfl ?_
    refine AT.aload_n M_30 rfl rfl ?_
    refine AT.cv3w M_30 rfl M_36 rfl (Nat.le_of_ble_eq_true rfl) (xKd.of (shp_cl (by assumption))) (by decide) (c_36 (n := n) ho hs hp hk hh) (fun Y hc108 => ?_) (Nat.le_of_ble_eq_true rfl) rfl
    refine AT.goto M_30 rfl ?_
    refine AT.aload_n M_30 rfl rfl ?_
    refine AT.aload_n M_30 rfl rfl ?_
    refine AT.iload M_30 rfl rfl ?_
    refine AT.cv30 M_30 rfl M_22 rfl (Nat.le_of_ble_eq_true rfl) (xKd.of (shp_cl (by assumption))) (by decide) c_22z ?_ (Nat.le_of_ble_eq_true rfl) rfl
    refine AT.iconst M_30 rfl (v := 1) (by decide) ?_
    refine AT.zret M_30 rfl rfl (by first | exact Or.inl rfl | exact Or.inr rfl | assumption) ?_
    have hg : kGo (xK X o) s f w = kOnSnp (xK X o) s w := by
      unfold kGo
      rw [hkd]
      rw [if_neg (by decide)]
      rw [if_neg (by decide)]
      rw [if_neg (by decide)]
      rw [if_neg (by decide)]
      rw [if_neg (by decide)]
      rw [if_neg (by decide)]
      exact if_pos rfl
    have hgn : kGoN (xK X o) s w = 0 := by
      unfold kGoN
      rw [hkd]
      rw [if_neg (by decide)]
      rw [if_neg (by decide)]
      rw [if_neg (by decide)]
      rw [if_neg (by decide)]
      rw [if_neg (by decide)]
      rw [if_neg (by decide)]
      exact if_pos rfl
    rw [hg, hgn]
    exact ⟨rfl, hc108.up (by omega) (by omega)⟩
  · refine AT.iconst M_30 rfl (v := 0) (by decide) ?_
    refine AT.ist4 M_30 rfl rfl ?_
    refine AT.aload_n M_30 rfl rfl ?_
    refine AT.f_3_1 M_30 rfl hw ?_
    rw [hkd]
    refine AT.sw (h0 := 110) M_30 rfl rfl rfl rfl ?_
    refine AT.aload_n M_30 rfl rfl ?_
    refine AT.aload_n M_30 rfl rfl ?_
    refine AT.aload_n M_30 rfl rfl ?_
    refine AT.cv3i M_30 rfl M_38 rfl (Nat.le_of_ble_eq_true rfl) (xKd.of (shp_cl (by assumption))) (by decide) (c_38 ho hs hw (hp s hs).1) ?_ (Nat.le_of_ble_eq_true rfl) rfl
    refine AT.if_eq M_30 rfl (fun b114 => ?_) (fun b114 => ?_)
    · refine AT.iconst M_30 rfl (v := 0) (by decide) ?_
      refine AT.ist4 M_30 rfl rfl ?_
      refine AT.aload_n M_30 rfl rfl ?_
      refine AT.aload_n M_30 rfl rfl ?_
      refine AT.iload M_30 rfl rfl ?_
      refine AT.cv30 M_30 rfl M_22 rfl (Nat.le_of_ble_eq_true rfl) (xKd.of (shp_cl (by assumption))) (by decide) c_22z ?_ (Nat.le_of_ble_eq_true rfl) rfl
      refine AT.iconst M_30 rfl (v := 1) (by decide) ?_
      refine AT.zret M_30 rfl rfl (by first | exact Or.inl rfl | exact Or.inr rfl | assumption) ?_
      have hg : kGo (xK X o) s f w = xK X o := by
        unfold kGo
        rw [hkd]
        rw [if_neg (by decide)]
        rw [if_neg (by decide)]
        rw [if_neg (by decide)]
        rw [if_neg (by decide)]
        rw [if_neg (by decide)]
        rw [if_neg (by decide)]
        rw [if_neg (by decide)]
        exact if_neg (by rw [bI_eq0.mp b114]; decide)
      have hgn : kGoN (xK X o) s w = 0 := by
        unfold kGoN
        rw [hkd]
        rw [if_neg (by decide)]
        rw [if_neg (by decide)]
        rw [if_neg (by decide)]
        rw [if_neg (by decide)]
        rw [if_neg (by decide)]
        rw [if_neg (by decide)]
        rw [if_neg (by decide)]
        exact if_neg (by rw [bI_eq0.mp b114]; decide)
      rw [hg, hgn]
      exact ⟨rfl, (cRel.rf n hp).up (by omega) (by omega)⟩
    · refine AT.iconst M_30 rfl (v := 2) (by decide) ?_
      refine AT.goto M_30 rfl ?_
      refine AT.ist4 M_30 rfl rfl ?_
      refine AT.aload_n M_30 rfl rfl ?_
      refine AT.aload_n M_30 rfl rfl ?_
      refine AT.iload M_30 rfl rfl ?_
      refine AT.cv3w M_30 rfl M_22 rfl (Nat.le_of_ble_eq_true rfl) (xKd.of (shp_cl (by assumption))) (by decide) (c_22 (n := n) ho hs hp hk hB hn) (fun Y hc122 => ?_) (Nat.le_of_ble_eq_true rfl) rfl
      refine AT.iconst M_30 rfl (v := 1) (by decide) ?_
      refine AT.zret M_30 rfl rfl (by first | exact Or.inl rfl | exact Or.inr rfl | assumption) ?_
      have hg : kGo (xK X o) s f w = kStandA (xK X o) s := by
        unfold kGo
        rw [hkd]
        rw [if_neg (by decide)]
        rw [if_neg (by decide)]
        rw [if_neg (by decide)]
        rw [if_neg (by decide)]
        rw [if_neg (by decide)]
        rw [if_neg (by decide)]
        rw [if_neg (by decide)]
        exact if_pos (bI_ne0.mp b114)
      have hgn : kGoN (xK X o) s w = kStandN (xK X o) s := by
        unfold kGoN
        rw [hkd]
        rw [if_neg (by decide)]
        rw [if_neg (by decide)]
        rw [if_neg (by decide)]
        rw [if_neg (by decide)]
        rw [if_neg (by decide)]
        rw [if_neg (by decide)]
        rw [if_neg (by decide)]
        exact if_pos (bI_ne0.mp b114)
      rw [hg, hgn]
      exact ⟨rfl, hc122⟩
theorem cRel0.up0 {o n c z c' z' : Nat} {X Y : XS} {K : KK} (h : cRel0 o n c z X Y K) (hc : c ≤ c') (hz : z ≤ z') : cRel0 o n c' z' X Y K := ⟨h.1, h.2.1, h.2.2.1.up hc hz, h.2.2.2⟩
theorem Rep.row {X : XS} {g : PS} (h : Rep X g) {o j : Nat} {u : MSG} (ho : o < 2) (hu : (xK X o).2.2[j]? = some u) : dH (xD X) o (dP (xD X) o j) = u := (h.2.2.2.2.2.2.2.2.2.2.2.2.1 o ho).2.2.2.2.2 j u hu
theorem t_30a {X : XS} {o s f n a j : Nat} {w : MSG} {x1 : Int32} (ho : o < 2) (hs : s < 7) (hp : mPr X o) (hk : sOk (xK X o) s) (hB : kA (xK X o) s + ((xK X o).2.1 s).length + 1 < 400000) (hn : ((xK X o).2.1 s).length ≤ n) (hh : hnd X o a w) (h3 : w.1 3 = Int32.ofNat s) (hf : w.1 2 = Int32.ofNat f) (hf7 : f < 7) (hG : goOk n (kEnter (xK X o) s w) s f w)
    (hK8 : w.1 1 = 1 ∨ w.1 1 = 2 ∨ w.1 1 = 3 ∨ w.1 1 = 4 ∨ w.1 1 = 5 ∨ w.1 1 = 6 ∨ w.1 1 = 7 ∨ w.1 1 = 8) : AT 30 13 [some (.ref (aB o)), some (.int x1), none, none, none] [.ref a] X (fun o' Y => o' = .inl (some (.int (bI (kArr (xK X o) s f)))) ∧ cRel o n (if kArr (xK X o) s f = true then kGoN (kEnter (xK X o) s w) s w else 0) ((if kArr (xK X o) s f = true then kGoN (kEnter (xK X o) s w) s w else 0) * pF 2) X Y (if kArr (xK X o) s f = true then kGo (kEnter (xK X o) s w) s f w else kLose (xK X o))) := by
  have hw : xMs X a w := hh.ms ho
  have hwK : ∀ K, xMs (xSetK X o K) a w := fun K => (hh.setK K).ms ho
  refine AT.ast2 M_30 rfl rfl ?_
  refine AT.aload_n M_30 rfl rfl ?_
  refine AT.f_1_0 M_30 rfl (by assumption) ?_
  refine AT.aload_n M_30 rfl rfl ?_
  refine AT.f_3_3 M_30 rfl (by first | exact hw | exact hwK _) ?_
  refine AT.a_svs M_30 rfl h3 (by assumption) (by assumption) ?_
  refine AT.ast3 M_30 rfl rfl ?_
  refine AT.aload_n M_30 rfl rfl ?_
  refine AT.f_6_4 M_30 rfl (by assumption) (by assumption) ?_
  refine AT.if_eq M_30 rfl (fun b22 => ?_) (fun b22 => ?_)
  · refine AT.aload_n M_30 rfl rfl ?_
    refine AT.f_1_2 M_30 rfl (by assumption) ?_
    refine AT.dup M_30 rfl ?_
    refine AT.f_4_5 M_30 rfl (by assumption) ?_
    refine AT.iconst M_30 rfl (v := 1) (by decide) ?_
    refine AT.iadd M_30 rfl rfl ?_
    refine AT.p_4_5 M_30 rfl (by assumption) ?_
    refine AT.iconst M_30 rfl (v := 0) (by decide) ?_
    refine AT.zret M_30 rfl rfl (by first | exact Or.inl rfl | exact Or.inr rfl | assumption) ?_
    rw [show kArr (xK X o) s f = false from by unfold kArr; rw [decide_eq_false (not_not_intro b22)]; rfl]
    refine ⟨rfl, ?_⟩
    exact (cRel.set (n := n) hp (fun i _ => sSame.set (by decide) i)).up (by omega) (by omega)
  · refine AT.aload_n M_30 rfl rfl ?_
    refine AT.f_1_2 M_30 rfl (by assumption) ?_
    refine AT.aload_n M_30 rfl rfl ?_
    refine AT.f_3_2 M_30 rfl (by first | exact hw | exact hwK _) ?_
    refine AT.aload_n M_30 rfl rfl ?_
    refine AT.f_3_3 M_30 rfl (by first | exact hw | exact hwK _) ?_
    refine AT.cv3i M_30 rfl M_50 rfl (Nat.le_of_ble_eq_true rfl) (xKd.of (shp_net (by assumption))) (by decide) (c_50x ho hf hf7 h3 hs) ?_ (Nat.le_of_ble_eq_true rfl) rfl
    refine AT.if_eq M_30 rfl (fun b30 => ?_) (fun b30 => ?_)
    · refine AT.aload_n M_30 rfl rfl ?_
      refine AT.f_3_4 M_30 rfl (by first | exact hw | exact hwK _) ?_
      refine AT.aload_n M_30 rfl rfl ?_
      refine AT.f_6_5 M_30 rfl (by assumption) (by assumption) ?_
      refine AT.icmp_le M_30 rfl (fun b44 => ?_) (fun b44 => ?_)
      · rw [show kArr (xK X o) s f = true from by unfold kArr; rw [decide_eq_true b22, bI_eq0.mp b30]; rfl]
        have e : kEnter (xK X o) s w = xK X o := if_neg (fun z => absurd b44 (Int32.not_le.mpr z.1))
        rw [e] at hG ⊢
        exact t_30 ho hs hp hk hB hn hh hf hf7 hG hK8 _ _
      · refine AT.aload_n M_30 rfl rfl ?_
        refine AT.cv1i M_30 rfl M_46 rfl (Nat.le_of_ble_eq_true rfl) (fun g hg => (hw g hg).1) (by decide) (c_46 hw) ?_ (Nat.le_of_ble_eq_true rfl) rfl
        refine AT.if_eq M_30 rfl (fun b47 => ?_) (fun b47 => ?_)
        · rw [show kArr (xK X o) s f = true from by unfold kArr; rw [decide_eq_true b22, bI_eq0.mp b30]; rfl]
          have e : kEnter (xK X o) s w = xK X o := if_neg (fun z => by rw [bI_eq0.mp b47] at z; exact absurd z.2 (by decide))
          rw [e] at hG ⊢
          exact t_30 ho hs hp hk hB hn hh hf hf7 hG hK8 _ _
        · refine AT.aload_n M_30 rfl rfl ?_
          refine AT.aload_n M_30 rfl rfl ?_
          refine AT.f_3_4 M_30 rfl (by first | exact hw | exact hwK _) ?_
          refine AT.cv20 M_30 rfl M_85 rfl (Nat.le_of_ble_eq_true rfl) (xKd.of (shp_sv (by assumption) (by assumption))) (by decide) (c_85 ho hs) ?_ (Nat.le_of_ble_eq_true rfl) rfl
          rw [show kArr (xK X o) s f = true from by unfold kArr; rw [decide_eq_true b22, bI_eq0.mp b30]; rfl]
          have e : kEnter (xK X o) s w = kTerm (xK X o) s (w.1 4) := if_pos ⟨Int32.not_le.mp b44, bI_ne0.mp b47⟩
          rw [e] at hG ⊢
          have r1 := cRel.set (n := n) (K := kTerm (xK X o) s (w.1 4)) hp (fun i _ => sSame.term _ _ _ _)
          have h := t_30 (X := xSetK X o (kTerm (xK X o) s (w.1 4))) ho hs r1.pr (by rw [xK_same]; exact (sSame.term _ _ _ _).ok (kTerm_1 (by omega)) hk) (by rw [xK_same]; exact hB) (by rw [xK_same]; exact hn) (hh.setK _) hf hf7 (by rw [xK_same]; exact hG) hK8 x1 none
          rw [xK_same] at h
          refine AT.mono h ?_
          rintro o' Y ⟨h1, h2⟩
          exact ⟨h1, (r1.tr h2).up (by rw [if_pos rfl, Nat.zero_add]; exact Nat.le_refl _) (by rw [if_pos rfl, Nat.zero_add]; exact Nat.le_refl _)⟩
    · refine AT.aload_n M_30 rfl rfl ?_
      refine AT.f_1_2 M_30 rfl (by assumption) ?_
      refine AT.dup M_30 rfl ?_
      refine AT.f_4_5 M_30 rfl (by assumption) ?_
      refine AT.iconst M_30 rfl (v := 1) (by decide) ?_
      refine AT.iadd M_30 rfl rfl ?_
      refine AT.p_4_5 M_30 rfl (by assumption) ?_
      refine AT.iconst M_30 rfl (v := 0) (by decide) ?_
      refine AT.zret M_30 rfl rfl (by first | exact Or.inl rfl | exact Or.inr rfl | assumption) ?_
      rw [show kArr (xK X o) s f = false from by unfold kArr; rw [bI_ne0.mp b30]; exact Bool.and_false _]
      refine ⟨rfl, ?_⟩
      exact (cRel.set (n := n) hp (fun i _ => sSame.set (by decide) i)).up (by omega) (by omega)
theorem c_30 {X : XS} {o s f n j : Nat} {w : MSG} (ho : o < 2) (hs : s < 7) (hp : mPr X o) (hk : sOk (xK X o) s) (hB : kA (xK X o) s + ((xK X o).2.1 s).length + 1 < 400000) (hn : ((xK X o).2.1 s).length ≤ n) (hj : j < (xK X o).2.2.length) (hu : (xK X o).2.2[j]? = some w) (h3 : w.1 3 = Int32.ofNat s) (hf : w.1 2 = Int32.ofNat f) (hf7 : f < 7) (hG : goOk n (kEnter (kDrop (xK X o) j) s w) s f w)
    (hK8 : w.1 1 = 1 ∨ w.1 1 = 2 ∨ w.1 1 = 3 ∨ w.1 1 = 4 ∨ w.1 1 = 5 ∨ w.1 1 = 6 ∨ w.1 1 = 7 ∨ w.1 1 = 8) : RU 30 [some (.ref (aB o)), some (.int (Int32.ofNat j)), none, none, none] X (some (.int (bI (kArr (xK X o) s f)))) (fun Y => cRel0 o n (kHandN (xK X o) j s f w) (kHandN (xK X o) j s f w * pF 2) X Y (kHand (xK X o) j s f w)) := by
  refine AT.rep (fun hr => ?_)
  have hn60 := hr.choose_spec.n60 (o := o) (by omega)
  refine AT.iload_n M_30 rfl rfl ?_
  refine AT.if_lt M_30 rfl (fun b1 => ?_) (fun b1 => ?_)
  · exact absurd b1 (i32_ix (by omega)).2
  · refine AT.iload_n M_30 rfl rfl ?_
    refine AT.aload_n M_30 rfl rfl ?_
    refine AT.f_1_2 M_30 rfl (by assumption) ?_
    refine AT.f_4_3 M_30 rfl (by assumption) ?_
    refine AT.icmp_lt M_30 rfl (fun b6 => ?_) (fun b6 => ?_)
    · refine AT.aload_n M_30 rfl rfl ?_
      refine AT.f_1_2 M_30 rfl (by assumption) ?_
      refine AT.iload_n M_30 rfl rfl ?_
      refine AT.cv2i M_30 rfl M_54 rfl (Nat.le_of_ble_eq_true rfl) (xKd.of (shp_net (by assumption))) (by decide) (c_54w ho hj) ?_ (Nat.le_of_ble_eq_true rfl) rfl
      refine AT.rep (fun hr1 => ?_)
      generalize hX1 : xSetK (xSetD X (dSetP (xD X) o (fun k => dP (xD X) o (sgT (xK X o).2.2.length j k)))) o (kNet (xK X o) ((xK X o).2.2.eraseIdx j)) = X1 at hr1 ⊢
      have hK1 : xK X1 o = kDrop (xK X o) j := by rw [← hX1]; exact xK_same _ _ _
      have hh1 : hnd X1 o (aM o (dP (xD X) o j)) w := by
        refine ⟨?_, ?_, hr1.choose_spec.inj ho⟩
        · rw [← hX1]; show aM o (dP (dSetP (xD X) o _) o 60) = _
          rw [show dP (dSetP (xD X) o (fun k => dP (xD X) o (sgT (xK X o).2.2.length j k))) o 60 = dP (xD X) o (sgT (xK X o).2.2.length j 60) from if_pos rfl, show sgT (xK X o).2.2.length j 60 = j from if_pos rfl]
        · rw [← hX1]; show dH (xD X) o (dP (dSetP (xD X) o _) o 60) = _
          rw [show dP (dSetP (xD X) o (fun k => dP (xD X) o (sgT (xK X o).2.2.length j k))) o 60 = dP (xD X) o (sgT (xK X o).2.2.length j 60) from if_pos rfl, show sgT (xK X o).2.2.length j 60 = j from if_pos rfl]
          exact hr.choose_spec.row ho hu
      have r1 : cRel0 o n 0 0 X X1 (kDrop (xK X o) j) := by
        rw [← hX1]
        exact ⟨rfl, fun a => rfl, ⟨fun _ _ _ => rfl, fun _ _ _ _ _ => rfl, Nat.le_refl _, Nat.le_refl _, fun _ _ => ⟨Nat.le_refl _, Or.inl (Nat.le_refl _)⟩⟩, fun i hi => by rw [xK_same]; exact hp i hi⟩
      refine AT.mono (t_30a (j := j) (x1 := Int32.ofNat j) ho hs r1.2.2.2 (by rw [hK1]; exact (sSame.drop _ _ _).ok rfl hk) (by rw [hK1]; exact hB) (by rw [hK1]; exact hn) hh1 h3 hf hf7 (by rw [hK1]; exact hG) hK8) ?_
      rintro o' Y ⟨h1, h2⟩
      rw [hK1] at h1 h2
      exact ⟨h1, (r1.tr h2.1).up0 (by rw [Nat.zero_add]; exact Nat.le_refl _) (by rw [Nat.zero_add]; exact Nat.le_refl _)⟩
    · exact absurd ((i32_lt (by omega) (by omega)).mpr hj) b6
