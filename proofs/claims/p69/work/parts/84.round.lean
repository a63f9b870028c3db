/-! ===== A ROUND ===== -/
def kBeat (K : KK) (i : Nat) : KK := kSet K 17 i 0 (K.1 17 i 0 + 1)
def kWait (K : KK) (i : Nat) : KK := kSet K 14 i 0 (K.1 14 i 0 + 1)
/-- server i has its turn in a round -/
def kTurn1 (K : KK) (i : Nat) : KK :=
  if ¬ K.1 4 i 0 = 0 ∧ K.1 12 i 0 = 3 then (if (kBeat K i).1 17 i 0 - (kBeat K i).1 17 i 0 / 2 * 2 = 0 then kSnd (kBeat K i) i else kBeat K i)
  else if ¬ K.1 4 i 0 = 0 ∧ sBit (sMem K i) i = true then (if (kWait K i).1 14 i 0 < sPat i (K.1 5 i 0) then kWait K i else kSoundA (kWait K i) i) else K
def kTurn1N (K : KK) (i : Nat) : Nat :=
  if ¬ K.1 4 i 0 = 0 ∧ K.1 12 i 0 = 3 then 0
  else if ¬ K.1 4 i 0 = 0 ∧ sBit (sMem K i) i = true then (if (kWait K i).1 14 i 0 < sPat i (K.1 5 i 0) then 0 else kSoundN (kWait K i) i) else 0
def kTurnsF : Nat → Nat → KK → KK
  | 0, _, K => K
  | n + 1, q, K => kTurnsF n (q + 1) (kTurn1 K q)
def kTurnsN : Nat → Nat → KK → Nat
  | 0, _, _ => 0
  | n + 1, q, K => kTurn1N K q + kTurnsN n (q + 1) (kTurn1 K q)
def mS (w : MSG) : Nat := (w.1 3).toNatClampNeg
def mF (w : MSG) : Nat := (w.1 2).toNatClampNeg
/-- the first message is carried out -/
def kHand0 (K : KK) : KK := match K.2.2 with | [] => K | w :: _ => kHand K 0 (mS w) (mF w) w
def kHand0N (K : KK) : Nat := match K.2.2 with | [] => 0 | w :: _ => kHandN K 0 (mS w) (mF w) w
def kHandsF : Nat → KK → KK
  | 0, K => K
  | n + 1, K => kHandsF n (kHand0 K)
def kHandsN : Nat → KK → Nat
  | 0, _ => 0
  | n + 1, K => kHand0N K + kHandsN n (kHand0 K)
def kTick (K : KK) : KK := kSet K 33 0 0 (K.1 33 0 0 + 1)
def kRound (K : KK) : KK := kTick (kHandsF (kTurnsF 7 0 K).2.2.length (kTurnsF 7 0 K))
def kRoundN (K : KK) : Nat := kTurnsN 7 0 K + kHandsN (kTurnsF 7 0 K).2.2.length (kTurnsF 7 0 K)
/-- a message that can be: from and to whom, its kind -/
def mWf (w : MSG) : Prop := w.1 3 = Int32.ofNat (mS w) ∧ mS w < 7 ∧ w.1 2 = Int32.ofNat (mF w) ∧ mF w < 7 ∧ (w.1 1 = 1 ∨ w.1 1 = 2 ∨ w.1 1 = 3 ∨ w.1 1 = 4 ∨ w.1 1 = 5 ∨ w.1 1 = 6 ∨ w.1 1 = 7 ∨ w.1 1 = 8)
/-- all that a step asks for -/
def kFit (n : Nat) (K : KK) : Prop := (∀ s, s < 7 → sOk K s ∧ kA K s + (K.2.1 s).length + 1 < 400000 ∧ (K.2.1 s).length ≤ n ∧ (K.1 12 s 0 = 3 → ∀ q, q < 7 → kNx K s q)) ∧
  ∀ j w, K.2.2[j]? = some w → mWf w ∧ goOk n (kEnter (kDrop K j) (mS w) w) (mS w) (mF w) w
/-- J k: what holds as long as k steps more can go by -/
def kInv (n : Nat) (J : Nat → KK → Prop) : Prop := (∀ k K, J k K → kFit n K) ∧ (∀ k K i, i < 7 → J (k + 1) K → J k (kTurn1 K i)) ∧ (∀ k K, J (k + 1) K → J k (kHand0 K)) ∧ (∀ k K, J (k + 1) K → J k (kTick K)) ∧ ∀ k K, J (k + 1) K → J k K
theorem kInv.le {n : Nat} {J : Nat → KK → Prop} (hJ : kInv n J) {K : KK} {b : Nat} : ∀ {a : Nat}, J a K → b ≤ a → J b K
  | 0, h, hb => by rw [show b = 0 by omega]; exact h
  | a + 1, h, hb => by
    by_cases e : b = a + 1
    · rw [e]; exact h
    · exact kInv.le hJ (hJ.2.2.2.2 a K h) (by omega)
theorem c_30e {X : XS} {o : Nat} (ho : o < 2) (h : (xK X o).2.2 = []) : RT 30 [some (.ref (aB o)), some (.int 0), none, none, none] X (some (.int 0)) X := by
  refine AT.iload_n M_30 rfl rfl ?_
  refine AT.if_lt M_30 rfl (fun b1 => ?_) (fun b1 => ?_)
  · exact absurd b1 (by decide)
  · refine AT.iload_n M_30 rfl rfl ?_
    refine AT.aload_n M_30 rfl rfl ?_
    refine AT.f_1_2 M_30 rfl (by assumption) ?_
    refine AT.f_4_3 M_30 rfl (by assumption) ?_
    refine AT.icmp_lt M_30 rfl (fun b6 => ?_) (fun b6 => ?_)
    · exact absurd b6 (by rw [h]; decide)
    · refine AT.iconst M_30 rfl (v := 0) (by decide) ?_
      refine AT.zret M_30 rfl rfl (by first | exact Or.inl rfl | exact Or.inr rfl | assumption) ?_
      exact ⟨rfl, rfl⟩
theorem t_21 {X : XS} {o q n : Nat} {Q : PO → XS → Prop} (ho : o < 2) (hq7 : q < 7) (hp : mPr X o) (hk : sOk (xK X o) q) (hB : kA (xK X o) q + ((xK X o).2.1 q).length + 1 < 400000) (hn : ((xK X o).2.1 q).length ≤ n) (hN : (xK X o).1 12 q 0 = 3 → ∀ j, j < 7 → kNx (xK X o) q j)
    (hC : ∀ Y, cRel o n (kTurn1N (xK X o) q) (kTurn1N (xK X o) q * pF 2) X Y (kTurn1 (xK X o) q) → ∀ x4 : Option Value, AT 21 61 [some (.ref (aB o)), some (.ref (aB o + 1)), some (.int (Int32.ofNat 7)), some (.int (Int32.ofNat q)), x4] [] Y Q) (x4 : Option Value) :
    AT 21 11 [some (.ref (aB o)), some (.ref (aB o + 1)), some (.int (Int32.ofNat 7)), some (.int (Int32.ofNat q)), x4] [] X Q := by
  refine AT.aload_n M_21 rfl rfl ?_
  refine AT.iload_n M_21 rfl rfl ?_
  refine AT.a_svs M_21 rfl rfl (by assumption) (by assumption) ?_
  refine AT.ast4 M_21 rfl rfl ?_
  refine AT.aload M_21 rfl rfl ?_
  refine AT.f_6_4 M_21 rfl (by assumption) (by assumption) ?_
  refine AT.if_eq M_21 rfl (fun b17 => ?_) (fun b17 => ?_)
  · refine AT.aload M_21 rfl rfl ?_
    refine AT.f_6_4 M_21 rfl (by assumption) (by assumption) ?_
    refine AT.if_eq M_21 rfl (fun b40 => ?_) (fun b40 => ?_)
    · rw [show kTurn1 (xK X o) q = xK X o from (if_neg (fun z => z.1 b17)).trans (if_neg (fun z => z.1 b40)), show kTurn1N (xK X o) q = 0 from (if_neg (fun z => z.1 b17)).trans (if_neg (fun z => z.1 b40))] at hC
      exact hC _ ((cRel.rf n hp).up (by omega) (by omega)) _
    · refine AT.aload M_21 rfl rfl ?_
      refine AT.cv1i M_21 rfl M_67 rfl (Nat.le_of_ble_eq_true rfl) (xKd.of (shp_sv (by assumption) (by assumption))) (by decide) (c_67 ho hq7 (hp q hq7).1) ?_ (Nat.le_of_ble_eq_true rfl) rfl
      refine AT.if_eq M_21 rfl (fun b43 => ?_) (fun b43 => ?_)
      · rw [show kTurn1 (xK X o) q = xK X o from (if_neg (fun z => z.1 b17)).trans (if_neg (fun z => by rw [bI_eq0.mp b43] at z; exact absurd z.2 (by decide))), show kTurn1N (xK X o) q = 0 from (if_neg (fun z => z.1 b17)).trans (if_neg (fun z => by rw [bI_eq0.mp b43] at z; exact absurd z.2 (by decide)))] at hC
        exact hC _ ((cRel.rf n hp).up (by omega) (by omega)) _
      · refine AT.aload M_21 rfl rfl ?_
        refine AT.dup M_21 rfl ?_
        refine AT.f_6_14 M_21 rfl (by assumption) (by assumption) ?_
        refine AT.iconst M_21 rfl (v := 1) (by decide) ?_
        refine AT.iadd M_21 rfl rfl ?_
        refine AT.p_6_14 M_21 rfl (by assumption) (by assumption) ?_
        refine AT.aload_n M_21 rfl rfl ?_
        refine AT.aload M_21 rfl rfl ?_
        refine AT.aload M_21 rfl rfl ?_
        refine AT.f_6_14 M_21 rfl (by assumption) (by assumption) ?_
        refine AT.aload M_21 rfl rfl ?_
        refine AT.cv1i M_21 rfl M_61 rfl (Nat.le_of_ble_eq_true rfl) (xKd.of (shp_sv (by assumption) (by assumption))) (by decide) (c_61 ho hq7) ?_ (Nat.le_of_ble_eq_true rfl) rfl
        refine AT.icmp_lt M_21 rfl (fun b56 => ?_) (fun b56 => ?_)
        · refine AT.iconst M_21 rfl (v := 0) (by decide) ?_
          rw [xK_same] at b56
          have r1 := cRel.set (n := n) (K := (kWait (xK X o) q)) hp (fun i _ => sSame.set (by decide) i)
          have hS : sSame (xK X o) (kWait (xK X o) q) q := sSame.set (by decide) q
          rw [show kTurn1 (xK X o) q = (kWait (xK X o) q) from (if_neg (fun z => z.1 b17)).trans ((if_pos ⟨b40, bI_ne0.mp b43⟩).trans (if_pos b56)), show kTurn1N (xK X o) q = 0 from (if_neg (fun z => z.1 b17)).trans ((if_pos ⟨b40, bI_ne0.mp b43⟩).trans (if_pos b56))] at hC
          refine AT.cv30 M_21 rfl M_22 rfl (Nat.le_of_ble_eq_true rfl) (xKd.of (shp_cl (by assumption))) (by decide) c_22z ?_ (Nat.le_of_ble_eq_true rfl) rfl
          exact hC _ (r1.up (by omega) (by omega)) _
        · refine AT.iconst M_21 rfl (v := 1) (by decide) ?_
          refine AT.goto M_21 rfl ?_
          rw [xK_same] at b56
          have r1 := cRel.set (n := n) (K := (kWait (xK X o) q)) hp (fun i _ => sSame.set (by decide) i)
          have hS : sSame (xK X o) (kWait (xK X o) q) q := sSame.set (by decide) q
          rw [show kTurn1 (xK X o) q = kSoundA (kWait (xK X o) q) q from (if_neg (fun z => z.1 b17)).trans ((if_pos ⟨b40, bI_ne0.mp b43⟩).trans (if_neg b56)), show kTurn1N (xK X o) q = kSoundN (kWait (xK X o) q) q from (if_neg (fun z => z.1 b17)).trans ((if_pos ⟨b40, bI_ne0.mp b43⟩).trans (if_neg b56))] at hC
          refine AT.cv3w M_21 rfl M_22 rfl (Nat.le_of_ble_eq_true rfl) (xKd.of (shp_cl (by assumption))) (by decide) (c_22 (n := n) ho hq7 r1.pr (by rw [xK_same]; exact hS.ok (kSet_ne (by omega)) hk) (by rw [xK_same, hS.1, hS.ka]; exact hB) (by rw [xK_same, hS.1]; exact hn)) (fun Y hc60 => ?_) (Nat.le_of_ble_eq_true rfl) rfl
          rw [xK_same, kRiseN_1, show kRise (kWait (xK X o) q) q 1 = kSoundA (kWait (xK X o) q) q from rfl] at hc60
          exact hC _ ((r1.tr hc60).up (by omega) (by omega)) _
  · refine AT.aload M_21 rfl rfl ?_
    refine AT.f_6_12 M_21 rfl (by assumption) (by assumption) ?_
    refine AT.iconst M_21 rfl (v := 3) (by decide) ?_
    refine AT.icmp_ne M_21 rfl (fun b21 => ?_) (fun b21 => ?_)
    · refine AT.aload M_21 rfl rfl ?_
      refine AT.f_6_4 M_21 rfl (by assumption) (by assumption) ?_
      refine AT.if_eq M_21 rfl (fun b40 => ?_) (fun b40 => ?_)
      · rw [show kTurn1 (xK X o) q = xK X o from (if_neg (fun z => b21 z.2)).trans (if_neg (fun z => z.1 b40)), show kTurn1N (xK X o) q = 0 from (if_neg (fun z => b21 z.2)).trans (if_neg (fun z => z.1 b40))] at hC
        exact hC _ ((cRel.rf n hp).up (by omega) (by omega)) _
      · refine AT.aload M_21 rfl rfl ?_
        refine AT.cv1i M_21 rfl M_67 rfl (Nat.le_of_ble_eq_true rfl) (xKd.of (shp_sv (by assumption) (by assumption))) (by decide) (c_67 ho hq7 (hp q hq7).1) ?_ (Nat.le_of_ble_eq_true rfl) rfl
        refine AT.if_eq M_21 rfl (fun b43 => ?_) (fun b43 => ?_)
        · rw [show kTurn1 (xK X o) q = xK X o from (if_neg (fun z => b21 z.2)).trans (if_neg (fun z => by rw [bI_eq0.mp b43] at z; exact absurd z.2 (by decide))), show kTurn1N (xK X o) q = 0 from (if_neg (fun z => b21 z.2)).trans (if_neg (fun z => by rw [bI_eq0.mp b43] at z; exact absurd z.2 (by decide)))] at hC
          exact hC _ ((cRel.rf n hp).up (by omega) (by omega)) _
        · refine AT.aload M_21 rfl rfl ?_
          refine AT.dup M_21 rfl ?_
          refine AT.f_6_14 M_21 rfl (by assumption) (by assumption) ?_
          refine AT.iconst M_21 rfl (v := 1) (by decide) ?_
          refine AT.iadd M_21 rfl rfl ?_
          refine AT.p_6_14 M_21 rfl (by assumption) (by assumption) ?_
          refine AT.aload_n M_21 rfl rfl ?_
          refine AT.aload M_21 rfl rfl ?_
          refine AT.aload M_21 rfl rfl ?_
          refine AT.f_6_14 M_21 rfl (by assumption) (by assumption) ?_
          refine AT.aload M_21 rfl rfl ?_
          refine AT.cv1i M_21 rfl M_61 rfl (Nat.le_of_ble_eq_true rfl) (xKd.of (shp_sv (by assumption) (by assumption))) (by decide) (c_61 ho hq7) ?_ (Nat.le_of_ble_eq_true rfl) rfl
          refine AT.icmp_lt M_21 rfl (fun b56 => ?_) (fun b56 => ?_)
          · refine AT.iconst M_21 rfl (v := 0) (by decide) ?_
            rw [xK_same] at b56
            have r1 := cRel.set (n := n) (K := (kWait (xK X o) q)) hp (fun i _ => sSame.set (by decide) i)
            have hS : sSame (xK X o) (kWait (xK X o) q) q := sSame.set (by decide) q
            rw [show kTurn1 (xK X o) q = (kWait (xK X o) q) from (if_neg (fun z => b21 z.2)).trans ((if_pos ⟨b40, bI_ne0.mp b43⟩).trans (if_pos b56)), show kTurn1N (xK X o) q = 0 from (if_neg (fun z => b21 z.2)).trans ((if_pos ⟨b40, bI_ne0.mp b43⟩).trans (if_pos b56))] at hC
            refine AT.cv30 M_21 rfl M_22 rfl (Nat.le_of_ble_eq_true rfl) (xKd.of (shp_cl (by assumption))) (by decide) c_22z ?_ (Nat.le_of_ble_eq_true rfl) rfl
            exact hC _ (r1.up (by omega) (by omega)) _
          · refine AT.iconst M_21 rfl (v := 1) (by decide) ?_
            refine AT.goto M_21 rfl ?_
            rw [xK_same] at b56
            have r1 := cRel.set (n := n) (K := (kWait (xK X o) q)) hp (fun i _ => sSame.set (by decide) i)
            have hS : sSame (xK X o) (kWait (xK X o) q) q := sSame.set (by decide) q
            rw [show kTurn1 (xK X o) q = kSoundA (kWait (xK X o) q) q from (if_neg (fun z => b21 z.2)).trans ((if_pos ⟨b40, bI_ne0.mp b43⟩).trans (if_neg b56)), show kTurn1N (xK X o) q = kSoundN (kWait (xK X o) q) q from (if_neg (fun z => b21 z.2)).trans ((if_pos ⟨b40, bI_ne0.mp b43⟩).trans (if_neg b56))] at hC
            refine AT.cv3w M_21 rfl M_22 rfl (Nat.le_of_ble_eq_true rfl) (xKd.of (shp_cl (by assumption))) (by decide) (c_22 (n := n) ho hq7 r1.pr (by rw [xK_same]; exact hS.ok (kSet_ne (by omega)) hk) (by rw [xK_same, hS.1, hS.ka]; exact hB) (by rw [xK_same, hS.1]; exact hn)) (fun Y hc60 => ?_) (Nat.le_of_ble_eq_true rfl) rfl
            rw [xK_same, kRiseN_1, show kRise (kWait (xK X o) q) q 1 = kSoundA (kWait (xK X o) q) q from rfl] at hc60
            exact hC _ ((r1.tr hc60).up (by omega) (by omega)) _
    · refine AT.aload M_21 rfl rfl ?_
      refine AT.dup M_21 rfl ?_
      refine AT.f_6_17 M_21 rfl (by assumption) (by assumption) ?_
      refine AT.iconst M_21 rfl (v := 1) (by decide) ?_
      refine AT.iadd M_21 rfl rfl ?_
      refine AT.p_6_17 M_21 rfl (by assumption) (by assumption) ?_
      refine AT.aload M_21 rfl rfl ?_
      refine AT.f_6_17 M_21 rfl (by assumption) (by assumption) ?_
      refine AT.iconst M_21 rfl (v := 2) (by decide) ?_
      refine AT.irem M_21 rfl (by decide) rfl ?_
      refine AT.if_ne M_21 rfl (fun b32 => ?_) (fun b32 => ?_)
      · have hb := Classical.not_not.mp b21
        have r1 := cRel.set (n := n) (K := (kBeat (xK X o) q)) hp (fun i _ => sSame.set (by decide) i)
        have hT : kTurn1N (xK X o) q = 0 := if_pos ⟨b17, hb⟩
        rw [hT] at hC
        rw [xK_same] at b32
        rw [show kTurn1 (xK X o) q = (kBeat (xK X o) q) from (if_pos ⟨b17, hb⟩).trans (if_neg b32)] at hC
        exact hC _ (r1.up (by omega) (by omega)) _
      · have hm1 : dV (xD (xSetK X o (kBeat (xK X o) q))) o 10 q 0 = sMem (kBeat (xK X o) q) q := (hp q hq7).1.trans (sSame.set (by decide) q).mem.symm
        have hw1 : kWf (xK (xSetK X o (kBeat (xK X o) q)) o) q := by rw [xK_same]; exact kWf_congr hk.wf (kSet_ne (by omega)) rfl
        have hN1 : ∀ q2, q2 < 7 → kNx (xK (xSetK X o (kBeat (xK X o) q)) o) q q2 := fun q2 h2 => by rw [xK_same]; exact kNx_congr (kSet_ne (by omega)) (kSet_ne (by omega)) rfl (hN (Classical.not_not.mp b21) q2 h2)
        refine AT.aload_n M_21 rfl rfl ?_
        refine AT.aload M_21 rfl rfl ?_
        refine AT.cv2i M_21 rfl M_26 rfl (Nat.le_of_ble_eq_true rfl) (xKd.of (shp_cl (by assumption))) (by decide) (c_26 ho hq7 hm1 hw1 hN1) ?_ (Nat.le_of_ble_eq_true rfl) rfl
        refine AT.popi M_21 rfl ?_
        refine AT.goto M_21 rfl ?_
        have hb := Classical.not_not.mp b21
        have r1 := cRel.set (n := n) (K := (kBeat (xK X o) q)) hp (fun i _ => sSame.set (by decide) i)
        have hT : kTurn1N (xK X o) q = 0 := if_pos ⟨b17, hb⟩
        rw [hT] at hC
        rw [xK_same] at b32
        rw [show kTurn1 (xK X o) q = kSnd (kBeat (xK X o) q) q from (if_pos ⟨b17, hb⟩).trans (if_pos (Classical.not_not.mp b32))] at hC
        have r2 := cRel.all (n := n) (s := q) (mm := sMem (kBeat (xK X o) q) q) 7 0 r1.pr
        rw [r1.k] at r2
        exact hC _ ((r1.tr r2).up (by omega) (by omega)) _
theorem l_21a {o n k : Nat} {J : Nat → KK → Prop} {Q : PO → XS → Prop} (ho : o < 2) (hJ : kInv n J) : ∀ (m q : Nat) (X : XS), q + m = 7 → mPr X o → J (k + m) (xK X o) → (∀ Y, cRel o n (kTurnsN m q (xK X o)) (kTurnsN m q (xK X o) * pF 2) X Y (kTurnsF m q (xK X o)) → J k (xK Y o) → ∀ x4 : Option Value, AT 21 63 [some (.ref (aB o)), some (.ref (aB o + 1)), some (.int (Int32.ofNat 7)), some (.int (Int32.ofNat 7)), x4] [] Y Q) →
    ∀ x4 : Option Value, AT 21 8 [some (.ref (aB o)), some (.ref (aB o + 1)), some (.int (Int32.ofNat 7)), some (.int (Int32.ofNat q)), x4] [] X Q
  | 0, q, X, hq, hp, hX, hC, x4 => by
    refine AT.iload_n M_21 rfl rfl ?_
    refine AT.iload_n M_21 rfl rfl ?_
    refine AT.icmp_ge M_21 rfl (fun b10 => ?_) (fun b10 => absurd (by rw [show q = 7 by omega]; exact Int32.le_refl _) b10)
    have := hC X ((cRel.rf n hp).up (by omega) (by omega)) hX x4
    rw [show Int32.ofNat q = Int32.ofNat 7 from by rw [show q = 7 by omega]]
    exact this
  | m + 1, q, X, hq, hp, hX, hC, x4 => by
    have hq7 : q < 7 := by omega
    have hf := (hJ.1 _ _ hX).1 q hq7
    refine AT.iload_n M_21 rfl rfl ?_
    refine AT.iload_n M_21 rfl rfl ?_
    refine AT.icmp_ge M_21 rfl (fun b10 => absurd ((i32_le (b := q) (a := 7) (by omega) (by omega)).mp b10) (by omega)) (fun b10 => ?_)
    refine t_21 (n := n) ho hq7 hp hf.1 hf.2.1 hf.2.2.1 hf.2.2.2 (fun Y hY x4 => ?_) x4
    refine AT.iinc3 M_21 rfl rfl (i32_succ _) ?_
    refine AT.goto M_21 rfl ?_
    refine l_21a ho hJ m (q + 1) Y (by omega) hY.pr (by rw [hY.k]; exact hJ.2.1 (k + m) _ _ hq7 hX) (fun Z hZ hZJ x4 => ?_) x4
    rw [hY.k] at hZ
    exact hC Z ((hY.tr hZ).up (Nat.le_refl _) (by show _ ≤ (kTurn1N _ _ + kTurnsN _ _ _) * _; rw [Nat.add_mul]; exact Nat.le_refl _)) hZJ x4
theorem kHand0_c {K : KK} {w : MSG} {t : List MSG} (h : K.2.2 = w :: t) : kHand0 K = kHand K 0 (mS w) (mF w) w ∧ kHand0N K = kHandN K 0 (mS w) (mF w) w := by
  unfold kHand0 kHand0N
  rw [h]
  exact ⟨rfl, rfl⟩
theorem l_21b {x4 : Option Value} {o n k : Nat} {J : Nat → KK → Prop} {Q : PO → XS → Prop} (ho : o < 2) (hJ : kInv n J) {N : Nat} (hN : N ≤ 60) : ∀ (m q : Nat) (X : XS), q + m = N → mPr X o → J (k + m) (xK X o) → (∀ Y, cRel0 o n (kHandsN m (xK X o)) (kHandsN m (xK X o) * pF 2) X Y (kHandsF m (xK X o)) → J k (xK Y o) → AT 21 78 [some (.ref (aB o)), some (.int (Int32.ofNat N)), some (.int (Int32.ofNat N)), some (.int (Int32.ofNat 7)), x4] [] Y Q) →
    AT 21 69 [some (.ref (aB o)), some (.int (Int32.ofNat N)), some (.int (Int32.ofNat q)), some (.int (Int32.ofNat 7)), x4] [] X Q
  | 0, q, X, hq, hp, hX, hC => by
    refine AT.iload_n M_21 rfl rfl ?_
    refine AT.iload_n M_21 rfl rfl ?_
    refine AT.icmp_ge M_21 rfl (fun b10 => ?_) (fun b10 => absurd (by rw [show q = N by omega]; exact Int32.le_refl _) b10)
    have := hC X ((cRel.rf n hp).up (Nat.le_refl _) (by omega)).1 hX
    rw [show Int32.ofNat q = Int32.ofNat N from by rw [show q = N by omega]]
    exact this
  | m + 1, q, X, hq, hp, hX, hC => by
    have hf := hJ.1 _ _ hX
    refine AT.iload_n M_21 rfl rfl ?_
    refine AT.iload_n M_21 rfl rfl ?_
    refine AT.icmp_ge M_21 rfl (fun b10 => absurd ((i32_le (b := q) (a := N) (by omega) (by omega)).mp b10) (by omega)) (fun b10 => ?_)
    refine AT.aload_n M_21 rfl rfl ?_
    refine AT.iconst M_21 rfl (v := 0) (by decide) ?_
    have hG : ∀ Y v, cRel0 o n (kHand0N (xK X o)) (kHand0N (xK X o) * pF 2) X Y (kHand0 (xK X o)) → AT 21 75 [some (.ref (aB o)), some (.int (Int32.ofNat N)), some (.int (Int32.ofNat q)), some (.int (Int32.ofNat 7)), x4] [.int v] Y Q := by
      intro Y v hY
      refine AT.popi M_21 rfl ?_
      refine AT.iinc2 M_21 rfl rfl (i32_succ _) ?_
      refine AT.goto M_21 rfl ?_
      refine l_21b ho hJ hN m (q + 1) Y (by omega) hY.2.2.2 (by rw [hY.k]; exact hJ.2.2.1 (k + m) _ hX) (fun Z hZ hZJ => ?_)
      rw [hY.k] at hZ
      exact hC Z ((hY.tr hZ).up0 (Nat.le_refl _) (by show _ ≤ (kHand0N _ + kHandsN _ _) * _; rw [Nat.add_mul]; exact Nat.le_refl _)) hZJ
    cases hl : (xK X o).2.2 with
    | nil =>
      refine AT.cv2i M_21 rfl M_30 rfl (Nat.le_of_ble_eq_true rfl) (xKd.of (shp_cl (by assumption))) (by decide) (c_30e ho hl) ?_ (Nat.le_of_ble_eq_true rfl) rfl
      refine hG X _ ?_
      have e1 : kHand0 (xK X o) = xK X o := by unfold kHand0; rw [hl]
      have e2 : kHand0N (xK X o) = 0 := by unfold kHand0N; rw [hl]
      rw [e1, e2]
      exact ((cRel.rf n hp).up (by omega) (by omega)).1
    | cons w t =>
      obtain ⟨⟨h3, h3s, h2, h2f, h8⟩, hgo⟩ := hf.2 0 w (by rw [hl]; rfl)
      have hs := hf.1 _ h3s
      refine AT.cv2u M_21 rfl M_30 rfl (Nat.le_of_ble_eq_true rfl) (xKd.of (shp_cl (by assumption))) (by decide) (c_30 (n := n) (j := 0) ho h3s hp hs.1 hs.2.1 hs.2.2.1 (by rw [hl]; exact Nat.succ_pos _) (by rw [hl]; rfl) h3 h2 h2f hgo h8) (fun Y hY => ?_) (Nat.le_of_ble_eq_true rfl) rfl
      rw [← (kHand0_c hl).1, ← (kHand0_c hl).2] at hY
      exact hG Y _ hY
theorem c_21 {X : XS} {o n k : Nat} {J : Nat → KK → Prop} (ho : o < 2) (hJ : kInv n J) (hp : mPr X o) (hX : J (k + 68) (xK X o)) : RU 21 [some (.ref (aB o)), none, none, none, none] X none (fun Y => cRel0 o n (kRoundN (xK X o)) (kRoundN (xK X o) * pF 2) X Y (kRound (xK X o)) ∧ J k (xK Y o)) := by
  refine AT.aload_n M_21 rfl rfl ?_
  refine AT.f_1_0 M_21 rfl (by assumption) ?_
  refine AT.ast1 M_21 rfl rfl ?_
  refine AT.aload_n M_21 rfl rfl ?_
  refine AT.l_svs M_21 rfl (by assumption) ?_
  refine AT.ist2 M_21 rfl rfl ?_
  refine AT.iconst M_21 rfl (v := 0) (by decide) ?_
  refine AT.ist3 M_21 rfl rfl ?_
  refine l_21a (k := k + 61) ho hJ 7 0 X rfl hp hX (fun Y hY hYJ x4 => ?_) none
  refine AT.aload_n M_21 rfl rfl ?_
  refine AT.f_1_2 M_21 rfl (by assumption) ?_
  refine AT.f_4_3 M_21 rfl ho ?_
  refine AT.ist1 M_21 rfl rfl ?_
  refine AT.iconst M_21 rfl (v := 0) (by decide) ?_
  refine AT.ist2 M_21 rfl rfl ?_
  refine AT.rep (fun hr => ?_)
  have h60 := hr.choose_spec.n60 (o := o) (by omega)
  refine l_21b (k := k + 1) (N := (xK Y o).2.2.length) ho hJ h60 (xK Y o).2.2.length 0 Y (Nat.zero_add _) hY.pr (hJ.le hYJ (by omega)) (fun Z hZ hZJ => ?_)
  refine AT.aload_n M_21 rfl rfl ?_
  refine AT.dup M_21 rfl ?_
  refine AT.f_1_3 M_21 rfl (by assumption) ?_
  refine AT.iconst M_21 rfl (v := 1) (by decide) ?_
  refine AT.iadd M_21 rfl rfl ?_
  refine AT.p_1_3 M_21 rfl (by assumption) ?_
  refine AT.vret M_21 rfl rfl ?_
  refine ⟨rfl, ?_⟩
  have r3 := cRel.set (n := n) (K := kTick (xK Z o)) hZ.2.2.2 (fun i _ => sSame.set (by decide) i)
  have r4 := (hY.1.tr hZ).tr r3.1
  have e9 : kTick (xK Z o) = kRound (xK X o) := by
    rw [hZ.k, hY.k]
    unfold kRound
    rfl
  have ec : kRoundN (xK X o) = kTurnsN 7 0 (xK X o) + kHandsN (xK Y o).2.2.length (xK Y o) := by
    rw [hY.k]
    unfold kRoundN
    rfl
  change cRel0 o n (kRoundN (xK X o)) (kRoundN (xK X o) * pF 2) X (xSetK Z o (kTick (xK Z o))) (kRound (xK X o)) ∧ J k (xK (xSetK Z o (kTick (xK Z o))) o)
  rw [← e9, ec, Nat.add_mul]
  refine ⟨r4.up0 (by omega) (by omega), ?_⟩
  rw [xK_same]
  exact hJ.2.2.2.1 k _ hZJ
