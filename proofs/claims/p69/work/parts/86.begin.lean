/-! ===== BEGINNING ANEW, COPYING EVERYTHING ===== -/
def sFirst (m : Int32) : ENT := sSnp 0 0 (((1 : Int32) <<< (m &&& 31)) - 1) (fun _ => 0)
def kBegS (r : ENT) : Nat → Nat → KK → KK
  | 0, _, K => K
  | n + 1, q, K => kBegS r n (q + 1) (kRest (kNew K q r) q)
def kBegC : Nat → Nat → KK → KK
  | 0, _, K => K
  | n + 1, q, K => kBegC n (q + 1) (kForget K q)
def kClr (K : KK) : KK := kSet (kNet (kFilC K 0 7) []) 32 0 0 0
/-- everything begins anew with r as first snapshot -/
def kBegin (K : KK) (r : ENT) : KK := kSet (kClr (kBegC 4 0 (kBegS r 7 0 K))) 33 0 0 0
theorem kRest_1 {K : KK} {s a b c : Nat} (h : ¬ (b = s ∧ (a = 12 ∨ a = 13 ∨ a = 14 ∨ a = 15 ∨ a = 19))) : (kRest K s).1 a b c = K.1 a b c := by
  unfold kRest
  rw [kTab_1 (by omega), kSet_ne (by omega), kSet_ne (by omega), kSet_ne (by omega), kSet_ne (by omega)]
theorem sSame.rest (K : KK) (t s : Nat) : sSame K (kRest K t) s := ⟨rfl, fun _ _ => kRest_1 (by omega)⟩
theorem kNew_1 {K : KK} {s a b c : Nat} {r : ENT} (h : ¬ (b = s ∧ (a = 4 ∨ a = 5 ∨ a = 6 ∨ a = 18))) : (kNew K s r).1 a b c = K.1 a b c := by
  unfold kNew
  rw [kRow_ne (by omega), kLog_1, kSet_ne (by omega), kSet_ne (by omega), kSet_ne (by omega)]
theorem sSame.new {K : KK} {t s : Nat} (r : ENT) (h : ¬ s = t) : sSame K (kNew K t r) s := ⟨if_neg h, fun _ _ => kNew_1 (by omega)⟩
theorem dRel_snp1 (o n : Nat) (D : XD) (r : ENT) : dRel o n 5 (pF 7 + pF 8 + 16) D (dSnp1 D r) := by
  refine ⟨fun _ _ _ => rfl, fun _ _ _ _ _ => rfl, ?_, ?_, fun _ _ => ⟨Nat.le_refl _, Or.inl (Nat.le_refl _)⟩⟩
  · show dZ D + pF 7 + (pF 8 + 16) + 2 * rTot D o ≤ dZ D + 2 * rTot D o + (pF 7 + pF 8 + 16)
    omega
  · show 64 * (dC D + 1 + 4) + rTot D o ≤ 64 * dC D + rTot D o + 64 * 5
    omega
theorem AT.a_svsx {m i pc ln r1 r2 r3 : Nat} {ls : PV} {st : List Value} {X : XS} {Q : PO → XS → Prop} {M : PMet} {o s : Nat} {y : Int32} (hM : qPT m = M) (hr : M.1[i]? = some (pc, .aaload, ln, r1, r2, r3)) (hy : y = Int32.ofNat s) (ho : o < 2) (hs : s < 7) (k : AT m (i + 1) ls (.ref (aS o s) :: st) X Q) : AT m i ls (.int y :: .ref (aB o + 1) :: st) X Q := AT.a_svs hM hr hy ho hs k
theorem l_8a {o n p : Nat} {r : ENT} {x1 : Int32} {Q : PO → XS → Prop} (ho : o < 2) : ∀ (m q : Nat) (X : XS), q + m = 7 → mPr X o → dSn (xD X) p r → (∀ Y, dSn (xD Y) p r → cRel o n 0 0 X Y (kBegS r m q (xK X o)) → ∀ x6 : Option Value, AT 8 23 [some (.ref (aB o)), some (.int x1), some (.ref p), some (.ref (aB o + 1)), some (.int (Int32.ofNat 7)), some (.int (Int32.ofNat 7)), x6] [] Y Q) → ∀ x6 : Option Value, AT 8 11 [some (.ref (aB o)), some (.int x1), some (.ref p), some (.ref (aB o + 1)), some (.int (Int32.ofNat 7)), some (.int (Int32.ofNat q)), x6] [] X Q
  | 0, q, X, hq, hp, hr0, hC, x6 => by
    refine AT.iload M_8 rfl rfl ?_
    refine AT.iload M_8 rfl rfl ?_
    refine AT.icmp_ge M_8 rfl (fun b13 => ?_) (fun b13 => ?_)
    · have h := hC X hr0 ((cRel.rf n hp).up (Nat.le_refl _) (Nat.le_refl _)) x6
      rw [show Int32.ofNat q = Int32.ofNat 7 from by rw [show q = 7 by omega]]
      exact h
    · exact absurd (by rw [show q = 7 by omega]; exact Int32.le_refl _) b13
  | m + 1, q, X, hq, hp, hr0, hC, x6 => by
    have hq7 : q < 7 := by omega
    refine AT.iload M_8 rfl rfl ?_
    refine AT.iload M_8 rfl rfl ?_
    refine AT.icmp_ge M_8 rfl (fun b13 => ?_) (fun b13 => ?_)
    · exact absurd ((i32_le (b := q) (a := 7) (by omega) (by omega)).mp b13) (by omega)
    · refine AT.aload_n M_8 rfl rfl ?_
      refine AT.iload M_8 rfl rfl ?_
      refine AT.a_svs M_8 rfl rfl (by assumption) (by assumption) ?_
      refine AT.ast6 M_8 rfl rfl ?_
      refine AT.aload M_8 rfl rfl ?_
      refine AT.aload_n M_8 rfl rfl ?_
      refine AT.cv20 M_8 rfl M_57 rfl (Nat.le_of_ble_eq_true rfl) (xKd.of (shp_sv (by assumption) (by assumption))) (by decide) (c_57 ho hq7 hr0) ?_ (Nat.le_of_ble_eq_true rfl) rfl
      have r1 : cRel o n 0 0 X (xSetK (xSetD X (dMem (xD X) o q (kNew (xK X o) q r))) o (kRest (kNew (xK X o) q r) q)) (kRest (kNew (xK X o) q r) q) := cRel.mem hp rfl rfl rfl rfl rfl rfl (fun i _ hi => sSame.new r hi) (fun i _ => sSame.rest _ _ _)
      refine AT.iinc5 M_8 rfl rfl (i32_succ _) ?_
      refine AT.goto M_8 rfl ?_
      refine l_8a (n := n) ho m (q + 1) _ (by omega) r1.pr hr0 (fun Y hYr hY x6 => ?_) _
      rw [xK_same] at hY
      exact hC Y hYr ((r1.tr hY).up (Nat.le_refl _) (Nat.le_refl _)) x6
theorem l_8b {o n p : Nat} {x1 : Int32} {Q : PO → XS → Prop} (ho : o < 2) : ∀ (m q : Nat) (X : XS), q + m = 4 → mPr X o → (∀ Y, cRel o n 0 0 X Y (kBegC m q (xK X o)) → ∀ x6 : Option Value, AT 8 42 [some (.ref (aB o)), some (.int x1), some (.ref p), some (.ref (aB o + 2)), some (.int (Int32.ofNat 4)), some (.int (Int32.ofNat 4)), x6] [] Y Q) → ∀ x6 : Option Value, AT 8 31 [some (.ref (aB o)), some (.int x1), some (.ref p), some (.ref (aB o + 2)), some (.int (Int32.ofNat 4)), some (.int (Int32.ofNat q)), x6] [] X Q
  | 0, q, X, hq, hp, hC, x6 => by
    refine AT.iload M_8 rfl rfl ?_
    refine AT.iload M_8 rfl rfl ?_
    refine AT.icmp_ge M_8 rfl (fun b33 => ?_) (fun b33 => ?_)
    · have h := hC X ((cRel.rf n hp).up (Nat.le_refl _) (Nat.le_refl _)) x6
      rw [show Int32.ofNat q = Int32.ofNat 4 from by rw [show q = 4 by omega]]
      exact h
    · exact absurd (by rw [show q = 4 by omega]; exact Int32.le_refl _) b33
  | m + 1, q, X, hq, hp, hC, x6 => by
    have hq7 : q < 4 := by omega
    refine AT.iload M_8 rfl rfl ?_
    refine AT.iload M_8 rfl rfl ?_
    refine AT.icmp_ge M_8 rfl (fun b33 => ?_) (fun b33 => ?_)
    · exact absurd ((i32_le (b := q) (a := 4) (by omega) (by omega)).mp b33) (by omega)
    · refine AT.aload_n M_8 rfl rfl ?_
      refine AT.iload M_8 rfl rfl ?_
      refine AT.a_cls M_8 rfl rfl (by assumption) (by assumption) ?_
      refine AT.ast6 M_8 rfl rfl ?_
      refine AT.aload M_8 rfl rfl ?_
      refine AT.cv10 M_8 rfl M_1 rfl (Nat.le_of_ble_eq_true rfl) (xKd.of (shp_cli (by assumption) (by assumption))) (by decide) (c_1 ho hq7) ?_ (Nat.le_of_ble_eq_true rfl) rfl
      have r1 := cRel.set (n := n) (K := kForget (xK X o) q) hp (fun i _ => ⟨rfl, fun j _ => by unfold kForget; rw [kSet_ne (by omega), kSet_ne (by omega), kRow_ne (by omega)]⟩)
      refine AT.iinc5 M_8 rfl rfl (i32_succ _) ?_
      refine AT.goto M_8 rfl ?_
      refine l_8b (n := n) ho m (q + 1) _ (by omega) r1.pr (fun Y hY x6 => ?_) _
      rw [xK_same] at hY
      exact hC Y ((r1.tr hY).up (Nat.le_refl _) (Nat.le_refl _)) x6
theorem c_8 {X : XS} {o n : Nat} {x : Int32} (ho : o < 2) (hp : mPr X o) : RU 8 [some (.ref (aB o)), some (.int x), none, none, none, none, none] X none (fun Y => ∃ Z, cRel0 o n 5 (pF 7 + pF 8 + 16) X Z (kBegC 4 0 (kBegS (sFirst x) 7 0 (xK X o))) ∧ Y = xSetK (xCutL Z o 0) o (kSet (kClr (xK Z o)) 33 0 0 0)) := by
  refine AT.iload_n M_8 rfl rfl ?_
  refine AT.cs1i M_8 rfl M_7 rfl (Nat.le_of_ble_eq_true rfl) rfl c_7 ?_ (Nat.le_of_ble_eq_true rfl) rfl
  refine AT.ast2 M_8 rfl rfl ?_
  refine AT.aload_n M_8 rfl rfl ?_
  refine AT.f_1_0 M_8 rfl (by assumption) ?_
  refine AT.ast3 M_8 rfl rfl ?_
  refine AT.aload_n M_8 rfl rfl ?_
  refine AT.l_svs M_8 rfl (by assumption) ?_
  refine AT.ist4 M_8 rfl rfl ?_
  refine AT.iconst M_8 rfl (v := 0) (by decide) ?_
  refine AT.ist5 M_8 rfl rfl ?_
  have r0 : cRel o n 5 (pF 7 + pF 8 + 16) X (xSetD X (dSnp1 (xD X) (sFirst x))) (xK X o) := ⟨⟨rfl, fun a => by by_cases e : a = o; (rw [if_pos e, e]; rfl); (rw [if_neg e]; rfl), dRel_snp1 o n _ _, hp⟩, dHnd.of rfl rfl⟩
  refine l_8a (n := n) (r := sFirst x) ho 7 0 _ rfl r0.pr (dSnp1_sn _ _) (fun Y hYr hY x6 => ?_) none
  refine AT.aload_n M_8 rfl rfl ?_
  refine AT.f_1_1 M_8 rfl (by assumption) ?_
  refine AT.ast3 M_8 rfl rfl ?_
  refine AT.aload_n M_8 rfl rfl ?_
  refine AT.l_cls M_8 rfl (by assumption) ?_
  refine AT.ist4 M_8 rfl rfl ?_
  refine AT.iconst M_8 rfl (v := 0) (by decide) ?_
  refine AT.ist5 M_8 rfl rfl ?_
  refine l_8b (n := n) ho 4 0 Y rfl hY.pr (fun Z hZ x6 => ?_) x6
  refine AT.aload_n M_8 rfl rfl ?_
  refine AT.f_1_2 M_8 rfl (by assumption) ?_
  refine AT.cv10 M_8 rfl M_48 rfl (Nat.le_of_ble_eq_true rfl) (xKd.of (shp_net (by assumption))) (by decide) (c_48 ho) ?_ (Nat.le_of_ble_eq_true rfl) rfl
  refine AT.aload_n M_8 rfl rfl ?_
  refine AT.iconst M_8 rfl (v := 0) (by decide) ?_
  refine AT.p_1_3 M_8 rfl (by assumption) ?_
  refine AT.vret M_8 rfl rfl ?_
  refine ⟨rfl, Z, ?_, ?_⟩
  · have r2 := ((r0.tr hY).tr hZ).1
    rw [hY.k, show xK (xSetD X (dSnp1 (xD X) (sFirst x))) o = xK X o from rfl] at r2
    exact r2.up0 (by omega) (by omega)
  · show xSetK _ o (kSet (xK _ o) 33 0 0 0) = _
    rw [xK_same, xSetK_idem]
    rfl
