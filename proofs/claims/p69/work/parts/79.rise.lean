/-! ===== FROM SOUNDING TO LEADING ===== -/
theorem kFil_1 (K : KK) (f s : Nat) (v : Int32) (q a b c : Nat) (h : ¬ (a = f ∧ b = s)) : (kFil K f s v q).1 a b c = K.1 a b c := if_neg h
theorem kLead_1 {K : KK} {s a b c : Nat} (h : ¬ (b = s ∧ (a = 12 ∨ a = 13 ∨ a = 17 ∨ a = 2 ∨ a = 3))) : (kLead K s).1 a b c = K.1 a b c := by
  unfold kLead
  rw [kFil_1 _ _ _ _ _ _ _ _ (by omega), kFil_1 _ _ _ _ _ _ _ _ (by omega), kSet_ne (by omega), kSet_ne (by omega), kSet_ne (by omega)]
theorem kLead_2 (K : KK) (s : Nat) : (kLead K s).2 = K.2 := rfl
theorem kStart_1 {K : KK} {s a b c : Nat} {r : Int32} (h : ¬ (b = s ∧ (a = 12 ∨ a = 13 ∨ a = 14 ∨ a = 16))) : (kStart K s r).1 a b c = K.1 a b c := by
  unfold kStart
  rw [kSet_ne (by omega), kSet_ne (by omega), kSet_ne (by omega), kSet_ne (by omega)]
theorem kStand_1 {K : KK} {s a b c : Nat} (h : ¬ (b = s ∧ (a = 12 ∨ a = 13 ∨ a = 14 ∨ a = 16 ∨ a = 5 ∨ a = 6))) : (kStand K s).1 a b c = K.1 a b c := by
  unfold kStand
  rw [kSet_ne (by omega), kStart_1 (by omega), kSet_ne (by omega)]
theorem sSame.lead (K : KK) (t s : Nat) : sSame K (kLead K t) s := ⟨rfl, fun _ _ => kLead_1 (by omega)⟩
theorem sSame.start (K : KK) (t : Nat) (r : Int32) (s : Nat) : sSame K (kStart K t r) s := ⟨rfl, fun _ _ => kStart_1 (by omega)⟩
theorem sSame.stand (K : KK) (t s : Nat) : sSame K (kStand K t) s := ⟨rfl, fun _ _ => kStand_1 (by omega)⟩
theorem eNil_ok (t : Int32) : eOk (eNil t 0 0) := by
  refine ⟨fun h => absurd (show (0 : Int32) = 4 from h) (by decide), fun h => absurd (show (1 : Int32) ≤ 0 from h.1) (by decide)⟩
theorem eNil_mem (K : KK) (s i : Nat) : sMem (kLd K s) i = sMem K i := by
  unfold kLd sMem
  rw [kLog_l, kLog_1, kLead_1 (by omega)]
  split
  · rename_i h; subst h
    rw [sMemL_app, if_neg (show ¬ eNil (K.1 5 i 0) 0 0 1 = 4 from fun z => absurd (show (0 : Int32) = 4 from z) (by decide))]
  · rfl
theorem sLast_of {K : KK} {s a : Nat} (ha : K.1 18 s 0 = Int32.ofNat a) : sLast K s = Int32.ofNat (a + (K.2.1 s).length) := by
  unfold sLast; rw [ha, Int32.ofNat_add]
theorem kLd_nx {K : KK} {s q : Nat} (h : sOk K s) (hq : q < 7) : kNx (kLd K s) s q := by
  intro _
  refine ⟨kA K s, (K.2.1 s).length, ?_, ?_, ?_, ?_⟩
  · show (kLead K s).1 18 s 0 = _
    rw [kLead_1 (by omega)]; exact h.1
  · show (kLead K s).1 2 s q = _
    unfold kLead
    rw [kFil_1 _ _ _ _ _ _ _ _ (by omega)]
    show (if 2 = 2 ∧ s = s then (if q < 7 then _ else _) else _) = _
    rw [if_pos ⟨rfl, rfl⟩, if_pos hq, sLast_of h.1, show kA K s + 1 + (K.2.1 s).length = kA K s + (K.2.1 s).length + 1 by omega, Int32.ofNat_add (kA K s + (K.2.1 s).length) 1]
    rfl
  · rw [show (kLd K s).2.1 s = K.2.1 s ++ [eNil (K.1 5 s 0) 0 0] from if_pos rfl, List.length_append]; omega
  · rw [show (kLd K s).2.1 s = K.2.1 s ++ [eNil (K.1 5 s 0) 0 0] from if_pos rfl, List.length_append, List.length_singleton]
    have := h.2.2.2.2.1
    omega
/-- a leader's log, from the entry that it begins with -/
theorem kLd_ok {K : KK} {s : Nat} (h : sOk K s) (hB : kA K s + (K.2.1 s).length + 1 < 400000) : sOk (kLd K s) s := by
  have e1 : kA (kLd K s) s = kA K s := by unfold kA kLd; rw [kLog_1, kLead_1 (by omega)]
  have e2 : kC (kLd K s) s = kC K s := by unfold kC kLd; rw [kLog_1, kLead_1 (by omega)]
  have e3 : (kLd K s).2.1 s = K.2.1 s ++ [eNil (K.1 5 s 0) 0 0] := if_pos rfl
  have e4 : ∀ f j, ¬ (f = 12 ∨ f = 13 ∨ f = 17 ∨ f = 2 ∨ f = 3) → (kLd K s).1 f s j = K.1 f s j := fun f j z => kLead_1 (by omega)
  obtain ⟨h1, h2, h3, h4, h5, h6, h7⟩ := h
  unfold sOk
  rw [e1, e2, e3, e4 18 0 (by decide), e4 18 2 (by decide), e4 15 0 (by decide), List.length_append, List.length_singleton]
  refine ⟨h1, h2, h3, by omega, by omega, fun e he => ?_, h7⟩
  rcases List.mem_append.mp he with z | z
  · exact h6 e z
  · rw [List.mem_singleton.mp z]; exact eNil_ok _
/-- how many begin to lead -/
def kStandN (K : KK) (s : Nat) : Nat := if sMost (sMem K s) ((kStand K s).1 16 s 0) = true then 1 else 0
def kSoundN (K : KK) (s : Nat) : Nat := if Int32.ofNat (K.2.1 s).length < 48 then (if sMost (sMem K s) ((kStart K s 1).1 16 s 0) = true then kStandN (kStart K s 1) s else 0) else 0
def kRiseN (K : KK) (s : Nat) (f : Int32) : Nat := if f = 1 then kSoundN K s else if f = 2 then kStandN K s else if f = 3 then 1 else 0
theorem kRiseN_1 (K : KK) (s : Nat) : kRiseN K s 1 = kSoundN K s := if_pos rfl
theorem kRiseN_2 (K : KK) (s : Nat) : kRiseN K s 2 = kStandN K s := (if_neg (by decide)).trans (if_pos rfl)
theorem kRiseN_3 (K : KK) (s : Nat) : kRiseN K s 3 = 1 := (if_neg (by decide)).trans ((if_neg (by decide)).trans (if_pos rfl))
theorem sSame.okS {K K' : KK} {s : Nat} (h : sSame K K' s) (k : sOk K s) (h15 : K'.1 15 s 0 = K.1 15 s 0) : sOk K' s := h.ok h15 k
theorem dRel_ent1 (o n : Nat) (D : XD) (e : ENT) : dRel o n 1 (pF 2) D (dEnt1 D e) := ⟨fun _ _ _ => rfl, fun _ _ _ _ _ => rfl, by show dZ D + pF 2 + 2 * rTot D o ≤ _; exact Nat.le_of_eq (by show _ = dZ D + 2 * rTot D o + pF 2; omega), by show 64 * (dC D + 1) + rTot D o ≤ 64 * dC D + rTot D o + 64 * 1; omega, fun _ _ => ⟨Nat.le_refl _, Or.inl (Nat.le_refl _)⟩⟩
theorem t_22c {X : XS} {o s n : Nat} (ho : o < 2) (hs : s < 7) (hp : mPr X o) (hk : sOk (xK X o) s) (hB : kA (xK X o) s + ((xK X o).2.1 s).length + 1 < 400000) (hn : ((xK X o).2.1 s).length ≤ n) (x2 : Option Value) : AT 22 16 [some (.ref (aB o)), some (.ref (aS o s)), x2, some (.int 3)] [] X (fun o' Y => o' = .inl none ∧ cRel o n (1) (1 * pF 2) X Y (kLeadA (xK X o) s)) := by
  refine AT.rep (fun hr => ?_)
  have h64 : ∀ i, i < 7 → 64 ≤ dR (xD X) o i := fun i hi => hr.choose_spec.d64 ho hi
  refine AT.iload_n M_22 rfl rfl ?_
  refine AT.iconst M_22 rfl (v := 3) (by decide) ?_
  refine AT.icmp_ne M_22 rfl (fun b18 => ?_) (fun b18 => ?_)
  · exact absurd rfl b18
  · refine AT.aload_n M_22 rfl rfl ?_
    refine AT.cv1w M_22 rfl M_88 rfl (Nat.le_of_ble_eq_true rfl) (xKd.of (shp_sv (by assumption) (by assumption))) (by decide) (c_88 ho hs (by have := hk.2.2.2.2.1; omega)) (fun Y hc20 => ?_) (Nat.le_of_ble_eq_true rfl) rfl
    have r1 : cRel o n 1 (pF 2) X Y (kLd (xK X o) s) := by
      have e2 : (kLead (xK X o) s).2.1 s = (xK X o).2.1 s := rfl
      have := cRel.app (n := n) (c := 1) (z := pF 2) hs hp (fun i _ => sSame.lead (xK X o) s i) (h64 s hs) hn (dRel_ent1 o n (xD X) _) (dHnd.of rfl rfl) rfl hc20
      exact this
    have q1 : sOk (xK Y o) s := by rw [r1.k]; exact kLd_ok hk hB
    have hm1 := (r1.pr s hs).1
    have hx1 := (r1.pr s hs).2
    refine AT.aload_n M_22 rfl rfl ?_
    refine AT.aload_n M_22 rfl rfl ?_
    refine AT.cv2i M_22 rfl M_26 rfl (Nat.le_of_ble_eq_true rfl) (xKd.of (shp_cl (by assumption))) (by decide) (c_26 ho hs hm1 q1.wf (fun q hq => by rw [r1.k]; exact kLd_nx hk hq)) ?_ (Nat.le_of_ble_eq_true rfl) rfl
    have r2 := cRel.all (o := o) (n := n) (s := s) (mm := sMem (xK Y o) s) 7 0 r1.pr
    have e2 : xK (xAllF o s (sMem (xK Y o) s) 7 0 Y) o = kSnd (xK Y o) s := r2.k
    have hSn := sSame.snd (xK Y o) s s
    have hm2 : dV (xD (xAllF o s (sMem (xK Y o) s) 7 0 Y)) o 10 s 0 = sMem (kSnd (xK Y o) s) s := (r2.pr s hs).1.trans (by rw [e2])
    have hx2 : dV (xD (xAllF o s (sMem (xK Y o) s) 7 0 Y)) o 11 s 0 = sMix (kSnd (xK Y o) s) s := (r2.pr s hs).2.trans (by rw [e2])
    refine AT.popi M_22 rfl ?_
    refine AT.aload_n M_22 rfl rfl ?_
    refine AT.aload_n M_22 rfl rfl ?_
    refine AT.cv20 M_22 rfl M_28 rfl (Nat.le_of_ble_eq_true rfl) (xKd.of (shp_cl (by assumption))) (by decide) (c_28 (a := kA (xK Y o) s) (c := kC (xK Y o) s) (n := kA (xK Y o) s + ((xK Y o).2.1 s).length - kC (xK Y o) s) ho hs hm2 hx2 (by rw [e2]; exact (hSn.2 0 (by omega)).trans q1.1) (by rw [e2]; exact (kSnd_1 _ _ (by decide)).trans q1.2.1) q1.2.2.1 (by rw [e2, hSn.1]; have := q1.2.2.2.1; omega) (by rw [e2, hSn.1]; have := q1.2.2.2.2.1; omega) (by rw [e2, hSn.1]; exact q1.2.2.2.2.2.1)) ?_ (Nat.le_of_ble_eq_true rfl) rfl
    refine AT.vret M_22 rfl rfl ?_
    refine ⟨rfl, ?_⟩
    rw [e2]
    have r3 := cRel.set (n := n) (K := kLk (kSnd (xK Y o) s) s) r2.pr (fun i _ => by rw [e2]; exact sSame.lk _ _ _)
    have r4 := (r1.tr r2).tr r3
    have ec : kC (kSnd (xK Y o) s) s = kC (xK Y o) s := by unfold kC; rw [kSnd_1 _ _ (by decide)]
    rw [show kLeadA (xK X o) s = kLk (kSnd (xK Y o) s) s from by rw [r1.k]; rfl]
    have e9 : kLk (kSnd (xK Y o) s) s = kLook (kSnd (xK Y o) s) s (sMem (kSnd (xK Y o) s) s) (sMix (kSnd (xK Y o) s) s) (kC (xK Y o) s) (kA (xK Y o) s + ((xK Y o).2.1 s).length - kC (xK Y o) s) := by
      unfold kLk
      rw [ec, hSn.ka, hSn.1]
    rw [← e9]
    exact r4.up (by omega) (by omega)
theorem t_22d {X : XS} {o s : Nat} (x2 : Option Value) : AT 22 16 [some (.ref (aB o)), some (.ref (aS o s)), x2, some (.int 0)] [] X (fun o' Y => o' = .inl none ∧ Y = X) := by
  refine AT.iload_n M_22 rfl rfl ?_
  refine AT.iconst M_22 rfl (v := 3) (by decide) ?_
  refine AT.icmp_ne M_22 rfl (fun b18 => ?_) (fun b18 => ?_)
  · refine AT.vret M_22 rfl rfl ?_
    exact ⟨rfl, rfl⟩
  · exact absurd (Classical.not_not.mp b18) (by decide)
theorem t_22b {X : XS} {o s n : Nat} (ho : o < 2) (hs : s < 7) (hp : mPr X o) (hk : sOk (xK X o) s) (hB : kA (xK X o) s + ((xK X o).2.1 s).length + 1 < 400000) (hn : ((xK X o).2.1 s).length ≤ n) (f : Int32) : AT 22 9 [some (.ref (aB o)), some (.ref (aS o s)), some (.int f), some (.int 2)] [] X (fun o' Y => o' = .inl none ∧ cRel o n (kStandN (xK X o) s) (kStandN (xK X o) s * pF 2) X Y (kStandA (xK X o) s)) := by
  have hm := (hp s hs).1
  have h7 := hk.m128
  refine AT.iload_n M_22 rfl rfl ?_
  refine AT.iconst M_22 rfl (v := 2) (by decide) ?_
  refine AT.icmp_ne M_22 rfl (fun b11 => ?_) (fun b11 => ?_)
  · exact absurd rfl b11
  · refine AT.aload_n M_22 rfl rfl ?_
    refine AT.aload_n M_22 rfl rfl ?_
    refine AT.cv2i M_22 rfl M_24 rfl (Nat.le_of_ble_eq_true rfl) (xKd.of (shp_cl (by assumption))) (by decide) (c_24 ho hs hm h7) ?_ (Nat.le_of_ble_eq_true rfl) rfl
    refine AT.ist3 M_22 rfl rfl ?_
    have hSt : ∀ i, i < 7 → sSame (xK X o) (kStand (xK X o) s) i := fun i _ => sSame.stand _ _ _
    by_cases hc : sMost (sMem (xK X o) s) ((kStand (xK X o) s).1 16 s 0) = true
    · rw [if_pos hc, show xStand X o s (sMem (xK X o) s) = xSetK X o (kStand (xK X o) s) from if_pos hc, show kStandA (xK X o) s = kLeadA (kStand (xK X o) s) s from if_pos hc, show kStandN (xK X o) s = 1 from if_pos hc]
      have r1 := cRel.set (n := n) hp hSt
      have q1 := (hSt s hs).okS hk (kStand_1 (by omega))
      rw [← (show xK (xSetK X o (kStand (xK X o) s)) o = kStand (xK X o) s from xK_same _ _ _)] at q1
      have h := t_22c (n := n) ho hs r1.pr q1 (by rw [xK_same, (hSt s hs).1, (hSt s hs).ka]; exact hB) (by rw [xK_same, (hSt s hs).1]; exact hn) (some (.int f))
      rw [xK_same] at h
      refine AT.mono h ?_
      rintro o' Y ⟨h1, h2⟩
      exact ⟨h1, (r1.tr h2).up (by omega) (by omega)⟩
    · rw [if_neg hc, show xStand X o s (sMem (xK X o) s) = _ from if_neg hc, show kStandA (xK X o) s = _ from if_neg hc, show kStandN (xK X o) s = 0 from if_neg hc]
      have r1 := cRel.set (n := n) hp hSt
      refine AT.mono (t_22d _) ?_
      rintro o' Y ⟨h1, rfl⟩
      refine ⟨h1, ?_⟩
      have r2 := cRel.ask (n := n) (s := s) (mm := sMem (xK X o) s) (kd := 3) (tm := (kStand (xK X o) s).1 5 s 0) 7 0 r1.pr
      rw [xK_same] at r2
      exact (r1.tr r2).up (by omega) (by omega)
theorem t_22a {X : XS} {o s n : Nat} (ho : o < 2) (hs : s < 7) (hp : mPr X o) (hk : sOk (xK X o) s) (hB : kA (xK X o) s + ((xK X o).2.1 s).length + 1 < 400000) (hn : ((xK X o).2.1 s).length ≤ n) (x3 : Option Value) : AT 22 0 [some (.ref (aB o)), some (.ref (aS o s)), some (.int 1), x3] [] X (fun o' Y => o' = .inl none ∧ cRel o n (kSoundN (xK X o) s) (kSoundN (xK X o) s * pF 2) X Y (kSoundA (xK X o) s)) := by
  have hm := (hp s hs).1
  have h7 := hk.m128
  refine AT.iload_n M_22 rfl rfl ?_
  refine AT.ist3 M_22 rfl rfl ?_
  refine AT.iload_n M_22 rfl rfl ?_
  refine AT.iconst M_22 rfl (v := 1) (by decide) ?_
  refine AT.icmp_ne M_22 rfl (fun b4 => ?_) (fun b4 => ?_)
  · exact absurd rfl b4
  · refine AT.aload_n M_22 rfl rfl ?_
    refine AT.aload_n M_22 rfl rfl ?_
    refine AT.cv2i M_22 rfl M_23 rfl (Nat.le_of_ble_eq_true rfl) (xKd.of (shp_cl (by assumption))) (by decide) (c_23 ho hs hm h7) ?_ (Nat.le_of_ble_eq_true rfl) rfl
    refine AT.ist3 M_22 rfl rfl ?_
    by_cases hl : Int32.ofNat ((xK X o).2.1 s).length < 48
    · have hSt : ∀ i, i < 7 → sSame (xK X o) (kStart (xK X o) s 1) i := fun i _ => sSame.start _ _ _ _
      have r1 := cRel.set (n := n) hp hSt
      by_cases hc : sMost (sMem (xK X o) s) ((kStart (xK X o) s 1).1 16 s 0) = true
      · rw [if_pos hl, if_pos hc, show xSound X o s (sMem (xK X o) s) = xSetK X o (kStart (xK X o) s 1) from (if_pos hl).trans (if_pos hc), show kSoundA (xK X o) s = kStandA (kStart (xK X o) s 1) s from (if_pos hl).trans (if_pos hc), show kSoundN (xK X o) s = kStandN (kStart (xK X o) s 1) s from (if_pos hl).trans (if_pos hc)]
        have q1 := (hSt s hs).okS hk (kStart_1 (by omega))
        rw [← (show xK (xSetK X o (kStart (xK X o) s 1)) o = kStart (xK X o) s 1 from xK_same _ _ _)] at q1
        have h := t_22b (n := n) ho hs r1.pr q1 (by rw [xK_same, (hSt s hs).1, (hSt s hs).ka]; exact hB) (by rw [xK_same, (hSt s hs).1]; exact hn) 1
        rw [xK_same] at h
        refine AT.mono h ?_
        rintro o' Y ⟨h1, h2⟩
        exact ⟨h1, (r1.tr h2).up (by omega) (by omega)⟩
      · rw [if_pos hl, if_neg hc, show xSound X o s (sMem (xK X o) s) = _ from (if_pos hl).trans (if_neg hc), show kSoundA (xK X o) s = _ from (if_pos hl).trans (if_neg hc), show kSoundN (xK X o) s = 0 from (if_pos hl).trans (if_neg hc)]
        refine AT.iload_n M_22 rfl rfl ?_
        refine AT.iconst M_22 rfl (v := 2) (by decide) ?_
        refine AT.icmp_ne M_22 rfl (fun b11 => ?_) (fun b11 => absurd (Classical.not_not.mp b11) (by decide))
        refine AT.mono (t_22d _) ?_
        rintro o' Y ⟨h1, rfl⟩
        refine ⟨h1, ?_⟩
        have r2 := cRel.ask (n := n) (s := s) (mm := sMem (xK X o) s) (kd := 1) (tm := (kStart (xK X o) s 1).1 5 s 0 + 1) 7 0 r1.pr
        rw [xK_same] at r2
        exact (r1.tr r2).up (by omega) (by omega)
    · rw [if_neg hl, show xSound X o s (sMem (xK X o) s) = _ from if_neg hl, show kSoundA (xK X o) s = _ from if_neg hl, show kSoundN (xK X o) s = 0 from if_neg hl]
      refine AT.iload_n M_22 rfl rfl ?_
      refine AT.iconst M_22 rfl (v := 2) (by decide) ?_
      refine AT.icmp_ne M_22 rfl (fun b11 => ?_) (fun b11 => absurd (Classical.not_not.mp b11) (by decide))
      refine AT.mono (t_22d _) ?_
      rintro o' Y ⟨h1, rfl⟩
      refine ⟨h1, ?_⟩
      exact (cRel.set (n := n) hp (fun i _ => sSame.set (by decide) i)).up (by omega) (by omega)
theorem c_22 {X : XS} {o s n : Nat} (ho : o < 2) (hs : s < 7) (hp : mPr X o) (hk : sOk (xK X o) s) (hB : kA (xK X o) s + ((xK X o).2.1 s).length + 1 < 400000) (hn : ((xK X o).2.1 s).length ≤ n) {f : Int32} : RU 22 [some (.ref (aB o)), some (.ref (aS o s)), some (.int f), none] X none (fun Y => cRel o n (kRiseN (xK X o) s f) (kRiseN (xK X o) s f * pF 2) X Y (kRise (xK X o) s f)) := by
  by_cases h1 : f = 1
  · subst h1
    rw [show kRise (xK X o) s 1 = kSoundA (xK X o) s from rfl, kRiseN_1]
    exact t_22a ho hs hp hk hB hn none
  · unfold RU
    refine AT.iload_n M_22 rfl rfl ?_
    refine AT.ist3 M_22 rfl rfl ?_
    refine AT.iload_n M_22 rfl rfl ?_
    refine AT.iconst M_22 rfl (v := 1) (by decide) ?_
    refine AT.icmp_ne M_22 rfl (fun b4 => ?_) (fun b4 => ?_)
    · by_cases h2 : f = 2
      · subst h2
        rw [show kRise (xK X o) s 2 = kStandA (xK X o) s from rfl, kRiseN_2]
        exact t_22b ho hs hp hk hB hn _
      · refine AT.iload_n M_22 rfl rfl ?_
        refine AT.iconst M_22 rfl (v := 2) (by decide) ?_
        refine AT.icmp_ne M_22 rfl (fun b11 => ?_) (fun b11 => absurd (Classical.not_not.mp b11) h2)
        by_cases h3 : f = 3
        · subst h3
          rw [show kRise (xK X o) s 3 = kLeadA (xK X o) s from rfl, kRiseN_3]
          exact t_22c ho hs hp hk hB hn _
        · rw [show kRise (xK X o) s f = xK X o from by unfold kRise; rw [if_neg h1, if_neg h2, if_neg h3], show kRiseN (xK X o) s f = 0 from by unfold kRiseN; rw [if_neg h1, if_neg h2, if_neg h3]]
          refine AT.iload_n M_22 rfl rfl ?_
          refine AT.iconst M_22 rfl (v := 3) (by decide) ?_
          refine AT.icmp_ne M_22 rfl (fun b18 => ?_) (fun b18 => absurd (Classical.not_not.mp b18) h3)
          refine AT.vret M_22 rfl rfl ?_
          exact ⟨rfl, (cRel.rf n hp).up (by omega) (by omega)⟩
    · exact absurd (Classical.not_not.mp b4) h1
