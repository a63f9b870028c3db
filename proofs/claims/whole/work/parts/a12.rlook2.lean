/-! ===== THE REFERENCE: look ===== -/
theorem c_193w {X : XS} {o s : Nat} (h2 : 2 ≤ o) (h4 : o < 4) (hs : s < 7) (hw : kWf (xK X o) s) : RT 193 [some (.ref (bB o)), some (.int (Int32.ofNat s)), some (.int (sLast (xK X o) s)), none] X (some (.int (sMix (xK X o) s))) X := by
  obtain ⟨a, ha, hl⟩ := hw
  have h := c_193 h2 h4 hs ha hl (x := sLast (xK X o) s) (n := ((xK X o).2.1 s).length) (sLast_of ha) (Nat.le_refl _)
  rw [List.take_length, ← ha] at h
  exact h
theorem kApF_set (s : Nat) (v : Int32) : ∀ (n c : Nat) (K : KK), kApF s n c (kSet K 15 s 0 v) = kSet (kApF s n c K) 15 s 0 v
  | 0, _, _ => rfl
  | n + 1, c, K => by
    show kApF s n (c + 1) (kAnsO (kSet K 15 s 0 v) s (sEnt (kSet K 15 s 0 v) s _)) = kSet (kApF s n (c + 1) _) 15 s 0 v
    rw [kAnsO_set (by omega), kApF_set s v n (c + 1), show sEnt (kSet K 15 s 0 v) s = sEnt K s from funext fun x => sEnt_congr (kSet_ne (by omega)) rfl x]
theorem kLk_15 {K : KK} {s i j : Nat} (h : ¬ (i = s ∧ j = 0)) : (kLk K s).1 15 i j = K.1 15 i j := (kStep_1 (by omega)).trans (kComm_1 (by omega) (by omega) (fun z => h ⟨z.2.1, z.2.2⟩))
theorem kLk_at {K : KK} {s : Nat} : (kLk K s).1 15 s 0 = Int32.ofNat (kC K s + sLkN (fun k => sLkP K s (sMem K s) (Int32.ofNat (kC K s + k))) (kA K s + (K.2.1 s).length - kC K s)) := (kStep_1 (by omega)).trans (kSet_at _ _ _ _ _)
theorem rAp.apr {o s n c z : Nat} {x : Int32} {X Z Z' : XS} {K : KK} (h : rAp o s x X Z) (hV : dV (xD Z') o = dV (xD Z) o) (hR : rRel0 o n c z X Z' K) (ha : aPr X o) (h1 : K.1 15 s 0 = x) (h2 : ∀ i, i < 7 → ¬ i = s → K.1 15 i 0 = (xK X o).1 15 i 0) : rRel o n c z X Z' K :=
  ⟨hR, fun j => by rw [hV]; exact h.2 40 0 j (by omega) (by omega) (by omega), fun i hi => by
    rw [hV, hR.k]
    by_cases e : i = s
    · rw [e, h1]; exact h.1
    · rw [h2 i hi e, h.2 20 i 0 (by omega) (by omega) (fun z => e z.2.1)]; exact ha i hi⟩
theorem c_207 {X : XS} {o s m : Nat} (h2 : 2 ≤ o) (h4 : o < 4) (hs : s < 7) (hk : sOk (xK X o) s) (hap : aPr X o) : RU 207 [some (.ref (bB o)), some (.int (Int32.ofNat s)), none, none, none, none] X none (fun Z => rRel o m 0 0 X Z (kLk (xK X o) s)) := by
  obtain ⟨nn, hnn, hmm⟩ := hk.m128
  have hl : kA (xK X o) s + ((xK X o).2.1 s).length < 16777216 := by have := hk.2.2.2.2.1; omega
  have h20 : dV (xD X) o 20 s 0 = Int32.ofNat (kC (xK X o) s) := (hap s hs).trans hk.2.1
  have hle := sLkN_le (fun k => sLkP (xK X o) s (sMem (xK X o) s) (Int32.ofNat (kC (xK X o) s + k))) (kA (xK X o) s + ((xK X o).2.1 s).length - kC (xK X o) s)
  have hcn : kC (xK X o) s + (sLkN (fun k => sLkP (xK X o) s (sMem (xK X o) s) (Int32.ofNat (kC (xK X o) s + k))) (kA (xK X o) s + ((xK X o).2.1 s).length - kC (xK X o) s)) ≤ kA (xK X o) s + ((xK X o).2.1 s).length := by have := hk.2.2.2.1; omega
  refine AT.aload_n M_207 rfl rfl ?_
  refine AT.iload_n M_207 rfl rfl ?_
  refine AT.cv2i M_207 rfl M_195 rfl (Nat.le_of_ble_eq_true rfl) (xKd.of (sh_st h2 h4)) (by decide) (c_195 h2 h4 hs hk.wf) ?_ (Nat.le_of_ble_eq_true rfl) rfl
  rw [hmm]
  refine AT.ist2 M_207 rfl rfl ?_
  refine AT.aload_n M_207 rfl rfl ?_
  refine AT.iload_n M_207 rfl rfl ?_
  refine AT.cv2i M_207 rfl M_187 rfl (Nat.le_of_ble_eq_true rfl) (xKd.of (sh_st h2 h4)) (by decide) (c_187 h2 h4 hs) ?_ (Nat.le_of_ble_eq_true rfl) rfl
  rw [show sLast (xK X o) s = Int32.ofNat (kC (xK X o) s + (kA (xK X o) s + ((xK X o).2.1 s).length - kC (xK X o) s)) from by rw [sLast_of hk.1]; congr 1; have := hk.2.2.2.1; omega]
  refine AT.ist3 M_207 rfl rfl ?_
  refine l_207d h2 h4 hs hnn hk.1 hk.2.1 hk.2.2.1 hl _ (by have := hk.2.2.2.1; omega) (fun x3 x4 x5 => ?_) _ _
  rw [← hmm]
  refine AT.aload_n M_207 rfl rfl ?_
  refine AT.iload_n M_207 rfl rfl ?_
  refine AT.cv2w M_207 rfl M_208 rfl (Nat.le_of_ble_eq_true rfl) (xKd.of (sh_st h2 h4)) (by decide) (l_208 (m := m) h2 h4 hs (sLkN (fun k => sLkP (xK X o) s (sMem (xK X o) s) (Int32.ofNat (kC (xK X o) s + k))) (kA (xK X o) s + ((xK X o).2.1 s).length - kC (xK X o) s)) (kC (xK X o) s) (xSetK X o (kSet (xK X o) 15 s 0 (Int32.ofNat (kC (xK X o) s + (sLkN (fun k => sLkP (xK X o) s (sMem (xK X o) s) (Int32.ofNat (kC (xK X o) s + k))) (kA (xK X o) s + ((xK X o).2.1 s).length - kC (xK X o) s)))))) none none h20 (by rw [xK_same]; exact kSet_at _ _ _ _ _) (a := kA (xK X o) s) (by rw [xK_same]; exact (kSet_ne (by omega)).trans hk.1) hk.2.2.1 (by rw [xK_same]; exact hcn) (by rw [xK_same]; exact hl) (by rw [xK_same]; exact hk.2.2.2.2.2.1)) (fun Y hc81 => ?_) (Nat.le_of_ble_eq_true rfl) rfl
  obtain ⟨z2, z0⟩ := hc81
  have z3 : rAp o s (Int32.ofNat (kC (xK X o) s + (sLkN (fun k => sLkP (xK X o) s (sMem (xK X o) s) (Int32.ofNat (kC (xK X o) s + k))) (kA (xK X o) s + ((xK X o).2.1 s).length - kC (xK X o) s)))) X Y := z0
  rw [xK_same, kApF_set, kApF_eq] at z2
  have hZ : xK Y o = (kComm (xK X o) s (kC (xK X o) s) (sLkN (fun k => sLkP (xK X o) s (sMem (xK X o) s) (Int32.ofNat (kC (xK X o) s + k))) (kA (xK X o) s + ((xK X o).2.1 s).length - kC (xK X o) s))) := z2.k
  have hR : rRel0 o m 0 0 X Y (kComm (xK X o) s (kC (xK X o) s) (sLkN (fun k => sLkP (xK X o) s (sMem (xK X o) s) (Int32.ofNat (kC (xK X o) s + k))) (kA (xK X o) s + ((xK X o).2.1 s).length - kC (xK X o) s))) := (rRel0.set o m X _).tr z2
  have hw : kWf (xK Y o) s := by rw [hZ]; exact kWf_congr hk.wf (kComm_1 (by omega) (by omega) (by omega)) (by rw [kComm_2])
  have hmx : sMix (xK Y o) s = sMix (xK X o) s := by unfold sMix; rw [hZ, kComm_2, kComm_1 (by omega) (by omega) (by omega)]
  have h15 : (xK Y o).1 15 s 0 = Int32.ofNat (kC (xK X o) s + (sLkN (fun k => sLkP (xK X o) s (sMem (xK X o) s) (Int32.ofNat (kC (xK X o) s + k))) (kA (xK X o) s + ((xK X o).2.1 s).length - kC (xK X o) s))) := by rw [hZ]; exact kSet_at _ _ _ _ _
  try simp only [xK_same, xSetK_idem, xD_setK, xK_setD, xD_setD, xSetD_setK, xSetD_idem, kSet_1, kSet_2, kRow_1, kRow_2, kLog_1, kLog_2, kLog_l, kLog_idem, List.take_zero, if_true]
  refine AT.aload_n M_207 rfl rfl ?_
  refine AT.iload_n M_207 rfl rfl ?_
  refine AT.aload_n M_207 rfl rfl ?_
  refine AT.iload_n M_207 rfl rfl ?_
  refine AT.cv2i M_207 rfl M_187 rfl (Nat.le_of_ble_eq_true rfl) (xKd.of (sh_st h2 h4)) (by decide) (c_187 h2 h4 hs) ?_ (Nat.le_of_ble_eq_true rfl) rfl
  try simp only [xK_same, xSetK_idem, xD_setK, xK_setD, xD_setD, xSetD_setK, xSetD_idem, kSet_1, kSet_2, kRow_1, kRow_2, kLog_1, kLog_2, kLog_l, kLog_idem, List.take_zero, if_true]
  refine AT.cv3i M_207 rfl M_193 rfl (Nat.le_of_ble_eq_true rfl) (xKd.of (sh_st h2 h4)) (by decide) (c_193w h2 h4 hs hw) ?_ (Nat.le_of_ble_eq_true rfl) rfl
  try simp only [xK_same, xSetK_idem, xD_setK, xK_setD, xD_setD, xSetD_setK, xSetD_idem, kSet_1, kSet_2, kRow_1, kRow_2, kLog_1, kLog_2, kLog_l, kLog_idem, List.take_zero, if_true]
  rw [hmx]
  refine AT.ist3 M_207 rfl rfl ?_
  refine AT.iload_n M_207 rfl rfl ?_
  refine AT.iload_n M_207 rfl rfl ?_
  refine AT.ishr M_207 rfl rfl ?_
  refine AT.iconst M_207 rfl (v := 1) (by decide) ?_
  refine AT.iand M_207 rfl rfl ?_
  refine AT.if_ne M_207 rfl (fun b94 => ?_) (fun b94 => ?_)
  · refine AT.vret M_207 rfl rfl ?_
    have h94 := b94
    rw [i32_bit hs] at h94
    have e : kLk (xK X o) s = (kComm (xK X o) s (kC (xK X o) s) (sLkN (fun k => sLkP (xK X o) s (sMem (xK X o) s) (Int32.ofNat (kC (xK X o) s + k))) (kA (xK X o) s + ((xK X o).2.1 s).length - kC (xK X o) s))) := if_neg (fun z => absurd (bI_ne0.mp h94) (by rw [z.1]; decide))
    rw [show kLk (xK X o) s = _ from e]
    exact ⟨rfl, z3.apr rfl hR hap (kSet_at _ _ _ _ _) (fun i hi e => kComm_1 (by omega) (by omega) (fun z => e z.2.1))⟩
  · refine AT.iload_n M_207 rfl rfl ?_
    refine AT.iconst M_207 rfl (v := (-1)) (by decide) ?_
    refine AT.icmp_eq M_207 rfl (fun b97 => ?_) (fun b97 => ?_)
    · refine AT.vret M_207 rfl rfl ?_
      have h94 := b94
      rw [i32_bit hs] at h94
      have e : kLk (xK X o) s = (kComm (xK X o) s (kC (xK X o) s) (sLkN (fun k => sLkP (xK X o) s (sMem (xK X o) s) (Int32.ofNat (kC (xK X o) s + k))) (kA (xK X o) s + ((xK X o).2.1 s).length - kC (xK X o) s))) := if_neg (fun z => z.2.1 b97)
      rw [show kLk (xK X o) s = _ from e]
      exact ⟨rfl, z3.apr rfl hR hap (kSet_at _ _ _ _ _) (fun i hi e => kComm_1 (by omega) (by omega) (fun z => e z.2.1))⟩
    · refine AT.iload_n M_207 rfl rfl ?_
      refine AT.aload_n M_207 rfl rfl ?_
      refine AT.r10_8 M_207 rfl h2 h4 ?_
      refine AT.iload_n M_207 rfl rfl ?_
      refine AT.ra_15 M_207 rfl rfl h2 h4 (by assumption) ?_
      refine AT.icmp_le M_207 rfl (fun b103 => ?_) (fun b103 => ?_)
      · refine AT.aload_n M_207 rfl rfl ?_
        refine AT.r10_5 M_207 rfl h2 h4 ?_
        refine AT.iload_n M_207 rfl rfl ?_
        refine AT.iconst M_207 rfl (v := 0) (by decide) ?_
        refine AT.rs_12 M_207 rfl rfl h2 h4 (by assumption) ?_
        try simp only [xK_same, xSetK_idem, xD_setK]
        refine AT.aload_n M_207 rfl rfl ?_
        refine AT.r10_6 M_207 rfl h2 h4 ?_
        refine AT.iload_n M_207 rfl rfl ?_
        refine AT.iconst M_207 rfl (v := (-1)) (by decide) ?_
        refine AT.rs_13 M_207 rfl rfl h2 h4 (by assumption) ?_
        try simp only [xK_same, xSetK_idem, xD_setK]
        refine AT.vret M_207 rfl rfl ?_
        have h94 := b94
        rw [i32_bit hs] at h94
        have e : kLk (xK X o) s = kSet (kSet (kComm (xK X o) s (kC (xK X o) s) (sLkN (fun k => sLkP (xK X o) s (sMem (xK X o) s) (Int32.ofNat (kC (xK X o) s + k))) (kA (xK X o) s + ((xK X o).2.1 s).length - kC (xK X o) s))) 12 s 0 0) 13 s 0 (-1) := if_pos (⟨bI_eq0.mp (Classical.not_not.mp h94), b97, by rw [← hZ]; exact b103⟩)
        rw [show kLk (xK X o) s = _ from e, hZ]
        exact ⟨rfl, z3.apr rfl (hR.net _) hap (by rw [kSet_ne (by omega), kSet_ne (by omega)]; exact kSet_at _ _ _ _ _) (fun i hi e => by rw [kSet_ne (by omega), kSet_ne (by omega)]; exact kComm_1 (by omega) (by omega) (fun z => e z.2.1))⟩
      · refine AT.vret M_207 rfl rfl ?_
        have h94 := b94
        rw [i32_bit hs] at h94
        have e : kLk (xK X o) s = (kComm (xK X o) s (kC (xK X o) s) (sLkN (fun k => sLkP (xK X o) s (sMem (xK X o) s) (Int32.ofNat (kC (xK X o) s + k))) (kA (xK X o) s + ((xK X o).2.1 s).length - kC (xK X o) s))) := if_neg (fun z => absurd z.2.2 (by rw [← hZ]; exact b103))
        rw [show kLk (xK X o) s = _ from e]
        exact ⟨rfl, z3.apr rfl hR hap (kSet_at _ _ _ _ _) (fun i hi e => kComm_1 (by omega) (by omega) (fun z => e z.2.1))⟩
