/-! ===== THE SERVERS AGREE: what is committed; from sounding to leading ===== -/
theorem sLkN_p (p : Nat → Bool) : ∀ n, ¬ sLkN p n = 0 → p (sLkN p n) = true
  | 0, h => absurd rfl h
  | n + 1, h => by
    unfold sLkN at h ⊢
    by_cases c : p (n + 1) = true
    · rw [if_pos c]; exact c
    · rw [if_neg c] at h ⊢; exact sLkN_p p n h
theorem sSum_cn (p : Nat → Bool) : sSum (fun j => bI (p j)) 7 = Int32.ofNat (cn p) := by
  have hb : ∀ b : Bool, bI b = Int32.ofNat (bn b) := fun b => by cases b <;> rfl
  show (((((((0 : Int32) + bI (p 0)) + bI (p 1)) + bI (p 2)) + bI (p 3)) + bI (p 4)) + bI (p 5)) + bI (p 6) = _
  rw [hb, hb, hb, hb, hb, hb, hb, show (0 : Int32) = Int32.ofNat 0 from rfl, ← Int32.ofNat_add, ← Int32.ofNat_add, ← Int32.ofNat_add, ← Int32.ofNat_add, ← Int32.ofNat_add, ← Int32.ofNat_add, ← Int32.ofNat_add, Nat.zero_add]
  rfl
theorem gLe.com (G : GG) (t i : Nat) : gLe G (gCom G t i) := ⟨fun _ _ h => h, fun _ _ => ⟨[], (List.append_nil _).symm⟩, fun _ _ _ h => h, fun _ _ _ => Nat.le_refl _, fun _ _ _ h => Or.inl h⟩
theorem gLe.tr {G G' G2 : GG} (h : gLe G G') (k : gLe G' G2) : gLe G G2 := by
  refine ⟨fun t c z => k.1 t c (h.1 t c z), fun t hd => ?_, fun t v x z => k.2.2.1 t v x (h.2.2.1 t v x z), fun t v hv => Nat.le_trans (h.2.2.2.1 t v hv) (k.2.2.2.1 t v hv), fun t i n z => k.2.2.2.2 t i n (h.2.2.2.2 t i n z)⟩
  obtain ⟨N, hN⟩ := h.2.1 t hd
  have hd' : ¬ gD G' t = none := by
    cases hc : gD G t with
    | none => exact absurd hc hd
    | some c => rw [h.1 t c hc]; exact fun y => by cases y
  obtain ⟨N', hN'⟩ := k.2.1 t hd'
  exact ⟨N ++ N', by rw [hN', hN, List.append_assoc]⟩
section LKS
variable {K : KK} {G : GG} {m0 : Int32} {A B k s : Nat}
theorem kAll.lk (h : kAll m0 A B k K G) (hs : s < 7) (hr : kR K s = 3) : ∃ G', kAll m0 A B k (kLk K s) G' ∧ gLe G G' := by
  have main : ∃ G', kAll m0 A B k (kComm K s (kC K s) (sLkN (fun k => sLkP K s (sMem K s) (Int32.ofNat (kC K s + k))) (kA K s + (K.2.1 s).length - kC K s))) G' ∧ gLe G G' := by
    have hk := h.ok hs
    obtain ⟨⟨⟨a, c, a1, a2, a3, a4, a5, a6, a7, a8, a9⟩, aB, aE⟩, ⟨b1, b2, b3, b4, b5, b6⟩, c1, c2⟩ := h.2.1 s hs
    obtain ⟨d1, d2⟩ := (h.1.2.2.1 s hs).1 hr
    obtain ⟨c3, c4⟩ := c1 hr
    have hB := h.2.2.2.2.2.2
    have ea := kA_of a1 (by omega)
    have ec := kC_of a2 (by omega)
    have el := fu_len a5
    rw [ea, ec, el, show a + ((gF G s).length - a) - c = (gF G s).length - c by omega]
    by_cases hz : sLkN (fun k => sLkP K s (sMem K s) (Int32.ofNat (c + k))) ((gF G s).length - c) = 0
    · rw [hz, kComm_0 a2]
      exact ⟨G, h, gLe.rf G⟩
    · have hm := sLkN_p _ _ hz
      have hle := sLkN_le (fun k => sLkP K s (sMem K s) (Int32.ofNat (c + k))) ((gF G s).length - c)
      obtain ⟨m, hmm⟩ : ∃ m, m = sLkN (fun k => sLkP K s (sMem K s) (Int32.ofNat (c + k))) ((gF G s).length - c) := ⟨_, rfl⟩
      rw [← hmm] at hm hle hz ⊢
      unfold sLkP at hm
      rw [Bool.and_eq_true] at hm
      obtain ⟨m1, m2⟩ := hm
      have hd : ¬ gD G (kT K s) = none := by rw [d1]; exact fun y => by cases y
      have m3 := of_decide_eq_true m1
      rw [fu_tix a1 a5 a6 (by omega) (by omega) (by omega)] at m3
      have hj : c + m - 1 < (gF G s).length := by omega
      obtain ⟨x, hget⟩ : ∃ x, (gF G s)[c + m - 1]? = some x := ⟨_, List.getElem?_eq_getElem hj⟩
      rw [show c + m = (c + m - 1) + 1 by omega, tAt_some hget] at m3
      have htm : tm x = kT K s := by unfold tm kT; rw [m3]
      have hge : gE G (kT K s) ≤ c + m - 1 := Nat.le_of_not_lt (fun z => by
        rw [d2] at hget
        have := h.1.1.old hd hget z
        omega)
      have hq : ∃ Q : Nat → Bool, qMost (cf m0 (gL G (kT K s))) Q ∧ ∀ v, v < 7 → Q v = true → c + m ≤ gA G (kT K s) v := by
        refine ⟨fun v => decide (v = s) || decide (Int32.ofNat (c + m) ≤ K.1 3 s v), ?_, fun v hv hQ => ?_⟩
        · unfold sHave at m2
          have m4 := of_decide_eq_true m2
          rw [sSum_cn, sSum_cn, show (2 : Int32) = Int32.ofNat 2 from rfl, ← Int32.ofNat_mul] at m4
          have g1 := cn_le (sBit (sMem K s))
          have g0 := cn_le (fun j => sBit (sMem K s) j)
          have g2 := cn_le (fun j => sBit (sMem K s) j && (decide (j = s) || decide (Int32.ofNat (c + m) ≤ K.1 3 s j)))
          rw [i32_lt (by omega) (by omega)] at m4
          unfold qMost cf
          rw [← d2, ← fu_mem a5 a7]
          have e8 : cn (fun v => (decide (v = s) || decide (Int32.ofNat (c + m) ≤ K.1 3 s v)) && sBit (sMem K s) v) = cn (fun j => sBit (sMem K s) j && (decide (j = s) || decide (Int32.ofNat (c + m) ≤ K.1 3 s j))) := cn_cg (fun v _ => Bool.and_comm _ _)
          rw [e8]
          exact m4
        · have hQ' : (decide (v = s) || decide (Int32.ofNat (c + m) ≤ K.1 3 s v)) = true := hQ
          rw [Bool.or_eq_true, decide_eq_true_eq, decide_eq_true_eq] at hQ'
          by_cases e : v = s
          · rw [e]; omega
          · obtain ⟨nx, mt, q1, q2, q3, q4, q5, q6⟩ := c4 v hv
            have q7 := hQ'.resolve_left e
            rw [q4, i32_le (by omega) (by omega)] at q7
            exact Nat.le_trans q7 (q6 e)
      have hc := h.1.com hd (show gE G (kT K s) < c + m by omega) (by rw [← d2]; omega) hq
      have eo : ∀ f i j, relF f → ¬ (f = 15 ∧ i = s ∧ j = 0) → (kComm K s c m).1 f i j = K.1 f i j := fun f i j hf hne => kComm_1 (fun z => by unfold relF at hf; omega) (fun z => by unfold relF at hf; omega) hne
      have rel : ∀ {f : Nat}, (f = 2 ∨ f = 3 ∨ f = 5 ∨ f = 6 ∨ f = 12 ∨ f = 15 ∨ f = 16 ∨ f = 18) → relF f := fun z => z
      have eT : kT (kComm K s c m) s = kT K s := by unfold kT; rw [eo 5 s 0 (rel (by omega)) (by omega)]
      have eR : kR (kComm K s c m) s = kR K s := by unfold kR; rw [eo 12 s 0 (rel (by omega)) (by omega)]
      have eP : kP (kComm K s c m) s = kP K s := by unfold kP; rw [eo 6 s 0 (rel (by omega)) (by omega)]
      have eY : ∀ v, kY (kComm K s c m) s v = kY K s v := fun v => by unfold kY; rw [eo 16 s 0 (rel (by omega)) (by omega)]
      have hE : ∀ i, i < 7 → ¬ i = s → sEq K (kComm K s c m) i := fun i _ e => ⟨fun f j hf => eo f i j hf (fun z => e z.2.1), by rw [kComm_2]⟩
      refine ⟨_, h.upd hE (gLe.com G _ _) (fun _ _ => rfl) (hc.cg (fun x hx => ?_) (fun x hx => ?_) (fun x hx => ?_) (fun x hx _ v _ hy => Or.inl ?_)) ⟨⟨⟨a, c + m, (eo 18 s 0 (rel (by omega)) (by omega)).trans a1, kSet_at _ _ _ _ _, by omega, by show _ ≤ (gF G s).length; omega, by rw [kComm_2]; exact a5, (eo 18 s 1 (rel (by omega)) (by omega)).trans a6, (eo 18 s 2 (rel (by omega)) (by omega)).trans a7, ?_, a9⟩, aB, aE⟩, ⟨by rw [eo 5 s 0 (rel (by omega)) (by omega), eT]; exact b1, by rw [eT]; exact b2, by rw [eo 12 s 0 (rel (by omega)) (by omega), eR]; exact b3, by rw [eR]; exact b4, by rw [eo 6 s 0 (rel (by omega)) (by omega)]; exact b5, ?_⟩, fun _ => ⟨by rw [eT]; exact c3, fun q hq7 => ?_⟩, fun z => by rw [eR] at z; rw [kComm_2]; exact c2 z⟩ (fun u hu => Or.inl (by rw [kComm_2] at hu; exact hu)) h.2.2.2, gLe.com G _ _⟩
      · by_cases e : x = s
        · rw [e]; exact eT
        · exact (hE x hx e).t
      · by_cases e : x = s
        · rw [e]; exact eR
        · exact (hE x hx e).r
      · by_cases e : x = s
        · rw [e]; exact eP
        · exact (hE x hx e).p
      · by_cases e : x = s
        · rw [e] at hy ⊢; rw [← eY]; exact hy
        · rw [← (hE x hx e).y]; exact hy
      · refine Or.inr ⟨kT K s, c + m, (gL G (kT K s)).length, Or.inr ⟨rfl, rfl, rfl⟩, by rw [eT]; exact Nat.le_refl _, Nat.le_refl _, ?_⟩
        show ag (gF G s) (gL G (kT K s)) (c + m)
        rw [← d2]; exact ag.rf (by omega)
      · obtain ⟨y, y1, y2⟩ := b6
        exact ⟨y, y1, (eo 16 s 0 (rel (by omega)) (by omega)).trans y2⟩
      · rw [eT]
        obtain ⟨nx, mt, q1, q2, q3, q4, q5, q6⟩ := c4 q hq7
        exact ⟨nx, mt, (eo 2 s q (rel (by omega)) (by omega)).trans q1, q2, q3, (eo 3 s q (rel (by omega)) (by omega)).trans q4, q5, q6⟩
  obtain ⟨G', g1, g2⟩ := main
  refine ⟨G', ?_, g2⟩
  unfold kLk kLook kStep
  split
  · exact g1.quit hs
  · exact g1
theorem uAsk {q : Nat} {kd : Int32} {t : Nat} (h : kAll m0 A B k K G) (hs : s < 7) (hq : q < 7) (hne : ¬ s = q) (ht : t < 2147483648) (hkd : kd = 1 ∧ t + k ≤ 1000000001 ∨ kd = 3 ∧ kR K s = 2 ∧ t = kT K s) : uOk m0 A k G (mAsk K s q kd (Int32.ofNat t)) := by
  have e1 : mF (mAsk K s q kd (Int32.ofNat t)) = s := by unfold mF; exact toN (by omega)
  have e2 : mS (mAsk K s q kd (Int32.ofNat t)) = q := by unfold mS; exact toN (by omega)
  have e3 : mT (mAsk K s q kd (Int32.ofNat t)) = t := toN ht
  have ek : (mAsk K s q kd (Int32.ofNat t)).1 1 = kd := rfl
  have hw : mWf (mAsk K s q kd (Int32.ofNat t)) := ⟨by rw [e2]; rfl, by rw [e2]; exact hq, by rw [e1]; rfl, by rw [e1]; exact hs, by
    rw [ek]
    rcases hkd with z | z
    · exact Or.inl z.1
    · exact Or.inr (Or.inr (Or.inl z.1))⟩
  have nk : ∀ x : Int32, ¬ x = 1 → ¬ x = 3 → ¬ (mAsk K s q kd (Int32.ofNat t)).1 1 = x := fun x x1 x3 z => by
    rw [ek] at z
    rcases hkd with y | y
    · exact x1 (z.symm.trans y.1)
    · exact x3 (z.symm.trans y.1)
  have hT := (h.2.1 s hs).2.1.2.1
  refine ⟨hw, by rw [e1, e2]; exact hne, by rw [e3]; rfl, ⟨by rw [e3]; rcases hkd with z | z <;> omega, fun z => ?_⟩, Or.inl rfl, fun z => (z.elim (nk 2 (by decide) (by decide)) (nk 4 (by decide) (by decide))).elim, fun z => ?_, fun z => absurd z (nk 4 (by decide) (by decide)), fun z => absurd z (nk 5 (by decide) (by decide)), fun z => absurd z (nk 6 (by decide) (by decide)), fun z => absurd z (nk 7 (by decide) (by decide))⟩
  · rcases hkd with y | y
    · unfold sBears at z
      rw [ek, y.1] at z
      simp at z
    · rw [e3]; omega
  · rcases hkd with y | y
    · rw [ek, y.1] at z; exact absurd z (by decide)
    · obtain ⟨⟨⟨a, c, a1, a2, a3, a4, a5, a6, a7, a8, a9⟩, aB, aE⟩, -, -⟩ := h.2.1 s hs
      have hB := h.2.2.2.2.2.2
      rw [e1, e3, y.2.2]
      exact ⟨gF G s, ((h.1.2.2.1 s hs).2 y.2.1).2.2.1, fu_last a1 a5 (by omega), fu_lt a5 (by omega) a6 aE, by omega⟩
theorem kAll.askF {kd : Int32} {t : Nat} (hs : s < 7) (mm : Int32) (ht : t < 2147483648) : ∀ (n q : Nat) (K : KK), q + n ≤ 7 → kAll m0 A B k K G → (kd = 1 ∧ t + k ≤ 1000000001 ∨ kd = 3 ∧ kR K s = 2 ∧ t = kT K s) → kAll m0 A B k (kAskF s mm kd (Int32.ofNat t) n q K) G
  | 0, _, _, _, h, _ => h
  | n + 1, q, K, hq, h, hk => by
    unfold kAskF
    by_cases c : ¬ q = s ∧ sBit mm q = true
    · rw [if_pos c]
      refine kAll.askF hs mm ht n (q + 1) _ (by omega) (h.send (uAsk h hs (by omega) (fun z => c.1 z.symm) ht hk)) ?_
      rw [(sEq.send K _ s).r, (sEq.send K _ s).t]; exact hk
    · rw [if_neg c]
      exact kAll.askF hs mm ht n (q + 1) _ (by omega) h hk
theorem kAll.leadA (h : kAll m0 A B k K G) (hs : s < 7) (h2 : kR K s = 2) (hq : qMost (cf m0 (gF G s)) (kY K s)) : ∃ G', kAll m0 A B k (kLeadA K s) G' ∧ gLe G G' := by
  obtain ⟨G1, g1, g2, g3⟩ := h.lead hs h2 hq
  have g4 := g1.snd hs g3
  obtain ⟨G2, g5, g6⟩ := g4.lk hs (by rw [(sEq.snd _ s s).r]; exact g3)
  exact ⟨G2, g5, g2.tr g6⟩
/-- most of the yeses, in a state -/
theorem kAll.most (h : kAll m0 A B k K G) (hs : s < 7) {mm : Int32} (hm : mm = sMem K s) (hq : sMost mm (K.1 16 s 0) = true) : qMost (cf m0 (gF G s)) (kY K s) := by
  obtain ⟨y, y1, y2⟩ := (h.2.1 s hs).2.1.2.2.2.2.2
  have hk := h.ok hs
  obtain ⟨n, n1, n2⟩ := hk.1.m128
  rw [hm, n2, y2] at hq
  have q := sMost_q n1 y1 hq
  unfold cf kY
  rw [← hk.2.2.2.2.2, n2, y2]
  exact q
theorem sMem_cg {K K' : KK} (hl : K'.2.1 s = K.2.1 s) (h18 : K'.1 18 s 2 = K.1 18 s 2) : sMem K' s = sMem K s := by unfold sMem; rw [hl, h18]
theorem kAll.standA (h : kAll m0 A B (k + 1) K G) (hs : s < 7) (h48 : (K.2.1 s).length < 48) : ∃ G', kAll m0 A B k (kStandA K s) G' ∧ gLe G G' := by
  obtain ⟨g1, g2, g3, g4⟩ := h.stand hs h48
  unfold kStandA
  by_cases c : sMost (sMem K s) ((kStand K s).1 16 s 0) = true
  · rw [if_pos c]
    obtain ⟨G2, x1, x2⟩ := g1.leadA hs g4 (g1.most hs (sMem_cg (K := K) (K' := kStand K s) rfl (kStand_1 (by omega))).symm c)
    exact ⟨G2, x1, g2.tr x2⟩
  · rw [if_neg c]
    have hb := (g1.2.1 s hs).2.1
    rw [hb.1]
    exact ⟨_, kAll.askF hs _ (by have := hb.2.1; omega) 7 0 _ (by omega) g1 (Or.inr ⟨rfl, g4, rfl⟩), g2⟩
theorem kAll.soundA (h : kAll m0 A B (k + 1) K G) (hs : s < 7) : ∃ G', kAll m0 A B k (kSoundA K s) G' ∧ gLe G G' := by
  unfold kSoundA
  have hlen := (h.ok hs).2.2.1
  have hB := h.2.2.2.2.2.2
  by_cases c : Int32.ofNat (K.2.1 s).length < 48
  · have h48 : (K.2.1 s).length < 48 := (i32_lt (b := 48) (by omega) (by omega)).mp c
    rw [if_pos c]
    have g1 := h.start hs h48
    by_cases c2 : sMost (sMem K s) ((kStart K s 1).1 16 s 0) = true
    · rw [if_pos c2]
      exact g1.standA hs h48
    · rw [if_neg c2]
      have hb := (g1.2.1 s hs).2.1
      rw [hb.1, show Int32.ofNat (kT (kStart K s 1) s) + 1 = Int32.ofNat (kT (kStart K s 1) s + 1) from i32_suc1 _]
      exact ⟨G, kAll.askF hs _ (by have := hb.2.1; omega) 7 0 _ (by omega) g1.dn (Or.inl ⟨rfl, by have := hb.2.1; omega⟩), gLe.rf G⟩
  · rw [if_neg c]
    exact ⟨G, h.dn.set (by unfold relF; omega), gLe.rf G⟩
end LKS
