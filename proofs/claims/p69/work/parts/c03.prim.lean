/-! ===== WHAT A STEP IS MADE OF: the small steps of a server s that carries out w ===== -/
def pr (s : Nat) (w : MSG) (K K' : KK) : Prop :=
  (∃ v : Int32, kT K s ≤ v.toNatClampNeg ∧ K' = kTerm K s v) ∨ (∃ x, K' = kObey K s x) ∨ K' = kStart K s 1 ∨ K' = kStand K s ∨ (K.1 12 s 0 = 2 ∧ K' = kLd K s) ∨
  (∃ u : MSG, u.2 = (none, []) ∧ K' = kSend K u) ∨ (∃ q, q < 7 ∧ K' = kSend K (mLog K s q)) ∨ K' = kLk K s ∨ K' = kGrant K s w ∨ K' = kYes K s w ∨ (∃ f x, f < 7 ∧ K.1 12 s 0 = 3 ∧ K' = kLearn K s f x) ∨
  (∃ f x, f < 7 ∧ K.1 12 s 0 = 3 ∧ K' = kSet K 2 s f (kMax x (K.1 3 s f) + 1)) ∨ (∃ f v, (f = 14 ∨ f = 17) ∧ K' = kSet K f s 0 v) ∨
  (∃ m u, u.2 = (none, []) ∧ K' = kSend (kCommTo (kAccs s K (w.1 6 + 1) w.2.2) s m) u) ∨ (∃ r u, w.2.1 = some r ∧ u.2 = (none, []) ∧ K' = kSend (kInst K s (some r)) u)
/-- P is kept by all of these, and by one behind the other -/
def CLo (m0 : Int32) (A B s : Nat) (w : MSG) (P : KK → GG → KK → GG → Prop) : Prop :=
  (∀ K G, P K G K G) ∧ (∀ K G K1 G1 K2 G2, P K G K1 G1 → P K1 G1 K2 G2 → P K G K2 G2) ∧
  ∀ k K G K' G', kAll m0 A B k K G → kAll m0 A B k K' G' → gLe G G' → pr s w K K' → P K G K' G'
section CLS
variable {K : KK} {G : GG} {m0 : Int32} {A B k s : Nat} {w : MSG} {P : KK → GG → KK → GG → Prop}
theorem pr.send {u : MSG} (hu : u.2 = (none, [])) : pr s w K (kSend K u) := Or.inr (Or.inr (Or.inr (Or.inr (Or.inr (Or.inl ⟨u, hu, rfl⟩)))))
theorem pr.slog {q : Nat} (hq : q < 7) : pr s w K (kSend K (mLog K s q)) := Or.inr (Or.inr (Or.inr (Or.inr (Or.inr (Or.inr (Or.inl ⟨q, hq, rfl⟩))))))
theorem pr.lk : pr s w K (kLk K s) := Or.inr (Or.inr (Or.inr (Or.inr (Or.inr (Or.inr (Or.inr (Or.inl rfl)))))))
theorem pr.num {f : Nat} {v : Int32} (hf : f = 14 ∨ f = 17) : pr s w K (kSet K f s 0 v) := Or.inr (Or.inr (Or.inr (Or.inr (Or.inr (Or.inr (Or.inr (Or.inr (Or.inr (Or.inr (Or.inr (Or.inr (Or.inl ⟨f, v, hf, rfl⟩))))))))))))
theorem CLo.snd0 (hC : CLo m0 A B s w P) {u : MSG} (h : kAll m0 A B k K G) (hu : uOk m0 A k G u) (h2 : u.2 = (none, [])) : P K G (kSend K u) G := hC.2.2 k K G _ G h (h.send hu) (gLe.rf G) (pr.send h2)
theorem CLo.askF (hC : CLo m0 A B s w P) {kd : Int32} {t : Nat} (hs : s < 7) (mm : Int32) (ht : t < 2147483648) : ∀ (n q : Nat) (K : KK), q + n ≤ 7 → kAll m0 A B k K G → (kd = 1 ∧ t + k ≤ 1000000001 ∨ kd = 3 ∧ kR K s = 2 ∧ t = kT K s) → P K G (kAskF s mm kd (Int32.ofNat t) n q K) G
  | 0, _, K, _, _, _ => hC.1 K G
  | n + 1, q, K, hq, h, hk => by
    unfold kAskF
    by_cases c : ¬ q = s ∧ sBit mm q = true
    · rw [if_pos c]
      have hu := uAsk h hs (by omega) (fun z => c.1 z.symm) ht hk
      refine hC.2.1 _ _ _ _ _ _ (hC.snd0 h hu rfl) (hC.askF hs mm ht n (q + 1) _ (by omega) (h.send hu) ?_)
      rw [(sEq.send K _ s).r, (sEq.send K _ s).t]; exact hk
    · rw [if_neg c]
      exact hC.askF hs mm ht n (q + 1) _ (by omega) h hk
theorem CLo.allF (hC : CLo m0 A B s w P) (hs : s < 7) (mm : Int32) : ∀ (n q : Nat) (K : KK), q + n ≤ 7 → kAll m0 A B k K G → kR K s = 3 → P K G (kAllF s mm n q K) G
  | 0, _, K, _, _, _ => hC.1 K G
  | n + 1, q, K, hq, h, hr => by
    unfold kAllF
    by_cases c : ¬ q = s ∧ sBit mm q = true
    · rw [if_pos c]
      have hu := h.mlg hs hr (q := q) (by omega) (fun z => c.1 z.symm)
      refine hC.2.1 _ _ _ _ _ _ (hC.2.2 k K G _ G h (h.send hu) (gLe.rf G) (pr.slog (by omega))) (hC.allF hs mm n (q + 1) _ (by omega) (h.send hu) ?_)
      rw [(sEq.send K _ s).r]; exact hr
    · rw [if_neg c]
      exact hC.allF hs mm n (q + 1) _ (by omega) h hr
theorem CLo.snd (hC : CLo m0 A B s w P) (h : kAll m0 A B k K G) (hs : s < 7) (hr : kR K s = 3) : P K G (kSnd K s) G := hC.allF hs _ 7 0 K (by omega) h hr
theorem kAll.r12 {r : Nat} (h : kAll m0 A B k K G) (hs : s < 7) (hr : kR K s = r) : K.1 12 s 0 = Int32.ofNat r := by rw [← hr]; exact (h.2.1 s hs).2.1.2.2.1
theorem CLo.leadA (hC : CLo m0 A B s w P) (h : kAll m0 A B k K G) (hs : s < 7) (h2 : kR K s = 2) (hq : qMost (cf m0 (gF G s)) (kY K s)) : ∃ G', kAll m0 A B k (kLeadA K s) G' ∧ gLe G G' ∧ P K G (kLeadA K s) G' := by
  obtain ⟨G1, g1, g2, g3⟩ := h.lead hs h2 hq
  have g4 := g1.snd hs g3
  obtain ⟨G2, g5, g6⟩ := g4.lk hs (by rw [(sEq.snd _ s s).r]; exact g3)
  have p1 := hC.2.2 k K G _ G1 h g1 g2 (Or.inr (Or.inr (Or.inr (Or.inr (Or.inl ⟨h.r12 hs h2, rfl⟩)))))
  have p2 := hC.snd g1 hs g3
  have p3 := hC.2.2 k _ G1 _ G2 g4 g5 g6 pr.lk
  exact ⟨G2, g5, g2.tr g6, hC.2.1 _ _ _ _ _ _ p1 (hC.2.1 _ _ _ _ _ _ p2 p3)⟩
theorem CLo.standA (hC : CLo m0 A B s w P) (h : kAll m0 A B (k + 1) K G) (hs : s < 7) (h48 : (K.2.1 s).length < 48) : ∃ G', kAll m0 A B k (kStandA K s) G' ∧ gLe G G' ∧ P K G (kStandA K s) G' := by
  obtain ⟨g1, g2, g3, g4⟩ := h.stand hs h48
  have p1 := hC.2.2 k K G _ _ h.dn g1 g2 (Or.inr (Or.inr (Or.inr (Or.inl rfl))))
  unfold kStandA
  by_cases c : sMost (sMem K s) ((kStand K s).1 16 s 0) = true
  · rw [if_pos c]
    obtain ⟨G2, x1, x2, x3⟩ := hC.leadA g1 hs g4 (g1.most hs (sMem_cg (K := K) (K' := kStand K s) rfl (kStand_1 (by omega))).symm c)
    exact ⟨G2, x1, g2.tr x2, hC.2.1 _ _ _ _ _ _ p1 x3⟩
  · rw [if_neg c]
    have hb := (g1.2.1 s hs).2.1
    rw [hb.1]
    exact ⟨_, kAll.askF hs _ (by have := hb.2.1; omega) 7 0 _ (by omega) g1 (Or.inr ⟨rfl, g4, rfl⟩), g2, hC.2.1 _ _ _ _ _ _ p1 (hC.askF hs _ (by have := hb.2.1; omega) 7 0 _ (by omega) g1 (Or.inr ⟨rfl, g4, rfl⟩))⟩
theorem CLo.soundA (hC : CLo m0 A B s w P) (h : kAll m0 A B (k + 1) K G) (hs : s < 7) : ∃ G', kAll m0 A B k (kSoundA K s) G' ∧ gLe G G' ∧ P K G (kSoundA K s) G' := by
  unfold kSoundA
  have hlen := (h.ok hs).2.2.1
  have hB := h.2.2.2.2.2.2
  by_cases c : Int32.ofNat (K.2.1 s).length < 48
  · have h48 : (K.2.1 s).length < 48 := (i32_lt (b := 48) (by omega) (by omega)).mp c
    rw [if_pos c]
    have g1 := h.start hs h48
    have p1 := hC.2.2 (k + 1) K G _ G h g1 (gLe.rf G) (Or.inr (Or.inr (Or.inl rfl)))
    by_cases c2 : sMost (sMem K s) ((kStart K s 1).1 16 s 0) = true
    · rw [if_pos c2]
      obtain ⟨G2, x1, x2, x3⟩ := hC.standA g1 hs h48
      exact ⟨G2, x1, x2, hC.2.1 _ _ _ _ _ _ p1 x3⟩
    · rw [if_neg c2]
      have hb := (g1.2.1 s hs).2.1
      rw [hb.1, show Int32.ofNat (kT (kStart K s 1) s) + 1 = Int32.ofNat (kT (kStart K s 1) s + 1) from i32_suc1 _]
      exact ⟨G, kAll.askF hs _ (by have := hb.2.1; omega) 7 0 _ (by omega) g1.dn (Or.inl ⟨rfl, by have := hb.2.1; omega⟩), gLe.rf G, hC.2.1 _ _ _ _ _ _ p1 (hC.askF hs _ (by have := hb.2.1; omega) 7 0 _ (by omega) g1.dn (Or.inl ⟨rfl, by have := hb.2.1; omega⟩))⟩
  · rw [if_neg c]
    exact ⟨G, h.dn.set (by unfold relF; omega), gLe.rf G, hC.2.2 k _ _ _ _ h.dn (h.dn.set (by unfold relF; omega)) (gLe.rf G) (pr.num (Or.inl rfl))⟩
theorem CLo.onYes2 (hC : CLo m0 A B s w P) (h : kAll m0 A B (k + 1) K G) (hs : s < 7) (hw : uOk m0 A (k + 1) G w) : ∃ G', kAll m0 A B k (kOnYes K s w 1 (K.1 5 s 0 + 1) 2) G' ∧ gLe G G' ∧ P K G (kOnYes K s w 1 (K.1 5 s 0 + 1) 2) G' := by
  unfold kOnYes
  by_cases c : sYes K s w 1 (K.1 5 s 0 + 1) = true
  · rw [if_pos c]
    unfold sYes at c
    rw [Bool.and_eq_true, Bool.and_eq_true] at c
    have hr : kR K s = 1 := kR_of (by omega) (of_decide_eq_true c.2.1)
    have g1 := h.yes (w := w) hs hw.1.2.2.1 hw.1.2.2.2.1 (fun z => by rw [hr] at z; omega)
    have p1 := hC.2.2 (k + 1) K G _ G h g1 (gLe.rf G) (Or.inr (Or.inr (Or.inr (Or.inr (Or.inr (Or.inr (Or.inr (Or.inr (Or.inr (Or.inl rfl))))))))))
    by_cases c2 : sMost (sMem K s) ((kYes K s w).1 16 s 0) = true
    · rw [if_pos c2, show kRise (kYes K s w) s 2 = kStandA (kYes K s w) s from rfl]
      obtain ⟨G2, x1, x2, x3⟩ := hC.standA g1 hs ((h.2.1 s hs).2.2.2 (Or.inl hr))
      exact ⟨G2, x1, x2, hC.2.1 _ _ _ _ _ _ p1 x3⟩
    · rw [if_neg c2]; exact ⟨G, g1.dn, gLe.rf G, p1⟩
  · rw [if_neg c]; exact ⟨G, h.dn, gLe.rf G, hC.1 _ _⟩
theorem CLo.onYes4 (hC : CLo m0 A B s w P) (h : kAll m0 A B k K G) (hs : s < 7) (hw : uOk m0 A k G w) (h4 : w.1 1 = 4) (hS : mS w = s) : ∃ G', kAll m0 A B k (kOnYes K s w 2 (K.1 5 s 0) 3) G' ∧ gLe G G' ∧ P K G (kOnYes K s w 2 (K.1 5 s 0) 3) G' := by
  unfold kOnYes
  by_cases c : sYes K s w 2 (K.1 5 s 0) = true
  · rw [if_pos c]
    unfold sYes at c
    rw [Bool.and_eq_true, Bool.and_eq_true] at c
    have hr : kR K s = 2 := kR_of (by omega) (of_decide_eq_true c.2.1)
    have hT : mT w = kT K s := by unfold mT kT; rw [of_decide_eq_true c.2.2]
    have hv := hw.2.2.2.2.2.2.2.1 h4 (of_decide_eq_true c.1)
    rw [hT, hS] at hv
    have g1 := h.yes (w := w) hs hw.1.2.2.1 hw.1.2.2.2.1 (fun _ => hv)
    have p1 := hC.2.2 k K G _ G h g1 (gLe.rf G) (Or.inr (Or.inr (Or.inr (Or.inr (Or.inr (Or.inr (Or.inr (Or.inr (Or.inr (Or.inl rfl))))))))))
    by_cases c2 : sMost (sMem K s) ((kYes K s w).1 16 s 0) = true
    · rw [if_pos c2, show kRise (kYes K s w) s 3 = kLeadA (kYes K s w) s from rfl]
      have hr' : kR (kYes K s w) s = 2 := by
        unfold kR kYes at *
        rw [kSet_ne (by omega)]; exact hr
      obtain ⟨G2, x1, x2, x3⟩ := hC.leadA g1 hs hr' (g1.most hs (sMem_cg (K := K) (K' := kYes K s w) rfl (kSet_ne (by omega))).symm c2)
      exact ⟨G2, x1, x2, hC.2.1 _ _ _ _ _ _ p1 x3⟩
    · rw [if_neg c2]; exact ⟨G, g1, gLe.rf G, p1⟩
  · rw [if_neg c]; exact ⟨G, h, gLe.rf G, hC.1 _ _⟩
theorem CLo.onCal (hC : CLo m0 A B s w P) (h : kAll m0 A B k K G) (hs : s < 7) (hw : uOk m0 A k G w) (h3 : w.1 1 = 3) (hS : mS w = s) : ∃ G', kAll m0 A B k (kOnCal K s w) G' ∧ gLe G G' ∧ P K G (kOnCal K s w) G' := by
  obtain ⟨G', g1, g2, g3⟩ := h.grant hs h3 hw rfl
  have hT := (g1.2.1 s hs).2.1
  have hT2 := hT.2.1
  have eT : kT (kGrant K s w) s = kT K s := by
    unfold kT kGrant
    split
    · rw [kSet_ne (by omega), kSet_ne (by omega)]
    · rfl
  have hu := uRep (sGrant K s w) (hw.ex g2 h.1.2.2.2.2.2.2.2.2.1 hw.1.2.2.2.1) (Or.inr (Or.inl rfl)) (t := kT (kGrant K s w) s) (ix := 0) (by omega) (Or.inl hT.2.1) (fun _ z => by rw [eT, hS]; exact g3 z) (fun z => absurd z (by decide))
  refine ⟨G', ?_, g2, ?_⟩
  · unfold kOnCal
    rw [hT.1]
    exact g1.send hu
  · refine hC.2.1 _ _ _ _ _ _ (hC.2.2 k K G _ G' h g1 g2 (Or.inr (Or.inr (Or.inr (Or.inr (Or.inr (Or.inr (Or.inr (Or.inr (Or.inl rfl)))))))))) ?_
    unfold kOnCal
    rw [hT.1]
    exact hC.snd0 g1 hu rfl
theorem CLo.onAns {f : Nat} (hC : CLo m0 A B s w P) (h : kAll m0 A B k K G) (hs : s < 7) (hw : uOk m0 A k G w) (h6 : w.1 1 = 6) (hS : mS w = s) (hF : mF w = f) : ∃ G', kAll m0 A B k (kOnAns K s f w) G' ∧ gLe G G' ∧ P K G (kOnAns K s f w) G' := by
  have hf7 : f < 7 := by rw [← hF]; exact hw.1.2.2.2.1
  have hne : ¬ s = f := by rw [← hF, ← hS]; exact fun z => hw.2.1 z.symm
  unfold kOnAns
  by_cases c : K.1 12 s 0 = 3 ∧ w.1 4 = K.1 5 s 0
  · rw [if_pos c]
    obtain ⟨g1, g2⟩ := h.ansN hs hw h6 hS hF c.1 c.2
    have hr3 : kR K s = 3 := kR_of (r := 3) (by omega) c.1
    by_cases c2 : w.1 5 = 0
    · rw [if_pos c2]
      have hu := (g1 c2).mlg hs (by unfold kR; rw [kSet_ne (by omega)]; exact hr3) hf7 hne
      exact ⟨G, (g1 c2).send hu, gLe.rf G, hC.2.1 _ _ _ _ _ _ (hC.2.2 k K G _ G h (g1 c2) (gLe.rf G) (Or.inr (Or.inr (Or.inr (Or.inr (Or.inr (Or.inr (Or.inr (Or.inr (Or.inr (Or.inr (Or.inr (Or.inl ⟨f, w.1 6, hf7, c.1, rfl⟩))))))))))))) (hC.2.2 k _ G _ G (g1 c2) ((g1 c2).send hu) (gLe.rf G) (pr.slog hf7))⟩
    · rw [if_neg c2]
      have hr' : kR (kLearn K s f (w.1 6)) s = 3 := by
        unfold kR kLearn
        split
        · exact hr3
        · rw [kSet_ne (by omega), kSet_ne (by omega)]; exact hr3
      obtain ⟨G', g3, g9⟩ := (g2 c2).lk hs hr'
      have p1 := hC.2.2 k K G _ G h (g2 c2) (gLe.rf G) (Or.inr (Or.inr (Or.inr (Or.inr (Or.inr (Or.inr (Or.inr (Or.inr (Or.inr (Or.inr (Or.inl ⟨f, w.1 6, hf7, c.1, rfl⟩)))))))))))
      have p2 := hC.2.1 _ _ _ _ _ _ p1 (hC.2.2 k _ G _ G' (g2 c2) g3 g9 pr.lk)
      unfold kAns6
      by_cases c3 : (kLk (kLearn K s f (w.1 6)) s).1 12 s 0 = 3 ∧ (kLk (kLearn K s f (w.1 6)) s).1 2 s f ≤ sLast (kLk (kLearn K s f (w.1 6)) s) s
      · rw [if_pos c3]
        have hu := g3.mlg hs (kR_of (r := 3) (by omega) c3.1) hf7 hne
        exact ⟨G', g3.send hu, g9, hC.2.1 _ _ _ _ _ _ p2 (hC.2.2 k _ G' _ G' g3 (g3.send hu) (gLe.rf G') (pr.slog hf7))⟩
      · rw [if_neg c3]; exact ⟨G', g3, g9, p2⟩
  · rw [if_neg c]; exact ⟨G, h, gLe.rf G, hC.1 _ _⟩
theorem CLo.onEnt {f : Nat} (hC : CLo m0 A B s w P) (h : kAll m0 A B k K G) (hs : s < 7) (hw : uOk m0 A k G w) (h5 : w.1 1 = 5) (hS : mS w = s) (hF : mF w = f) (hle : mT w ≤ kT K s) : ∃ G', kAll m0 A B k (kOnEnt K s w) G' ∧ gLe G G' ∧ P K G (kOnEnt K s w) G' := by
  obtain ⟨e1, e2, e3, e4⟩ := kObey_T K s (w.1 2)
  have hT := (h.2.1 s hs).2.1
  have hT2 := hT.2.1
  have hTw := hw.2.2.1
  unfold kOnEnt
  by_cases c : mT w < kT K s
  · rw [if_pos (by rw [hT.1, hTw, i32_lt (by omega) (by omega)]; exact c)]
    exact ⟨G, h.old hs hw, gLe.rf G, hC.2.2 k K G _ G h (h.old hs hw) (gLe.rf G) (pr.send rfl)⟩
  · rw [if_neg (by rw [hT.1, hTw, i32_lt (by omega) (by omega)]; exact c)]
    have h0 := h.obey hs (w.1 2)
    have p1 := hC.2.2 k K G _ G h h0 (gLe.rf G) (Or.inr (Or.inl ⟨w.1 2, rfl⟩))
    obtain ⟨-, G', g4, g9⟩ := h0.entF hs e2 hw h5 hS hF (by rw [e1]; omega)
    refine ⟨G', g4, g9, hC.2.1 _ _ _ _ _ _ p1 (hC.2.2 k _ G _ G' h0 g4 g9 ?_)⟩
    unfold kOnEnt2
    split
    · exact Or.inr (Or.inr (Or.inr (Or.inr (Or.inr (Or.inr (Or.inr (Or.inr (Or.inr (Or.inr (Or.inr (Or.inr (Or.inr (Or.inl ⟨_, _, rfl, rfl⟩)))))))))))))
    · exact pr.send rfl
theorem CLo.onSnp {f : Nat} (hC : CLo m0 A B s w P) (h : kAll m0 A B k K G) (hs : s < 7) (hw : uOk m0 A k G w) (h7 : w.1 1 = 7) (hS : mS w = s) (hF : mF w = f) (hle : mT w ≤ kT K s) : ∃ G', kAll m0 A B k (kOnSnp K s w) G' ∧ gLe G G' ∧ P K G (kOnSnp K s w) G' := by
  have hT := (h.2.1 s hs).2.1
  have hT2 := hT.2.1
  have hTw := hw.2.2.1
  obtain ⟨G', g1, g2⟩ := h.onSnp hs hw h7 hS hF hle
  refine ⟨G', g1, g2, ?_⟩
  unfold kOnSnp at g1 ⊢
  by_cases c : mT w < kT K s
  · have c' : w.1 4 < K.1 5 s 0 := by rw [hT.1, hTw, i32_lt (by omega) (by omega)]; exact c
    rw [if_pos c'] at g1 ⊢
    exact hC.2.2 k K G _ G' h g1 g2 (pr.send rfl)
  · have c' : ¬ w.1 4 < K.1 5 s 0 := by rw [hT.1, hTw, i32_lt (by omega) (by omega)]; exact c
    rw [if_neg c'] at g1 ⊢
    have h0 := h.obey hs (w.1 2)
    obtain ⟨r, y, q1, -⟩ := hw.2.2.2.2.2.2.2.2.2.2 h7
    refine hC.2.1 _ _ _ _ _ _ (hC.2.2 k K G _ G h h0 (gLe.rf G) (Or.inr (Or.inl ⟨w.1 2, rfl⟩))) (hC.2.2 k _ G _ G' h0 g1 g2 ?_)
    exact Or.inr (Or.inr (Or.inr (Or.inr (Or.inr (Or.inr (Or.inr (Or.inr (Or.inr (Or.inr (Or.inr (Or.inr (Or.inr (Or.inr ⟨r, _, q1, rfl, by rw [← q1]⟩)))))))))))))
theorem CLo.go {f : Nat} (hC : CLo m0 A B s w P) (h : kAll m0 A B (k + 1) K G) (hs : s < 7) (hw : uOk m0 A (k + 1) G w) (hS : mS w = s) (hF : mF w = f) (hle : sBears w = true → mT w ≤ kT K s) : ∃ G', kAll m0 A B k (kGo K s f w) G' ∧ gLe G G' ∧ P K G (kGo K s f w) G' := by
  have br : ∀ n : Int32, w.1 1 = n → ¬ n = 1 → ¬ n = 2 → mT w ≤ kT K s := fun n e n1 n2 => by
    refine hle ?_
    unfold sBears
    rw [e, decide_eq_true n1, decide_eq_false n2]; rfl
  have dn : ∀ {K' : KK}, (∃ G', kAll m0 A B (k + 1) K' G' ∧ gLe G G' ∧ P K G K' G') → ∃ G', kAll m0 A B k K' G' ∧ gLe G G' ∧ P K G K' G' := fun z => by
    obtain ⟨G', g, g9⟩ := z; exact ⟨G', g.dn, g9⟩
  unfold kGo
  by_cases c1 : w.1 1 = 1
  · rw [if_pos c1]; exact dn ⟨G, h.onSnd hs hw, gLe.rf G, hC.2.2 (k + 1) K G _ G h (h.onSnd hs hw) (gLe.rf G) (pr.send rfl)⟩
  rw [if_neg c1]
  by_cases c2 : w.1 1 = 2
  · rw [if_pos c2]; exact hC.onYes2 h hs hw
  rw [if_neg c2]
  by_cases c3 : w.1 1 = 3
  · rw [if_pos c3]; exact dn (hC.onCal h hs hw c3 hS)
  rw [if_neg c3]
  by_cases c4 : w.1 1 = 4
  · rw [if_pos c4]; exact dn (hC.onYes4 h hs hw c4 hS)
  rw [if_neg c4]
  by_cases c5 : w.1 1 = 5
  · rw [if_pos c5]; exact dn (hC.onEnt h hs hw c5 hS hF (br 5 c5 (by decide) (by decide)))
  rw [if_neg c5]
  by_cases c6 : w.1 1 = 6
  · rw [if_pos c6]; exact dn (hC.onAns h hs hw c6 hS hF)
  rw [if_neg c6]
  by_cases c7 : w.1 1 = 7
  · rw [if_pos c7]; exact dn (hC.onSnp h hs hw c7 hS hF (br 7 c7 (by decide) (by decide)))
  rw [if_neg c7]
  by_cases c8 : sHur K s (sMem K s) w = true
  · rw [if_pos c8]
    unfold sHur at c8
    rw [Bool.and_eq_true, Bool.and_eq_true, Bool.and_eq_true] at c8
    have c9 := of_decide_eq_true c8.2.2.2
    have hlen := (h.ok hs).2.2.1
    have hB := h.2.2.2.2.2.2
    refine hC.standA h hs ?_
    rw [show (48 : Int32) = Int32.ofNat 48 from rfl, i32_le (by omega) (by omega)] at c9
    omega
  · rw [if_neg c8]; exact ⟨G, h.dn, gLe.rf G, hC.1 _ _⟩
/-- a message j is handled: it is taken out, and carried out where it arrives -/
theorem CLo.hand {j : Nat} (hC : CLo m0 A B (mS w) w P) (h : kAll m0 A B (k + 1) K G) (hj : K.2.2[j]? = some w) : ∃ G', kAll m0 A B k (kHand K j (mS w) (mF w) w) G' ∧ gLe G G' ∧ ((kArr K (mS w) (mF w) = true ∧ P (kDrop K j) G (kHand K j (mS w) (mF w) w) G') ∨ (kHand K j (mS w) (mF w) w = kLose (kDrop K j) ∧ G' = G)) := by
  have hw := h.2.2.1 w (List.mem_of_getElem? hj)
  unfold kHand
  by_cases c : kArr K (mS w) (mF w) = true
  · rw [if_pos c]
    obtain ⟨g1, g2, -⟩ := (h.drop j).enter (w := w) hw.1.2.1 hw
    obtain ⟨G', x1, x2, x3⟩ := hC.go g1 hw.1.2.1 hw rfl rfl g2
    refine ⟨G', x1, x2, Or.inl ⟨c, hC.2.1 _ _ _ _ _ _ ?_ x3⟩⟩
    unfold kEnter at g1 ⊢
    by_cases c2 : (kDrop K j).1 5 (mS w) 0 < w.1 4 ∧ sBears w = true
    · rw [if_pos c2] at g1 ⊢
      refine hC.2.2 (k + 1) _ G _ G (h.drop j) g1 (gLe.rf G) (Or.inl ⟨w.1 4, ?_, rfl⟩)
      have hT := ((h.drop j).2.1 _ hw.1.2.1).2.1
      have hT2 := hT.2.1
      have c3 := c2.1
      rw [hT.1, hw.2.2.1, i32_lt (by omega) (by have := hw.2.2.2.1.1; omega)] at c3
      exact Nat.le_of_lt c3
    · rw [if_neg c2]; exact hC.1 _ _
  · rw [if_neg c]
    exact ⟨G, (h.drop j).lose.dn, gLe.rf G, Or.inr ⟨rfl, rfl⟩⟩
theorem CLo.turn1 (hC : CLo m0 A B s w P) (h : kAll m0 A B (k + 1) K G) (hs : s < 7) : ∃ G', kAll m0 A B k (kTurn1 K s) G' ∧ gLe G G' ∧ (kTurn1 K s = K ∧ G' = G ∨ ¬ K.1 4 s 0 = 0 ∧ P K G (kTurn1 K s) G') := by
  have hb : kAll m0 A B (k + 1) (kBeat K s) G := h.set (by unfold relF; omega)
  have hw : kAll m0 A B (k + 1) (kWait K s) G := h.set (by unfold relF; omega)
  have pb : P K G (kBeat K s) G := hC.2.2 (k + 1) K G _ G h hb (gLe.rf G) (pr.num (Or.inr rfl))
  have pw : P K G (kWait K s) G := hC.2.2 (k + 1) K G _ G h hw (gLe.rf G) (pr.num (Or.inl rfl))
  unfold kTurn1
  by_cases c : ¬ K.1 4 s 0 = 0 ∧ K.1 12 s 0 = 3
  · rw [if_pos c]
    by_cases c2 : (kBeat K s).1 17 s 0 - (kBeat K s).1 17 s 0 / 2 * 2 = 0
    · rw [if_pos c2]
      have hr : kR (kBeat K s) s = 3 := kR_of (r := 3) (by omega) (by unfold kBeat; rw [kSet_ne (by omega)]; exact c.2)
      exact ⟨G, (hb.snd hs hr).dn, gLe.rf G, Or.inr ⟨c.1, hC.2.1 _ _ _ _ _ _ pb (hC.snd hb hs hr)⟩⟩
    · rw [if_neg c2]; exact ⟨G, hb.dn, gLe.rf G, Or.inr ⟨c.1, pb⟩⟩
  · rw [if_neg c]
    by_cases c2 : ¬ K.1 4 s 0 = 0 ∧ sBit (sMem K s) s = true
    · rw [if_pos c2]
      by_cases c3 : (kWait K s).1 14 s 0 < sPat s (K.1 5 s 0)
      · rw [if_pos c3]; exact ⟨G, hw.dn, gLe.rf G, Or.inr ⟨c2.1, pw⟩⟩
      · rw [if_neg c3]
        obtain ⟨G', x1, x2, x3⟩ := hC.soundA hw hs
        exact ⟨G', x1, x2, Or.inr ⟨c2.1, hC.2.1 _ _ _ _ _ _ pw x3⟩⟩
    · rw [if_neg c2]; exact ⟨G, h.dn, gLe.rf G, Or.inl ⟨rfl, rfl⟩⟩
end CLS
