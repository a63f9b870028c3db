/-! ===== ALL THAT IS KEPT: the moves ===== -/
section MVN
variable {m0 : Int32} {A B k s : Nat} {K K' : KK} {G G' : GG} {tl cl led : Nat → Nat} {S : Nat → Int32}
theorem NN.up3 (z : NN tl cl led S K G) (hs : s < 7) (hr : K.1 12 s 0 = 3) : ¬ K.1 4 s 0 = 0 := fun h => by
  have := ((z.1 s hs).2.1 h).1
  rw [hr] at this
  exact absurd this (by decide)
theorem NN.gup (z : NN tl cl led S K G) (h : kAll m0 A B k K G) (hG : gLe G G') : NN tl cl led S K G' := ⟨z.1, z.2.1, z.2.2.1.up hG h.1.2.2.2.2.2.2.2.2.1, z.2.2.2.up hG⟩
/-- a small step -/
theorem NN.pr1 {w : MSG} (z : NN tl cl led S K G) (hs : s < 7) (hup : ¬ K.1 4 s 0 = 0) (h : kAll m0 A B k K G) (h' : kAll m0 A B k K' G') (hG : gLe G G') (hw : w.2 = (none, [])) (hp : pr s w K K') : NN tl cl led S K' G' :=
  z.stp hup hG (uV.z hw) (tU.z hw) ((stp.cl S m0 A B (s := s) w hs).2.2 k K G K' G' h h' hG hp)
theorem NN.sound (z : NN tl cl led S K G) (h : kAll m0 A B (k + 1) K G) (hs : s < 7) (hup : ¬ K.1 4 s 0 = 0) : ∃ G', kAll m0 A B k (kSoundA K s) G' ∧ NN tl cl led S (kSoundA K s) G' := by
  obtain ⟨G', g1, g2, g3⟩ := (stp.cl S m0 A B (s := s) (mNew0 0 0 0 0) hs).soundA h hs
  exact ⟨G', g1, z.stp hup g2 (uV.z rfl) (tU.z rfl) g3⟩
theorem NN.beat (z : NN tl cl led S K G) (h : kAll m0 A B k K G) (hs : s < 7) (hr : K.1 12 s 0 = 3) : NN tl cl led S (kSnd K s) G :=
  z.stp (z.up3 hs hr) (gLe.rf G) (uV.z rfl) (tU.z rfl) ((stp.cl S m0 A B (s := s) (mNew0 0 0 0 0) hs).snd h hs (kR_of (r := 3) (by omega) hr))
theorem NN.send {u : MSG} (z : NN tl cl led S K G) (h1 : uV S u) (h2 : tU G u) : NN tl cl led S (kSend K u) G := by
  have e : ∀ f i j, ¬ f = 32 → (kSend K u).1 f i j = K.1 f i j := fun f i j hf => kSend_1 K u hf
  refine ⟨fun i hi => ?_, z.2.1.send h1, z.2.2.1.send h2, z.2.2.2⟩
  obtain ⟨a, b, c, d⟩ := z.1 i hi
  refine ⟨a.cg (fun f j hf => e f i j (by omega)), ?_, ?_, ?_⟩
  · unfold dnS
    rw [e 4 i 0 (by omega), e 12 i 0 (by omega), e 14 i 0 (by omega), e 15 i 0 (by omega), e 18 i 0 (by omega)]
    exact b
  · unfold kT; rw [e 5 i 0 (by omega)]; exact c
  · unfold kC; rw [e 15 i 0 (by omega)]; exact d
theorem NN.twice {u : MSG} (z : NN tl cl led S K G) (hu : u ∈ K.2.2) : NN tl cl led S (kSend K u) G := z.send (z.2.1.2 u hu) (z.2.2.1.2 u hu)
/-- a server fails: what it has committed falls -/
theorem kDown_v (K : KK) (s : Nat) : (kDown K s).2 = K.2 ∧ (∀ f i j, ¬ (i = s ∧ (f = 4 ∨ f = 12 ∨ f = 13 ∨ f = 14 ∨ f = 15 ∨ f = 19)) → (kDown K s).1 f i j = K.1 f i j) ∧ (kDown K s).1 4 s 0 = 0 ∧ (kDown K s).1 12 s 0 = 0 ∧ (kDown K s).1 14 s 0 = 0 ∧ (kDown K s).1 15 s 0 = K.1 18 s 0 ∧ ∀ j, j < 16 → (kDown K s).1 19 s j = K.1 18 s (3 + j) := by
  unfold kDown
  refine ⟨rfl, fun f i j h => ?_, ?_, ?_, ?_, ?_, fun j hj => ?_⟩
  · rw [kRest_1 (by omega), kSet_ne (by omega)]
  · rw [kRest_1 (by omega), kSet_at]
  · unfold kRest; rw [kTab_1 (by omega), kSet_ne (by omega), kSet_ne (by omega), kSet_ne (by omega), kSet_at]
  · unfold kRest; rw [kTab_1 (by omega), kSet_ne (by omega), kSet_at]
  · unfold kRest; rw [kTab_1 (by omega), kSet_at, kSet_ne (by omega)]
  · unfold kRest
    show (if 19 = 19 ∧ s = s then (if j < 16 then (kSet K 4 s 0 0).1 18 s (3 + j) else _) else _) = _
    rw [if_pos ⟨rfl, rfl⟩, if_pos hj, kSet_ne (by omega)]
theorem NN.down (z : NN tl cl led S K G) (hs : s < 7) : NN tl (fun i => if i = s then 0 else cl i) led S (kDown K s) G := by
  obtain ⟨e2, e1, e4, e12, e14, e15, e19⟩ := kDown_v K s
  refine ⟨fun i hi => ?_, ⟨fun i hi => ⟨fun e he => (z.2.1.1 i hi).1 e (by rw [e2] at he; exact he), ?_, fun c hc => ?_⟩, fun u hu => z.2.1.2 u (by rw [e2] at hu; exact hu)⟩, z.2.2.1.one (s := s) (fun f i j hi hf => e1 f i j (by omega)) ?_ ?_ (fun u hu => Or.inl (by rw [e2] at hu; exact hu)), z.2.2.2⟩
  · obtain ⟨a, b, c, d⟩ := z.1 i hi
    have hT : kT (kDown K s) i = kT K i := by unfold kT; rw [e1 5 i 0 (by omega)]
    by_cases e : i = s
    · subst e
      refine ⟨okS.z e12, fun _ => ⟨e12, e14, by rw [e15, e1 18 i 0 (by omega)]⟩, by rw [hT]; exact c, ?_⟩
      show (if i = i then 0 else cl i) ≤ _
      rw [if_pos rfl]; exact Nat.zero_le _
    · refine ⟨a.cg (fun f j hf => e1 f i j (by omega)), ?_, by rw [hT]; exact c, ?_⟩
      · unfold dnS
        rw [e1 4 i 0 (by omega), e1 12 i 0 (by omega), e1 14 i 0 (by omega), e1 15 i 0 (by omega), e1 18 i 0 (by omega)]
        exact b
      · show (if i = s then 0 else cl i) ≤ _
        rw [if_neg e]; unfold kC; rw [e1 15 i 0 (by omega)]; exact d
  · have := (z.2.1.1 i hi).2.1
    exact ⟨by rw [e1 18 i 2 (by omega)]; exact this.1, fun c hc => by rw [e1 18 i _ (by omega)]; exact this.2 c hc⟩
  · by_cases e : i = s
    · subst e
      rw [e19 _ (by omega), show 3 + (8 + c) = 11 + c by omega]
      exact (z.2.1.1 i hi).2.1.2 c hc
    · rw [e1 19 i _ (by omega)]; exact (z.2.1.1 i hi).2.2 c hc
  · unfold kC
    rw [e15]
    exact (z.2.2.1.1 s hs).2.cg (fun j hj => e19 j hj)
  · have : kA (kDown K s) s = kA K s := by unfold kA; rw [e1 18 s 0 (by omega)]
    rw [this]
    exact (z.2.2.1.1 s hs).2.cg (fun j _ => e1 18 s (3 + j) (by omega))
theorem NN.recov (z : NN tl cl led S K G) : NN tl cl led S (kSet K 4 s 0 1) G := by
  refine ⟨fun i hi => ?_, z.2.1.num rfl (fun f i j hf => kSet_ne (by omega)), z.2.2.1.num rfl (fun f i j hf => kSet_ne (by omega)), z.2.2.2⟩
  obtain ⟨a, b, c, d⟩ := z.1 i hi
  refine ⟨a.cg (fun f j hf => kSet_ne (by omega)), ?_, ?_, ?_⟩
  · by_cases e : i = s
    · intro y; rw [e, kSet_at] at y; exact absurd y (by decide)
    · have ef : ∀ f j, (kSet K 4 s 0 1).1 f i j = K.1 f i j := fun f j => kSet_ne (by omega)
      unfold dnS
      rw [ef 4 0, ef 12 0, ef 14 0, ef 15 0, ef 18 0]
      exact b
  · unfold kT; rw [kSet_ne (by omega)]; exact c
  · unfold kC; rw [kSet_ne (by omega)]; exact d
theorem NN.link (z : NN tl cl led S K G) (i j : Nat) : NN tl cl led S (kTurn K i j) G := by
  unfold kTurn
  exact z.fr rfl (fun u hu => hu) (fun f a b hf => by rw [kSet_ne (by omega), kSet_ne (by omega)])
theorem NN.ask {c : Nat} {kd ky ex vl : Int32} {S' : Nat → Int32} (z : NN tl cl led S K G) (hS : ∀ c, c < 4 → S c ≤ S' c) : NN tl cl led S' (kAsk K c kd ky ex vl) G := by
  have z1 : NN tl cl led S (kAsk K c kd ky ex vl) G := z.fr rfl (fun u hu => hu) (fun f a b hf => by
    unfold kAsk
    rw [kSet_ne (by omega)]
    exact kRow_ne (by omega))
  exact ⟨z1.1, z1.2.1.up hS, z1.2.2⟩
/-- a leader appends -/
theorem NN.app {e : ENT} (z : NN tl cl led S K G) (h : kAll m0 A B k K G) (hG : gLe G G') (he : eV S e) : NN tl cl led S (kApp K s e) G' := by
  have z1 := z.gup h hG
  refine ⟨fun i hi => z1.1 i hi, z1.2.1.app he, z1.2.2.1.num rfl (fun f i j hf => rfl), z1.2.2.2⟩
theorem NN.look (z : NN tl cl led S K G) (h : kAll m0 A B k K G) (hs : s < 7) (hr : kR K s = 3) : ∃ G', kAll m0 A B k (kLk K s) G' ∧ gLe G G' ∧ NN tl cl led S (kLk K s) G' := by
  obtain ⟨G', g1, g2⟩ := h.lk hs hr
  exact ⟨G', g1, g2, z.pr1 (w := mNew0 0 0 0 0) hs (z.up3 hs (h.r12 hs hr)) h g1 g2 rfl pr.lk⟩
theorem NN.req {c : Nat} (z : NN tl cl led S K G) (h : kAll m0 A B k K G) (hs : s < 7) (hr : K.1 12 s 0 = 3) (h40 : (K.2.1 s).length < 40) (h1 : 1 ≤ K.1 34 c 1 ∧ K.1 34 c 1 ≤ 3) (hE : eOk (eReq K s c)) (he : eV S (eReq K s c)) : ∃ G', kAll m0 A B k (kLk (kApp K s (eReq K s c)) s) G' ∧ NN tl cl led S (kLk (kApp K s (eReq K s c)) s) G' := by
  have hr3 : kR K s = 3 := kR_of (r := 3) (by omega) hr
  have hT := (h.2.1 s hs).2.1
  have e0 : tm (eReq K s c) = kT K s := rfl
  have h4 : ¬ eReq K s c 1 = 4 := fun z => by
    have z' : K.1 34 c 1 = 4 := z
    rw [z'] at h1
    exact absurd h1.2 (by decide)
  obtain ⟨g1, g8, -⟩ := h.appE (e := eReq K s c) hs hr3 ⟨by rw [e0]; exact hT.1, hE, fun z => absurd h1 z⟩ e0 (by omega) (fun z => absurd z h4)
  obtain ⟨G', x1, x2, x3⟩ := (z.app (s := s) h g8 he).look g1 hs hr3
  exact ⟨G', x1, x3⟩
theorem NN.leave {j : Nat} (z : NN tl cl led S K G) (h : kAll m0 A B k K G) (hs : s < 7) (hj : j < 7) (hb : sMayC K s = true) (h0 : ¬ sFlip (sMem K s) j = 0) : ∃ G', kAll m0 A B k (kLk (kApp K s (eNil (K.1 5 s 0) 4 (sFlip (sMem K s) j))) s) G' ∧ NN tl cl led S (kLk (kApp K s (eNil (K.1 5 s 0) 4 (sFlip (sMem K s) j))) s) G' := by
  obtain ⟨G1, g1, g2, -, g8⟩ := h.chg hs hj hb
  obtain ⟨G', x1, x2, x3⟩ := (z.app (s := s) h g8 (eV.mem h0)).look g1 hs g2
  exact ⟨G', x1, x3⟩
theorem NN.join {j : Nat} (z : NN tl cl led S K G) (h : kAll m0 A B k K G) (hs : s < 7) (hj : j < 7) (hb : sMayC K s = true) (h0 : ¬ sFlip (sMem K s) j = 0) : ∃ G', kAll m0 A B k (kJoin K s j (eNil (K.1 5 s 0) 4 (sFlip (sMem K s) j))) G' ∧ NN tl cl led S (kJoin K s j (eNil (K.1 5 s 0) 4 (sFlip (sMem K s) j))) G' := by
  obtain ⟨G1, g1, g2, g4, g8⟩ := h.chg hs hj hb
  have z1 := z.app (s := s) h g8 (eV.mem (t := K.1 5 s 0) h0)
  obtain ⟨K1, hK1⟩ : ∃ K1, K1 = kApp K s (eNil (K.1 5 s 0) 4 (sFlip (sMem K s) j)) := ⟨_, rfl⟩
  unfold kJoin
  rw [← hK1] at g1 g2 z1 ⊢
  obtain ⟨⟨⟨a, c, a1, a2, a3, a4, a5, a6, a7, a8, a9⟩, aB, aE⟩, b, c1⟩ := g1.2.1 s hs
  have hB := g1.2.2.2.2.2.2
  have hln : 1 ≤ (gF G1 s).length := by rw [g4, List.length_append]; exact Nat.le_add_left _ _
  rw [fu_last a1 a5 (by omega)]
  have g5 := g1.nxt (K' := kSet (kSet K1 2 s j (Int32.ofNat (gF G1 s).length)) 3 s j 0) (q := j) (nx := (gF G1 s).length) (mt := 0) hs g2 hj hln (by omega) (Nat.zero_le _) (fun _ => Nat.zero_le _) rfl ((kSet_ne (by omega)).trans (kSet_at _ _ _ _ _)) (kSet_at _ _ _ _ _) (fun f i j' hn => (kSet_ne (fun z => hn ⟨Or.inr z.1, z.2⟩)).trans (kSet_ne (fun z => hn ⟨Or.inl z.1, z.2⟩)))
  have ef : ∀ f i q, ¬ (i = s ∧ (f = 2 ∨ f = 3)) → (kSet (kSet K1 2 s j (Int32.ofNat (gF G1 s).length)) 3 s j 0).1 f i q = K1.1 f i q := fun f i q hf => by rw [kSet_ne (by omega), kSet_ne (by omega)]
  have z2 : NN tl cl led S (kSet (kSet K1 2 s j (Int32.ofNat (gF G1 s).length)) 3 s j 0) G1 := by
    refine ⟨fun i hi => ?_, z1.2.1.num rfl (fun f i q hf => ef f i q (by omega)), z1.2.2.1.num rfl (fun f i q hf => ef f i q (by omega)), z1.2.2.2⟩
    obtain ⟨a, b, c, d⟩ := z1.1 i hi
    refine ⟨⟨?_, ?_, ?_⟩, ?_, ?_, ?_⟩
    · rw [ef 12 i 0 (by omega), ef 13 i 0 (by omega)]; exact a.1
    · rw [ef 12 i 0 (by omega), ef 6 i 0 (by omega)]; exact a.2.1
    · rw [ef 12 i 0 (by omega)]
      intro y q hq hne
      by_cases e : i = s ∧ q = j
      · obtain ⟨rfl, rfl⟩ := e
        rw [kSet_at, kSet_ne (by omega), kSet_at, show (0 : Int32) = Int32.ofNat 0 from rfl, i32_lt (by omega) (by omega)]
        omega
      · rw [kSet_ne (by omega), kSet_ne (by omega), kSet_ne (by omega), kSet_ne (by omega)]
        exact a.2.2 y q hq hne
    · unfold dnS
      rw [ef 4 i 0 (by omega), ef 12 i 0 (by omega), ef 14 i 0 (by omega), ef 15 i 0 (by omega), ef 18 i 0 (by omega)]
      exact b
    · unfold kT; rw [ef 5 i 0 (by omega)]; exact c
    · unfold kC; rw [ef 15 i 0 (by omega)]; exact d
  obtain ⟨G', x1, x2, x3⟩ := z2.look g5 hs (by unfold kR; rw [kSet_ne (by omega), kSet_ne (by omega)]; exact g2)
  exact ⟨G', x1, x3⟩
/-- a log is shortened -/
theorem NN.cut (z : NN tl cl led S K G) (hs : s < 7) (hup : ¬ K.1 4 s 0 = 0) : NN tl cl led S (kCut K s (kC K s - kA K s) (sSnap K s (kC K s - kA K s))) G := by
  obtain ⟨r, hr⟩ : ∃ r, r = sSnap K s (kC K s - kA K s) := ⟨_, rfl⟩
  have r0 : r 0 = K.1 15 s 0 := by rw [hr]; rfl
  have r3 : ∀ j, r (3 + j) = K.1 19 s j := fun j => by
    rw [hr]
    show (if 3 + j = 0 then _ else if 3 + j = 1 then _ else if 3 + j = 2 then _ else K.1 19 s (3 + j - 3)) = _
    rw [if_neg (by omega), if_neg (by omega), if_neg (by omega), show 3 + j - 3 = j by omega]
  have r2 : ¬ r 2 = 0 := by
    rw [hr]
    exact sMemL_v _ _ (fun e he => (z.2.1.1 s hs).1 e (List.mem_of_mem_take he)) (z.2.1.1 s hs).2.1.1
  rw [← hr]
  have e1 : ∀ f i j, ¬ (f = 18 ∧ i = s) → (kCut K s (kC K s - kA K s) r).1 f i j = K.1 f i j := fun f i j h => kCut_1 h
  have e18 : ∀ j, (kCut K s (kC K s - kA K s) r).1 18 s j = r j := fun j => if_pos ⟨rfl, rfl⟩
  refine ⟨fun i hi => ?_, ⟨fun i hi => ⟨fun e he => (z.2.1.1 i hi).1 e ?_, ?_, fun c hc => by rw [e1 19 i _ (by omega)]; exact (z.2.1.1 i hi).2.2 c hc⟩, z.2.1.2⟩, z.2.2.1.one (s := s) (fun f i j hi hf => e1 f i j (by omega)) ?_ ?_ (fun u hu => Or.inl hu), z.2.2.2⟩
  · obtain ⟨a, b, c, d⟩ := z.1 i hi
    refine ⟨a.cg (fun f j hf => e1 f i j (by omega)), ?_, Nat.le_trans c (Nat.le_of_eq (congrArg Int32.toNatClampNeg (e1 5 i 0 (by omega)).symm)), Nat.le_trans d (Nat.le_of_eq (congrArg Int32.toNatClampNeg (e1 15 i 0 (by omega)).symm))⟩
    by_cases e : i = s
    · intro y; rw [e1 4 i 0 (by omega), e] at y; exact absurd y hup
    · unfold dnS
      rw [e1 4 i 0 (by omega), e1 12 i 0 (by omega), e1 14 i 0 (by omega), e1 15 i 0 (by omega), e1 18 i 0 (by omega)]
      exact b
  · have he' : e ∈ (if i = s then (K.2.1 s).drop (kC K s - kA K s) else K.2.1 i) := he
    by_cases c : i = s
    · subst c; rw [if_pos rfl] at he'; exact List.mem_of_mem_drop he'
    · rw [if_neg c] at he'; exact he'
  · by_cases c : i = s
    · subst c
      refine ⟨by rw [e18]; exact r2, fun x hx => ?_⟩
      rw [e18, show 11 + x = 3 + (8 + x) by omega, r3]
      exact (z.2.1.1 i hi).2.2 x hx
    · have := (z.2.1.1 i hi).2.1
      exact ⟨by rw [e1 18 i 2 (by omega)]; exact this.1, fun x hx => by rw [e1 18 i _ (by omega)]; exact this.2 x hx⟩
  · have : kC (kCut K s (kC K s - kA K s) r) s = kC K s := by
      show ((kCut K s (kC K s - kA K s) r).1 15 s 0).toNatClampNeg = _
      rw [e1 15 s 0 (by omega)]; rfl
    rw [this]
    exact (z.2.2.1.1 s hs).1.cg (fun j _ => e1 19 s j (by omega))
  · have : kA (kCut K s (kC K s - kA K s) r) s = kC K s := by
      show ((kCut K s (kC K s - kA K s) r).1 18 s 0).toNatClampNeg = _
      rw [e18, r0]; rfl
    rw [this]
    exact (z.2.2.1.1 s hs).1.cg (fun j _ => (e18 (3 + j)).trans (r3 j))
end MVN
/-! the beginning -/
theorem kBegS_w (r : ENT) : ∀ (n q : Nat) (K : KK), (∀ i f j, ¬ (q ≤ i ∧ i < q + n) → (kBegS r n q K).1 f i j = K.1 f i j) ∧ ∀ i, q ≤ i → i < q + n → (kBegS r n q K).1 13 i 0 = -1 ∧ (kBegS r n q K).1 14 i 0 = 0 ∧ ∀ j, j < 16 → (kBegS r n q K).1 19 i j = r (3 + j)
  | 0, q, K => ⟨fun _ _ _ _ => rfl, fun i h1 h2 => by omega⟩
  | n + 1, q, K => by
    obtain ⟨a, b⟩ := kBegS_w r n (q + 1) (kRest (kNew K q r) q)
    refine ⟨fun i f j hn => ?_, fun i h1 h2 => ?_⟩
    · show (kBegS r n (q + 1) (kRest (kNew K q r) q)).1 f i j = _
      rw [a i f j (by omega)]
      exact (kRest_old (by omega)).1 f j
    · show (kBegS r n (q + 1) (kRest (kNew K q r) q)).1 13 i 0 = -1 ∧ (kBegS r n (q + 1) (kRest (kNew K q r) q)).1 14 i 0 = 0 ∧ ∀ j, j < 16 → (kBegS r n (q + 1) (kRest (kNew K q r) q)).1 19 i j = r (3 + j)
      by_cases e : i = q
      · subst e
        rw [a i 13 0 (by omega), a i 14 0 (by omega)]
        refine ⟨?_, ?_, fun j hj => ?_⟩
        · unfold kRest; rw [kTab_1 (by omega), kSet_ne (by omega), kSet_ne (by omega), kSet_at]
        · unfold kRest; rw [kTab_1 (by omega), kSet_ne (by omega), kSet_at]
        · rw [a i 19 j (by omega)]
          unfold kRest
          show (if 19 = 19 ∧ i = i then (if j < 16 then (kNew K i r).1 18 i (3 + j) else _) else _) = _
          rw [if_pos ⟨rfl, rfl⟩, if_pos hj]
          exact if_pos ⟨rfl, rfl⟩
      · exact b i (by omega) (by omega)
theorem NN.begin (K : KK) {m : Int32} (hm : (1 : Int32) ≤ m ∧ m ≤ 7) : NN (fun _ => 0) (fun _ => 0) (fun _ => 0) (fun _ => 0) (kBegin K (sFirst m)) gZ := by
  obtain ⟨v, -, vn⟩ := kBegin_v K (sFirst m)
  obtain ⟨-, b⟩ := kBegS_w (sFirst m) 7 0 K
  have e1 : ∀ f i j, f = 13 ∨ f = 14 ∨ f = 19 → (kBegin K (sFirst m)).1 f i j = (kBegS (sFirst m) 7 0 K).1 f i j := fun f i j hf => by
    unfold kBegin kClr
    rw [kSet_ne (by omega), kSet_ne (by omega)]
    show (if f = 30 ∧ i < 7 ∧ j = 0 then _ else _) = _
    rw [if_neg (by omega)]
    exact (kBegC_v 4 0 (kBegS (sFirst m) 7 0 K)).1 f i j (by omega)
  have z3 : ∀ j, sFirst m (3 + j) = 0 := fun j => by
    show (if 3 + j = 0 then _ else if 3 + j = 1 then _ else if 3 + j = 2 then _ else (0 : Int32)) = 0
    rw [if_neg (by omega), if_neg (by omega), if_neg (by omega)]
  have z2 : ¬ sFirst m 2 = 0 := by
    show ¬ ((1 : Int32) <<< (m &&& 31)) - 1 = 0
    rcases i32_srv 8 (by omega) m with ⟨s, hs, rfl⟩ | z | z
    · rcases (by omega : s = 0 ∨ s = 1 ∨ s = 2 ∨ s = 3 ∨ s = 4 ∨ s = 5 ∨ s = 6 ∨ s = 7) with rfl | rfl | rfl | rfl | rfl | rfl | rfl | rfl
      · exact absurd hm.1 (by decide)
      all_goals decide
    · exact absurd hm.1 (Int32.not_le.mpr (Int32.lt_trans z (by decide)))
    · exact absurd (Int32.lt_of_le_of_lt hm.2 (by decide)) z
  refine ⟨fun i hi => ?_, ⟨fun i hi => ⟨fun e he => ?_, ⟨?_, fun c hc => ?_⟩, fun c hc => ?_⟩, fun u hu => ?_⟩, ⟨fun i hi => ⟨Or.inl ⟨?_, fun j hj => ?_⟩, Or.inl ⟨?_, fun j hj => ?_⟩⟩, fun u hu => ?_⟩, fun t ht => absurd rfl ht⟩
  · refine ⟨okS.z (v i hi).2.2.1, fun y => ?_, Nat.zero_le _, Nat.zero_le _⟩
    rw [(v i hi).2.2.2.2.2.2.1] at y
    exact absurd y (by decide)
  · rw [(v i hi).2.2.2.2.2.1] at he; cases he
  · rw [(v i hi).2.2.2.2.1]; exact z2
  · rw [(v i hi).2.2.2.2.1, show 11 + c = 3 + (8 + c) by omega, z3]; exact Int32.le_refl _
  · rw [e1 19 i _ (by omega), (b i (by omega) (by omega)).2.2 _ (by omega), z3]; exact Int32.le_refl _
  · rw [vn] at hu; cases hu
  · unfold kC; rw [(v i hi).2.2.2.1]; rfl
  · rw [e1 19 i _ (by omega), (b i (by omega) (by omega)).2.2 _ hj, z3]
  · unfold kA; rw [(v i hi).2.2.2.2.1]; rfl
  · show (kBegin K (sFirst m)).1 18 i (3 + j) = 0
    rw [(v i hi).2.2.2.2.1, z3]
  · rw [vn] at hu; cases hu
