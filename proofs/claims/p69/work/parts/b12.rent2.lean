/-! ===== THE SERVERS AGREE: entries and snapshots are carried out ===== -/
section ENT2
variable {K : KK} {G : GG} {m0 : Int32} {A B k s : Nat}
/-- what the log of a follower and of its leader share -/
theorem kAll.ld {a c : Nat} (h : kAll m0 A B k K G) (hd : ¬ gD G (kT K s) = none) (hc : cov G (gF G s) (kT K s) c) : ag (gF G s) (gL G (kT K s)) c := by
  rcases h.1.cov hd hc with z | z
  · rw [z]; exact ag.z _ _
  · exact z
theorem kObey_T (K : KK) (s : Nat) (x : Int32) : kT (kObey K s x) s = kT K s ∧ kR (kObey K s x) s = 0 ∧ (kObey K s x).2 = K.2 ∧ ∀ f i j, ¬ (f = 12 ∨ f = 13 ∨ f = 14) → (kObey K s x).1 f i j = K.1 f i j := by
  refine ⟨?_, ?_, rfl, fun f i j hn => ?_⟩
  · unfold kT; rw [kObey_1 (by omega)]
  · unfold kR kObey
    rw [kSet_ne (by omega), kSet_ne (by omega), kSet_at]; rfl
  · unfold kObey
    rw [kSet_ne (by omega), kSet_ne (by omega), kSet_ne (by omega)]
/-- entries of its term's leader, behind one that the log has -/
theorem kAll.entF {w : MSG} {f : Nat} (h : kAll m0 A B k K G) (hs : s < 7) (hr : kR K s = 0) (hw : uOk m0 A k G w) (h5 : w.1 1 = 5) (hS : mS w = s) (hF : mF w = f) (hT : mT w = kT K s) :
    (∃ x6 c8, mEok w x6 c8 ∧ x6 + w.2.2.length ≤ B ∧ ((w.1 6 ≤ K.1 18 s 0 ∨ sHas K s (w.1 6) (w.1 7) = true) → kAccOk s K (Int32.ofNat (x6 + 1)) w.2.2)) ∧ ∃ G', kAll m0 A B k (kOnEnt2 K s w) G' ∧ gLe G G' := by
  obtain ⟨w1, w2, w3, w4, w5⟩ := hw.1
  have o9 := hw.2.2.2.2.2.2.2.2.1 h5
  rw [hT] at o9
  obtain ⟨x, c8, q1, q2, q3, q4, q5, q6, q7, q8, q9, q10⟩ := o9
  have hd : ¬ gD G (kT K s) = none := by rw [q1]; exact fun z => by cases z
  obtain ⟨L1, L2⟩ := h.2.2.2.2.1 _ hd
  obtain ⟨⟨⟨a, c, a1, a2, a3, a4, a5, a6, a7, a8, a9⟩, aB, aE⟩, ⟨b1, b2, b3, b4, b5, b6⟩, c1, c2⟩ := h.2.1 s hs
  have hB := h.2.2.2.2.2.2
  have hgc : ag (gF G s) (gL G (kT K s)) c := h.ld (a := a) hd a8
  have hvF := (h.1.2.1 s hs).1
  have hvL := (h.1.1.len hd).2.1
  have hgl := hgc.2.1
  have hpre : (w.1 6 ≤ K.1 18 s 0 ∨ sHas K s (w.1 6) (w.1 7) = true) → ag (gF G s) (gL G (kT K s)) x := fun z => by
    rw [q2] at z
    by_cases c0 : x ≤ a
    · exact hgc.le (by omega)
    · have z' := z.resolve_left (fun y => by rw [a1, i32_le (by omega) (by omega)] at y; exact c0 y)
      obtain ⟨p, rfl⟩ : ∃ p, x = p + 1 := ⟨x - 1, by omega⟩
      exact sHas_ag a1 a5 (by omega) (by omega) (by omega) (by omega) hvF hvL q3 z'
  have hacc := fun z => kAccs_F (G := G) hvL (by omega) w.2.2 K x (gF G s) a1 a2 a3 hgc (by omega) a5 hvF (hpre z) q4 q5
  refine ⟨⟨x, c8, ⟨q2, q8, q7, by omega, by omega, fun e he => ?_⟩, by omega, fun z => ?_⟩, ?_⟩
  · rw [q5] at he
    exact (L2 e (List.mem_of_mem_drop (List.mem_of_mem_take he))).2.1
  · obtain ⟨F', p1, p2, p3, p4⟩ := hacc z
    exact p4
  · unfold kOnEnt2
    by_cases z : w.1 6 ≤ K.1 18 s 0 ∨ sHas K s (w.1 6) (w.1 7) = true
    · rw [if_pos z]
      obtain ⟨F', p1, p2, p3, p4⟩ := hacc z
      obtain ⟨r1, r2, r3⟩ := kAccs_1' s w.2.2 K (w.1 6 + 1)
      have e6 : w.1 6 + 1 = Int32.ofNat (x + 1) := by rw [q2]; exact i32_suc1 _
      rw [← e6] at p3
      have eK : ∀ f i j, (kAccs s K (w.1 6 + 1) w.2.2).1 f i j = K.1 f i j := fun f i j => by rw [r1]
      obtain ⟨y, hy⟩ : ∃ y, y = x + w.2.2.length := ⟨_, rfl⟩
      rw [← hy] at p1 p2 q4
      have hFa : ag F' (gL G (kT K s)) y := by
        by_cases g : ag (gF G s) (gL G (kT K s)) y
        · rw [p1 g]; exact g
        · rw [p2 g]; exact ((ag.rf q4).tk (Nat.le_refl _)).sy
      have hFc : ag F' (gL G (kT K s)) c := by
        by_cases g : ag (gF G s) (gL G (kT K s)) y
        · rw [p1 g]; exact hgc
        · have : c ≤ y := Nat.le_of_not_lt (fun z => g (hgc.le (by omega)))
          exact hFa.le this
      have hFF : ag F' (gF G s) c := hFc.tr hgc.sy
      have e69 : w.1 6 + w.1 9 = Int32.ofNat y := by rw [q2, q7, hy, Int32.ofNat_add]
      have eC : kC (kAccs s K (w.1 6 + 1) w.2.2) s = c := kC_of (by rw [eK]; exact a2) (by omega)
      -- what is committed now
      have hmn : (kMin (w.1 8) (w.1 6 + w.1 9)).toNatClampNeg = min c8 y := by
        rw [e69, q8, kMin_n (by omega) (by omega)]; exact toN (by omega)
      obtain ⟨n, hn⟩ : ∃ n, n = min c8 y - c := ⟨_, rfl⟩
      have hcn : (n = 0 ∧ c + n = c) ∨ (c + n ≤ c8 ∧ c + n ≤ y) := by omega
      have hcovF : cov G F' (kT K s) (c + n) := by
        rcases hcn with ⟨-, u⟩ | ⟨u1, u2⟩
        · rw [u]; exact a8.mv hFF
        · exact (q10.le u1).mv (hFa.le u2)
      have hcl : c + n ≤ F'.length := by
        rcases hcn with ⟨-, u⟩ | ⟨u1, u2⟩
        · rw [u]; exact hFc.1
        · exact Nat.le_trans u2 hFa.1
      have g1 : kAll m0 A B k (kCommTo (kAccs s K (w.1 6 + 1) w.2.2) s (kMin (w.1 8) (w.1 6 + w.1 9))) (gAcc G (kT K s) s y F') := by
        unfold kCommTo
        rw [eC, hmn, ← hn]
        refine h.accF (a := a) (c := c + n) hs hr hd q4 p1 p2 (by rw [kComm_2]; exact r2) (fun i hi => by rw [kComm_2]; exact r3 i hi) (fun f i j hf hne => ?_) ?_ (kSet_at _ _ _ _ _) (by omega) hcl (by rw [kComm_2]; exact p3) ?_ ?_ hcovF a9
        · rw [kComm_1 (fun z => by unfold relF at hf; omega) (fun z => by unfold relF at hf; omega) (fun z => hne ⟨z.2.1, Or.inr ⟨z.1, z.2.2⟩⟩), eK]
        · rw [kComm_1 (by omega) (by omega) (by omega), eK]; exact a1
        · rw [kComm_1 (by omega) (by omega) (by omega), eK]; exact a6.trans (tAt_ag hFF.sy a3)
        · rw [kComm_1 (by omega) (by omega) (by omega), eK]; exact a7.trans (by rw [(hFF.le a3).2.2])
      refine ⟨gAcc G (kT K s) s y F', ?_, gLe.acc G _ _ _ _⟩
      unfold kEntT
      refine g1.send ?_
      rw [eK, e69, b1]
      exact uRep true (hw.ex (gLe.acc G _ _ _ _) h.1.2.2.2.2.2.2.2.2.1 w4) (Or.inr (Or.inr rfl)) (by omega) (Or.inl b2) (fun z => absurd z (by decide)) (fun _ => ⟨fun _ => ⟨y, rfl, by
        rw [hS]
        show y ≤ up2 (gA G) (kT K s) s (max (gA G (kT K s) s) y) (kT K s) s
        rw [up2_s]; exact Nat.le_max_right _ _⟩, fun z => by cases z⟩)
    · rw [if_neg z]
      refine ⟨G, h.send ?_, gLe.rf G⟩
      have hy : ∃ y : Nat, sTry K s (w.1 6) = Int32.ofNat y ∧ y ≤ (gL G (kT K s)).length := by
        unfold sTry
        rw [fu_last a1 a5 (by omega), q2, a1, a2]
        by_cases c3 : x ≤ (gF G s).length
        · rw [if_pos (by rw [i32_le (by omega) (by omega)]; exact c3)]
          have : ∃ y : Nat, (if Int32.ofNat x ≤ Int32.ofNat a then Int32.ofNat x else Int32.ofNat a + Int32.ofNat (sRun (K.2.1 s) (sTix K s (Int32.ofNat x)) (Int32.ofNat x - Int32.ofNat a).toNatClampNeg)) = Int32.ofNat y ∧ y ≤ x := by
            by_cases c4 : x ≤ a
            · rw [if_pos (by rw [i32_le (by omega) (by omega)]; exact c4)]
              exact ⟨x, rfl, Nat.le_refl _⟩
            · rw [if_neg (by rw [i32_le (by omega) (by omega)]; exact c4), i32_sub0 (by omega), (i32_ix (by omega)).1, ← Int32.ofNat_add]
              have := sRun_le (K.2.1 s) (sTix K s (Int32.ofNat x)) (x - a)
              exact ⟨_, rfl, by omega⟩
          obtain ⟨y, y1, y2⟩ := this
          rw [y1]
          by_cases c5 : Int32.ofNat y < Int32.ofNat c
          · rw [if_pos c5]; exact ⟨c, rfl, hgl⟩
          · rw [if_neg c5]; exact ⟨y, rfl, by omega⟩
        · rw [if_neg (by rw [i32_le (by omega) (by omega)]; exact c3)]
          exact ⟨_, rfl, by omega⟩
      obtain ⟨y, y1, y2⟩ := hy
      rw [y1, b1]
      exact uRep false hw (Or.inr (Or.inr rfl)) (by omega) (Or.inl b2) (fun z => absurd z (by decide)) (fun _ => ⟨(fun z => by cases z), fun _ => ⟨y, rfl, Or.inr ⟨q1, y2⟩⟩⟩)
/-- a refusal of an old term -/
theorem kAll.old {w : MSG} (h : kAll m0 A B k K G) (hs : s < 7) (hw : uOk m0 A k G w) : kAll m0 A B k (kSend K (mRep w 6 (K.1 5 s 0) 0 0)) G := by
  have hT := (h.2.1 s hs).2.1
  have hT2 := hT.2.1
  rw [hT.1]
  exact h.send (uRep false hw (Or.inr (Or.inr rfl)) (by omega) (Or.inl hT2) (fun z => absurd z (by decide)) (fun _ => ⟨(fun z => by cases z), fun _ => ⟨0, rfl, Or.inl rfl⟩⟩))
theorem kAll.onEnt {w : MSG} {f : Nat} (h : kAll m0 A B k K G) (hs : s < 7) (hw : uOk m0 A k G w) (h5 : w.1 1 = 5) (hS : mS w = s) (hF : mF w = f) (hle : mT w ≤ kT K s) :
    (∃ x6 c8, mEok w x6 c8 ∧ x6 + w.2.2.length ≤ B ∧ (K.1 5 s 0 ≤ w.1 4 → (w.1 6 ≤ (kObey K s (w.1 2)).1 18 s 0 ∨ sHas (kObey K s (w.1 2)) s (w.1 6) (w.1 7) = true) → kAccOk s (kObey K s (w.1 2)) (Int32.ofNat (x6 + 1)) w.2.2)) ∧ ∃ G', kAll m0 A B k (kOnEnt K s w) G' ∧ gLe G G' := by
  obtain ⟨e1, e2, e3, e4⟩ := kObey_T K s (w.1 2)
  have hT := (h.2.1 s hs).2.1
  have hT2 := hT.2.1
  have hTw := hw.2.2.1
  by_cases c : mT w < kT K s
  · -- an old one
    have o9 := hw.2.2.2.2.2.2.2.2.1 h5
    obtain ⟨x, c8, q1, q2, q3, q4, q5, q6, q7, q8, q9, q10⟩ := o9
    have hd : ¬ gD G (mT w) = none := by rw [q1]; exact fun z => by cases z
    obtain ⟨L1, L2⟩ := h.2.2.2.2.1 _ hd
    have hB := h.2.2.2.2.2.2
    refine ⟨⟨x, c8, ⟨q2, q8, q7, by omega, by omega, fun e he => ?_⟩, by omega, fun z => ?_⟩, G, ?_, gLe.rf G⟩
    · rw [q5] at he
      exact (L2 e (List.mem_of_mem_drop (List.mem_of_mem_take he))).2.1
    · rw [hT.1, hTw, i32_le (by omega) (by omega)] at z; omega
    · unfold kOnEnt
      rw [if_pos (by rw [hT.1, hTw, i32_lt (by omega) (by omega)]; exact c)]
      exact h.old hs hw
  · obtain ⟨⟨x6, c8, g1, g2, g3⟩, G', g4, g9⟩ := (h.obey hs (w.1 2)).entF hs e2 hw h5 hS hF (by rw [e1]; omega)
    refine ⟨⟨x6, c8, g1, g2, fun _ z => g3 z⟩, G', ?_, g9⟩
    unfold kOnEnt
    rw [if_neg (by rw [hT.1, hTw, i32_lt (by omega) (by omega)]; exact c)]
    exact g4
/-- a snapshot of its term's leader -/
theorem kAll.onSnp {w : MSG} {f : Nat} (h : kAll m0 A B k K G) (hs : s < 7) (hw : uOk m0 A k G w) (h7 : w.1 1 = 7) (hS : mS w = s) (hF : mF w = f) (hle : mT w ≤ kT K s) : ∃ G', kAll m0 A B k (kOnSnp K s w) G' ∧ gLe G G' := by
  obtain ⟨w1, w2, w3, w4, w5⟩ := hw.1
  obtain ⟨e1, e2, e3, e4⟩ := kObey_T K s (w.1 2)
  have hTw := hw.2.2.1
  have o11 := hw.2.2.2.2.2.2.2.2.2.2 h7
  unfold kOnSnp
  by_cases c : mT w < kT K s
  · have hT := (h.2.1 s hs).2.1
    have hT2 := hT.2.1
    rw [if_pos (by rw [hT.1, hTw, i32_lt (by omega) (by omega)]; exact c)]
    exact ⟨G, h.old hs hw, gLe.rf G⟩
  · have hT' := (h.2.1 s hs).2.1
    have hT2 := hT'.2.1
    rw [if_neg (by rw [hT'.1, hTw, i32_lt (by omega) (by omega)]; exact c)]
    have e5 : (kObey K s (w.1 2)).1 5 s 0 = K.1 5 s 0 := e4 5 s 0 (by omega)
    rw [← e5]
    have h0 := h.obey hs (w.1 2)
    obtain ⟨K0, hK0⟩ : ∃ K0, K0 = kObey K s (w.1 2) := ⟨_, rfl⟩
    rw [← hK0] at h0 e1 e2 ⊢
    have hT : mT w = kT K0 s := by rw [e1]; omega
    rw [hT] at o11
    obtain ⟨r, y, q1, q2, q3, q4, q5, q6, q7, q8, q9⟩ := o11
    have hd : ¬ gD G (kT K0 s) = none := by rw [q2]; exact fun z => by cases z
    obtain ⟨L1, L2⟩ := h0.2.2.2.2.1 _ hd
    obtain ⟨⟨⟨a, c, a1, a2, a3, a4, a5, a6, a7, a8, a9⟩, aB, aE⟩, ⟨b1, b2, b3, b4, b5, b6⟩, c1, c2⟩ := h0.2.1 s hs
    have hB := h0.2.2.2.2.2.2
    have hgc : ag (gF G s) (gL G (kT K0 s)) c := h0.ld (a := a) hd a8
    have hvF := (h0.1.2.1 s hs).1
    have hvL := (h0.1.1.len hd).2.1
    have hgl := hgc.2.1
    have hrep : ∀ F, uOk m0 A k (gAcc G (kT K0 s) s y F) (mRep w 6 (Int32.ofNat (kT K0 s)) (bI true) (Int32.ofNat y)) := fun F =>
      uRep true (hw.ex (gLe.acc G _ _ _ _) h0.1.2.2.2.2.2.2.2.2.1 w4) (Or.inr (Or.inr rfl)) (by omega) (Or.inl b2) (fun z => absurd z (by decide)) (fun _ => ⟨fun _ => ⟨y, rfl, by
        rw [hS]
        show y ≤ up2 (gA G) (kT K0 s) s (max (gA G (kT K0 s) s) y) (kT K0 s) s
        rw [up2_s]; exact Nat.le_max_right _ _⟩, fun z => by cases z⟩)
    -- the log that comes to be
    obtain ⟨F, p1, p2⟩ : ∃ F, (ag (gF G s) (gL G (kT K0 s)) y → F = gF G s) ∧ (¬ ag (gF G s) (gL G (kT K0 s)) y → F = (gL G (kT K0 s)).take y) := by
      by_cases g : ag (gF G s) (gL G (kT K0 s)) y
      · exact ⟨_, fun _ => rfl, fun z => absurd g z⟩
      · exact ⟨_, fun z => absurd z g, fun _ => rfl⟩
    have hFa : ag F (gL G (kT K0 s)) y := by
      by_cases g : ag (gF G s) (gL G (kT K0 s)) y
      · rw [p1 g]; exact g
      · rw [p2 g]; exact ((ag.rf q5).tk (Nat.le_refl _)).sy
    refine ⟨gAcc G (kT K0 s) s y F, ?_, gLe.acc G _ _ _ _⟩
    rw [q4, b1]
    refine kAll.send ?_ (hrep F)
    rw [q1]
    show kAll m0 A B k (if K0.1 15 s 0 < r 0 then kTab (kSet (kCut K0 s (sCutN K0 s r) r) 15 s 0 (r 0)) s r else K0) _
    by_cases c3 : c < y
    · rw [if_pos (by rw [a2, q3, i32_lt (by omega) (by omega)]; exact c3)]
      have eo : ∀ f i j, relF f → ¬ (i = s ∧ (f = 18 ∨ f = 15 ∧ j = 0)) → (kTab (kSet (kCut K0 s (sCutN K0 s r) r) 15 s 0 (r 0)) s r).1 f i j = K0.1 f i j := fun f i j hf hne => by
        rw [kTab_1 (fun z => by unfold relF at hf; omega), kSet_ne (fun z => hne ⟨z.2.1, Or.inr ⟨z.1, z.2.2⟩⟩), kCut_1 (fun z => hne ⟨z.2, Or.inl z.1⟩)]
      have e18 : ∀ j, (kTab (kSet (kCut K0 s (sCutN K0 s r) r) 15 s 0 (r 0)) s r).1 18 s j = r j := fun j => by
        rw [kTab_1 (by omega), kSet_ne (by omega)]
        exact if_pos ⟨rfl, rfl⟩
      have hlog : (kTab (kSet (kCut K0 s (sCutN K0 s r) r) 15 s 0 (r 0)) s r).2.1 s = F.drop y := by
        show (if s = s then (K0.2.1 s).drop (sCutN K0 s r) else _) = _
        rw [if_pos rfl]
        unfold sCutN
        obtain ⟨p, rfl⟩ : ∃ p, y = p + 1 := ⟨y - 1, by omega⟩
        by_cases g : ag (gF G s) (gL G (kT K0 s)) (p + 1)
        · obtain ⟨ex, x1, x2, x3⟩ := tAt_get (L := gL G (kT K0 s)) (x := p) (by omega)
          rw [if_pos (by rw [q3, q7, x3]; exact ag_sHas a1 a5 (by omega) (by omega) (by omega) x1 g), p1 g, a5, q3, a1, i32_sub0 (by omega), (i32_ix (by omega)).1, List.drop_drop]
          congr 1; omega
        · rw [if_neg (fun z => g (sHas_ag a1 a5 (by omega) (by omega) (by omega) (by omega) hvF hvL (x := p) q7 (by rw [← q3]; exact z))), List.drop_of_length_le (Nat.le_refl _), p2 g, List.drop_of_length_le (by rw [List.length_take]; omega)]
      refine h0.accF (a := y) (c := y) hs e2 hd q5 p1 p2 rfl (fun i hi => if_neg hi) eo ((e18 0).trans q3) ?_ (Nat.le_refl _) hFa.1 hlog ((e18 1).trans (q7.trans (tAt_ag hFa.sy (Nat.le_refl _)))) ((e18 2).trans (q8.trans (by rw [hFa.2.2]))) (q9.mv hFa) q6
      rw [kTab_1 (by omega), kSet_at, q3]
    · rw [if_neg (by rw [a2, q3, i32_lt (by omega) (by omega)]; exact c3)]
      have g : ag (gF G s) (gL G (kT K0 s)) y := hgc.le (by omega)
      rw [p1 g]
      exact h0.accF (a := a) (c := c) hs e2 hd q5 (fun _ => rfl) (fun z => absurd g z) rfl (fun _ _ => rfl) (fun _ _ _ _ _ => rfl) a1 a2 a3 a4 a5 a6 a7 a8 a9
end ENT2
