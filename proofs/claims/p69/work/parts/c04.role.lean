/-! ===== ROLES, VOTES, WHAT IS FOLLOWED, NEXT AND MATCHED; terms and what is committed grow ===== -/
def okS (K : KK) (s : Nat) : Prop := (¬ K.1 12 s 0 = 0 → K.1 13 s 0 = -1) ∧ (K.1 12 s 0 = 2 ∨ K.1 12 s 0 = 3 → K.1 6 s 0 = Int32.ofNat s) ∧ (K.1 12 s 0 = 3 → ∀ q, q < 7 → ¬ q = s → K.1 3 s q < K.1 2 s q)
theorem okS.z {K : KK} {s : Nat} (h : K.1 12 s 0 = 0) : okS K s := ⟨fun z => absurd h z, fun z => by rcases z with z | z <;> rw [h] at z <;> exact absurd z (by decide), fun z => by rw [h] at z; exact absurd z (by decide)⟩
theorem okS.cg {K K' : KK} {s : Nat} (h : okS K s) (he : ∀ f j, f = 12 ∨ f = 13 ∨ f = 6 ∨ f = 2 ∨ f = 3 → K'.1 f s j = K.1 f s j) : okS K' s := by
  obtain ⟨a, b, c⟩ := h
  unfold okS
  rw [he 12 0 (by omega), he 13 0 (by omega), he 6 0 (by omega)]
  exact ⟨a, b, fun z q hq hne => by rw [he 3 q (by omega), he 2 q (by omega)]; exact c z q hq hne⟩
/-- a server's step: others stay, it only grows -/
def stR (s : Nat) (K K' : KK) : Prop := (∀ i f j, ¬ i = s → ¬ (f = 32 ∨ f = 35 ∨ f = 36) → K'.1 f i j = K.1 f i j) ∧ (∀ f i j, frF f → K'.1 f i j = K.1 f i j) ∧ kT K s ≤ kT K' s ∧ kC K s ≤ kC K' s ∧ (okS K s → okS K' s)
theorem stR.rf (s : Nat) (K : KK) : stR s K K := ⟨fun _ _ _ _ _ => rfl, fun _ _ _ _ => rfl, Nat.le_refl _, Nat.le_refl _, id⟩
theorem stR.tr {s : Nat} {K K1 K2 : KK} (h : stR s K K1) (k : stR s K1 K2) : stR s K K2 := ⟨fun i f j hi hf => (k.1 i f j hi hf).trans (h.1 i f j hi hf), fun f i j hf => (k.2.1 f i j hf).trans (h.2.1 f i j hf), Nat.le_trans h.2.2.1 k.2.2.1, Nat.le_trans h.2.2.2.1 k.2.2.2.1, fun z => k.2.2.2.2 (h.2.2.2.2 z)⟩
section STR
variable {s : Nat} {K K' : KK}
/-- only numbers that don't count change -/
theorem stR.fr (h1 : ∀ f i j, ¬ (f = 32 ∨ f = 35 ∨ f = 36) → ¬ (i = s ∧ (f = 14 ∨ f = 16 ∨ f = 17 ∨ f = 18 ∨ f = 19)) → K'.1 f i j = K.1 f i j) : stR s K K' :=
  ⟨fun i f j hi hf => h1 f i j hf (fun z => hi z.1), fun f i j hf => h1 f i j (by unfold frF at hf; omega) (by unfold frF at hf; omega), by unfold kT; rw [h1 5 s 0 (by omega) (by omega)]; exact Nat.le_refl _, by unfold kC; rw [h1 15 s 0 (by omega) (by omega)]; exact Nat.le_refl _, fun z => z.cg (fun f j hf => h1 f s j (by omega) (by omega))⟩
theorem stR.send (u : MSG) : stR s K (kSend K u) := stR.fr (fun f i j h _ => kSend_1 K u (by omega))
theorem stR.term {v : Int32} (h : kT K s ≤ v.toNatClampNeg) : stR s K (kTerm K s v) := by
  refine ⟨fun i f j hi _ => kTerm_1 (by omega), fun f i j hf => kTerm_1 (by unfold frF at hf; omega), ?_, ?_, fun _ => okS.z ?_⟩
  · unfold kT kTerm
    rw [kSet_ne (by omega), kSet_ne (by omega), kSet_ne (by omega), kSet_at]; exact h
  · unfold kC; rw [kTerm_1 (by omega)]; exact Nat.le_refl _
  · unfold kTerm; rw [kSet_ne (by omega), kSet_at]
theorem stR.obey (x : Int32) : stR s K (kObey K s x) := by
  refine ⟨fun i f j hi _ => kObey_1 (by omega), fun f i j hf => kObey_1 (by unfold frF at hf; omega), ?_, ?_, fun _ => okS.z ?_⟩
  · unfold kT; rw [kObey_1 (by omega)]; exact Nat.le_refl _
  · unfold kC; rw [kObey_1 (by omega)]; exact Nat.le_refl _
  · unfold kObey; rw [kSet_ne (by omega), kSet_ne (by omega), kSet_at]
theorem stR.start : stR s K (kStart K s 1) := by
  refine ⟨fun i f j hi _ => kStart_1 (by omega), fun f i j hf => kStart_1 (by unfold frF at hf; omega), ?_, ?_, fun _ => ?_⟩
  · unfold kT; rw [kStart_1 (by omega)]; exact Nat.le_refl _
  · unfold kC; rw [kStart_1 (by omega)]; exact Nat.le_refl _
  · have e12 : (kStart K s 1).1 12 s 0 = 1 := by unfold kStart; rw [kSet_ne (by omega), kSet_ne (by omega), kSet_ne (by omega), kSet_at]
    have e13 : (kStart K s 1).1 13 s 0 = -1 := by unfold kStart; rw [kSet_ne (by omega), kSet_ne (by omega), kSet_at]
    refine ⟨fun _ => e13, fun z => ?_, fun z => ?_⟩
    · rw [e12] at z; rcases z with z | z <;> exact absurd z (by decide)
    · rw [e12] at z; exact absurd z (by decide)
theorem stR.stand {m0 : Int32} {A B k : Nat} {G : GG} (h : kAll m0 A B k K G) (hs : s < 7) : stR s K (kStand K s) := by
  have hT := (h.2.1 s hs).2.1
  have hT2 := hT.2.1
  refine ⟨fun i f j hi _ => kStand_1 (by omega), fun f i j hf => kStand_1 (by unfold frF at hf; omega), ?_, ?_, fun _ => ?_⟩
  · have e5 : (kStand K s).1 5 s 0 = Int32.ofNat (kT K s + 1) := by
      unfold kStand kStart
      rw [kSet_ne (by omega), kSet_ne (by omega), kSet_ne (by omega), kSet_ne (by omega), kSet_ne (by omega), kSet_at, hT.1, i32_suc1]
    unfold kT at e5 ⊢
    rw [e5, (i32_ix (by unfold kT at hT2; omega)).1]
    omega
  · unfold kC; rw [kStand_1 (by omega)]; exact Nat.le_refl _
  · have e12 : (kStand K s).1 12 s 0 = 2 := by unfold kStand kStart; rw [kSet_ne (by omega), kSet_ne (by omega), kSet_ne (by omega), kSet_ne (by omega), kSet_at]
    have e13 : (kStand K s).1 13 s 0 = -1 := by unfold kStand kStart; rw [kSet_ne (by omega), kSet_ne (by omega), kSet_ne (by omega), kSet_at]
    have e6 : (kStand K s).1 6 s 0 = Int32.ofNat s := by unfold kStand; rw [kSet_at]
    refine ⟨fun _ => e13, fun _ => e6, fun z => ?_⟩
    rw [e12] at z; exact absurd z (by decide)
theorem stR.lead {m0 : Int32} {A B k : Nat} {G' : GG} (h' : kAll m0 A B k (kLd K s) G') (hs : s < 7) (h2 : K.1 12 s 0 = 2) : stR s K (kLd K s) := by
  have e : ∀ f i j, (kLd K s).1 f i j = (kLead K s).1 f i j := fun _ _ _ => rfl
  refine ⟨fun i f j hi _ => ?_, fun f i j hf => ?_, ?_, ?_, fun z => ?_⟩
  · rw [e]; exact kLead_1 (by omega)
  · rw [e]; exact kLead_1 (by unfold frF at hf; omega)
  · unfold kT; rw [e, kLead_1 (by omega)]; exact Nat.le_refl _
  · unfold kC; rw [e, kLead_1 (by omega)]; exact Nat.le_refl _
  · have e12 : (kLd K s).1 12 s 0 = 3 := by rw [e, kLead_v, if_neg (by omega), if_neg (by omega)]; simp
    have e13 : (kLd K s).1 13 s 0 = -1 := by rw [e, kLead_v, if_neg (by omega), if_neg (by omega)]; simp
    have e6 : (kLd K s).1 6 s 0 = Int32.ofNat s := by rw [e, kLead_1 (by omega)]; exact z.2.1 (Or.inl h2)
    refine ⟨fun _ => e13, fun _ => e6, fun _ q hq hne => ?_⟩
    have hr : kR (kLd K s) s = 3 := kR_of (r := 3) (by omega) e12
    have hB := h'.2.2.2.2.2.2
    have aB := (h'.2.1 s hs).1.2.1
    obtain ⟨nx, mt, q1, q2, q3, q4, q5, q6⟩ := ((h'.2.1 s hs).2.2.1 hr).2 q hq
    rw [q1, e, kLead_v, if_pos ⟨rfl, rfl, hq⟩, show (0 : Int32) = Int32.ofNat 0 from rfl, i32_lt (by omega) (by omega)]
    omega
theorem kStep_cs (K : KK) (s : Nat) (mm mx : Int32) : kStep K s mm mx = K ∨ kStep K s mm mx = kSet (kSet K 12 s 0 0) 13 s 0 (-1) := by
  unfold kStep; split
  · exact Or.inr rfl
  · exact Or.inl rfl
theorem stR.comm (c n : Nat) (hc : c = kC K s) (hn : c + n < 2147483648) : stR s K (kComm K s c n) := by
  refine ⟨fun i f j hi hf => kComm_1 (by omega) (by omega) (by omega), fun f i j hf => kComm_1 (by unfold frF at hf; omega) (by unfold frF at hf; omega) (by unfold frF at hf; omega), ?_, ?_, fun z => z.cg (fun f j hf => kComm_1 (by omega) (by omega) (by omega))⟩
  · unfold kT; rw [kComm_1 (by omega) (by omega) (by omega)]; exact Nat.le_refl _
  · have e : (kComm K s c n).1 15 s 0 = Int32.ofNat (c + n) := kSet_at _ _ _ _ _
    rw [show kC (kComm K s c n) s = c + n from kC_of e hn]; omega
theorem stR.quit : stR s K (kSet (kSet K 12 s 0 0) 13 s 0 (-1)) := by
  refine ⟨fun i f j hi _ => by rw [kSet_ne (by omega), kSet_ne (by omega)], fun f i j hf => by unfold frF at hf; rw [kSet_ne (by omega), kSet_ne (by omega)], ?_, ?_, fun _ => okS.z (by rw [kSet_ne (by omega), kSet_at])⟩
  · unfold kT; rw [kSet_ne (by omega), kSet_ne (by omega)]; exact Nat.le_refl _
  · unfold kC; rw [kSet_ne (by omega), kSet_ne (by omega)]; exact Nat.le_refl _
theorem stR.lk {m0 : Int32} {A B k : Nat} {G : GG} (h : kAll m0 A B k K G) (hs : s < 7) : stR s K (kLk K s) := by
  have hk := h.ok hs
  obtain ⟨k1, k2, k3, k4, k5, -⟩ := hk.1
  obtain ⟨n, hn⟩ : ∃ n, n = sLkN (fun k => sLkP K s (sMem K s) (Int32.ofNat (kC K s + k))) (kA K s + (K.2.1 s).length - kC K s) := ⟨_, rfl⟩
  have hle : n ≤ kA K s + (K.2.1 s).length - kC K s := by rw [hn]; exact sLkN_le _ _
  have h1 : stR s K (kComm K s (kC K s) n) := stR.comm _ _ rfl (by omega)
  unfold kLk kLook
  rw [← hn]
  rcases kStep_cs (kComm K s (kC K s) n) s (sMem K s) (sMix K s) with e | e <;> rw [e]
  · exact h1
  · exact h1.tr stR.quit
theorem stR.grant {w : MSG} (hs : s < 7) : stR s K (kGrant K s w) := by
  unfold kGrant
  by_cases c : sGrant K s w = true
  · rw [if_pos c]
    have ef : ∀ f i j, ¬ (i = s ∧ (f = 6 ∨ f = 14)) → (kSet (kSet K 6 s 0 (w.1 2)) 14 s 0 0).1 f i j = K.1 f i j := fun f i j hn => by rw [kSet_ne (by omega), kSet_ne (by omega)]
    refine ⟨fun i f j hi _ => ef f i j (by omega), fun f i j hf => ef f i j (by unfold frF at hf; omega), by unfold kT; rw [ef 5 s 0 (by omega)]; exact Nat.le_refl _, by unfold kC; rw [ef 15 s 0 (by omega)]; exact Nat.le_refl _, fun z => ⟨?_, ?_, ?_⟩⟩
    · rw [ef 12 s 0 (by omega), ef 13 s 0 (by omega)]; exact z.1
    · rw [ef 12 s 0 (by omega)]
      intro y
      have h6 := z.2.1 y
      unfold sGrant at c
      rw [Bool.and_eq_true, Bool.or_eq_true] at c
      rw [kSet_ne (by omega), kSet_at]
      rcases c.1 with c1 | c1
      · have c2 := of_decide_eq_true c1
        rw [h6] at c2
        rcases (by omega : s = 0 ∨ s = 1 ∨ s = 2 ∨ s = 3 ∨ s = 4 ∨ s = 5 ∨ s = 6) with rfl | rfl | rfl | rfl | rfl | rfl | rfl <;> exact absurd c2 (by decide)
      · rw [← of_decide_eq_true c1]; exact h6
    · rw [ef 12 s 0 (by omega)]
      intro y q hq hne
      rw [ef 3 s q (by omega), ef 2 s q (by omega)]; exact z.2.2 y q hq hne
  · rw [if_neg c]; exact stR.rf _ _
theorem stR.nm {f : Nat} (h : (∀ a i j, ¬ (i = s ∧ (a = 2 ∨ a = 3)) → K'.1 a i j = K.1 a i j)) (hq : K.1 12 s 0 = 3 → (∀ q, q < 7 → ¬ q = s → K.1 3 s q < K.1 2 s q) → ∀ q, q < 7 → ¬ q = s → K'.1 3 s q < K'.1 2 s q) : stR s K K' := by
  refine ⟨fun i f j hi _ => h f i j (by omega), fun f i j hf => h f i j (by unfold frF at hf; omega), by unfold kT; rw [h 5 s 0 (by omega)]; exact Nat.le_refl _, by unfold kC; rw [h 15 s 0 (by omega)]; exact Nat.le_refl _, fun z => ⟨?_, ?_, ?_⟩⟩
  · rw [h 12 s 0 (by omega), h 13 s 0 (by omega)]; exact z.1
  · rw [h 12 s 0 (by omega), h 6 s 0 (by omega)]; exact z.2.1
  · rw [h 12 s 0 (by omega)]; exact fun y => hq y (z.2.2 y)
theorem stR.learn {m0 : Int32} {A B k f : Nat} {x : Int32} {G' : GG} (h' : kAll m0 A B k (kLearn K s f x) G') (hs : s < 7) (hf : f < 7) (hr : K.1 12 s 0 = 3) : stR s K (kLearn K s f x) := by
  have hr' : kR (kLearn K s f x) s = 3 := kR_of (r := 3) (by omega) (by rw [kLearn_1 (by omega)]; exact hr)
  have hB := h'.2.2.2.2.2.2
  have aB := (h'.2.1 s hs).1.2.1
  have hn := ((h'.2.1 s hs).2.2.1 hr').2
  unfold kLearn at hn ⊢
  by_cases c : x ≤ K.1 3 s f
  · rw [if_pos c]; exact stR.rf _ _
  · rw [if_neg c] at hn ⊢
    refine stR.nm (f := 0) (fun a i j hn => by rw [kSet_ne (by omega), kSet_ne (by omega)]) (fun _ z q hq hne => ?_)
    by_cases e : q = f
    · subst e
      obtain ⟨nx, mt, q1, q2, q3, q4, q5, q6⟩ := hn q hq
      rw [q1, q4, i32_lt (by omega) (by omega)]
      rw [kSet_at] at q1
      rw [kSet_ne (by omega), kSet_at] at q4
      rw [q4, i32_suc1, i32_eq (by omega) (by omega)] at q1
      omega
    · rw [kSet_ne (by omega), kSet_ne (by omega), kSet_ne (by omega), kSet_ne (by omega)]; exact z q hq hne
theorem kMax_ge (x y : Int32) : y ≤ kMax x y := by
  unfold kMax; split <;> first
    | exact Int32.le_refl _
    | (rename_i h; first | exact Int32.not_lt.mp h | exact Int32.le_of_lt h | exact h)
theorem stR.next {m0 : Int32} {A B k f : Nat} {x : Int32} {G G' : GG} (h : kAll m0 A B k K G) (h' : kAll m0 A B k (kSet K 2 s f (kMax x (K.1 3 s f) + 1)) G') (hs : s < 7) (hf : f < 7) (hr : K.1 12 s 0 = 3) : stR s K (kSet K 2 s f (kMax x (K.1 3 s f) + 1)) := by
  have hr0 : kR K s = 3 := kR_of (r := 3) (by omega) hr
  have hr' : kR (kSet K 2 s f (kMax x (K.1 3 s f) + 1)) s = 3 := kR_of (r := 3) (by omega) (by rw [kSet_ne (by omega)]; exact hr)
  have hB := h'.2.2.2.2.2.2
  have aB := (h'.2.1 s hs).1.2.1
  have aB0 := (h.2.1 s hs).1.2.1
  have hn := ((h'.2.1 s hs).2.2.1 hr').2
  refine stR.nm (f := 0) (fun a i j hn => by rw [kSet_ne (by omega)]) (fun _ z q hq hne => ?_)
  by_cases e : q = f
  · subst e
    obtain ⟨nx, mt, q1, q2, q3, q4, q5, q6⟩ := hn q hq
    rw [kSet_ne (by omega)] at q4 ⊢
    rw [q1, q4, i32_lt (by omega) (by omega)]
    rw [kSet_at] at q1
    have e9 : kMax x (K.1 3 s q) = Int32.ofNat (nx - 1) := by
      have : kMax x (K.1 3 s q) + 1 = Int32.ofNat (nx - 1) + 1 := by rw [q1, i32_suc1]; congr 1; omega
      grind
    have hge := kMax_ge x (K.1 3 s q)
    rw [e9, q4, i32_le (by omega) (by omega)] at hge
    omega
  · rw [kSet_ne (by omega), kSet_ne (by omega)]; exact z q hq hne
theorem clamp_le {a b : Int32} (h : a ≤ b) : a.toNatClampNeg ≤ b.toNatClampNeg := by
  have := Int32.le_iff_toInt_le.mp h
  show a.toInt.toNat ≤ b.toInt.toNat
  omega
theorem stR.ents {w : MSG} {m : Int32} {u : MSG} : stR s K (kSend (kCommTo (kAccs s K (w.1 6 + 1) w.2.2) s m) u) := by
  obtain ⟨r1, -, -⟩ := kAccs_1' s w.2.2 K (w.1 6 + 1)
  have h0 : stR s K (kAccs s K (w.1 6 + 1) w.2.2) := stR.fr (fun f i j _ _ => by rw [r1])
  refine (h0.tr ?_).tr (stR.send u)
  unfold kCommTo
  refine stR.comm _ _ rfl ?_
  have h1 : m.toNatClampNeg < 2147483648 := by
    have := m.toInt_lt
    show m.toInt.toNat < _
    omega
  have h2 : kC (kAccs s K (w.1 6 + 1) w.2.2) s < 2147483648 := by
    have := ((kAccs s K (w.1 6 + 1) w.2.2).1 15 s 0).toInt_lt
    show ((kAccs s K (w.1 6 + 1) w.2.2).1 15 s 0).toInt.toNat < _
    omega
  omega
theorem stR.inst {r : ENT} {u : MSG} : stR s K (kSend (kInst K s (some r)) u) := by
  refine stR.tr ?_ (stR.send u)
  show stR s K (if K.1 15 s 0 < r 0 then kTab (kSet (kCut K s (sCutN K s r) r) 15 s 0 (r 0)) s r else K)
  by_cases c : K.1 15 s 0 < r 0
  · rw [if_pos c]
    have ef : ∀ f i j, ¬ (i = s ∧ (f = 15 ∨ f = 18 ∨ f = 19)) → (kTab (kSet (kCut K s (sCutN K s r) r) 15 s 0 (r 0)) s r).1 f i j = K.1 f i j := fun f i j hn => by rw [kTab_1 (by omega), kSet_ne (by omega), kCut_1 (by omega)]
    refine ⟨fun i f j hi _ => ef f i j (by omega), fun f i j hf => ef f i j (by unfold frF at hf; omega), by unfold kT; rw [ef 5 s 0 (by omega)]; exact Nat.le_refl _, ?_, fun z => z.cg (fun f j hf => ef f s j (by omega))⟩
    unfold kC
    rw [kTab_1 (by omega), kSet_at]
    exact clamp_le (Int32.le_of_lt c)
  · rw [if_neg c]; exact stR.rf _ _
end STR
theorem stR.cl (m0 : Int32) (A B : Nat) {s : Nat} (w : MSG) (hs : s < 7) : CLo m0 A B s w (fun K _ K' _ => stR s K K') := by
  refine ⟨fun K _ => stR.rf s K, fun _ _ _ _ _ _ h k => h.tr k, fun k K G K' G' h h' _ hp => ?_⟩
  rcases hp with ⟨v, h1, rfl⟩ | ⟨x, rfl⟩ | rfl | rfl | ⟨h2, rfl⟩ | ⟨u, -, rfl⟩ | ⟨q, -, rfl⟩ | rfl | rfl | rfl | ⟨f, x, hf, hr, rfl⟩ | ⟨f, x, hf, hr, rfl⟩ | ⟨f, v, hf, rfl⟩ | ⟨m, u, -, rfl⟩ | ⟨r, u, -, -, rfl⟩
  · exact stR.term h1
  · exact stR.obey x
  · exact stR.start
  · exact stR.stand h hs
  · exact stR.lead h' hs h2
  · exact stR.send u
  · exact stR.send _
  · exact stR.lk h hs
  · exact stR.grant hs
  · exact stR.fr (fun f i j _ _ => by unfold kYes; rw [kSet_ne (by omega)])
  · exact stR.learn h' hs hf hr
  · exact stR.next h h' hs hf hr
  · exact stR.fr (fun f' i j _ _ => by rw [kSet_ne (by omega)])
  · exact stR.ents
  · exact stR.inst
