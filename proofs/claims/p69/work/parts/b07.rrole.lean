/-! ===== THE SERVERS AGREE: roles, terms, votes of a state ===== -/
theorem tm_lt (e : ENT) : tm e < 2147483648 := by
  unfold tm
  have := Int32.toInt_lt (e 0)
  show (e 0).toInt.toNat < _
  omega
theorem ltm_lt (L : List ENT) : ltm L < 2147483648 := by
  unfold ltm
  split
  · exact tm_lt _
  · decide
theorem cgU {α : Type} {f f' : Nat → α} {s : Nat} {v : α} (h : ∀ i, i < 7 → ¬ i = s → f' i = f i) (hs : f' s = v) : ∀ x, x < 7 → f' x = up1 f s v x := fun x hx => by
  by_cases e : x = s
  · rw [e, up1_s]; exact hs
  · rw [up1_n e]; exact h x hx e
theorem nA.num {K K' : KK} {G : GG} {m0 : Int32} {A B s : Nat} (h : nA m0 A B K G s) (h18 : ∀ j, K'.1 18 s j = K.1 18 s j) (h15 : K'.1 15 s 0 = K.1 15 s 0) (hl : K'.2.1 s = K.2.1 s) (hT : kT K s ≤ kT K' s) : nA m0 A B K' G s := by
  obtain ⟨⟨a, c, a1, a2, a3, a4, a5, a6, a7, a8, a9⟩, aB, aE⟩ := h
  exact ⟨⟨a, c, (h18 0).trans a1, h15.trans a2, a3, a4, hl.trans a5, (h18 1).trans a6, (h18 2).trans a7, a8.tt hT, a9⟩, aB, aE⟩
theorem nA.ext {K : KK} {G G' : GG} {m0 : Int32} {A B s : Nat} (h : nA m0 A B K G s) (hG : gLe G G') (hC : iC m0 G) (hF : gF G' s = gF G s) : nA m0 A B K G' s := by
  obtain ⟨⟨a, c, a1, a2, a3, a4, a5, a6, a7, a8, a9⟩, aB, aE⟩ := h
  rw [← hF] at a4 a5 a6 a7 a8 aB aE
  exact ⟨⟨a, c, a1, a2, a3, a4, a5, a6, a7, hG.cv hC a8, a9⟩, aB, aE⟩
theorem toN {n : Nat} (h : n < 2147483648) : (Int32.ofNat n).toNatClampNeg = n := (i32_ix h).1
theorem bit_all : ∀ f, f < 7 → (1 : Int32) <<< Int32.ofNat f = Int32.ofNat (2 ^ f) ∧ (1 : Int32) <<< (Int32.ofNat f &&& 31) = Int32.ofNat (2 ^ f) ∧ 2 ^ f < 128 ∧ ∀ v, v < 7 → sBit (Int32.ofNat (2 ^ f)) v = decide (v = f) := by
  unfold sBit
  decide +kernel
theorem i32_ofand (a b : Nat) : Int32.ofNat (a &&& b) = Int32.ofNat a &&& Int32.ofNat b := by
  refine Int32.toBitVec_inj.mp ?_
  show BitVec.ofNat 32 (a &&& b) = BitVec.ofNat 32 a &&& BitVec.ofNat 32 b
  refine BitVec.eq_of_getLsbD_eq (fun i hi => ?_)
  simp [BitVec.getLsbD_and, BitVec.getLsbD_ofNat, Nat.testBit_and, hi]
theorem i32_ofor (a b : Nat) : Int32.ofNat (a ||| b) = Int32.ofNat a ||| Int32.ofNat b := by
  refine Int32.toBitVec_inj.mp ?_
  show BitVec.ofNat 32 (a ||| b) = BitVec.ofNat 32 a ||| BitVec.ofNat 32 b
  refine BitVec.eq_of_getLsbD_eq (fun i hi => ?_)
  simp [BitVec.getLsbD_or, BitVec.getLsbD_ofNat, Nat.testBit_or, hi]
theorem bit_or {y f : Nat} (hy : y < 128) (hf : f < 7) : Int32.ofNat y ||| Int32.ofNat (2 ^ f) = Int32.ofNat (y ||| 2 ^ f) ∧ y ||| 2 ^ f < 128 ∧ ∀ v, v < 7 → sBit (Int32.ofNat (y ||| 2 ^ f)) v = (sBit (Int32.ofNat y) v || decide (v = f)) := by
  have h2 := (bit_all f hf).2.2.1
  have h3 : y ||| 2 ^ f < 2 ^ 7 := Nat.or_lt_two_pow hy h2
  refine ⟨(i32_ofor _ _).symm, h3, fun v hv => ?_⟩
  rw [sBit_nat _ h3 v hv, Nat.testBit_or, sBit_nat y hy v hv, ← sBit_nat _ h2 v hv, (bit_all f hf).2.2.2 v hv]
theorem cn_cg {p q : Nat → Bool} (h : ∀ v, v < 7 → p v = q v) : cn p = cn q := by
  unfold cn
  rw [h 0 (by omega), h 1 (by omega), h 2 (by omega), h 3 (by omega), h 4 (by omega), h 5 (by omega), h 6 (by omega)]
theorem sCnt_cn : ∀ n, n < 128 → sCnt (Int32.ofNat n) = Int32.ofNat (cn (sBit (Int32.ofNat n))) := by
  unfold sCnt cn bn sBit
  decide +kernel
theorem cn_le (p : Nat → Bool) : cn p ≤ 7 := by
  have h : ∀ b, bn b ≤ 1 := fun b => by cases b <;> decide
  unfold cn
  have := h (p 0); have := h (p 1); have := h (p 2); have := h (p 3); have := h (p 4); have := h (p 5); have := h (p 6)
  omega
theorem sMost_q {n y : Nat} (hn : n < 128) (hy : y < 128) (h : sMost (Int32.ofNat n) (Int32.ofNat y) = true) : qMost (sBit (Int32.ofNat n)) (sBit (Int32.ofNat y)) := by
  unfold sMost at h
  have h1 := of_decide_eq_true h
  have hyn : y &&& n < 128 := Nat.lt_of_le_of_lt Nat.and_le_left hy
  rw [← i32_ofand, sCnt_cn n hn, sCnt_cn _ hyn, show (2 : Int32) = Int32.ofNat 2 from rfl, ← Int32.ofNat_mul] at h1
  have c1 := cn_le (sBit (Int32.ofNat n))
  have c2 := cn_le (sBit (Int32.ofNat (y &&& n)))
  rw [i32_lt (by omega) (by omega)] at h1
  have e : cn (fun v => sBit (Int32.ofNat y) v && sBit (Int32.ofNat n) v) = cn (sBit (Int32.ofNat (y &&& n))) := cn_cg (fun v hv => by
    show (sBit (Int32.ofNat y) v && sBit (Int32.ofNat n) v) = _
    rw [sBit_nat _ hyn v hv, Nat.testBit_and, sBit_nat y hy v hv, sBit_nat n hn v hv])
  show _ < 2 * cn (fun v => sBit (Int32.ofNat y) v && sBit (Int32.ofNat n) v)
  rw [e]
  exact h1
section ROL
variable {K : KK} {G : GG} {m0 : Int32} {A B k s : Nat}
theorem kAll.term {t : Nat} (h : kAll m0 A B k K G) (hs : s < 7) (ht : kT K s < t) (hb : t + k ≤ 1000000000) : kAll m0 A B k (kTerm K s (Int32.ofNat t)) G := by
  have hE : ∀ i, i < 7 → ¬ i = s → sEq K (kTerm K s (Int32.ofNat t)) i := fun i _ e => (((sEq.set (Or.inr e)).tr (sEq.set (Or.inr e))).tr (sEq.set (Or.inr e))).tr (sEq.set (Or.inr e))
  have e5 : (kTerm K s (Int32.ofNat t)).1 5 s 0 = Int32.ofNat t := by unfold kTerm; rw [kSet_ne (by omega), kSet_ne (by omega), kSet_ne (by omega), kSet_at]
  have e6 : (kTerm K s (Int32.ofNat t)).1 6 s 0 = -1 := by unfold kTerm; rw [kSet_ne (by omega), kSet_ne (by omega), kSet_at]
  have e12 : (kTerm K s (Int32.ofNat t)).1 12 s 0 = 0 := by unfold kTerm; rw [kSet_ne (by omega), kSet_at]
  have eo : ∀ f j, ¬ (f = 5 ∨ f = 6 ∨ f = 12 ∨ f = 13) → (kTerm K s (Int32.ofNat t)).1 f s j = K.1 f s j := fun f j hf => kTerm_1 (by omega)
  have eT : kT (kTerm K s (Int32.ofNat t)) s = t := by unfold kT; rw [e5]; exact toN (by omega)
  have eR : kR (kTerm K s (Int32.ofNat t)) s = 0 := by unfold kR; rw [e12]; rfl
  have eP : kP (kTerm K s (Int32.ofNat t)) s = none := by unfold kP; rw [e6]; rfl
  obtain ⟨a, ⟨b1, b2, b3, b4, b5, b6⟩, c⟩ := h.2.1 s hs
  refine h.upd hE (gLe.rf G) (fun _ _ => rfl) ((h.1.bump ht).cg (cgU (fun i hi e => (hE i hi e).t) eT) (cgU (fun i hi e => (hE i hi e).r) eR) (cgU (fun i hi e => (hE i hi e).p) eP) (fun x hx h2 v _ hy => ?_)) ⟨a.num (fun j => eo 18 j (by omega)) (eo 15 0 (by omega)) rfl (by rw [eT]; omega), ⟨by rw [e5, eT], by rw [eT]; exact hb, by rw [e12, eR]; rfl, by rw [eR]; omega, Or.inl e6, ?_⟩, fun z => by rw [eR] at z; omega, fun z => by rw [eR] at z; omega⟩ (fun u hu => Or.inl hu) h.2.2.2
  · by_cases e : x = s
    · rw [e, up1_s] at h2; exact absurd h2 (by decide)
    · exact Or.inl (by rw [← (hE x hx e).y]; exact hy)
  · obtain ⟨y, y1, y2⟩ := b6
    exact ⟨y, y1, (eo 16 0 (by omega)).trans y2⟩
/-- a role that is neither a candidate's nor a leader's; the yeses -/
theorem kAll.role {K' : KK} {r y : Nat} (h : kAll m0 A B k K G) (hs : s < 7) (hE : ∀ i, i < 7 → ¬ i = s → sEq K K' i) (hn : K'.2 = K.2) (hr : r = 0 ∨ r = 1) (h12 : K'.1 12 s 0 = Int32.ofNat r) (h16 : K'.1 16 s 0 = Int32.ofNat y) (hy : y < 128) (ho : ∀ f j, relF f → ¬ f = 12 → ¬ f = 16 → K'.1 f s j = K.1 f s j) (h48 : r = 1 → (K.2.1 s).length < 48) : kAll m0 A B k K' G := by
  have rel : ∀ {f : Nat}, (f = 2 ∨ f = 3 ∨ f = 5 ∨ f = 6 ∨ f = 12 ∨ f = 15 ∨ f = 16 ∨ f = 18) → relF f := fun z => z
  have eT : kT K' s = kT K s := by unfold kT; rw [ho 5 0 (rel (by omega)) (by omega) (by omega)]
  have eP : kP K' s = kP K s := by unfold kP; rw [ho 6 0 (rel (by omega)) (by omega) (by omega)]
  have eR : kR K' s = r := by unfold kR; rw [h12]; exact toN (by omega)
  have hall : ∀ (f f' : Nat → Nat), (∀ i, i < 7 → ¬ i = s → f' i = f i) → f' s = f s → ∀ x, x < 7 → f' x = f x := fun f f' h1 h2 x hx => by
    by_cases e : x = s
    · rw [e]; exact h2
    · exact h1 x hx e
  obtain ⟨a, ⟨b1, b2, b3, b4, b5, b6⟩, c⟩ := h.2.1 s hs
  refine h.upd hE (gLe.rf G) (fun _ _ => rfl) ((h.1.role (s := s) (r := r) (by omega) (by omega)).cg (hall _ _ (fun i hi e => (hE i hi e).t) eT) (cgU (fun i hi e => (hE i hi e).r) eR) (fun x hx => ?_) (fun x hx h2 v _ hy => ?_)) ⟨a.num (fun j => ho 18 j (rel (by omega)) (by omega) (by omega)) (ho 15 0 (rel (by omega)) (by omega) (by omega)) (by rw [hn]) (by rw [eT]; exact Nat.le_refl _), ⟨by rw [ho 5 0 (rel (by omega)) (by omega) (by omega), eT]; exact b1, by rw [eT]; exact b2, by rw [h12, eR], by rw [eR]; omega, by rw [ho 6 0 (rel (by omega)) (by omega) (by omega)]; exact b5, y, hy, h16⟩, fun z => by rw [eR] at z; omega, fun z => by rw [hn]; rw [eR] at z; exact h48 (by omega)⟩ (fun u hu => Or.inl (by rw [hn] at hu; exact hu)) h.2.2.2
  · by_cases e : x = s
    · rw [e]; exact eP
    · exact (hE x hx e).p
  · by_cases e : x = s
    · rw [e, up1_s] at h2; omega
    · exact Or.inl (by rw [← (hE x hx e).y]; exact hy)
theorem kAll.obey (h : kAll m0 A B k K G) (hs : s < 7) (x : Int32) : kAll m0 A B k (kObey K s x) G := by
  obtain ⟨y, y1, y2⟩ := (h.2.1 s hs).2.1.2.2.2.2.2
  refine h.role (r := 0) (y := y) hs (fun i _ e => ((sEq.set (Or.inr e)).tr (sEq.set (Or.inr e))).tr (sEq.set (Or.inr e))) rfl (Or.inl rfl) ?_ ((kObey_1 (by omega)).trans y2) y1 (fun f j hf h1 h2 => ?_) (fun z => absurd z (by decide))
  · unfold kObey; rw [kSet_ne (by omega), kSet_ne (by omega), kSet_at]; rfl
  · unfold relF at hf
    exact kObey_1 (by omega)
theorem kAll.start (h : kAll m0 A B k K G) (hs : s < 7) (h48 : (K.2.1 s).length < 48) : kAll m0 A B k (kStart K s 1) G := by
  obtain ⟨q1, q2, q3, q4⟩ := bit_all s hs
  refine h.role (r := 1) (y := 2 ^ s) hs (fun i _ e => (((sEq.set (Or.inr e)).tr (sEq.set (Or.inr e))).tr (sEq.set (Or.inr e))).tr (sEq.set (Or.inr e))) rfl (Or.inr rfl) ?_ ?_ q3 (fun f j hf h1 h2 => ?_) (fun _ => h48)
  · unfold kStart; rw [kSet_ne (by omega), kSet_ne (by omega), kSet_ne (by omega), kSet_at]; rfl
  · unfold kStart; rw [kSet_at]; exact q1
  · unfold relF at hf
    unfold kStart
    rw [kSet_ne (by omega), kSet_ne (by omega), kSet_ne (by omega), kSet_ne (by omega)]
/-- the leader that is none any more -/
theorem kAll.quit (h : kAll m0 A B k K G) (hs : s < 7) : kAll m0 A B k (kSet (kSet K 12 s 0 0) 13 s 0 (-1)) G := by
  obtain ⟨y, y1, y2⟩ := (h.2.1 s hs).2.1.2.2.2.2.2
  refine h.role (r := 0) (y := y) hs (fun i _ e => (sEq.set (Or.inr e)).tr (sEq.set (Or.inr e))) rfl (Or.inl rfl) ?_ (((kSet_ne (by omega)).trans (kSet_ne (by omega))).trans y2) y1 (fun f j hf h1 h2 => ?_) (fun z => absurd z (by decide))
  · rw [kSet_ne (by omega), kSet_at]; rfl
  · unfold relF at hf
    rw [kSet_ne (by omega), kSet_ne (by omega)]
theorem gLe.vote {t v c : Nat} (hn : gV G t v = none) : gLe G (gVote G t v c) := ⟨fun _ _ h => h, fun _ _ => ⟨[], (List.append_nil _).symm⟩, fun t' u x hx => by
  show up2 (gV G) t v _ t' u = _
  rw [up2_n (fun z => by rw [z.1, z.2, hn] at hx; cases hx)]; exact hx, fun _ _ _ => Nat.le_refl _, fun _ _ _ h => h⟩
/-- a vote -/
theorem kAll.grant {w : MSG} {f : Nat} (h : kAll m0 A B k K G) (hs : s < 7) (h3 : w.1 1 = 3) (hw : uOk m0 A k G w) (hf : mF w = f) : ∃ G', kAll m0 A B k (kGrant K s w) G' ∧ gLe G G' ∧ (sGrant K s w = true → ∃ VL, gV G' (kT K s) s = some (f, VL)) := by
  subst hf
  obtain ⟨o1, o2, o3, o4, o5, o6, o7, -⟩ := hw
  obtain ⟨CL, q1, q2, q3, q4⟩ := o7 h3
  by_cases hg : sGrant K s w = true
  · unfold kGrant
    rw [if_pos hg]
    unfold sGrant at hg
    simp only [Bool.and_eq_true, Bool.or_eq_true, decide_eq_true_eq] at hg
    obtain ⟨g1, g2, g3⟩ := hg
    obtain ⟨a, ⟨b1, b2, b3, b4, b5, b6⟩, c⟩ := h.2.1 s hs
    have eT : mT w = kT K s := by unfold mT kT; rw [g2]
    rw [eT] at q1
    have hf7 := o1.2.2.2.1
    by_cases e6 : K.1 6 s 0 = -1
    · have hP : kP K s = none := by unfold kP; rw [if_pos e6]
      have hnone : gV G (kT K s) s = none := (h.1.2.2.2.2.1 s hs).1 hP
      have hgd : gd CL (gF G s) := by
        obtain ⟨⟨a0, c0, a1, a2, a3, a4, a5, a6, a7, a8, a9⟩, aB, aE⟩ := a
        have hB := h.2.2.2.2.2.2
        unfold sGood at g3
        rw [fu_lt a5 (by omega) a6 aE, fu_last a1 a5 (by omega), q2, q3] at g3
        have g4 := of_decide_eq_true g3
        have l1 := ltm_lt (gF G s)
        have l2 := ltm_lt CL
        rw [i32_lt l1 l2, i32_eq l2 l1, i32_le (by omega) (by omega)] at g4
        unfold gd
        omega
      have hTc : kT K s ≤ kT K (mF w) := (h.1.2.2.2.1 _ _ _ _ q1).2.2.2.1
      have hv := h.1.vote hs hf7 hP hTc (Or.inr ⟨CL, q1, hgd⟩)
      have hle := gLe.vote (c := mF w) hnone
      have hE : ∀ i, i < 7 → ¬ i = s → sEq K (kSet (kSet K 6 s 0 (w.1 2)) 14 s 0 0) i := fun i _ e => (sEq.set (Or.inr e)).tr (sEq.set (Or.inr e))
      have e6' : (kSet (kSet K 6 s 0 (w.1 2)) 14 s 0 0).1 6 s 0 = Int32.ofNat (mF w) := by rw [kSet_ne (by omega), kSet_at]; exact o1.2.2.1
      have eo : ∀ f j, ¬ (f = 6 ∨ f = 14) → (kSet (kSet K 6 s 0 (w.1 2)) 14 s 0 0).1 f s j = K.1 f s j := fun f j hf => by rw [kSet_ne (by omega), kSet_ne (by omega)]
      have eT2 : kT (kSet (kSet K 6 s 0 (w.1 2)) 14 s 0 0) s = kT K s := by unfold kT; rw [eo 5 0 (by omega)]
      have eR2 : kR (kSet (kSet K 6 s 0 (w.1 2)) 14 s 0 0) s = kR K s := by unfold kR; rw [eo 12 0 (by omega)]
      have eP2 : kP (kSet (kSet K 6 s 0 (w.1 2)) 14 s 0 0) s = some (mF w) := by
        unfold kP
        rw [e6', if_neg (by rcases (by omega : mF w = 0 ∨ mF w = 1 ∨ mF w = 2 ∨ mF w = 3 ∨ mF w = 4 ∨ mF w = 5 ∨ mF w = 6) with z | z | z | z | z | z | z <;> rw [z] <;> decide), toN (by omega)]
      refine ⟨_, h.upd hE hle (fun _ _ => rfl) (hv.cg (fun x hx => ?_) (fun x hx => ?_) (cgU (fun i hi e => (hE i hi e).p) eP2) (fun x hx _ v _ hy => Or.inl ?_)) ⟨(a.ext hle h.1.2.2.2.2.2.2.2.2.1 rfl).num (fun j => eo 18 j (by omega)) (eo 15 0 (by omega)) rfl (by rw [eT2]; exact Nat.le_refl _), ⟨by rw [eo 5 0 (by omega), eT2]; exact b1, by rw [eT2]; exact b2, by rw [eo 12 0 (by omega), eR2]; exact b3, by rw [eR2]; exact b4, Or.inr ⟨_, hf7, e6'⟩, ?_⟩, fun z => ?_, fun z => by rw [eR2] at z; exact c.2 z⟩ (fun u hu => Or.inl hu) h.2.2.2, hle, fun _ => ⟨gF G s, up2_s _ _ _ _⟩⟩
      · by_cases e : x = s
        · rw [e]; exact eT2
        · exact (hE x hx e).t
      · by_cases e : x = s
        · rw [e]; exact eR2
        · exact (hE x hx e).r
      · by_cases e : x = s
        · subst e
          unfold kY at hy ⊢
          rw [← eo 16 0 (by omega)]; exact hy
        · rw [← (hE x hx e).y]; exact hy
      · obtain ⟨y, y1, y2⟩ := b6
        exact ⟨y, y1, (eo 16 0 (by omega)).trans y2⟩
      · rw [eR2] at z
        rw [eT2]
        refine ⟨(c.1 z).1, fun q hq => ?_⟩
        obtain ⟨nx, mt, r1, r2, r3, r4, r5, r6⟩ := (c.1 z).2 q hq
        exact ⟨nx, mt, (eo 2 q (by omega)).trans r1, r2, r3, (eo 3 q (by omega)).trans r4, r5, r6⟩
    · have e6' : K.1 6 s 0 = w.1 2 := g1.resolve_left e6
      have hP : kP K s = some (mF w) := by unfold kP; rw [if_neg e6, e6']; rfl
      have e9 : kSet K 6 s 0 (w.1 2) = K := by rw [← e6']; exact kSet_self _ _ _ _
      rw [e9]
      exact ⟨G, h.set (by unfold relF; omega), gLe.rf G, fun _ => (h.1.2.2.2.2.1 s hs).2 _ hP⟩
  · unfold kGrant
    rw [if_neg hg]
    exact ⟨G, h, gLe.rf G, fun z => absurd z hg⟩
/-- a yes -/
theorem kAll.yes {w : MSG} (h : kAll m0 A B k K G) (hs : s < 7) (hf : w.1 2 = Int32.ofNat (mF w)) (hf7 : mF w < 7) (hv : kR K s = 2 → ∃ VL, gV G (kT K s) (mF w) = some (s, VL)) : kAll m0 A B k (kYes K s w) G := by
  obtain ⟨a, ⟨b1, b2, b3, b4, b5, y, y1, y2⟩, c⟩ := h.2.1 s hs
  obtain ⟨q1, q2, q3, q4⟩ := bit_all (mF w) hf7
  obtain ⟨p1, p2, p3⟩ := bit_or y1 hf7
  have e16 : (kYes K s w).1 16 s 0 = Int32.ofNat (y ||| 2 ^ mF w) := by
    unfold kYes
    rw [kSet_at, y2, hf, q2, p1]
  have eo : ∀ f j, ¬ f = 16 → (kYes K s w).1 f s j = K.1 f s j := fun f j hf => kSet_ne (by omega)
  have hE : ∀ i, i < 7 → ¬ i = s → sEq K (kYes K s w) i := fun i _ e => sEq.set (Or.inr e)
  have eT : kT (kYes K s w) s = kT K s := by unfold kT; rw [eo 5 0 (by omega)]
  have eR : kR (kYes K s w) s = kR K s := by unfold kR; rw [eo 12 0 (by omega)]
  have eP : kP (kYes K s w) s = kP K s := by unfold kP; rw [eo 6 0 (by omega)]
  refine h.upd hE (gLe.rf G) (fun _ _ => rfl) (h.1.cg (fun x hx => ?_) (fun x hx => ?_) (fun x hx => ?_) (fun x hx h2 v hv7 hy => ?_)) ⟨a.num (fun j => eo 18 j (by omega)) (eo 15 0 (by omega)) rfl (by rw [eT]; exact Nat.le_refl _), ⟨by rw [eo 5 0 (by omega), eT]; exact b1, by rw [eT]; exact b2, by rw [eo 12 0 (by omega), eR]; exact b3, by rw [eR]; exact b4, by rw [eo 6 0 (by omega)]; exact b5, _, p2, e16⟩, fun z => ?_, fun z => by rw [eR] at z; exact c.2 z⟩ (fun u hu => Or.inl hu) h.2.2.2
  · by_cases e : x = s
    · rw [e]; exact eT
    · exact (hE x hx e).t
  · by_cases e : x = s
    · rw [e]; exact eR
    · exact (hE x hx e).r
  · by_cases e : x = s
    · rw [e]; exact eP
    · exact (hE x hx e).p
  · by_cases e : x = s
    · rw [e] at h2 hy ⊢
      unfold kY at hy
      rw [e16, p3 v hv7, Bool.or_eq_true, decide_eq_true_eq] at hy
      rcases hy with z | z
      · exact Or.inl (by unfold kY; rw [y2]; exact z)
      · rw [z]; exact Or.inr (hv h2)
    · exact Or.inl (by rw [← (hE x hx e).y]; exact hy)
  · rw [eR] at z
    rw [eT]
    refine ⟨(c.1 z).1, fun q hq => ?_⟩
    obtain ⟨nx, mt, r1, r2, r3, r4, r5, r6⟩ := (c.1 z).2 q hq
    exact ⟨nx, mt, (eo 2 q (by omega)).trans r1, r2, r3, (eo 3 q (by omega)).trans r4, r5, r6⟩
/-- a server stands for election -/
theorem kAll.stand (h : kAll m0 A B (k + 1) K G) (hs : s < 7) (h48 : (K.2.1 s).length < 48) : kAll m0 A B k (kStand K s) (gVote G (kT K s + 1) s s) ∧ gLe G (gVote G (kT K s + 1) s s) ∧ kT (kStand K s) s = kT K s + 1 ∧ kR (kStand K s) s = 2 := by
  obtain ⟨a, ⟨b1, b2, b3, b4, b5, b6⟩, c⟩ := h.2.1 s hs
  obtain ⟨q1, q2, q3, q4⟩ := bit_all s hs
  have e5 : (kStand K s).1 5 s 0 = Int32.ofNat (kT K s + 1) := by
    unfold kStand kStart
    rw [kSet_ne (by omega), kSet_ne (by omega), kSet_ne (by omega), kSet_ne (by omega), kSet_ne (by omega), kSet_at, b1, Int32.ofNat_add]
    rfl
  have e6 : (kStand K s).1 6 s 0 = Int32.ofNat s := by unfold kStand; rw [kSet_at]
  have e12 : (kStand K s).1 12 s 0 = Int32.ofNat 2 := by
    unfold kStand kStart
    rw [kSet_ne (by omega), kSet_ne (by omega), kSet_ne (by omega), kSet_ne (by omega), kSet_at]
    rfl
  have e16 : (kStand K s).1 16 s 0 = Int32.ofNat (2 ^ s) := by
    unfold kStand kStart
    rw [kSet_ne (by omega), kSet_at]
    exact q1
  have eo : ∀ f j, ¬ (f = 12 ∨ f = 13 ∨ f = 14 ∨ f = 16 ∨ f = 5 ∨ f = 6) → (kStand K s).1 f s j = K.1 f s j := fun f j hf => kStand_1 (fun z => hf z.2)
  have hE : ∀ i, i < 7 → ¬ i = s → sEq K (kStand K s) i := fun i _ e => ⟨fun f j _ => kStand_1 (fun z => e z.1), rfl⟩
  have eT : kT (kStand K s) s = kT K s + 1 := by unfold kT; rw [e5]; exact toN (by omega)
  have eR : kR (kStand K s) s = 2 := by unfold kR; rw [e12]; rfl
  have eP : kP (kStand K s) s = some s := by
    unfold kP
    rw [e6, if_neg (by rcases (by omega : s = 0 ∨ s = 1 ∨ s = 2 ∨ s = 3 ∨ s = 4 ∨ s = 5 ∨ s = 6) with z | z | z | z | z | z | z <;> rw [z] <;> decide), toN (by omega)]
  have c1 := h.1.bump (s := s) (t := kT K s + 1) (Nat.lt_succ_self _)
  have hnone : gV G (kT K s + 1) s = none := by
    have := (c1.2.2.2.2.1 s hs).1 (up1_s _ _ _)
    rw [up1_s] at this
    exact this
  have c2 := c1.vote (v := s) (c := s) hs hs (up1_s _ _ _) (Nat.le_refl _) (Or.inl rfl)
  rw [up1_s] at c2
  have hle := gLe.vote (c := s) hnone
  have c3 := c2.cand (s := s) (Y' := kY (kStand K s)) (by rw [up1_s]; omega) (by
      rw [up1_s]
      intro z
      have := (h.1.1 _ _ z).2.2.1
      omega) (by rw [up1_s]; exact up2_s _ _ _ _) (fun e he => by rw [up1_s]; exact Nat.lt_succ_of_le ((h.1.2.1 s hs).2 e he)) (fun v hv hy => by
      unfold kY at hy
      rw [e16, q4 v hv] at hy
      exact of_decide_eq_true hy) (fun x v e => by
      unfold kY
      rw [show (kStand K s).1 16 x 0 = K.1 16 x 0 from kStand_1 (fun z => e z.1)])
  refine ⟨h.dn.upd hE hle (fun _ _ => rfl) (c3.cg (cgU (fun i hi e => (hE i hi e).t) eT) (fun x hx => ?_) (fun x hx => ?_) (fun x hx _ v _ hy => Or.inl hy)) ⟨(a.ext hle h.1.2.2.2.2.2.2.2.2.1 rfl).num (fun j => eo 18 j (by omega)) (eo 15 0 (by omega)) rfl (by rw [eT]; omega), ⟨by rw [e5, eT], by rw [eT]; omega, by rw [e12, eR], by rw [eR]; omega, Or.inr ⟨s, hs, e6⟩, _, q3, e16⟩, fun z => by rw [eR] at z; omega, fun _ => h48⟩ (fun u hu => Or.inl hu) h.2.2.2, hle, eT, eR⟩
  · by_cases e : x = s
    · rw [e, up1_s]; exact eR
    · rw [up1_n e, up1_n e]; exact (hE x hx e).r
  · by_cases e : x = s
    · rw [e, up1_s]; exact eP
    · rw [up1_n e, up1_n e]; exact (hE x hx e).p
end ROL
