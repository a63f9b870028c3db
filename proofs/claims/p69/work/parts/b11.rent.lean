/-! ===== THE SERVERS AGREE: entries and snapshots come ===== -/
theorem gLe.acc (G : GG) (t v e : Nat) (F : List ENT) : gLe G (gAcc G t v e F) := ⟨fun _ _ h => h, fun _ _ => ⟨[], (List.append_nil _).symm⟩, fun _ _ _ h => h, fun t' v' _ => by
  show gA G t' v' ≤ up2 (gA G) t v (max (gA G t v) e) t' v'
  by_cases c : t' = t ∧ v' = v
  · rw [c.1, c.2, up2_s]; exact Nat.le_max_left _ _
  · rw [up2_n c]; exact Nat.le_refl _, fun _ _ _ h => h⟩
theorem tAt_get {L : List ENT} {x : Nat} (h : x < L.length) : ∃ e, L[x]? = some e ∧ e ∈ L ∧ tAt L (x + 1) = e 0 := by
  refine ⟨L[x], List.getElem?_eq_getElem h, List.getElem_mem h, tAt_some (List.getElem?_eq_getElem h)⟩
section ENTS
variable {K : KK} {G : GG} {m0 : Int32} {A B k s : Nat}
/-- does the server have the entry -/
theorem sHas_ag {a x : Nat} {F L : List ENT} {t : Int32} (h18 : K.1 18 s 0 = Int32.ofNat a) (hl : K.2.1 s = F.drop a) (ha : a ≤ F.length) (hb : F.length < 16777216) (hx : x < L.length) (hL : L.length < 16777216) (hF : vL G F) (hL2 : vL G L) (ht : t = tAt L (x + 1)) (h : sHas K s (Int32.ofNat (x + 1)) t = true) : ag F L (x + 1) := by
  unfold sHas at h
  rw [fu_ent h18 hl ha hb (by omega)] at h
  by_cases c : a ≤ x
  · rw [if_pos c] at h
    cases hg : F[x]? with
    | none => rw [hg] at h; cases h
    | some e =>
      rw [hg] at h
      have h' := of_decide_eq_true h
      obtain ⟨e', q1, q2, q3⟩ := tAt_get hx
      refine hF.both hL2 hg q1 ?_ (Nat.le_refl _)
      unfold tm
      rw [h', ht, q3]
  · rw [if_neg c] at h; cases h
theorem ag_sHas {a x : Nat} {F L : List ENT} {e : ENT} (h18 : K.1 18 s 0 = Int32.ofNat a) (hl : K.2.1 s = F.drop a) (ha : a ≤ x) (ha2 : a ≤ F.length) (hb : F.length < 16777216) (he : L[x]? = some e) (h : ag F L (x + 1)) : sHas K s (Int32.ofNat (x + 1)) (e 0) = true := by
  have := h.1
  unfold sHas
  rw [fu_ent h18 hl ha2 hb (by omega), if_pos ha, h.get (j := x) (by omega), he]
  exact decide_eq_true rfl
theorem kAcc_net (K : KK) (s : Nat) (x : Int32) (e : ENT) : (kAcc K s x e).2.2 = K.2.2 := by
  unfold kAcc kTrim
  split
  · rfl
  · split <;> rfl
theorem kAccs_1' (s : Nat) : ∀ (l : List ENT) (K : KK) (x : Int32), (kAccs s K x l).1 = K.1 ∧ (kAccs s K x l).2.2 = K.2.2 ∧ ∀ i, ¬ i = s → (kAccs s K x l).2.1 i = K.2.1 i
  | [], _, _ => ⟨rfl, rfl, fun _ _ => rfl⟩
  | e :: t, K, x => by
    obtain ⟨a, b, c⟩ := kAccs_1' s t (kAcc K s x e) (x + 1)
    exact ⟨a.trans (kAcc_1 K s x e), b.trans (kAcc_net K s x e), fun i hi => (c i hi).trans (kAcc_o x e hi)⟩
theorem i32_trim {x a : Nat} (ha : a ≤ x) (hx : x < 2147483646) : (Int32.ofNat (x + 1) - Int32.ofNat a - 1).toNatClampNeg = x - a := by
  rw [show x + 1 = a + 1 + (x - a) by omega, Int32.ofNat_add, Int32.ofNat_add, show (Int32.ofNat a + Int32.ofNat 1 + Int32.ofNat (x - a) - Int32.ofNat a - 1 : Int32) = Int32.ofNat (x - a) from i32_sub3 _ _, (i32_ix (by omega)).1]
theorem kAccs_F {G : GG} {L : List ENT} {a c s : Nat} (hL : vL G L) (hLb : L.length < 400000) : ∀ (l : List ENT) (K : KK) (x : Nat) (F : List ENT), K.1 18 s 0 = Int32.ofNat a → K.1 15 s 0 = Int32.ofNat c → a ≤ c → ag F L c → F.length < 400000 → K.2.1 s = F.drop a → vL G F → ag F L x → x + l.length ≤ L.length → l = (L.drop x).take l.length →
    ∃ F', (ag F L (x + l.length) → F' = F) ∧ (¬ ag F L (x + l.length) → F' = L.take (x + l.length)) ∧ (kAccs s K (Int32.ofNat (x + 1)) l).2.1 s = F'.drop a ∧ kAccOk s K (Int32.ofNat (x + 1)) l
  | [], K, x, F, _, _, _, _, _, hl, _, hx, _, _ => ⟨F, fun _ => rfl, fun z => absurd hx z, hl, trivial⟩
  | e :: t, K, x, F, h18, h15, hac, hc, hFb, hl, hF, hx, hle, heq => by
    have hlen : (e :: t).length = t.length + 1 := rfl
    have hxl : x < L.length := by omega
    have hge : L[x]? = some e := by
      have q : (e :: t)[0]? = ((L.drop x).take (e :: t).length)[0]? := by rw [← heq]
      rw [hlen, List.getElem?_take, if_pos (by omega), List.getElem?_drop, Nat.add_zero] at q
      exact q.symm.trans rfl
    have htl : t = (L.drop (x + 1)).take t.length := by
      have q : (e :: t).drop 1 = ((L.drop x).take (e :: t).length).drop 1 := by rw [← heq]
      rw [hlen, List.drop_take, List.drop_drop] at q
      exact q
    have hcF := hc.1
    -- the entry itself
    have one : ∃ F1, (ag F L (x + 1) → F1 = F) ∧ (¬ ag F L (x + 1) → F1 = L.take (x + 1) ∧ c ≤ x) ∧ (kAcc K s (Int32.ofNat (x + 1)) e).2.1 s = F1.drop a ∧ (Int32.ofNat (x + 1) ≤ K.1 18 s 0 ∨ sHas K s (Int32.ofNat (x + 1)) (e 0) = true ∨ K.1 15 s 0 < Int32.ofNat (x + 1)) := by
      by_cases g : ag F L (x + 1)
      · have hT : Int32.ofNat (x + 1) ≤ K.1 18 s 0 ∨ sHas K s (Int32.ofNat (x + 1)) (e 0) = true := by
          by_cases q : x + 1 ≤ a
          · refine Or.inl ?_
            rw [h18, i32_le (by omega) (by omega)]; exact q
          · exact Or.inr (ag_sHas h18 hl (by omega) (by omega) (by omega) hge g)
        refine ⟨F, fun _ => rfl, fun z => absurd g z, ?_, ?_⟩
        · rw [show kAcc K s (Int32.ofNat (x + 1)) e = K from if_pos hT]; exact hl
        · rcases hT with z | z
          · exact Or.inl z
          · exact Or.inr (Or.inl z)
      · have hcx : c ≤ x := Nat.le_of_not_lt (fun z => g (hc.le (by omega)))
        have hT : ¬ (Int32.ofNat (x + 1) ≤ K.1 18 s 0 ∨ sHas K s (Int32.ofNat (x + 1)) (e 0) = true) := fun z => by
          rcases z with z | z
          · rw [h18, i32_le (by omega) (by omega)] at z; omega
          · exact g (sHas_ag h18 hl (by omega) (by omega) hxl (by omega) hF hL (tAt_some hge).symm z)
        refine ⟨L.take (x + 1), fun z => absurd z g, fun _ => ⟨rfl, hcx⟩, ?_, Or.inr (Or.inr (by rw [h15, i32_lt (by omega) (by omega)]; omega))⟩
        rw [show kAcc K s (Int32.ofNat (x + 1)) e = kLog (kTrim K s (Int32.ofNat (x + 1))) s ((kTrim K s (Int32.ofNat (x + 1))).2.1 s ++ [e]) from if_neg hT]
        have eT : (kTrim K s (Int32.ofNat (x + 1))).2.1 s = (F.take x).drop a := by
          unfold kTrim
          rw [fu_last h18 hl (by omega)]
          by_cases c2 : x + 1 ≤ F.length
          · rw [if_pos (by rw [i32_le (by omega) (by omega)]; exact c2)]
            show (if s = s then _ else _) = _
            rw [if_pos rfl, h18, i32_trim (by omega) (by omega), hl, List.drop_take]
          · rw [if_neg (by rw [i32_le (by omega) (by omega)]; exact c2), hl, List.take_of_length_le (by omega)]
        show (if s = s then _ else _) = _
        rw [if_pos rfl, eT, hx.2.2, ← List.drop_append_of_le_length (by rw [List.length_take]; omega)]
        congr 1
        rw [List.take_succ, hge]
        rfl
    obtain ⟨F1, o1, o2, o3, o4⟩ := one
    have g1 : ag F1 L (x + 1) ∧ ag F1 L c ∧ vL G F1 ∧ F1.length < 400000 := by
      by_cases g : ag F L (x + 1)
      · rw [o1 g]; exact ⟨g, hc, hF, hFb⟩
      · obtain ⟨q1, q2⟩ := o2 g
        have q3 : ag (L.take (x + 1)) L (x + 1) := ((ag.rf (L := L) (i := x + 1) (by omega)).tk (Nat.le_refl _)).sy
        rw [q1]; exact ⟨q3, q3.le (by omega), hL.tk _, by rw [List.length_take]; omega⟩
    obtain ⟨F', p1, p2, p3, p4⟩ := kAccs_F hL hLb t (kAcc K s (Int32.ofNat (x + 1)) e) (x + 1) F1 (by rw [kAcc_1]; exact h18) (by rw [kAcc_1]; exact h15) hac g1.2.1 g1.2.2.2 o3 g1.2.2.1 g1.1 (by omega) htl
    have es : Int32.ofNat (x + 1) + 1 = Int32.ofNat (x + 1 + 1) := i32_suc1 _
    refine ⟨F', fun z => ?_, fun z => ?_, ?_, ?_⟩
    · have g : ag F L (x + 1) := z.le (by omega)
      rw [← o1 g]
      refine p1 ?_
      rw [o1 g, show x + 1 + t.length = x + (e :: t).length by omega]; exact z
    · rw [show x + (e :: t).length = x + 1 + t.length by omega] at z ⊢
      by_cases g : ag F L (x + 1)
      · rw [o1 g] at p2
        exact p2 z
      · obtain ⟨q1, q2⟩ := o2 g
        by_cases y : ag F1 L (x + 1 + t.length)
        · have q3 := y.1
          rw [q1, List.length_take] at q3
          rw [p1 y, q1, show x + 1 + t.length = x + 1 by omega]
        · exact p2 y
    · show (kAccs s (kAcc K s (Int32.ofNat (x + 1)) e) (Int32.ofNat (x + 1) + 1) t).2.1 s = _
      rw [es]; exact p3
    · refine ⟨o4, ?_⟩
      rw [es]; exact p4
/-- a follower's log, snapshot and commits come to be as the leader's -/
theorem kAll.accF {K' : KK} {e a c : Nat} {F : List ENT} (h : kAll m0 A B k K G) (hs : s < 7) (hr : kR K s = 0) (hd : ¬ gD G (kT K s) = none) (he : e ≤ (gL G (kT K s)).length) (hF1 : ag (gF G s) (gL G (kT K s)) e → F = gF G s) (hF2 : ¬ ag (gF G s) (gL G (kT K s)) e → F = (gL G (kT K s)).take e)
    (hn : K'.2.2 = K.2.2) (hl : ∀ i, ¬ i = s → K'.2.1 i = K.2.1 i) (eo : ∀ f i j, relF f → ¬ (i = s ∧ (f = 18 ∨ f = 15 ∧ j = 0)) → K'.1 f i j = K.1 f i j)
    (v1 : K'.1 18 s 0 = Int32.ofNat a) (v2 : K'.1 15 s 0 = Int32.ofNat c) (v3 : a ≤ c) (v4 : c ≤ F.length) (v5 : K'.2.1 s = F.drop a) (v6 : K'.1 18 s 1 = tAt F a) (v7 : K'.1 18 s 2 = sMemL (F.take a) m0) (v8 : cov G F (kT K s) c) (v9 : a ≤ A) : kAll m0 A B k K' (gAcc G (kT K s) s e F) := by
  have hc := h.1.acc (F := F) hs (by rw [hr]; omega) (by rw [hr]; omega) hd he hF1 hF2
  have hC : iC m0 G := h.1.2.2.2.2.2.2.2.2.1
  obtain ⟨⟨-, aB, aE⟩, ⟨b1, b2, b3, b4, b5, b6⟩, c1, c2⟩ := h.2.1 s hs
  have hE : ∀ i, i < 7 → ¬ i = s → sEq K K' i := fun i _ e => ⟨fun f j hf => eo f i j hf (fun z => e z.1), hl i e⟩
  have rel : ∀ {f : Nat}, (f = 2 ∨ f = 3 ∨ f = 5 ∨ f = 6 ∨ f = 12 ∨ f = 15 ∨ f = 16 ∨ f = 18) → relF f := fun z => z
  have eT : kT K' s = kT K s := by unfold kT; rw [eo 5 s 0 (rel (by omega)) (by omega)]
  have eR : kR K' s = kR K s := by unfold kR; rw [eo 12 s 0 (rel (by omega)) (by omega)]
  have eP : kP K' s = kP K s := by unfold kP; rw [eo 6 s 0 (rel (by omega)) (by omega)]
  have eY : ∀ v, kY K' s v = kY K s v := fun v => by unfold kY; rw [eo 16 s 0 (rel (by omega)) (by omega)]
  have lF : gF (gAcc G (kT K s) s e F) s = F := up1_s _ _ _
  obtain ⟨L1, L2⟩ := h.2.2.2.2.1 (kT K s) hd
  refine h.upd hE (gLe.acc G _ _ _ _) (fun i hi => up1_n hi) (hc.cg (fun x hx => ?_) (fun x hx => ?_) (fun x hx => ?_) (fun x hx _ v _ hy => Or.inl ?_)) ⟨⟨⟨a, c, v1, v2, v3, by rw [lF]; exact v4, by rw [lF]; exact v5, by rw [lF]; exact v6, by rw [lF]; exact v7, by rw [lF, eT]; exact (gLe.acc G _ _ _ _).cv hC v8, v9⟩, ?_, fun x hx => ?_⟩, ⟨by rw [eo 5 s 0 (rel (by omega)) (by omega), eT]; exact b1, by rw [eT]; exact b2, by rw [eo 12 s 0 (rel (by omega)) (by omega), eR]; exact b3, by rw [eR]; exact b4, by rw [eo 6 s 0 (rel (by omega)) (by omega)]; exact b5, ?_⟩, fun z => ?_, fun z => ?_⟩ (fun u hu => Or.inl (by rw [hn] at hu; exact hu)) h.2.2.2
  · by_cases e : x = s
    · rw [e]; exact eT
    · exact (hE x hx e).t
  · by_cases e : x = s
    · rw [e]; exact eR
    · exact (hE x hx e).r
  · by_cases e : x = s
    · rw [e]; exact eP
    · exact (hE x hx e).p
  · by_cases e : x = s
    · rw [e] at hy ⊢; rw [← eY]; exact hy
    · rw [← (hE x hx e).y]; exact hy
  · rw [lF]
    by_cases g : ag (gF G s) (gL G (kT K s)) e
    · rw [hF1 g]; exact aB
    · rw [hF2 g, List.length_take]; omega
  · rw [lF] at hx
    by_cases g : ag (gF G s) (gL G (kT K s)) e
    · rw [hF1 g] at hx; exact aE x hx
    · rw [hF2 g] at hx; exact L2 x (List.mem_of_mem_take hx)
  · obtain ⟨y, y1, y2⟩ := b6
    exact ⟨y, y1, (eo 16 s 0 (rel (by omega)) (by omega)).trans y2⟩
  · rw [eR, hr] at z; omega
  · rw [eR, hr] at z; omega
/-- the least of the indices that the log misses -/
theorem sRun_le (l : List ENT) (t : Int32) : ∀ n, sRun l t n ≤ n
  | 0 => Nat.le_refl _
  | n + 1 => by
    unfold sRun
    split <;> split <;> first | exact Nat.le_succ_of_le (sRun_le l t n) | exact Nat.le_refl _
theorem kMin_n {a b : Nat} (ha : a < 2147483648) (hb : b < 2147483648) : kMin (Int32.ofNat a) (Int32.ofNat b) = Int32.ofNat (min a b) := by
  unfold kMin
  by_cases c : b < a
  · rw [if_pos ((i32_lt hb ha).mpr c), Nat.min_eq_right (by omega)]
  · rw [if_neg (fun z => c ((i32_lt hb ha).mp z)), Nat.min_eq_left (by omega)]
end ENTS
