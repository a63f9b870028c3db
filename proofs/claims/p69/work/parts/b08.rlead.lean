/-! ===== THE SERVERS AGREE: to lead, to send, to look what is committed ===== -/
theorem tk_len {L : List ENT} (n : Nat) : L.take n = L.take (L.take n).length := by
  rw [List.length_take]
  rcases Nat.le_total n L.length with h | h
  · rw [Nat.min_eq_left h]
  · rw [Nat.min_eq_right h, List.take_of_length_le h, List.take_length]
theorem eNil_G {n : Nat} {x m : Int32} (hn : n < 2147483648) (hx : x = 0 ∨ x = 4 ∧ ∃ y : Nat, y < 128 ∧ m = Int32.ofNat y) : eG (eNil (Int32.ofNat n) x m) ∧ tm (eNil (Int32.ofNat n) x m) = n := by
  have e : tm (eNil (Int32.ofNat n) x m) = n := toN hn
  refine ⟨⟨by rw [e]; rfl, ?_, fun _ => Or.inr rfl⟩, e⟩
  refine ⟨fun z => ?_, fun z => ?_⟩
  · rcases hx with y | y
    · rw [show eNil (Int32.ofNat n) x m 1 = x from rfl, y] at z; exact absurd z (by decide)
    · exact y.2
  · have z1 : 1 ≤ x ∧ x ≤ 3 := z
    rcases hx with y | y
    · rw [y] at z1; exact absurd z1.1 (by decide)
    · rw [y.1] at z1; exact absurd z1.2 (by decide)
/-- an entry more in a server's log -/
theorem nA.app {K K' : KK} {G G' : GG} {m0 : Int32} {A B s : Nat} {e : ENT} (h : nA m0 A B K G s) (hG : gLe G G') (hC : iC m0 G) (hF : gF G' s = gF G s ++ [e]) (hl : K'.2.1 s = K.2.1 s ++ [e]) (h18 : ∀ j, K'.1 18 s j = K.1 18 s j) (h15 : K'.1 15 s 0 = K.1 15 s 0) (hT : kT K' s = kT K s) (hB : (gF G s).length + 1 ≤ B) (he : eG e) : nA m0 A B K' G' s := by
  obtain ⟨⟨a, c, a1, a2, a3, a4, a5, a6, a7, a8, a9⟩, aB, aE⟩ := h
  have hag : ∀ i, i ≤ (gF G s).length → ag (gF G s ++ [e]) (gF G s) i := fun i hi => (ag.rf hi).al _
  refine ⟨⟨a, c, (h18 0).trans a1, h15.trans a2, a3, ?_, ?_, ?_, ?_, ?_, a9⟩, ?_, ?_⟩
  · rw [hF, List.length_append]; omega
  · rw [hl, hF, a5, List.drop_append_of_le_length (by omega)]
  · rw [h18 1, hF, a6]; exact (tAt_ag (hag a (by omega)) (Nat.le_refl _)).symm
  · rw [h18 2, hF, a7, (hag a (by omega)).2.2]
  · rw [hF, hT]; exact (hG.cv hC a8).mv (hag c a4)
  · rw [hF, List.length_append, List.length_singleton]; exact hB
  · rw [hF]
    intro x hx
    rcases List.mem_append.mp hx with z | z
    · exact aE x z
    · rw [List.mem_singleton.mp z]; exact he
section LDR
variable {K : KK} {G : GG} {m0 : Int32} {A B k s : Nat}
theorem kFil_v (K : KK) (f s : Nat) (v : Int32) (q a b c : Nat) : (kFil K f s v q).1 a b c = if a = f ∧ b = s ∧ c < q then v else K.1 a b c := by
  show (if a = f ∧ b = s then (if c < q then v else K.1 f s c) else K.1 a b c) = _
  by_cases h : a = f ∧ b = s
  · by_cases hc : c < q
    · rw [if_pos h, if_pos hc, if_pos ⟨h.1, h.2, hc⟩]
    · rw [if_pos h, if_neg hc, if_neg (fun z => hc z.2.2), h.1, h.2]
  · rw [if_neg h, if_neg (fun z => h ⟨z.1, z.2.1⟩)]
theorem kLead_v (K : KK) (s f i j : Nat) : (kLead K s).1 f i j = if f = 3 ∧ i = s ∧ j < 7 then 0 else if f = 2 ∧ i = s ∧ j < 7 then sLast K s + 1 else if f = 17 ∧ i = s ∧ j = 0 then 0 else if f = 13 ∧ i = s ∧ j = 0 then -1 else if f = 12 ∧ i = s ∧ j = 0 then 3 else K.1 f i j := by
  unfold kLead
  rw [kFil_v, kFil_v]
  rfl
theorem kAll.lead (h : kAll m0 A B k K G) (hs : s < 7) (h2 : kR K s = 2) (hq : qMost (cf m0 (gF G s)) (kY K s)) : ∃ G', kAll m0 A B k (kLd K s) G' ∧ gLe G G' ∧ kR (kLd K s) s = 3 := by
  obtain ⟨a, ⟨b1, b2, b3, b4, b5, b6⟩, c⟩ := h.2.1 s hs
  have hT := b2
  obtain ⟨e1, e2⟩ := eNil_G (n := kT K s) (x := 0) (m := 0) (by omega) (Or.inl rfl)
  rw [← b1] at e1 e2
  have hfr := h.1.free hs h2 hq
  have hc := h.1.lead (e := eNil (K.1 5 s 0) 0 0) hs h2 hq e2 (by show ¬ (0 : Int32) = 4; decide)
  have hne : ∀ t', ¬ gD G t' = none → ¬ t' = kT K s := fun t' z z2 => z (by rw [z2]; exact hfr)
  have hle : gLe G (gLead G (kT K s) s (kY K s) (eNil (K.1 5 s 0) 0 0)) := by
    refine ⟨fun t c hd => ?_, fun t hd => ⟨[], ?_⟩, fun _ _ _ z => z, fun t v hv => ?_, fun _ _ _ z => z⟩
    · exact (up1_n (hne t (by rw [hd]; exact fun y => by cases y))).trans hd
    · rw [List.append_nil]; exact up1_n (hne t hd)
    · by_cases e : t = kT K s ∧ v = s
      · have hz : gA G (kT K s) s = 0 := Classical.byContradiction (fun z => (h.1.2.2.2.2.2.1 _ _ hs z).2.1 hfr)
        rw [e.1, e.2, hz]
        exact Nat.zero_le _
      · show _ ≤ up2 (gA G) _ _ _ t v
        rw [up2_n e]; exact Nat.le_refl _
  have hk := h.ok hs
  have h48 := c.2 (Or.inr h2)
  have hlen : (gF G s).length + 1 ≤ B := by
    obtain ⟨⟨a0, c0, a1, a2, a3, a4, a5, a6, a7, a8, a9⟩, aB, aE⟩ := a
    have := fu_len a5
    have := h.2.2.2.2.2.1
    omega
  have hlast : sLast K s = Int32.ofNat (gF G s).length := by
    obtain ⟨⟨a0, c0, a1, a2, a3, a4, a5, a6, a7, a8, a9⟩, aB, aE⟩ := a
    exact fu_last a1 a5 (by omega)
  have eo : ∀ f i j, ¬ ((f = 2 ∨ f = 3 ∨ f = 12 ∨ f = 13 ∨ f = 17) ∧ i = s) → (kLd K s).1 f i j = K.1 f i j := fun f i j hf => by
    show (kLead K s).1 f i j = _
    rw [kLead_v, if_neg (fun z => hf ⟨by omega, z.2.1⟩), if_neg (fun z => hf ⟨by omega, z.2.1⟩), if_neg (fun z => hf ⟨by omega, z.2.1⟩), if_neg (fun z => hf ⟨by omega, z.2.1⟩), if_neg (fun z => hf ⟨by omega, z.2.1⟩)]
  have e12 : (kLd K s).1 12 s 0 = 3 := by
    show (kLead K s).1 12 s 0 = _
    rw [kLead_v, if_neg (by omega), if_neg (by omega), if_neg (by omega), if_neg (by omega), if_pos ⟨rfl, rfl, rfl⟩]
  have eR : kR (kLd K s) s = 3 := by unfold kR; rw [e12]; rfl
  have eT : kT (kLd K s) s = kT K s := by unfold kT; rw [eo 5 s 0 (by omega)]
  have hE : ∀ i, i < 7 → ¬ i = s → sEq K (kLd K s) i := fun i _ e => ⟨fun f j _ => eo f i j (fun z => e z.2), if_neg e⟩
  have el : (kLd K s).2.1 s = K.2.1 s ++ [eNil (K.1 5 s 0) 0 0] := if_pos rfl
  refine ⟨_, h.upd hE hle (fun i e => up1_n e) (hc.cg (fun x hx => ?_) (cgU (fun i hi e => (hE i hi e).r) eR) (fun x hx => ?_) (fun x hx _ v _ hy => Or.inl ?_)) ⟨a.app hle h.1.2.2.2.2.2.2.2.2.1 (up1_s _ _ _) el (fun j => eo 18 s j (by omega)) (eo 15 s 0 (by omega)) eT hlen e1, ⟨by rw [eo 5 s 0 (by omega), eT]; exact b1, by rw [eT]; exact b2, by rw [e12, eR]; rfl, by rw [eR]; omega, by rw [eo 6 s 0 (by omega)]; exact b5, ?_⟩, fun _ => ⟨?_, fun q hq7 => ⟨(gF G s).length + 1, 0, ?_, by omega, ?_, ?_, Nat.zero_le _, fun _ => Nat.zero_le _⟩⟩, fun z => by rw [eR] at z; omega⟩ (fun u hu => Or.inl hu) ⟨h.2.2.2.1, fun t hd => ?_, h.2.2.2.2.2⟩, hle, eR⟩
  · by_cases e : x = s
    · rw [e]; exact eT
    · exact (hE x hx e).t
  · by_cases e : x = s
    · rw [e]; unfold kP; rw [eo 6 s 0 (by omega)]
    · exact (hE x hx e).p
  · by_cases e : x = s
    · subst e; unfold kY at hy ⊢; rw [← eo 16 x 0 (by omega)]; exact hy
    · rw [← (hE x hx e).y]; exact hy
  · obtain ⟨y, y1, y2⟩ := b6
    exact ⟨y, y1, (eo 16 s 0 (by omega)).trans y2⟩
  · rw [eT]
    show (up1 (gF G) s _ s).length ≤ up2 (gA G) _ _ _ (kT K s) s
    rw [up1_s, up2_s, List.length_append, List.length_singleton]
    exact Nat.le_refl _
  · show (kLead K s).1 2 s q = _
    rw [kLead_v, if_neg (by omega), if_pos ⟨rfl, rfl, hq7⟩, hlast, Int32.ofNat_add]; rfl
  · show _ ≤ (up1 (gF G) s _ s).length + 1
    rw [up1_s, List.length_append, List.length_singleton]; omega
  · show (kLead K s).1 3 s q = _
    rw [kLead_v, if_pos ⟨rfl, rfl, hq7⟩]; rfl
  · by_cases e : t = kT K s
    · subst e
      show (up1 (gL G) _ _ (kT K s)).length ≤ B ∧ ∀ x, x ∈ up1 (gL G) _ _ (kT K s) → eG x
      rw [up1_s, List.length_append, List.length_singleton]
      refine ⟨hlen, fun x hx => ?_⟩
      rcases List.mem_append.mp hx with z | z
      · exact a.2.2 x z
      · rw [List.mem_singleton.mp z]; exact e1
    · have hd' : ¬ gD G t = none := fun z => hd ((up1_n e).trans z)
      show (up1 (gL G) _ _ t).length ≤ B ∧ ∀ x, x ∈ up1 (gL G) _ _ t → eG x
      rw [up1_n e]
      exact h.2.2.2.2.1 t hd'
/-- what a leader sends of its log -/
theorem kAll.mlg {q : Nat} (h : kAll m0 A B k K G) (hs : s < 7) (hr : kR K s = 3) (hq : q < 7) (hne : ¬ s = q) : uOk m0 A k G (mLog K s q) := by
  obtain ⟨⟨⟨a, c, a1, a2, a3, a4, a5, a6, a7, a8, a9⟩, aB, aE⟩, ⟨b1, b2, b3, b4, b5, b6⟩, c1, c2⟩ := h.2.1 s hs
  obtain ⟨d1, d2⟩ := (h.1.2.2.1 s hs).1 hr
  obtain ⟨-, hq2⟩ := c1 hr
  obtain ⟨nx, mt, q1, q2, q3, q4, q5, q6⟩ := hq2 q hq
  have hB := h.2.2.2.2.2.2
  have hwf : ∀ u : MSG, u.1 2 = Int32.ofNat s → u.1 3 = Int32.ofNat q → (u.1 1 = 5 ∨ u.1 1 = 7) → mWf u ∧ mF u = s ∧ mS u = q := fun u h2 h3 h1 => by
    have e1 : mF u = s := by unfold mF; rw [h2]; exact toN (by omega)
    have e2 : mS u = q := by unfold mS; rw [h3]; exact toN (by omega)
    refine ⟨⟨by rw [e2]; exact h3, by rw [e2]; exact hq, by rw [e1]; exact h2, by rw [e1]; exact hs, h1.elim (fun z => Or.inr (Or.inr (Or.inr (Or.inr (Or.inl z))))) (fun z => Or.inr (Or.inr (Or.inr (Or.inr (Or.inr (Or.inr (Or.inl z)))))))⟩, e1, e2⟩
  unfold mLog
  rw [a1, q1]
  by_cases hlt : Int32.ofNat a < Int32.ofNat nx
  · rw [if_pos hlt]
    have hlt' := (i32_lt (by omega) (by omega)).mp hlt
    have eF : eFrom K s (Int32.ofNat nx) = ((gF G s).drop (nx - 1)).take 4 := by
      unfold eFrom
      rw [a1, a5, show (Int32.ofNat nx - Int32.ofNat a - 1 : Int32) = Int32.ofNat (nx - a - 1) from by
        rw [i32_sub0 (by omega), show (1 : Int32) = Int32.ofNat 1 from rfl, i32_sub0 (by omega)], toN (by omega), List.drop_drop]
      congr 2; omega
    rw [← q1] at eF ⊢
    obtain ⟨w1, w2, w3⟩ := hwf (mEnts K s q (eFrom K s (K.1 2 s q)).length) rfl rfl (Or.inl rfl)
    have e4 : (mEnts K s q (eFrom K s (K.1 2 s q)).length).1 4 = K.1 5 s 0 := rfl
    have eT : mT (mEnts K s q (eFrom K s (K.1 2 s q)).length) = kT K s := rfl
    have e22 : (mEnts K s q (eFrom K s (K.1 2 s q)).length).2.2 = ((gF G s).drop (nx - 1)).take 4 := by
      show (eFrom K s (K.1 2 s q)).take _ = _
      rw [List.take_length, eF]
    have hl : (((gF G s).drop (nx - 1)).take 4).length = min 4 ((gF G s).length - (nx - 1)) := by rw [List.length_take, List.length_drop]
    have e6 : K.1 2 s q - 1 = Int32.ofNat (nx - 1) := by rw [q1, show (1 : Int32) = Int32.ofNat 1 from rfl, i32_sub0 (by omega)]
    refine ⟨w1, by rw [w2, w3]; exact hne, by rw [e4, eT]; exact b1, ⟨by rw [eT]; omega, fun _ => by rw [eT]; exact b2⟩, Or.inl rfl, fun z => ?_, fun z => ?_, fun z => ?_, fun z => ?_, fun z => ?_, fun z => ?_⟩
    · rcases z with z | z
      · exact absurd (show (5 : Int32) = 2 from z) (by decide)
      · exact absurd (show (5 : Int32) = 4 from z) (by decide)
    · exact absurd (show (5 : Int32) = 3 from z) (by decide)
    · exact absurd (show (5 : Int32) = 4 from z) (by decide)
    · rw [eT, w2, ← d2]
      refine ⟨nx - 1, c, d1, e6, ?_, by rw [e22, hl]; omega, ?_, by rw [e22, hl]; omega, ?_, a2, a4, a8⟩
      · show sTix K s (K.1 2 s q - 1) = _
        rw [e6]
        exact fu_tix a1 a5 a6 (by omega) (by omega) (by omega)
      · rw [e22]; exact tk_len 4
      · rw [e22, ← eF]; rfl
    · exact absurd (show (5 : Int32) = 6 from z) (by decide)
    · exact absurd (show (5 : Int32) = 7 from z) (by decide)
  · rw [if_neg hlt]
    obtain ⟨w1, w2, w3⟩ := hwf ((mSet (mNew0 7 (Int32.ofNat s) (Int32.ofNat q) (K.1 5 s 0)) 6 (Int32.ofNat a)).1, some (K.1 18 s), []) rfl rfl (Or.inr rfl)
    have eT : mT ((mSet (mNew0 7 (Int32.ofNat s) (Int32.ofNat q) (K.1 5 s 0)) 6 (Int32.ofNat a)).1, some (K.1 18 s), []) = kT K s := rfl
    refine ⟨w1, by rw [w2, w3]; exact hne, by rw [eT]; exact b1, ⟨by rw [eT]; omega, fun _ => by rw [eT]; exact b2⟩, Or.inl rfl, fun z => ?_, fun z => ?_, fun z => ?_, fun z => ?_, fun z => ?_, fun z => ?_⟩
    · rcases z with z | z
      · exact absurd (show (7 : Int32) = 2 from z) (by decide)
      · exact absurd (show (7 : Int32) = 4 from z) (by decide)
    · exact absurd (show (7 : Int32) = 3 from z) (by decide)
    · exact absurd (show (7 : Int32) = 4 from z) (by decide)
    · exact absurd (show (7 : Int32) = 5 from z) (by decide)
    · exact absurd (show (7 : Int32) = 6 from z) (by decide)
    · rw [eT, w2, ← d2]
      exact ⟨K.1 18 s, a, rfl, d1, a1, rfl, by omega, a9, a6, a7, a8.le a3⟩
theorem kAll.allF (hs : s < 7) (mm : Int32) : ∀ (n q : Nat) (K : KK), q + n ≤ 7 → kAll m0 A B k K G → kR K s = 3 → kAll m0 A B k (kAllF s mm n q K) G
  | 0, _, _, _, h, _ => h
  | n + 1, q, K, hq, h, hr => by
    unfold kAllF
    by_cases c : ¬ q = s ∧ sBit mm q = true
    · rw [if_pos c]
      have h1 := h.send (h.mlg hs hr (by omega) (fun z => c.1 z.symm))
      exact kAll.allF hs mm n (q + 1) _ (by omega) h1 (by rw [(sEq.send K _ s).r]; exact hr)
    · rw [if_neg c]
      exact kAll.allF hs mm n (q + 1) _ (by omega) h hr
theorem kAll.snd (h : kAll m0 A B k K G) (hs : s < 7) (hr : kR K s = 3) : kAll m0 A B k (kSnd K s) G := kAll.allF hs _ 7 0 K (by omega) h hr
theorem sEq.snd (K : KK) (t i : Nat) : sEq K (kSnd K t) i := ⟨fun f j hf => kSnd_1 K t (fun z => by rw [z] at hf; unfold relF at hf; omega), (sSame.snd K t i).1⟩
end LDR
