/-! ===== THE SERVERS AGREE: a leader appends ===== -/
theorem sFlip_ok : ∀ n, n < 128 → ∀ j, j < 7 → (∃ y : Nat, y < 128 ∧ sFlip (Int32.ofNat n) j = Int32.ofNat y) ∧ ∀ v, v < 7 → ¬ v = j → sBit (sFlip (Int32.ofNat n) j) v = sBit (Int32.ofNat n) v := by
  intro n hn j hj
  have key : ∀ n, n < 128 → ∀ j, j < 7 → sFlip (Int32.ofNat n) j = Int32.ofNat (n ^^^ 2 ^ j) ∧ n ^^^ 2 ^ j < 128 ∧ ∀ v, v < 7 → ¬ v = j → sBit (Int32.ofNat (n ^^^ 2 ^ j)) v = sBit (Int32.ofNat n) v := by decide +kernel
  obtain ⟨k1, k2, k3⟩ := key n hn j hj
  exact ⟨⟨_, k2, k1⟩, by rw [k1]; exact k3⟩
/-- the last entry that changes the members -/
theorem sMixL_ge {l : List ENT} {a : Nat} (hb : a + l.length < 16777216) : ∀ n, n ≤ l.length → (sMixL (l.take n) 0 (Int32.ofNat a) (-1) = -1 ∧ ∀ j e, j < n → l[j]? = some e → ¬ e 1 = 4) ∨ ∃ p : Nat, sMixL (l.take n) 0 (Int32.ofNat a) (-1) = Int32.ofNat (a + 1 + p) ∧ p < n ∧ ∀ j e, j < n → l[j]? = some e → e 1 = 4 → j ≤ p
  | 0, _ => Or.inl ⟨rfl, fun j e h => by omega⟩
  | n + 1, hn => by
    have hl : n < l.length := by omega
    have et : l.take (n + 1) = l.take n ++ [l[n]] := by rw [List.take_add_one, List.getElem?_eq_getElem hl]; rfl
    have hlen : (l.take n).length = n := by rw [List.length_take]; omega
    rw [et, sMixL_app, hlen]
    by_cases c : l[n] 1 = 4
    · refine Or.inr ⟨n, ?_, by omega, fun j e hj _ _ => by omega⟩
      rw [if_pos c, Nat.zero_add, Int32.ofNat_add, Int32.ofNat_add]; rfl
    · rw [if_neg c]
      have hx : ∀ j e, j < n + 1 → l[j]? = some e → e 1 = 4 → j < n := fun j e hj he h4 => Nat.lt_of_le_of_ne (by omega) (fun z => by
        rw [z, List.getElem?_eq_getElem hl] at he
        exact c (by rw [Option.some.inj he]; exact h4))
      rcases sMixL_ge hb n (by omega) with ⟨z1, z2⟩ | ⟨p, z1, z2, z3⟩
      · exact Or.inl ⟨z1, fun j e hj he h4 => z2 j e (hx j e hj he h4) he h4⟩
      · exact Or.inr ⟨p, z1, by omega, fun j e hj he h4 => z3 j e (hx j e hj he h4) he h4⟩
section APPE
variable {K : KK} {G : GG} {m0 : Int32} {A B k s : Nat}
theorem kAll.appE {e : ENT} (h : kAll m0 A B k K G) (hs : s < 7) (hr : kR K s = 3) (he : eG e) (ht : tm e = kT K s) (h48 : (K.2.1 s).length < 48)
    (hm : e 1 = 4 → (∃ k n, gC G (kT K s) k n ∧ k ≤ (gL G (kT K s)).length ∧ n ≤ (gL G (kT K s)).length ∧ ∀ j' e', (gL G (kT K s))[j']? = some e' → e' 1 = 4 → j' < k) ∧ adj (cf m0 (gL G (kT K s) ++ [e])) (cf m0 (gL G (kT K s)))) : kAll m0 A B k (kApp K s e) (gApp G (kT K s) s e) ∧ gLe G (gApp G (kT K s) s e) ∧ gF (gApp G (kT K s) s e) s = gF G s ++ [e] := by
  obtain ⟨d1, d2⟩ := (h.1.2.2.1 s hs).1 hr
  have hd : ¬ gD G (kT K s) = none := by rw [d1]; exact fun z => by cases z
  have hc := h.1.app hs hr ht hm
  obtain ⟨a, ⟨b1, b2, b3, b4, b5, b6⟩, c1, c2⟩ := h.2.1 s hs
  have hlen : (gF G s).length + 1 ≤ B := by
    obtain ⟨⟨a0, c0, a1, a2, a3, a4, a5, a6, a7, a8, a9⟩, aB, aE⟩ := a
    have := fu_len a5
    have := h.2.2.2.2.2.1
    omega
  have eF : gF (gApp G (kT K s) s e) s = gF G s ++ [e] := by
    rw [d2]; exact up1_s _ _ _
  have hle : gLe G (gApp G (kT K s) s e) := by
    refine ⟨fun _ _ z => z, fun t hd' => ?_, fun _ _ _ z => z, fun t v hv => ?_, fun _ _ _ z => z⟩
    · by_cases e' : t = kT K s
      · subst e'; exact ⟨[e], up1_s _ _ _⟩
      · exact ⟨[], by rw [List.append_nil]; exact up1_n e'⟩
    · by_cases e' : t = kT K s ∧ v = s
      · have hz : gA G (kT K s) s ≤ (gL G (kT K s)).length := by
          by_cases z : gA G (kT K s) s = 0
          · omega
          · exact (h.1.2.2.2.2.2.1 _ _ hs z).2.2
        rw [e'.1, e'.2]
        show _ ≤ up2 (gA G) _ _ _ (kT K s) s
        rw [up2_s]; omega
      · show _ ≤ up2 (gA G) _ _ _ t v
        rw [up2_n e']; exact Nat.le_refl _
  have hE : ∀ i, i < 7 → ¬ i = s → sEq K (kApp K s e) i := fun i _ e' => ⟨fun f j _ => rfl, if_neg e'⟩
  have el : (kApp K s e).2.1 s = K.2.1 s ++ [e] := if_pos rfl
  refine ⟨h.upd hE hle (fun i e' => up1_n e') hc ⟨a.app hle h.1.2.2.2.2.2.2.2.2.1 eF el (fun _ => rfl) rfl rfl hlen he, ⟨b1, b2, b3, b4, b5, b6⟩, fun z => ⟨?_, fun q hq7 => ?_⟩, fun z => ?_⟩ (fun u hu => Or.inl hu) ⟨h.2.2.2.1, fun t hdt => ?_, h.2.2.2.2.2⟩, hle, eF⟩
  · rw [eF, List.length_append, List.length_singleton, d2]
    show _ ≤ up2 (gA G) _ _ _ (kT K s) s
    rw [up2_s]; exact Nat.le_refl _
  · obtain ⟨nx, mt, q1, q2, q3, q4, q5, q6⟩ := (c1 hr).2 q hq7
    refine ⟨nx, mt, q1, q2, ?_, q4, ?_, fun y => Nat.le_trans (q6 y) (hle.2.2.2.1 _ _ hq7)⟩
    · rw [eF, List.length_append]; omega
    · rw [eF, List.length_append]; omega
  · have z' : kR K s = 1 ∨ kR K s = 2 := z
    rw [hr] at z'; omega
  · obtain ⟨L1, L2⟩ := h.2.2.2.2.1 t hdt
    by_cases e' : t = kT K s
    · subst e'
      show (up1 (gL G) _ _ (kT K s)).length ≤ B ∧ ∀ x, x ∈ up1 (gL G) _ _ (kT K s) → eG x
      rw [up1_s, List.length_append, List.length_singleton]
      refine ⟨by rw [← d2]; exact hlen, fun x hx => ?_⟩
      rcases List.mem_append.mp hx with z | z
      · exact L2 x z
      · rw [List.mem_singleton.mp z]; exact he
    · show (up1 (gL G) _ _ t).length ≤ B ∧ ∀ x, x ∈ up1 (gL G) _ _ t → eG x
      rw [up1_n e']
      exact ⟨L1, L2⟩
/-- a request is taken by a leader -/
theorem kAll.req {c : Nat} (h : kAll m0 A B k K G) (hs : s < 7) (hr : K.1 12 s 0 = 3) (h40 : (K.2.1 s).length < 40) (h1 : 1 ≤ K.1 34 c 1 ∧ K.1 34 c 1 ≤ 3) (hE : eOk (eReq K s c)) : ∃ G', kAll m0 A B k (kLk (kApp K s (eReq K s c)) s) G' ∧ gLe G G' := by
  have hr3 : kR K s = 3 := kR_of (r := 3) (by omega) hr
  have hT := (h.2.1 s hs).2.1
  have hT2 := hT.2.1
  have e0 : tm (eReq K s c) = kT K s := rfl
  have h4 : ¬ eReq K s c 1 = 4 := fun z => by
    have z' : K.1 34 c 1 = 4 := z
    rw [z'] at h1
    exact absurd h1.2 (by decide)
  obtain ⟨g1, g8, -⟩ := h.appE (e := eReq K s c) hs hr3 ⟨by rw [e0]; exact hT.1, hE, fun z => absurd h1 z⟩ e0 (by omega) (fun z => absurd z h4)
  obtain ⟨G', g2, g9⟩ := g1.lk hs hr3
  exact ⟨G', g2, g8.tr g9⟩
/-- the members change by one, once what changed them before is committed in the term -/
theorem kAll.chg {j : Nat} (h : kAll m0 A B k K G) (hs : s < 7) (hj : j < 7) (hb : sMayC K s = true) : ∃ G', kAll m0 A B k (kApp K s (eNil (K.1 5 s 0) 4 (sFlip (sMem K s) j))) G' ∧ kR (kApp K s (eNil (K.1 5 s 0) 4 (sFlip (sMem K s) j))) s = 3 ∧ gF G' s = gF G s ++ [eNil (K.1 5 s 0) 4 (sFlip (sMem K s) j)] ∧ gLe G G' := by
  unfold sMayC at hb
  rw [Bool.and_eq_true, Bool.and_eq_true, Bool.and_eq_true] at hb
  obtain ⟨m1, m2, m3, m4⟩ := hb
  have m1 := of_decide_eq_true m1
  have m2 := of_decide_eq_true m2
  have m3 := of_decide_eq_true m3
  have m4 := of_decide_eq_true m4
  have hr3 : kR K s = 3 := kR_of (r := 3) (by omega) m1
  have hk := h.ok hs
  obtain ⟨⟨⟨a, c, a1, a2, a3, a4, a5, a6, a7, a8, a9⟩, aB, aE⟩, ⟨b1, b2, b3, b4, b5, b6⟩, c1, c2⟩ := h.2.1 s hs
  obtain ⟨d1, d2⟩ := (h.1.2.2.1 s hs).1 hr3
  have hd : ¬ gD G (kT K s) = none := by rw [d1]; exact fun z => by cases z
  have hB := h.2.2.2.2.2.2
  have ht1 := (h.1.1.len hd).2.2
  have hl := fu_len a5
  have h40 : (K.2.1 s).length < 40 := by
    rw [show (40 : Int32) = Int32.ofNat 40 from rfl, i32_le (by omega) (by omega)] at m4
    omega
  obtain ⟨n0, n1, n2⟩ := h.2.2.2.1
  obtain ⟨n, n3, n4⟩ : ∃ n : Nat, n < 128 ∧ sMem K s = Int32.ofNat n := by
    rw [hk.2.2.2.2.2]
    exact sMemL_128 _ _ (fun e he => (aE e he).2.1) ⟨n0, n1, n2⟩
  obtain ⟨⟨y, y1, y2⟩, f2⟩ := sFlip_ok n n3 j hj
  rw [← n4] at y2 f2
  obtain ⟨e1, e2⟩ := eNil_G (n := kT K s) (x := 4) (m := sFlip (sMem K s) j) (by omega) (Or.inr ⟨rfl, y, y1, y2⟩)
  rw [← b1] at e1 e2
  have hm : (∃ k n, gC G (kT K s) k n ∧ k ≤ (gL G (kT K s)).length ∧ n ≤ (gL G (kT K s)).length ∧ ∀ j' e', (gL G (kT K s))[j']? = some e' → e' 1 = 4 → j' < k) ∧ adj (cf m0 (gL G (kT K s) ++ [eNil (K.1 5 s 0) 4 (sFlip (sMem K s) j)])) (cf m0 (gL G (kT K s))) := by
    refine ⟨?_, j, fun v hv hne => ?_⟩
    · -- what is committed is of the term
      rw [a2, fu_tix a1 a5 a6 (by omega) a3 a4] at m2
      obtain ⟨p, rfl⟩ : ∃ p, c = p + 1 := by
        refine ⟨c - 1, ?_⟩
        have : ¬ c = 0 := fun z => by
          rw [z] at m2
          have m2' : (0 : Int32) = K.1 5 s 0 := m2
          unfold kT at ht1
          rw [← m2'] at ht1
          exact absurd ht1 (by decide)
        omega
      obtain ⟨x, x1, x2, x3⟩ := tAt_get (L := gF G s) (x := p) (by omega)
      have htx : tm x = kT K s := by unfold tm kT; rw [← x3, m2]
      rcases a8 with z | ⟨t1, i1, n1', z1, z2, z3, z4⟩
      · omega
      · have hdt := (h.1.2.2.2.2.2.2.2.2.1 _ _ _ z1)
        have hget : (gL G t1)[p]? = some x := by rw [← z4.get (j := p) (by omega)]; exact x1
        have hle := h.1.1.le hdt.1 hget
        have et : t1 = kT K s := by omega
        subst et
        refine ⟨i1, n1', z1, by have := hdt.2.2.1; have := hdt.2.2.2.1; omega, hdt.2.2.2.1, fun j' e' hj' h4 => ?_⟩
        rw [← d2] at hj'
        have hj2 := (List.getElem?_eq_some_iff.mp hj').1
        by_cases ca : j' < a
        · omega
        · have hK : (K.2.1 s)[j' - a]? = some e' := by
            rw [a5, List.getElem?_drop, show a + (j' - a) = j' by omega]; exact hj'
          unfold sMix at m3
          rw [a1, a2] at m3
          have q := sMixL_ge (l := K.2.1 s) (a := a) (by omega) (K.2.1 s).length (Nat.le_refl _)
          rw [List.take_length] at q
          rcases q with ⟨q1, q2⟩ | ⟨p', q1, q2, q3⟩
          · exact absurd h4 (q2 (j' - a) e' (by omega) hK)
          · have q4 := q3 (j' - a) e' (by omega) hK h4
            rw [q1, i32_lt (by omega) (by omega)] at m3
            omega
    · have app : ∀ (l m : List ENT) (d : Int32), sMemL (l ++ m) d = sMemL m (sMemL l d) := fun l => by
        induction l with
        | nil => intro m d; rfl
        | cons x l ih => intro m d; exact ih m _
      unfold cf
      rw [app, ← d2, ← hk.2.2.2.2.2]
      exact f2 v hv hne
  obtain ⟨g1, g8, g3⟩ := h.appE (e := eNil (K.1 5 s 0) 4 (sFlip (sMem K s) j)) hs hr3 e1 e2 (by omega) (fun _ => hm)
  exact ⟨_, g1, hr3, g3, g8⟩
theorem kAll.leave {j : Nat} (h : kAll m0 A B k K G) (hs : s < 7) (hj : j < 7) (hb : sMayC K s = true) : ∃ G', kAll m0 A B k (kLk (kApp K s (eNil (K.1 5 s 0) 4 (sFlip (sMem K s) j))) s) G' ∧ gLe G G' := by
  obtain ⟨G1, g1, g2, -, g8⟩ := h.chg hs hj hb
  obtain ⟨G', g3, g9⟩ := g1.lk hs g2
  exact ⟨G', g3, g8.tr g9⟩
theorem kAll.join {j : Nat} (h : kAll m0 A B k K G) (hs : s < 7) (hj : j < 7) (hb : sMayC K s = true) : ∃ G', kAll m0 A B k (kJoin K s j (eNil (K.1 5 s 0) 4 (sFlip (sMem K s) j))) G' ∧ gLe G G' := by
  obtain ⟨G1, g1, g2, g4, g8⟩ := h.chg hs hj hb
  obtain ⟨K1, hK1⟩ : ∃ K1, K1 = kApp K s (eNil (K.1 5 s 0) 4 (sFlip (sMem K s) j)) := ⟨_, rfl⟩
  unfold kJoin
  rw [← hK1] at g1 g2 ⊢
  obtain ⟨⟨⟨a, c, a1, a2, a3, a4, a5, a6, a7, a8, a9⟩, aB, aE⟩, b, c1⟩ := g1.2.1 s hs
  have hB := g1.2.2.2.2.2.2
  have hln : 1 ≤ (gF G1 s).length := by rw [g4, List.length_append]; exact Nat.le_add_left _ _
  rw [fu_last a1 a5 (by omega)]
  have g5 := g1.nxt (K' := kSet (kSet K1 2 s j (Int32.ofNat (gF G1 s).length)) 3 s j 0) (q := j) (nx := (gF G1 s).length) (mt := 0) hs g2 hj hln (by omega) (Nat.zero_le _) (fun _ => Nat.zero_le _) rfl ((kSet_ne (by omega)).trans (kSet_at _ _ _ _ _)) (kSet_at _ _ _ _ _) (fun f i j' hn => (kSet_ne (fun z => hn ⟨Or.inr z.1, z.2⟩)).trans (kSet_ne (fun z => hn ⟨Or.inl z.1, z.2⟩)))
  obtain ⟨G', g6, g9⟩ := g5.lk hs (by unfold kR; rw [kSet_ne (by omega), kSet_ne (by omega)]; exact g2)
  exact ⟨G', g6, g8.tr g9⟩
end APPE
