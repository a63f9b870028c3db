/-! ===== TWO SERVERS' LOGS, THEIR AGREEMENT, THEIR TABLES; a server is sound ===== -/
section AGK
variable {m0 : Int32} {A B k s : Nat} {K : KK} {G : GG} {tl cl led : Nat → Nat} {S : Nat → Int32}
theorem kAll.len (h : kAll m0 A B k K G) (hs : s < 7) : kA K s + (K.2.1 s).length = (gF G s).length := by
  obtain ⟨⟨⟨a, c, a1, a2, a3, a4, a5, a6, a7, a8, a9⟩, aB, aE⟩, b, -⟩ := h.2.1 s hs
  have hB := h.2.2.2.2.2.2
  rw [kA_of a1 (by omega), a5, List.length_drop]; omega
theorem kAll.agr (h : kAll m0 A B k K G) {a b : Nat} (ha : a < 7) (hb : b < 7) : ∃ u : Nat, sAgr K a b = Int32.ofNat u ∧ u ≤ 12400 ∧ min (kC K a) (kC K b) ≤ u ∧
    ∀ x, max (kA K a) (kA K b) < x → x ≤ (gF G a).length → x ≤ (gF G b).length → sTix K a (Int32.ofNat x) = sTix K b (Int32.ofNat x) → x ≤ u ∧ sEnt K a (Int32.ofNat x) = sEnt K b (Int32.ofNat x) := by
  obtain ⟨a1, c1, p1, p2, p3, p4, p5, p6, p7, p8, p9, p10, p11, p12, p13⟩ := h.num ha
  obtain ⟨a2, c2, q1, q2, q3, q4, q5, q6, q7, q8, q9, q10, q11, q12, q13⟩ := h.num hb
  have la := h.len ha
  have lb := h.len hb
  have hcm := h.comm ha hb
  rw [p4, q4] at *
  rw [p3] at la
  rw [q3] at lb
  have hsame : ∀ x, max a1 a2 < x → x ≤ (gF G a).length → x ≤ (gF G b).length → sTix K a (Int32.ofNat x) = sTix K b (Int32.ofNat x) → ag (gF G a) (gF G b) x := fun x x1 x2 x3 x4 => by
    rw [p12 x (by omega) x2, q12 x (by omega) x3] at x4
    obtain ⟨j, rfl⟩ : ∃ j, x = j + 1 := ⟨x - 1, by omega⟩
    exact h.same ha hb (by omega) (by omega) x4
  have hup : ∀ x, max a1 a2 < x → ag (gF G a) (gF G b) x → ∀ i, max a1 a2 < i → i ≤ x → sTix K a (Int32.ofNat i) = sTix K b (Int32.ofNat i) := fun x x1 x2 i i1 i2 => by
    have := x2.1
    have := x2.2.1
    rw [p12 i (by omega) (by omega), q12 i (by omega) (by omega)]
    exact tAt_ag x2 i2
  unfold sAgr sAgr2
  rw [p3, q3, la, lb]
  by_cases c : min (gF G a).length (gF G b).length ≤ max a1 a2
  · rw [if_pos c]
    exact ⟨_, rfl, by omega, by omega, fun x x1 x2 x3 => by omega⟩
  · rw [if_neg c]
    have hle := sAgrN_le (K := K) (a := a) (b := b) (min (gF G a).length (gF G b).length - max a1 a2) (max a1 a2)
    have hge0 := sAgrN_ge (K := K) (a := a) (b := b) (min (gF G a).length (gF G b).length - max a1 a2) (max a1 a2)
    refine ⟨_, rfl, by omega, ?_, fun x x1 x2 x3 x4 => ?_⟩
    · refine hge0 _ (by omega) (fun i i1 i2 => ?_)
      by_cases e : max a1 a2 < min c1 c2
      · exact hup _ e hcm i i1 i2
      · omega
    · have hag := hsame x x1 x2 x3 x4
      refine ⟨hge0 x (by omega) (fun i i1 i2 => hup x x1 hag i i1 i2), ?_⟩
      obtain ⟨j, rfl⟩ : ∃ j, x = j + 1 := ⟨x - 1, by omega⟩
      rw [p13 j (by omega) (by omega), q13 j (by omega) (by omega)]
      exact hag.get (Nat.lt_succ_self j)
/-- two servers that have committed the same have the same table -/
theorem NN.tab (h : kAll m0 A B k K G) (z : NN tl cl led S K G) {a b : Nat} (ha : a < 7) (hb : b < 7) (hc : K.1 15 a 0 = K.1 15 b 0) : ∀ j, j < 12 → K.1 19 a j = K.1 19 b j := fun j hj => by
  have e : kC K a = kC K b := by unfold kC; rw [hc]
  have h1 := (z.2.2.1.1 a ha).1
  have h2 := (z.2.2.1.1 b hb).1
  rw [← e] at h2
  exact h1.eq h h2 j (by omega)
theorem cnt_pos : ∀ n, n < 128 → ¬ Int32.ofNat n = 0 → (1 : Int32) ≤ sCnt (Int32.ofNat n) := by decide +kernel
/-- what the law asks of one server -/
def lSnd (K : KK) (s : Nat) : Prop := (∃ r : Nat, r ≤ 3 ∧ K.1 12 s 0 = Int32.ofNat r) ∧ (K.1 4 s 0 = 0 → K.1 12 s 0 = 0 ∧ K.1 14 s 0 = 0 ∧ K.1 15 s 0 = K.1 18 s 0) ∧ (¬ K.1 12 s 0 = 0 → K.1 13 s 0 = -1) ∧ (K.1 12 s 0 = 2 ∨ K.1 12 s 0 = 3 → K.1 6 s 0 = Int32.ofNat s) ∧
  (∃ a c l t lt : Nat, K.1 18 s 0 = Int32.ofNat a ∧ K.1 15 s 0 = Int32.ofNat c ∧ sLast K s = Int32.ofNat l ∧ a ≤ c ∧ c ≤ l ∧ l ≤ 12400 ∧ K.1 5 s 0 = Int32.ofNat t ∧ sLastT K s = Int32.ofNat lt ∧ lt ≤ t ∧ t ≤ 1000000000 ∧ a = kA K s ∧ c = kC K s ∧ t = kT K s ∧
    (∀ x, a ≤ x → x ≤ l → ¬ sTix K s (Int32.ofNat x) < 0) ∧ (∀ x, a ≤ x → x + 1 ≤ l → sTix K s (Int32.ofNat x) ≤ sTix K s (Int32.ofNat (x + 1))) ∧ (K.1 12 s 0 = 3 → ∀ q, q < 7 → ¬ q = s → K.1 3 s q < K.1 2 s q ∧ K.1 2 s q ≤ Int32.ofNat (l + 1))) ∧
  (∃ n : Nat, n < 128 ∧ sMem K s = Int32.ofNat n) ∧ (1 : Int32) ≤ sCnt (sMem K s) ∧ kWf K s
theorem tAt_nn {L : List ENT} (hL : ∀ e, e ∈ L → e 0 = Int32.ofNat (tm e)) : ∀ x, x ≤ L.length → ¬ tAt L x < 0
  | 0, _ => by show ¬ (0 : Int32) < 0; decide
  | x + 1, hx => by
    obtain ⟨e, e1, e2, e3⟩ := tAt_get (L := L) (x := x) (by omega)
    rw [e3, hL e e2, show (0 : Int32) = Int32.ofNat 0 from rfl, i32_lt (tm_lt _) (by omega)]
    omega
theorem NN.lsnd (h : kAll m0 A B k K G) (z : NN tl cl led S K G) (hs : s < 7) : lSnd K s := by
  obtain ⟨a, c, p1, p2, p3, p4, p5, p6, p7, p8, p9, p10, p11, p12, p13⟩ := h.num hs
  obtain ⟨⟨o1, o2, o3⟩, d1, -, -⟩ := z.1 s hs
  obtain ⟨⟨-, aB, aE⟩, ⟨b1, b2, b3, b4, b5, b6⟩, c1, c2⟩ := h.2.1 s hs
  have hk := h.ok hs
  have hm : ∃ n : Nat, n < 128 ∧ sMem K s = Int32.ofNat n := by
    rw [hk.2.2.2.2.2]
    exact sMemL_128 _ _ (fun e he => (aE e he).2.1) h.2.2.2.1
  refine ⟨⟨kR K s, b4, b3⟩, d1, o1, o2, ⟨a, c, (gF G s).length, kT K s, ltm (gF G s), p1, p2, p8, p5, p6, p7, p10, p9, h.lastT hs, p11, p3.symm, p4.symm, rfl, fun x x1 x2 => ?_, fun x x1 x2 => ?_, fun hr q hq hne => ⟨o3 hr q hq hne, ?_⟩⟩, hm, ?_, hk.1.wf⟩
  · rw [p12 x x1 x2]
    exact tAt_nn (fun e he => (aE e he).1) x x2
  · rw [p12 x x1 (by omega), p12 (x + 1) (by omega) x2]
    exact h.tAt_le hs x2
  · have hr3 : kR K s = 3 := by unfold kR; rw [hr]; rfl
    obtain ⟨nx, mt, q1, q2, q3, q4, q5, q6⟩ := (c1 hr3).2 q hq
    rw [q1, i32_le (by omega) (by omega)]
    exact q3
  · obtain ⟨n, n1, n2⟩ := hm
    have := z.2.1.mem (s := s) hs
    rw [n2] at this ⊢
    exact cnt_pos n n1 this
theorem NN.ser (z : NN tl cl led S K G) (hs : s < 7) {c : Nat} (hc : c < 4) : K.1 19 s (8 + c) ≤ S c := (z.2.1.1 s hs).2.2 c hc
end AGK
