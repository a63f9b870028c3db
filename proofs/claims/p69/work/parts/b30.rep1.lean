/-! ===== THE BEGINNING: the first state ===== -/
section REP0
variable {L : Nat} {xs : Nat → Int32}
theorem xN0 (o f i j : Nat) : xN (X0 L xs) o f i j = xZ o f i j := by
  unfold xN xZ
  by_cases h : xPriv f = true
  · rw [if_pos h, if_pos h]; rfl
  · rw [if_neg h, if_neg h]
    show (if o = 3 then _ else K0 : KK).1 f i j = _
    by_cases e : o = 3
    · rw [if_pos e, if_pos e]
    · rw [if_neg e, if_neg e]; rfl
theorem xK0 {o : Nat} (h : ¬ o = 3) : xK (X0 L xs) o = K0 := if_neg h
theorem xK0_2 (o : Nat) : (xK (X0 L xs) o).2.2 = [] ∧ ∀ i, (xK (X0 L xs) o).2.1 i = [] := by
  by_cases e : o = 3
  · rw [show xK (X0 L xs) o = (fun _ _ _ => 0, fun _ => [], []) from if_pos e]; exact ⟨rfl, fun _ => rfl⟩
  · rw [xK0 e]; exact ⟨rfl, fun _ => rfl⟩
variable {g : PS}
theorem z_sh (hK : ∀ a, ¬ a = 0 → pK g a = oK (cAt a)) (hL : ∀ a, ¬ a = 0 → pL g a = oL (cAt a)) : rSh g := by
  intro a kd ln hs
  have one : ∀ a kd, ¬ a = 0 → oK (cAt a) = kd → kd < 12 → pK g a = kd ∧ (12 ≤ kd → pL g a = ln) := fun a kd h0 h1 h2 => ⟨(hK a h0).trans h1, fun z => by omega⟩
  have two : ∀ a kd ln, ¬ a = 0 → oK (cAt a) = kd → oL (cAt a) = ln → pK g a = kd ∧ (12 ≤ kd → pL g a = ln) := fun a kd ln h0 h1 h2 => ⟨(hK a h0).trans h1, fun _ => (hL a h0).trans h2⟩
  rcases hs with ⟨o, ho, h⟩ | ⟨o, h2, h4, h⟩ | ⟨rfl, rfl, rfl⟩ | ⟨rfl, rfl, rfl⟩ | ⟨rfl, rfl, rfl⟩
  · have nB : ∀ k, ¬ aB o + k = 0 := fun k => by show ¬ 2 + 193 * o + k = 0; omega
    have nS : ∀ i k, ¬ aS o i + k = 0 := fun i k => by show ¬ 135 + 193 * o + 8 * i + k = 0; omega
    have nM : ∀ q k, ¬ aM o q + k = 0 := fun q k => by show ¬ 8 + 193 * o + 2 * q + k = 0; omega
    have nC : ∀ c, ¬ aC o c = 0 := fun c => by show ¬ 191 + 193 * o + c = 0; omega
    have s1 := z_s1 o ho
    have s2 := z_s2 o ho
    rcases h with ⟨rfl, rfl, rfl⟩ | ⟨rfl, rfl, rfl⟩ | ⟨rfl, rfl, rfl⟩ | ⟨rfl, rfl, rfl⟩ | ⟨rfl, rfl, rfl⟩ | ⟨rfl, rfl, rfl⟩ | ⟨q, hq, h⟩ | ⟨i, hi, h⟩ | ⟨c, hc, rfl, rfl, rfl⟩
    · exact one _ _ (nB 0) s1.1 (by omega)
    · exact two _ _ _ (nB 1) s1.2.1 s1.2.2.1
    · exact two _ _ _ (nB 2) s1.2.2.2.1 s1.2.2.2.2.1
    · exact one _ _ (nB 3) s1.2.2.2.2.2 (by omega)
    · exact two _ _ _ (nB 4) s2.1 s2.2.1
    · exact two _ _ _ (nB 5) s2.2.2.1 s2.2.2.2
    · have s3 := z_s3 o ho q hq
      rcases h with ⟨rfl, rfl, rfl⟩ | ⟨rfl, rfl, rfl⟩
      · exact one _ _ (nM q 0) s3.1 (by omega)
      · exact two _ _ _ (nM q 1) s3.2.1 s3.2.2
    · have s4 := z_s4 o ho i hi
      have s5 := z_s5 o ho i hi
      have s6 := z_s6 o ho i hi
      rcases h with ⟨rfl, rfl, rfl⟩ | ⟨rfl, rfl, rfl⟩ | ⟨rfl, rfl, rfl⟩ | ⟨rfl, rfl, rfl⟩ | ⟨rfl, rfl, rfl⟩ | ⟨rfl, rfl, rfl⟩ | ⟨rfl, rfl, rfl⟩
      · exact one _ _ (nS i 0) s4.1 (by omega)
      · exact one _ _ (nS i 1) s4.2.1 (by omega)
      · exact two _ _ _ (nS i 2) s4.2.2.1 s4.2.2.2
      · exact two _ _ _ (nS i 3) s5.1 s5.2.1
      · exact two _ _ _ (nS i 4) s5.2.2.1 s5.2.2.2
      · exact two _ _ _ (nS i 5) s6.1 s6.2.1
      · exact two _ _ _ (nS i 6) s6.2.2.1 s6.2.2.2
    · exact one _ _ (nC c) (z_c7 o ho c hc).2.2.2 (by omega)
  · have nR : ∀ k, ¬ bB o + k = 0 := fun k => by show ¬ 267 + 61 * o + k = 0; omega
    have q1 := z_q1 o h4 h2
    have q2 := z_q2 o h4 h2
    have q3 := z_q3 o h4 h2
    have q4 := z_q4 o h4 h2
    rcases h with ⟨rfl, rfl, rfl⟩ | ⟨rfl, rfl, rfl⟩ | ⟨e1, e2, rfl, rfl⟩ | ⟨rfl, rfl, rfl⟩ | ⟨e1, e2, rfl, rfl⟩ | ⟨rfl, rfl, rfl⟩ | ⟨e1, e2, rfl, rfl⟩ | ⟨rfl, rfl, rfl⟩ | ⟨rfl, rfl, rfl⟩ | ⟨rfl, rfl, rfl⟩ | ⟨e1, e2, rfl, rfl⟩ | ⟨rfl, rfl, rfl⟩ | ⟨e1, e2, rfl, rfl⟩ | ⟨rfl, rfl, rfl⟩ | ⟨rfl, rfl, rfl⟩ | ⟨rfl, rfl, rfl⟩ | ⟨e1, e2, rfl, rfl⟩
    · exact one _ _ (nR 0) q1.1 (by omega)
    · exact two _ _ _ (nR 1) q1.2.1 q1.2.2.1
    · obtain ⟨k, hk, rfl⟩ : ∃ k, k < 13 ∧ a = bB o + 2 + k := ⟨a - (bB o + 2), by omega, by omega⟩
      have := z_q5 o h4 h2 k hk
      exact two _ _ _ (by rw [Nat.add_assoc]; exact nR _) this.1 this.2
    · exact two _ _ _ (nR 15) q1.2.2.2.1 q1.2.2.2.2
    · obtain ⟨k, hk, rfl⟩ : ∃ k, k < 7 ∧ a = bB o + 16 + k := ⟨a - (bB o + 16), by omega, by omega⟩
      have := z_q6 o h4 h2 k hk
      exact two _ _ _ (by rw [Nat.add_assoc]; exact nR _) this.1 this.2.1
    · exact two _ _ _ (nR 23) q2.1 q2.2.1
    · obtain ⟨k, hk, rfl⟩ : ∃ k, k < 7 ∧ a = bB o + 24 + k := ⟨a - (bB o + 24), by omega, by omega⟩
      have := z_q6 o h4 h2 k hk
      exact two _ _ _ (by rw [Nat.add_assoc]; exact nR _) this.2.2.1 this.2.2.2
    · exact two _ _ _ (nR 31) q2.2.2.1 q2.2.2.2
    · exact two _ _ _ (nR 32) q3.1 q3.2.1
    · exact two _ _ _ (nR 40) q3.2.2.1 q3.2.2.2
    · obtain ⟨k, hk, rfl⟩ : ∃ k, k < 7 ∧ a = bB o + 41 + k := ⟨a - (bB o + 41), by omega, by omega⟩
      have := z_q7 o h4 h2 k hk
      exact two _ _ _ (by rw [Nat.add_assoc]; exact nR _) this.1 this.2.1
    · exact two _ _ _ (nR 48) q4.1 q4.2.1
    · obtain ⟨k, hk, rfl⟩ : ∃ k, k < 7 ∧ a = bB o + 49 + k := ⟨a - (bB o + 49), by omega, by omega⟩
      have := z_q7 o h4 h2 k hk
      exact two _ _ _ (by rw [Nat.add_assoc]; exact nR _) this.2.2.1 this.2.2.2
    · exact two _ _ _ (nR 56) (z_r8 o h4 h2).1 (z_r8 o h4 h2).2.1
    · exact two _ _ _ (nR 57) (z_r9 o h4 h2).1 (z_r9 o h4 h2).2.1
    · exact two _ _ _ (nR 58) q4.2.2.1 q4.2.2.2
    · obtain ⟨k, hk, rfl⟩ : ∃ k, k < 2 ∧ a = bB o + 59 + k := ⟨a - (bB o + 59), by omega, by omega⟩
      have := z_q8 o h4 h2 k hk
      exact two _ _ _ (by rw [Nat.add_assoc]; exact nR _) this.1 this.2
  · exact one _ _ (by omega) z_h1 (by omega)
  · exact one _ _ (by omega) z_h1 (by omega)
  · exact one _ _ (by omega) z_h1 (by omega)
theorem z_nm (hM : ∀ a k, ¬ a = 0 → pM g a k = oM (cAt a) k) : rNm (X0 L xs) g := by
  intro o f i j a k hl
  rw [xN0]
  rcases hl with ⟨ho, h⟩ | ⟨h2, h4, h⟩
  · have nB : ∀ k, ¬ aB o + k = 0 := fun k => by show ¬ 2 + 193 * o + k = 0; omega
    have nS : ∀ i k, ¬ aS o i + k = 0 := fun i k => by show ¬ 135 + 193 * o + 8 * i + k = 0; omega
    have nC : ∀ c, ¬ aC o c = 0 := fun c => by show ¬ 191 + 193 * o + c = 0; omega
    rcases h with ⟨f1, f2, f3, f4, f5, hi, rfl, rfl, rfl⟩ | ⟨rfl, hi, hj, rfl, rfl⟩ | ⟨rfl, hi, hj, hj2, rfl, rfl⟩ | ⟨rfl, hi, hj, hj2, rfl, rfl⟩ | ⟨rfl, hi, hj, rfl, rfl⟩ | ⟨rfl, hi, hj, rfl, rfl⟩ | ⟨rfl, hi, rfl, rfl, rfl⟩ | ⟨f1, f2, rfl, rfl, rfl, hk⟩ | ⟨rfl, rfl, rfl, rfl, rfl⟩ | ⟨f1, f2, hi, rfl, rfl, hk⟩
    · rw [hM (aS o i) _ (nS i 0)]
      by_cases c : k < 7
      · exact z_c1 o ho i hi k c f1
      · exact z_c0 o ho i hi k (by omega) (by omega)
    · rw [hM _ _ (nS i 2)]; exact z_c2 o ho i hi k hj
    · rw [hM _ _ (nS i 3)]; exact (z_c3 o ho i hi k (by omega)).1
    · rw [hM _ _ (nS i 4)]; exact (z_c3 o ho i hi k (by omega)).2
    · rw [hM _ _ (nS i 5)]; exact (z_c4 o ho i hi k hj).1
    · rw [hM _ _ (nS i 6)]; exact (z_c4 o ho i hi k hj).2
    · rw [hM _ _ (nB 5)]; exact z_c5 o ho k hi
    · rw [hM _ _ (nB 3)]
      rcases (by omega : f = 31 ∧ k = 4 ∨ f = 32 ∧ k = 5) with ⟨rfl, rfl⟩ | ⟨rfl, rfl⟩
      · exact (z_c6 o ho).1
      · exact (z_c6 o ho).2.1
    · rw [hM (aB o) _ (nB 0)]; exact (z_c6 o ho).2.2
    · rw [hM _ _ (nC i)]
      rcases (by omega : f = 35 ∧ k = 1 ∨ f = 36 ∧ k = 2) with ⟨rfl, rfl⟩ | ⟨rfl, rfl⟩
      · exact (z_c7 o ho i hi).1
      · exact (z_c7 o ho i hi).2.1
  · have nR : ∀ k, ¬ bB o + k = 0 := fun k => by show ¬ 267 + 61 * o + k = 0; omega
    rcases h with ⟨rfl, rfl, rfl, rfl, rfl⟩ | ⟨rfl, rfl, rfl, rfl, rfl⟩ | ⟨f1, f2, hi, rfl, ha, rfl⟩ | ⟨f1, f2, hi, rfl, ha, rfl⟩ | ⟨rfl, hi, rfl, rfl, rfl⟩ | ⟨rfl, hi, rfl, rfl, rfl⟩ | ⟨rfl, hi, rfl, rfl, rfl⟩ | ⟨rfl, hi, rfl, rfl, rfl⟩ | ⟨rfl, hi, hj, rfl, rfl⟩ | ⟨rfl, hi, hj, hj2, rfl, rfl⟩ | ⟨rfl, hi, hj, rfl, rfl⟩ | ⟨rfl, hi, hj, rfl, rfl⟩ | ⟨rfl, hi, hj, rfl, rfl⟩ | ⟨rfl, rfl, hj, rfl, rfl⟩ | ⟨rfl, rfl, hj, rfl, rfl⟩ | ⟨rfl, hi, hj, rfl, rfl⟩ | ⟨f1, f2, hi, rfl, ha, rfl⟩
    · rw [hM (bB o) _ (nR 0)]; exact (z_r1 o h4 h2).1
    · rw [hM (bB o) _ (nR 0)]; exact (z_r1 o h4 h2).2.1
    · have := z_r2 o h4 h2 k hi
      rcases (by omega : f = 4 ∧ a = bB o + 1 ∨ f = 5 ∧ a = bB o + 2 ∨ f = 6 ∧ a = bB o + 3) with ⟨rfl, rfl⟩ | ⟨rfl, rfl⟩ | ⟨rfl, rfl⟩
      · rw [hM _ _ (nR 1)]; exact this.1
      · rw [hM _ _ (nR 2)]; exact this.2.1
      · rw [hM _ _ (nR 3)]; exact this.2.2
    · have := z_r3 o h4 h2 k hi
      rcases (by omega : f = 12 ∧ a = bB o + 4 ∨ f = 13 ∧ a = bB o + 5 ∨ f = 14 ∧ a = bB o + 6 ∨ f = 15 ∧ a = bB o + 7) with ⟨rfl, rfl⟩ | ⟨rfl, rfl⟩ | ⟨rfl, rfl⟩ | ⟨rfl, rfl⟩
      · rw [hM _ _ (nR 4)]; exact this.1
      · rw [hM _ _ (nR 5)]; exact this.2.1
      · rw [hM _ _ (nR 6)]; exact this.2.2.1
      · rw [hM _ _ (nR 7)]; exact this.2.2.2
    · rw [hM _ _ (nR 8)]; exact (z_r4 o h4 h2 k hi).1
    · rw [hM _ _ (nR 9)]; exact (z_r4 o h4 h2 k hi).2.1
    · rw [hM _ _ (nR 10)]; exact (z_r4 o h4 h2 k hi).2.2.1
    · rw [hM _ _ (nR 11)]; exact (z_r4 o h4 h2 k hi).2.2.2
    · rw [hM (bB o + 12 + j) _ (by rw [Nat.add_assoc]; exact nR _)]; exact z_r5 o h4 h2 k hi j hj
    · rw [hM (bB o + 16 + i) _ (by rw [Nat.add_assoc]; exact nR _)]; exact (z_r6 o h4 h2 i hi k (by omega)).1
    · rw [hM (bB o + 24 + i) _ (by rw [Nat.add_assoc]; exact nR _)]; exact (z_r6 o h4 h2 i hi k hj).2
    · rw [hM (bB o + 41 + i) _ (by rw [Nat.add_assoc]; exact nR _)]; exact (z_r7 o h4 h2 i hi k hj).1
    · rw [hM (bB o + 49 + i) _ (by rw [Nat.add_assoc]; exact nR _)]; exact (z_r7 o h4 h2 i hi k hj).2
    · rw [hM _ _ (nR 56)]; exact (z_r8 o h4 h2).2.2 k hj
    · rw [hM _ _ (nR 57)]; exact (z_r9 o h4 h2).2.2 k hj
    · rw [hM _ _ (nR 58)]; exact z_ra o h4 h2 i hi j hj
    · have := z_rb o h4 h2 k hi
      rcases (by omega : f = 35 ∧ a = bB o + 59 ∨ f = 36 ∧ a = bB o + 60) with ⟨rfl, rfl⟩ | ⟨rfl, rfl⟩
      · rw [hM _ _ (nR 59)]; exact this.1
      · rw [hM _ _ (nR 60)]; exact this.2
theorem z_sf (hM : ∀ a k, ¬ a = 0 → pM g a k = oM (cAt a) k) : rSf g := by
  intro a k b hs
  rcases hs with ⟨o, ho, h⟩ | ⟨o, h2, h4, h⟩ | ⟨rfl, hk, rfl⟩ | ⟨rfl, hk, rfl⟩
  · have nB : ∀ k, ¬ aB o + k = 0 := fun k => by show ¬ 2 + 193 * o + k = 0; omega
    have nS : ∀ i k, ¬ aS o i + k = 0 := fun i k => by show ¬ 135 + 193 * o + 8 * i + k = 0; omega
    have nM : ∀ q k, ¬ aM o q + k = 0 := fun q k => by show ¬ 8 + 193 * o + 2 * q + k = 0; omega
    rcases h with ⟨rfl, hk, rfl⟩ | ⟨rfl, hk, rfl⟩ | ⟨rfl, hk, rfl⟩ | ⟨rfl, hk, rfl⟩ | ⟨q, hq, rfl, rfl, rfl⟩ | ⟨i, hi, h⟩
    · rw [hM (aB o) _ (nB 0)]; exact z_f1 o ho k hk
    · rw [hM _ _ (nB 1)]; exact z_f2 o ho k hk
    · rw [hM _ _ (nB 2)]; exact z_f3 o ho k hk
    · rw [hM _ _ (nB 3)]; exact z_f4 o ho k hk
    · rw [hM (aM o q) _ (nM q 0)]; exact z_f5 o ho q hq
    · have f6 := z_f6 o ho i hi
      rcases h with ⟨rfl, rfl, rfl⟩ | ⟨rfl, rfl, rfl⟩ | ⟨rfl, rfl, rfl⟩ | ⟨rfl, hk, rfl⟩
      · rw [hM (aS o i) _ (nS i 0)]; exact f6.1
      · rw [hM (aS o i) _ (nS i 0)]; exact f6.2.1
      · rw [hM (aS o i) _ (nS i 0)]; exact f6.2.2
      · rw [hM _ _ (nS i 1)]; exact z_f7 o ho i hi k hk
  · have nR : ∀ k, ¬ bB o + k = 0 := fun k => by show ¬ 267 + 61 * o + k = 0; omega
    have g2 := z_g2 o h4 h2
    rcases h with ⟨rfl, k1, k2, hb⟩ | ⟨rfl, rfl, rfl⟩ | ⟨rfl, k1, k2, rfl⟩ | ⟨rfl, rfl, rfl⟩ | ⟨rfl, rfl, rfl⟩ | ⟨rfl, k1, k2, rfl⟩ | ⟨rfl, hk, rfl⟩ | ⟨rfl, hk, rfl⟩ | ⟨rfl, hk, rfl⟩ | ⟨rfl, hk, rfl⟩
    · rw [hM (bB o) _ (nR 0), z_g1 o h4 h2 k (by omega) k1, show bB o + k - 1 = b by omega]
    · rw [hM (bB o) _ (nR 0)]; exact g2.1
    · rw [hM (bB o) _ (nR 0)]; exact z_g3 o h4 h2 k (by omega) k1
    · rw [hM (bB o) _ (nR 0)]; exact g2.2.1
    · rw [hM (bB o) _ (nR 0)]; exact g2.2.2
    · rw [hM (bB o) _ (nR 0)]; exact z_g4 o h4 h2 k (by omega) k1
    · rw [hM _ _ (nR 15)]; exact (z_g5 o h4 h2 k hk).1
    · rw [hM _ _ (nR 23)]; exact (z_g5 o h4 h2 k hk).2
    · rw [hM _ _ (nR 40)]; exact (z_g6 o h4 h2 k hk).1
    · rw [hM _ _ (nR 48)]; exact (z_g6 o h4 h2 k hk).2
  · rw [hM _ _ (by omega)]; exact z_g7 k hk
  · rw [hM _ _ (by omega)]; exact z_g7 k hk
theorem z_stat {p : Nat} (h : (eZ p).1 ≠ 0) : (130 ≤ p ∧ p ≤ 134) ∨ (323 ≤ p ∧ p ≤ 327) := by
  unfold eZ at h
  by_cases c : p = 130 ∨ p = 323
  · omega
  · rw [if_neg c] at h
    by_cases c2 : (131 ≤ p ∧ p ≤ 134) ∨ (324 ≤ p ∧ p ≤ 327)
    · omega
    · rw [if_neg c2] at h; exact absurd rfl h
theorem z_eZ {o : Nat} (ho : o < 2) : eZ (130 + 193 * o) = (3, kZ 18 0) := by
  unfold eZ
  rw [if_pos (by omega)]
theorem z_ob (hK : ∀ a, ¬ a = 0 → pK g a = oK (cAt a)) (hL : ∀ a, ¬ a = 0 → pL g a = oL (cAt a)) (hM : ∀ a k, ¬ a = 0 → pM g a k = oM (cAt a) k) (hN : pN g = 388) : rOb (X0 L xs) g := by
  refine ⟨rfl, fun p hp => ?_⟩
  have hr := z_stat hp
  refine ⟨by rw [hN]; omega, fun z => by unfold stat at z; omega, ?_⟩
  show oOk D0 g p
  have e9 : ¬ (p = 130 ∨ p = 323) → (dE D0 p).1 = 9 := fun c => by
    show (eZ p).1 = 9
    unfold eZ
    rw [if_neg c, if_pos (by omega)]
  by_cases c : p = 130 ∨ p = 323
  · obtain ⟨o, ho, rfl⟩ : ∃ o, o < 2 ∧ p = 130 + 193 * o := by
      rcases c with z | z
      · exact ⟨0, by omega, z⟩
      · exact ⟨1, by omega, z⟩
    have e3 : dE D0 (130 + 193 * o) = (3, kZ 18 0) := z_eZ ho
    have o1 := z_o1 o ho
    have o2 := z_o2 o ho
    have n0 : ∀ k, ¬ 130 + 193 * o + k = 0 := fun k => by omega
    unfold oOk
    rw [e3]
    refine ⟨fun z => absurd z (by decide), fun z => absurd z (by decide), fun _ => ⟨(hK _ (n0 0)).trans o1.1, fun k hk => (hM _ _ (n0 0)).trans (o2.2.2 k hk), (hM _ _ (n0 0)).trans o1.2.1, (hK _ (n0 1)).trans o1.2.2.1, fun k hk => ⟨(hM _ _ (n0 1)).trans (z_o3 o ho k hk).1, (hK _ (by rw [Nat.add_assoc]; exact n0 _)).trans (z_o3 o ho k hk).2⟩, (hL _ (n0 2)).trans o1.2.2.2, (hL _ (n0 3)).trans o2.1, (hL _ (n0 4)).trans o2.2.1, fun k hk => (hM _ _ (n0 2)).trans (z_o4 o ho k hk), fun k hk => ⟨(hM _ _ (n0 3)).trans (z_o5 o ho k hk).1, (hM _ _ (n0 4)).trans (z_o5 o ho k hk).2⟩, fun k k1 k4 => z_o6 o ho k (by omega) k1⟩, fun z => absurd z (by decide), fun z => absurd z (by decide)⟩
  · have e := e9 c
    unfold oOk
    rw [e]
    exact ⟨fun z => absurd z (by decide), fun z => absurd z (by decide), fun z => absurd z (by decide), fun z => absurd z (by decide), fun z => absurd z (by decide)⟩
theorem z_rep (hK : ∀ a, ¬ a = 0 → pK g a = oK (cAt a)) (hL : ∀ a, ¬ a = 0 → pL g a = oL (cAt a)) (hM : ∀ a k, ¬ a = 0 → pM g a k = oM (cAt a) k) (hK0 : pK g 0 = 20) (hL0 : pL g 0 = L) (hM0 : ∀ k, pM g 0 k = .int (xs k)) (hN : pN g = 388) (hC : pC g = 387) (hZ : pZ g = 3688) : Rep (X0 L xs) g := by
  have dEz : ∀ p, dE (xD (X0 L xs)) p = eZ p := fun _ => rfl
  have aA : ∀ o i, dA (xD (X0 L xs)) o i = if o < 2 then aS o i + 7 else bB o + 33 + i := fun _ _ => rfl
  have aR : ∀ o i, dR (xD (X0 L xs)) o i = if o < 2 then 64 else 112 := fun _ _ => rfl
  refine ⟨⟨by omega, by rw [hC]; exact Nat.le_refl _, by rw [hZ]; exact Nat.le_refl _, by rw [hN]; rfl⟩, z_sh hK hL, z_nm hM, z_sf hM, ⟨(hM 1 2 (by omega)).trans z_h2.1, (hM 1 3 (by omega)).trans z_h2.2.1, (hM 1 4 (by omega)).trans z_h2.2.2, hK0, hL0, fun k _ => hM0 k⟩, ⟨fun o ho => ⟨?_, fun i hi => ⟨?_, ?_⟩⟩, fun o h2 h4 => ⟨?_, fun i hi => ?_⟩⟩, fun o ho => ⟨?_, fun i hi => ?_, fun c hc => ?_⟩, fun o i ho hi => ?_, fun o i h2 h4 hi => ?_, fun o i ho hi => ⟨?_, ?_, fun o' i' ho' hi' he => ?_⟩, fun o i ho hi => ?_, fun o c ho hc => ⟨fun _ => ?_, fun z => ?_⟩, fun o ho => ⟨?_, fun j hj => ?_, fun j hj => ?_, fun j j' hj hj' he => ?_, fun q hq => ?_, fun j u hu => ?_⟩, fun o h2 h4 j u hu => ?_, z_ob hK hL hM hN⟩
  · rw [(xK0_2 o).1]; exact (hM _ _ (by show ¬ 2 + 193 * o + 3 = 0; omega)).trans (z_t1 o ho).1
  · rw [(xK0_2 o).2 i]; exact (hM _ _ (by show ¬ 135 + 193 * o + 8 * i = 0; omega)).trans (z_t3 o ho i hi).1
  · exact (hM _ _ (by show ¬ 135 + 193 * o + 8 * i = 0; omega)).trans (z_t3 o ho i hi).2.1
  · rw [(xK0_2 o).1]; exact (hM _ _ (by show ¬ 267 + 61 * o = 0; omega)).trans (z_r1 o h4 h2).2.2
  · rw [(xK0_2 o).2 i]; exact (hM _ _ (by show ¬ 267 + 61 * o + 31 = 0; omega)).trans (z_t7 o h4 h2 i hi).1
  · rw [(xK0_2 o).1]; exact Nat.zero_le _
  · by_cases e : o = 3
    · rw [show xK (X0 L xs) o = (fun _ _ _ => 0, fun _ => [], []) from if_pos e]; exact Or.inl rfl
    · rw [xK0 e]; exact Or.inr rfl
  · by_cases e : o = 3
    · rw [show xK (X0 L xs) o = (fun _ _ _ => 0, fun _ => [], []) from if_pos e]; exact Or.inl rfl
    · rw [xK0 e]; exact Or.inl rfl
  · rw [aA, aR, if_pos ho, if_pos ho, (xK0_2 o).2 i]
    have n7 : ¬ aS o i + 7 = 0 := by omega
    have t4 := z_t4 o ho i hi
    exact ⟨(hM _ _ (by show ¬ 135 + 193 * o + 8 * i = 0; omega)).trans (z_t3 o ho i hi).2.2, (hK _ n7).trans t4.1, (hL _ n7).trans t4.2.1, Or.inl rfl, Nat.zero_le _, Nat.le_refl _, by omega, fun j hj => absurd rfl hj, fun j e he => by cases he⟩
  · rw [aA, aR, if_neg (by omega), if_neg (by omega), (xK0_2 o).2 i]
    have n7 : ¬ bB o + 33 + i = 0 := by omega
    have t8 := z_t8 o h4 h2 i hi
    exact ⟨(hM _ _ (by show ¬ 267 + 61 * o + 32 = 0; omega)).trans (z_t7 o h4 h2 i hi).2.1, (hK _ n7).trans (z_t7 o h4 h2 i hi).2.2, (hL _ n7).trans t8.1, Or.inl rfl, Nat.zero_le _, fun k hk => (hM _ _ n7).trans (t8.2 k hk), fun j e he => by cases he⟩
  · rw [aA, hN]
    by_cases c : o < 2
    · rw [if_pos c]; show 135 + 193 * o + 8 * i + 7 < 388; omega
    · rw [if_neg c]; show 267 + 61 * o + 33 + i < 388; omega
  · rw [aA, dEz]
    refine Classical.byContradiction (fun z => ?_)
    have hr := z_stat z
    by_cases c : o < 2
    · rw [if_pos c] at hr
      have hr' : (130 ≤ 135 + 193 * o + 8 * i + 7 ∧ 135 + 193 * o + 8 * i + 7 ≤ 134) ∨ (323 ≤ 135 + 193 * o + 8 * i + 7 ∧ 135 + 193 * o + 8 * i + 7 ≤ 327) := hr
      rcases (by omega : o = 0 ∨ o = 1) with rfl | rfl <;> omega
    · rw [if_neg c] at hr
      have hr' : (130 ≤ 267 + 61 * o + 33 + i ∧ 267 + 61 * o + 33 + i ≤ 134) ∨ (323 ≤ 267 + 61 * o + 33 + i ∧ 267 + 61 * o + 33 + i ≤ 327) := hr
      omega
  · rw [aA, aA] at he
    by_cases c : o < 2
    · by_cases c' : o' < 2
      · rw [if_pos c, if_pos c'] at he
        have he' : 135 + 193 * o + 8 * i + 7 = 135 + 193 * o' + 8 * i' + 7 := he
        omega
      · rw [if_pos c, if_neg c'] at he
        have he' : 135 + 193 * o + 8 * i + 7 = 267 + 61 * o' + 33 + i' := he
        omega
    · by_cases c' : o' < 2
      · rw [if_neg c, if_pos c'] at he
        have he' : 267 + 61 * o + 33 + i = 135 + 193 * o' + 8 * i' + 7 := he
        omega
      · rw [if_neg c, if_neg c'] at he
        have he' : 267 + 61 * o + 33 + i = 267 + 61 * o' + 33 + i' := he
        omega
  · refine ⟨130 + 193 * o, (hM _ _ (by show ¬ 135 + 193 * o + 8 * i = 0; omega)).trans (z_t4 o ho i hi).2.2, kZ 18 0, z_eZ ho, fun k _ => ?_⟩
    rw [xK0 (by omega)]
    rfl
  · exact (hM _ _ (by show ¬ 191 + 193 * o + c = 0; omega)).trans (z_c7 o ho c hc).2.2.1
  · rw [xK0 (by omega)] at z
    exact absurd rfl z
  · exact (hM _ _ (by show ¬ 2 + 193 * o + 3 = 0; omega)).trans (z_t1 o ho).2
  · refine (hM _ _ (by show ¬ 2 + 193 * o + 4 = 0; omega)).trans ((z_t2 o ho j hj).trans ?_)
    show Value.ref (aM o (j + 1)) = .ref (aM o (if j = 60 then 0 else j + 1))
    rw [if_neg (by omega)]
  · show (if j = 60 then 0 else j + 1) < 61
    split <;> omega
  · have he' : (if j = 60 then 0 else j + 1) = (if j' = 60 then 0 else j' + 1) := he
    by_cases c : j = 60
    · rw [if_pos c] at he'
      by_cases c' : j' = 60
      · omega
      · rw [if_neg c'] at he'; omega
    · rw [if_neg c] at he'
      by_cases c' : j' = 60
      · rw [if_pos c'] at he'; omega
      · rw [if_neg c'] at he'; omega
  · have nM : ∀ k, ¬ aM o q + k = 0 := fun k => by show ¬ 8 + 193 * o + 2 * q + k = 0; omega
    have t6 := z_t6 o ho q hq
    exact ⟨fun k k1 k9 => (hM _ _ (nM 0)).trans (z_t5 o ho q hq k (by omega) k1), Or.inl rfl, fun _ => (hM _ _ (nM 0)).trans t6.1, (fun r hr => by cases hr), ⟨Nat.zero_le _, fun j hj => Or.inl ((hM _ _ (nM 1)).trans (t6.2 j hj))⟩, fun j e he => by cases he⟩
  · rw [(xK0_2 o).1] at hu; cases hu
  · rw [(xK0_2 o).1] at hu; cases hu
end REP0
