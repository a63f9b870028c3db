/-! ===== THE LAW: what would be; all calls ===== -/
section AHD
variable {n0 : Nat} {sc : Nat → Int32} {c : Nat} {X : XS} {w m : Nat} {ew em : PV}
/-- one call of what would be -/
theorem ah1 {v : Int32} {c1 z1 c2 z2 S P A : Nat} (hL : LI n0 sc c X) (hc : c ≤ 511) (hd : dOk S P A (xD X)) (hgh : kGh (5000 * (600 - c)) S P A (xK X 2)) (hSP : S + P ≤ c) (hz : z1 + z2 ≤ 4000) (hc2 : c1 + c2 ≤ 600)
    (hm : ∀ Y, xK Y 2 = xK X 2 → aPr Y 2 → rOkR Y 3 → RU m em Y (some (.int v)) (fun Z => ∃ K3, rRel0 3 (A + 49) c2 z2 (xSetT Y 0) Z K3)) : ∀ Y, lRel 1 (A + 48) c1 z1 X Y → ∀ o : Int64, RU m em (xSetO Y o) (some (.int v)) (fun Z => xT Z = 0 ∧ xO Z = o ∧ LI n0 sc (c + 1) Z) := fun Y r1 o => by
  refine (hm (xSetO Y o) (r1.2.1 2 (by omega)) (fun i hi => ?_) (fun i hi => ?_)).m (fun Z hZ => ?_)
  · show dV (xD Y) 2 20 i 0 = (xK Y 2).1 15 i 0
    rw [r1.2.2.2.1 2 20 i 0 (by omega), r1.2.1 2 (by omega)]
    exact hL.2.2.2.2.1 i hi
  · show 112 ≤ dR (xD Y) 3 i ∧ dR (xD Y) 3 i ≤ 5600000
    rw [r1.2.2.1 3 i (by omega)]
    exact (hL.rok (by omega)).2 i hi
  · obtain ⟨K3, q1⟩ := hZ
    refine ⟨congrArg (fun z => z.1) q1.1, congrArg (fun z => z.2.2.1) q1.1, ?_⟩
    exact hL.ah (S := S) (P := P) (A := A) hd (by rw [hL.2.1]; exact hgh) r1 (X2 := xSetT (xSetO Y o) 0) rfl (fun _ => rfl) rfl q1 hSP hz hc2
theorem qp_ah {v : Int32} {c1 z1 c2 z2 S P A : Nat} (hL : LI n0 sc c X) (hc : c ≤ 511) (hd : dOk S P A (xD X)) (hgh : kGh (5000 * (600 - c)) S P A (xK X 2)) (hSP : S + P ≤ c) (hz : z1 + z2 ≤ 4000) (hc2 : c1 + c2 ≤ 600) (hw : RU w ew X (some (.int 0)) (fun Z => ∃ Y, lRel 1 (A + 48) c1 z1 X Y ∧ Z = xSetO Y v.toInt64))
    (hm : ∀ Y, xK Y 2 = xK X 2 → aPr Y 2 → rOkR Y 3 → RU m em Y (some (.int v)) (fun Z => ∃ K3, rRel0 3 (A + 49) c2 z2 (xSetT Y 0) Z K3)) : qPair w m ew em X (LI n0 sc (c + 1)) :=
  qp_m hw (fun Y hY => congrArg (fun z => z.2.2.2) hY.1) (fun Y hY => ah1 hL hc hd hgh hSP hz hc2 hm Y hY _)
theorem LI.hz (hL : LI n0 sc c X) (hc : c ≤ 511) : ∀ q, q < 4 → (xK X 2).1 34 q 3 = 0 → ∀ j, j < 7 → (xK X 2).1 34 q j = 0 := fun q hq h0 => by
  rcases hL.n.2.2.2 q hq with ⟨-, z⟩ | ⟨n, n1, n2, n3, -⟩
  · exact z
  · exfalso
    rw [n3, show (0 : Int32) = Int32.ofNat 0 from rfl, i32_eq (by omega) (by omega)] at h0
    omega
/-- J of now, with what the rounds need -/
theorem LI.j {S P A : Nat} (hL : LI n0 sc c X) (hc : c ≤ 511) (hgh : kGh (5000 * (600 - c)) S P A (xK X 2)) : ∃ m0, A + 48 ≤ 12400 ∧ kInv (A + 48) (fun k => JJ m0 A (A + 48) (PF (xK X 2)) (k + 0)) ∧ (∀ k, k ≤ 400000 → JJ m0 A (A + 48) (PF (xK X 2)) k (xK X 2)) ∧ (∀ k s, k ≤ 400000 → s < 7 → JJ m0 A (A + 48) (PF (xK X 2)) k (kSoundA (xK X 2) s)) ∧ ∀ k s, k ≤ 400000 → s < 7 → JJ m0 A (A + 48) (PF (xK X 2)) k (kDown (xK X 2) s) := by
  obtain ⟨m0, G, L, g, -⟩ := id hgh
  have hn := hL.n
  have fd : ∀ s f i j, f = 30 ∨ f = 34 → (kDown (xK X 2) s).1 f i j = (xK X 2).1 f i j := fun s f i j hf => (kRest_1 (by omega)).trans (kSet_ne (by omega))
  refine ⟨m0, g.2.2.2.2.2.2, (JJ.inv m0 A (A + 48) (PF.fr (xK X 2))).sh 0, fun k hk => ⟨⟨G, g.mono (by omega)⟩, hn.1, fun _ => rfl, fun _ _ => rfl⟩, fun k s hk hs => ⟨(g.mono (k' := k + 1) (by omega)).soundA hs, fun a b ha hb => ?_, fun i => ?_, fun q j => ?_⟩, fun k s hk hs => ⟨⟨G, (g.mono (by omega)).down hs⟩, fun a b ha hb => ?_, fun i => ?_, fun q j => ?_⟩⟩
  · rw [kSoundA_f (by unfold frF; omega), kSoundA_f (by unfold frF; omega)]; exact hn.1 a b ha hb
  · exact kSoundA_f (by unfold frF; omega)
  · exact kSoundA_f (by unfold frF; omega)
  · rw [fd s 30 a 0 (by omega), fd s 30 b 0 (by omega)]; exact hn.1 a b ha hb
  · exact fd s 30 i 0 (by omega)
  · exact fd s 34 q j (by omega)
theorem p_59 (hL : LI n0 sc c X) (hc : c ≤ 511) : pr_59 (LI n0 sc) c X := by
  unfold pr_59
  refine (Classical.em (∃ g, Rep X g)).elim (fun hr => ?_) (fun hr => ⟨0, fun g hg => absurd ⟨g, hg⟩ hr⟩)
  have h60 := (hr.choose_spec.2.2.2.2.2.2.1 2 (by omega)).1
  obtain ⟨S, P, A, hSP, hgh, hd⟩ := hL.g
  obtain ⟨m0, hB, hJ, hX, -, -⟩ := hL.j hc hgh
  have hu := kUnt_p hJ (k := 0) (sRch 0 0) 30 (xK X 2) (hX _ (by omega)) h60
  have hφ := phi_le h60
  have h1 := c_154 (X := X) hJ hL.2.2.1 hL.2.2.2.1 (by rw [hL.2.1]; exact hX _ (by omega)) (by rw [hL.2.1]; exact hL.hz hc)
  rw [hL.2.1] at h1
  refine ⟨_, h1.m (fun Y hY => ?_)⟩
  refine (ah1 (c2 := kUntN (sRch 0 0) 30 (xK X 2)) (z2 := kUntN (sRch 0 0) 30 (xK X 2) * 7) hL hc hd hgh hSP (by show _ * 4 + _ ≤ _; omega) (by omega) (fun Y e2 hap hR => ?_) Y hY (xO Y)).m (fun Z hZ => hZ.2.2)
  have h2 := c_313 (X := Y) (m := A + 49) hJ (fun k K h => JJ.rf _ K h) (by omega) (by omega) (by rw [e2]; exact hX _ (by omega)) hap hR
  rw [e2] at h2
  exact h2.m (fun Z hZ => ⟨_, hZ⟩)
theorem p_61 (hL : LI n0 sc c X) (hc : c ≤ 511) : pr_61 (LI n0 sc) c X := by
  unfold pr_61
  refine (Classical.em (∃ g, Rep X g)).elim (fun hr => ?_) (fun hr => ⟨0, fun g hg => absurd ⟨g, hg⟩ hr⟩)
  have h60 := (hr.choose_spec.2.2.2.2.2.2.1 2 (by omega)).1
  obtain ⟨S, P, A, hSP, hgh, hd⟩ := hL.g
  obtain ⟨m0, hB, hJ, hX, -, -⟩ := hL.j hc hgh
  have hu := kUnt_p hJ (k := 0) (sRch 2 0) 30 (xK X 2) (hX _ (by omega)) h60
  have hφ := phi_le h60
  have h1 := c_156 (X := X) hJ hL.2.2.1 hL.2.2.2.1 (by rw [hL.2.1]; exact hX _ (by omega)) (by rw [hL.2.1]; exact hL.hz hc)
  rw [hL.2.1] at h1
  refine ⟨_, h1.m (fun Y hY => ?_)⟩
  refine (ah1 (c2 := kUntN (sRch 2 0) 30 (xK X 2)) (z2 := kUntN (sRch 2 0) 30 (xK X 2) * 7) hL hc hd hgh hSP (by show _ * 4 + _ ≤ _; omega) (by omega) (fun Y e2 hap hR => ?_) Y hY (xO Y)).m (fun Z hZ => hZ.2.2)
  have h2 := c_315 (X := Y) (m := A + 49) hJ (fun k K h => JJ.rf _ K h) (by omega) (by omega) (by rw [e2]; exact hX _ (by omega)) hap hR
  rw [e2] at h2
  exact h2.m (fun Z hZ => ⟨_, hZ⟩)
theorem p_60 (hL : LI n0 sc c X) (hc : c ≤ 511) : pr_60 (LI n0 sc) c X := by
  unfold pr_60
  generalize (xC X).2 (5 * c + 1) = a1
  refine qPair.rep (fun hr => ?_)
  have h60 := (hr.choose_spec.2.2.2.2.2.2.1 2 (by omega)).1
  obtain ⟨S, P, A, hSP, hgh, hd⟩ := hL.g
  obtain ⟨m0, hB, hJ, hX, -, -⟩ := hL.j hc hgh
  rcases i32_srv 4 (by omega) a1 with ⟨q, hq, rfl⟩ | e
  · have hu := kUnt_p hJ (k := 0) (sRch 1 q) 30 (xK X 2) (hX _ (by omega)) h60
    have hφ := phi_le h60
    have h1 := c_155 (X := X) hq hJ hL.2.2.1 hL.2.2.2.1 (by rw [hL.2.1]; exact hX _ (by omega)) (by rw [hL.2.1]; exact hL.hz hc)
    rw [hL.2.1] at h1
    refine qp_ah (c2 := kUntN (sRch 1 q) 30 (xK X 2)) (z2 := kUntN (sRch 1 q) 30 (xK X 2) * 7) hL hc hd hgh hSP (by show _ * 4 + _ ≤ _; omega) (by omega) (w_375 h1) (fun Y e2 hap hR => ?_)
    cases ho : sOpen (xK X 2) q with
    | true =>
      have h34 : ¬ (xK X 2).1 34 q 3 = 0 := fun z => by
        unfold sOpen at ho
        rw [z] at ho
        exact absurd ho (by simp)
      have h2 := c_314 (X := Y) hq (m := A + 49) hJ (fun k K h => JJ.rf _ K h) (by omega) (by omega) (by rw [e2]; exact hX _ (by omega)) hap hR (fun k K h => by rw [h.2.2.2 q 3]; exact h34) (by rw [e2]; exact ho)
      rw [e2] at h2
      exact h2.m (fun Z hZ => ⟨_, hZ⟩)
    | false =>
      have h1s : sRch 1 q (xK X 2) = true := by
        unfold sOpen at ho
        unfold sRch sReach
        rw [if_neg (by decide), if_pos rfl]
        by_cases h35 : (xK X 2).1 35 q 0 = 0
        · rw [decide_eq_true h35, Bool.and_true] at ho ⊢
          have h3 : (xK X 2).1 34 q 3 ≤ 0 := Classical.not_not.mp (fun z => by rw [decide_eq_true z] at ho; cases ho)
          rcases hL.n.2.2.2 q hq with ⟨z, -⟩ | ⟨n, n1, n2, n3, -⟩
          · rw [z]; rfl
          · exfalso
            rw [n3, show (0 : Int32) = Int32.ofNat 0 from rfl, i32_le (by omega) (by omega)] at h3
            omega
        · rw [decide_eq_false h35, Bool.and_false]; rfl
      have hv : kUntV (sRch 1 q) 30 0 (xK X 2) = 0 := by unfold kUntV; rw [if_pos h1s]; rfl
      have h2 := c_314n (X := Y) hq (by rw [e2]; exact ho)
      rw [hv]
      exact RT.m h2 ⟨_, (rRel0.rf 3 (A + 49) (xSetT Y 0)).up (Nat.zero_le _) (Nat.zero_le _)⟩
  · exact qp_x hL (w_375x2 (c_155x e)) (c_314x e) (by decide)
theorem p_62 (hL : LI n0 sc c X) (hc : c ≤ 511) : pr_62 (LI n0 sc) c X := by
  unfold pr_62
  generalize (xC X).2 (5 * c + 1) = a1
  refine qPair.rep (fun hr => ?_)
  have h60 := (hr.choose_spec.2.2.2.2.2.2.1 2 (by omega)).1
  obtain ⟨S, P, A, hSP, hgh, hd⟩ := hL.g
  obtain ⟨m0, hB, hJ, hX, hXs, -⟩ := hL.j hc hgh
  rcases i32_srv 7 (by omega) a1 with ⟨s, hs, rfl⟩ | e
  · obtain ⟨k1, k2, k3, k4, k5, -⟩ := hgh.ok hs
    cases hb : sMayS (xK X 2) s with
    | false =>
      have h1 := c_157n (X := X) hs hL.2.2.1 (by rw [hL.2.1]; exact hb)
      exact qp_q hL (w_376 (RT.u h1)) (c_316n hs k1 hb)
    | true =>
      have hφ := phi_le h60
      obtain ⟨p1, p2⟩ := (kSoundA_p (xK X 2) s).ph hs
      obtain ⟨p3, -, -⟩ := kRnds_p hJ (k := 0) 3 (kSoundA (xK X 2) s) (hXs _ s (by omega) hs) (p2 h60)
      have h1 := c_157 (X := X) hs hJ hL.2.2.1 hL.2.2.2.1 (by rw [hL.2.1]; exact hX _ (by omega)) (by rw [hL.2.1]; exact hL.hz hc) (by rw [hL.2.1]; exact hb) (by rw [hL.2.1]; exact hXs _ s (by omega) hs)
      rw [hL.2.1] at h1
      refine qp_ah (c2 := kSoundN (xK X 2) s + kRndsN 3 (kSoundA (xK X 2) s)) (z2 := (kSoundN (xK X 2) s + kRndsN 3 (kSoundA (xK X 2) s)) * 7) hL hc hd hgh hSP (by show _ * 4 + _ ≤ _; omega) (by omega) (w_376 h1) (fun Y e2 hap hR => ?_)
      have h2 := c_316 (X := Y) hs (m := A + 49) hJ (fun k K h => JJ.rf _ K h) (by omega) (by omega) (by rw [e2]; exact hX _ (by omega)) hap hR (by rw [e2]; exact hb) (by rw [e2]; exact hXs _ s (by omega) hs)
      rw [e2] at h2
      exact h2.m (fun Z hZ => ⟨_, hZ⟩)
  · exact qp_x hL (w_376x2 (c_157x1 e)) (c_316x e) (by decide)
theorem p_63 (hL : LI n0 sc c X) (hc : c ≤ 511) : pr_63 (LI n0 sc) c X := by
  unfold pr_63
  generalize (xC X).2 (5 * c + 1) = a1
  refine qPair.rep (fun hr => ?_)
  have h60 := (hr.choose_spec.2.2.2.2.2.2.1 2 (by omega)).1
  obtain ⟨S, P, A, hSP, hgh, hd⟩ := hL.g
  obtain ⟨m0, hB, hJ, hX, -, hXd⟩ := hL.j hc hgh
  rcases i32_srv 7 (by omega) a1 with ⟨s, hs, rfl⟩ | e
  · by_cases hup : (xK X 2).1 4 s 0 = 0
    · exact qp_x hL (w_377x1 (c_158x2 hs (by rw [hL.2.1]; exact hup))) (c_317x2 hs hup) (by decide)
    · have h60d : (kDown (xK X 2) s).2.2.length ≤ 60 := h60
      have hu := kUnt_p hJ (k := 0) (sRch 3 0) 30 (kDown (xK X 2) s) (hXd _ s (by omega) hs) h60d
      have hφ := phi_le h60d
      have h1 := c_158 (X := X) hs hJ hL.2.2.1 hL.2.2.2.1 (by rw [hL.2.1]; exact hX _ (by omega)) (by rw [hL.2.1]; exact hL.hz hc) (by rw [hL.2.1]; exact hup) (by rw [hL.2.1]; exact hXd _ s (by omega) hs)
      rw [hL.2.1] at h1
      refine qp_ah (c2 := kUntN (sRch 3 0) 30 (kDown (xK X 2) s)) (z2 := kUntN (sRch 3 0) 30 (kDown (xK X 2) s) * 7) hL hc hd hgh hSP (by show _ * 4 + _ ≤ _; omega) (by omega) (w_377 h1) (fun Y e2 hap hR => ?_)
      have h2 := c_317 (X := Y) hs (m := A + 49) hJ (fun k K h => JJ.rf _ K h) (by omega) (by omega) (by rw [e2]; exact hX _ (by omega)) hap hR (by rw [e2]; exact hup) (by rw [e2]; exact hXd _ s (by omega) hs)
      rw [e2] at h2
      exact h2.m (fun Z hZ => ⟨_, hZ⟩)
  · exact qp_x hL (w_377x2 (c_158x1 e)) (c_317x1 e) (by decide)
/-- all calls -/
theorem law_ok : lawOk (LI n0 sc) := fun c X hL h1 h2 => by
  have hc : c ≤ 511 := by omega
  exact ⟨p_0 hL hc, p_1 hL hc, p_2 hL hc, p_3 hL hc, p_4 hL hc, p_5 hL hc, p_6 hL hc, p_7 hL hc, p_8 hL hc, p_9 hL hc, p_10 hL hc, p_11 hL hc, p_12 hL, p_13 hL hc, p_14 hL hc, p_15 hL hc, p_16 hL, p_17 hL, p_18 hL, p_19 hL, p_20 hL, p_21 hL hc, p_22 hL hc, p_23 hL hc, p_24 hL hc, p_25 hL, p_26 hL, p_27 hL, p_28 hL, p_29 hL, p_30 hL, p_31 hL, p_32 hL, p_33 hL, p_34 hL, p_35 hL, p_36 hL, p_37 hL, p_38 hL, p_39 hL, p_40 hL, p_41 hL, p_42 hL, p_43 hL, p_44 hL, p_45 hL, p_46 hL, p_47 hL, p_48 hL, p_49 hL, p_50 hL, p_51 hL, p_52 hL, p_53 hL, p_54 hL, p_55 hL, p_56 hL, p_57 hL, p_58 hL, p_59 hL hc, p_60 hL hc, p_61 hL hc, p_62 hL hc, p_63 hL hc, p_64 hL, p_65 hL⟩
end AHD
