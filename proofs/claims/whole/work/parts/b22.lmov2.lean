/-! ===== THE LAW: rounds, shortening, members, messages ===== -/
theorem kInv.sh {n : Nat} {J : Nat → KK → Prop} (h : kInv n J) (k0 : Nat) : kInv n (fun k => J (k + k0)) := by
  obtain ⟨a, b, c, d, e⟩ := h
  have r : ∀ k, k + 1 + k0 = k + k0 + 1 := fun k => by omega
  refine ⟨fun k K h => a _ K h, fun k K i hi h => b _ K i hi (by rw [← r]; exact h), fun k K h => c _ K (by rw [← r]; exact h), fun k K h => d _ K (by rw [← r]; exact h), fun k K h => e _ K (by rw [← r]; exact h)⟩
/-- what no round changes of links and clients -/
def PF (K : KK) (f : Nat → Nat → Nat → Int32) : Prop := (∀ i, f 30 i 0 = K.1 30 i 0) ∧ ∀ q j, f 34 q j = K.1 34 q j
theorem PF.fr (K : KK) : PFr (PF K) := fun K1 K2 h hp => ⟨fun i => (h 30 i 0 (by unfold frF; omega)).trans (hp.1 i), fun q j => (h 34 q j (by unfold frF; omega)).trans (hp.2 q j)⟩
section MV2
variable {n0 : Nat} {sc : Nat → Int32} {c : Nat} {X : XS}
theorem LI.n (hL : LI n0 sc c X) : kNum c (dV (xD X) 0 31 0 0) (xK X 2) := by
  have := hL.2.2.2.2.2.1
  rw [hL.2.1] at this
  exact this
theorem range30 {m : Int32} (h : (1 : Int32) ≤ m ∧ m ≤ 30) : ∃ N : Nat, N ≤ 30 ∧ m = Int32.ofNat N := by
  rcases i32_srv 31 (by omega) m with ⟨s, hs, rfl⟩ | z | z
  · exact ⟨s, by omega, rfl⟩
  · exact absurd (Int32.lt_of_le_of_lt h.1 z) (by decide)
  · exact absurd (Int32.le_trans (Int32.not_lt.mp z) h.2) (by decide)
theorem p_5 (hL : LI n0 sc c X) (hc : c ≤ 511) : pr_5 (LI n0 sc) c X := by
  unfold pr_5
  generalize (xC X).2 (5 * c + 1) = a1
  refine qPair.rep (fun hr => ?_)
  have h60 := (hr.choose_spec.2.2.2.2.2.2.1 2 (by omega)).1
  obtain ⟨S, P, A, hSP, hgh, hd⟩ := hL.g
  by_cases hm : (1 : Int32) ≤ a1 ∧ a1 ≤ 30
  · obtain ⟨N, hN, rfl⟩ := range30 hm
    obtain ⟨m0, G, L, g, -⟩ := id hgh
    have hB := g.2.2.2.2.2.2
    have hn := hL.n
    have hJ := (JJ.inv m0 A (A + 48) (PF.fr (xK X 2))).sh (5000 * (600 - (c + 1)))
    have hX : JJ m0 A (A + 48) (PF (xK X 2)) (2040 + 5000 * (600 - (c + 1))) (xK X 2) := ⟨⟨G, g.mono (by omega)⟩, hn.1, ⟨fun _ => rfl, fun _ _ => rfl⟩⟩
    obtain ⟨q1, q2, q3⟩ := kRnds_p hJ (k := 2040 - 68 * N) N (xK X 2) (by
      show JJ m0 A (A + 48) (PF (xK X 2)) (2040 - 68 * N + 68 * N + 5000 * (600 - (c + 1))) (xK X 2)
      rw [show 2040 - 68 * N + 68 * N = 2040 by omega]; exact hX) h60
    have hφ := phi_le h60
    have h1 := c_100 (X := X) hJ hL.2.2.1 (by rw [hL.2.1]; exact hX) rfl (by omega) hm
    rw [hL.2.1] at h1
    obtain ⟨⟨G', g'⟩, -, f1, f2⟩ := q3
    refine qp_mv (S' := S) (P' := P + 1) (c2 := kRndsN N (xK X 2)) (z2 := kRndsN N (xK X 2) * 7) (K' := kRnds N (xK X 2)) hL hc hd (Nat.le_refl _) (w_327 h1) (fun Y hY => cR0 hL hY f1 f2) (fun Y e2 hap hR => ?_) (hgh.next (fun m0' G0 g0 => ?_)) (by omega) (by show _ + _ * 4 + _ ≤ _; omega) (by omega)
    · have h2 := c_248 (X := Y) (m := A + 49) hJ (fun k K h => JJ.rf _ K h) (by omega) (by omega) rfl (by omega) hm (by rw [e2]; exact hX) hap hR
      rw [e2] at h2
      exact h2.m (fun Z hZ => ⟨hZ.1, hZ.2.1⟩)
    · have hJ0 := (JJ.inv m0' A (A + 48) (PF.fr (xK X 2))).sh (5000 * (600 - (c + 1)))
      have hX0 : JJ m0' A (A + 48) (PF (xK X 2)) (2040 - 68 * N + 68 * N + 5000 * (600 - (c + 1))) (xK X 2) := ⟨⟨G0, g0.mono (by omega)⟩, hn.1, ⟨fun _ => rfl, fun _ _ => rfl⟩⟩
      obtain ⟨-, -, ⟨G1, g1⟩, -⟩ := kRnds_p hJ0 (k := 2040 - 68 * N) N (xK X 2) hX0 h60
      exact ⟨G1, g1.mono (by omega)⟩
  · exact qp_x hL (w_327x0 (c_100x hm)) (c_248x hm) (by decide)
theorem kGh.cut {k k' S P A : Nat} {K : KK} {s : Nat} (h : kGh k S P A K) (hs : s < 7) (hk : k' ≤ k) (hSP : S + P ≤ 511) : ∃ A', A ≤ A' ∧ kGh k' (S + 1) P A' (kCut K s (kC K s - kA K s) (sSnap K s (kC K s - kA K s))) := by
  obtain ⟨m0, G, L, h1, h2, h3, h4, h5, h6⟩ := h
  have l1 : ∀ i, i < 7 → (gF G i).length ≤ min L (A + 48) := fun i hi => by have := h2 i hi; have := (h1.2.1 i hi).1.2.1; omega
  have l2 : ∀ t, ¬ gD G t = none → (gL G t).length ≤ min L (A + 48) := fun t ht => by have := h3 t ht; have := (h1.2.2.2.2.1 t ht).1; omega
  exact ⟨min L (A + 48), by omega, m0, G, min L (A + 48), (h1.mono hk).cut hs (by omega) (Nat.le_refl _) (by omega) l1 l2, l1, l2, Nat.le_refl _, by omega, by omega⟩
theorem p_8 (hL : LI n0 sc c X) (hc : c ≤ 511) : pr_8 (LI n0 sc) c X := by
  unfold pr_8
  generalize (xC X).2 (5 * c + 1) = a1
  obtain ⟨S, P, A, hSP, hgh, hd⟩ := hL.g
  rcases i32_srv 7 (by omega) a1 with ⟨s, hs, rfl⟩ | e
  · obtain ⟨k1, k2, k3, k4, k5, -⟩ := hgh.ok hs
    by_cases hup : (xK X 2).1 4 s 0 = 0
    · exact qp_x hL (w_330x1 (c_103x2 hs (by rw [hL.2.1]; exact hup))) (c_251x2 hs hL.2.2.2.2.1 hup) (by decide)
    · by_cases hcc : (xK X 2).1 18 s 0 < (xK X 2).1 15 s 0
      · have h1 := c_103 (X := X) (n := A + 48) hs hL.2.2.1 (by rw [hL.2.1]; exact k1) (by rw [hL.2.1]; exact hup) (by rw [hL.2.1]; exact hcc)
        rw [hL.2.1] at h1
        obtain ⟨A', hA, hg'⟩ := hgh.cut (k' := 5000 * (600 - (c + 1))) hs (by omega) (by omega)
        refine qp_mv (S' := S + 1) (P' := P) (c2 := 0) (z2 := 0) hL hc hd hA (w_330 h1) (fun Y hY => cR0 hL hY.1 (fun i => kCut_1 (by omega)) (fun q j => kCut_1 (by omega))) (fun Y e2 hap hR => ?_) hg' (by omega) (by show _ + (4 + 3 + 16) + _ ≤ _; omega) (by omega)
        have h2 := c_251 (X := Y) (m := A + 49) hs hap (by rw [e2]; exact k1) (by rw [e2]; exact hup) (by rw [e2]; exact hcc)
        rw [e2] at h2
        exact h2
      · exact qp_x hL (w_330x1 (c_103x3 hs (by rw [hL.2.1]; exact hup) (by rw [hL.2.1]; exact hcc))) (c_251x3 hs hL.2.2.2.2.1 hup hcc) (by decide)
  · exact qp_x hL (w_330x2 (c_103x1 e)) (c_251x1 e) (by decide)
theorem p_10 (hL : LI n0 sc c X) (hc : c ≤ 511) : pr_10 (LI n0 sc) c X := by
  unfold pr_10
  generalize (xC X).2 (5 * c + 1) = a1
  generalize (xC X).2 (5 * c + 2) = a2
  obtain ⟨S, P, A, hSP, hgh, hd⟩ := hL.g
  rcases i32_srv 7 (by omega) a1 with ⟨s, hs, rfl⟩ | e
  · rcases i32_srv 7 (by omega) a2 with ⟨j, hj, rfl⟩ | e2
    · obtain ⟨k1, k2, k3, k4, k5, -⟩ := hgh.ok hs
      cases hb : sMayC (xK X 2) s with
      | false => exact qp_x hL (w_332x1 (c_105x3 hs hj hL.2.2.1 (by rw [hL.2.1]; exact k1) (by rw [hL.2.1]; exact hb))) (c_255x3 hs hj k1 hb) (by decide)
      | true =>
        cases hb2 : sBit (sMem (xK X 2) s) j with
        | true => exact qp_x hL (w_332x1 (c_105x4 hs hj hL.2.2.1 (by rw [hL.2.1]; exact k1) (by rw [hL.2.1]; exact hb) (by rw [hL.2.1]; exact hb2))) (c_255x4 hs hj k1 hb hb2) (by decide)
        | false =>
          have h1 := c_105 (X := X) (n := A + 48) hs hj hL.2.2.1 (by rw [hL.2.1]; exact k1) (by rw [hL.2.1]; exact k2) (by rw [hL.2.1]; exact k3) (by rw [hL.2.1]; exact hb) (by rw [hL.2.1]; exact hb2)
          rw [hL.2.1] at h1
          refine qp_mv (S' := S) (P' := P + 1) (c2 := 1) (z2 := 7) hL hc hd (Nat.le_refl _) (w_332 h1) (fun Y hY => cR0 hL hY.1 (fun i => ?_) (fun q j' => ?_)) (fun Y e2 hap hR => ?_) (hgh.next (fun m0 G g => (g.mono (by omega)).join hs hj hb)) (by omega) (by show _ + 4 + _ ≤ _; omega) (by omega)
          · unfold kJoin
            rw [kLk_1 (by omega), kSet_ne (by omega), kSet_ne (by omega)]; rfl
          · unfold kJoin
            rw [kLk_1 (by omega), kSet_ne (by omega), kSet_ne (by omega)]; rfl
          · have h2 := c_255 (X := Y) (m := A + 49) hs hj hap hR (by rw [e2]; exact k1) (by rw [e2]; exact k2) (by rw [e2]; omega) (by rw [e2]; exact hb) (by rw [e2]; exact hb2)
            rw [e2] at h2
            exact h2
    · exact qp_x hL (w_332x2 (c_105x2 hs e2)) (c_255x2 hs e2) (by decide)
  · exact qp_x hL (w_332x2 (c_105x1 e)) (c_255x1 e) (by decide)
theorem p_11 (hL : LI n0 sc c X) (hc : c ≤ 511) : pr_11 (LI n0 sc) c X := by
  unfold pr_11
  generalize (xC X).2 (5 * c + 1) = a1
  generalize (xC X).2 (5 * c + 2) = a2
  obtain ⟨S, P, A, hSP, hgh, hd⟩ := hL.g
  rcases i32_srv 7 (by omega) a1 with ⟨s, hs, rfl⟩ | e
  · rcases i32_srv 7 (by omega) a2 with ⟨j, hj, rfl⟩ | e2
    · obtain ⟨k1, k2, k3, k4, k5, -⟩ := hgh.ok hs
      cases hb : sMayC (xK X 2) s with
      | false => exact qp_x hL (w_333x1 (c_106x3 hs hj hL.2.2.1 (by rw [hL.2.1]; exact k1) (by rw [hL.2.1]; exact hb))) (c_256x3 hs hj k1 hb) (by decide)
      | true =>
        cases hb2 : sBit (sMem (xK X 2) s) j with
        | false => exact qp_x hL (w_333x1 (c_106x4 hs hj hL.2.2.1 (by rw [hL.2.1]; exact k1) (by rw [hL.2.1]; exact hb) (by rw [hL.2.1]; exact hb2))) (c_256x4 hs hj k1 hb hb2) (by decide)
        | true =>
          by_cases h0 : sFlip (sMem (xK X 2) s) j = 0
          · exact qp_x hL (w_333x1 (c_106x5 hs hj hL.2.2.1 (by rw [hL.2.1]; exact k1) (by rw [hL.2.1]; exact hb) (by rw [hL.2.1]; exact hb2) (by rw [hL.2.1]; exact h0))) (c_256x5 hs hj k1 hb hb2 h0) (by decide)
          · have h1 := c_106 (X := X) (n := A + 48) hs hj hL.2.2.1 (by rw [hL.2.1]; exact k1) (by rw [hL.2.1]; exact k2) (by rw [hL.2.1]; exact k3) (by rw [hL.2.1]; exact hb) (by rw [hL.2.1]; exact hb2) (by rw [hL.2.1]; exact h0)
            rw [hL.2.1] at h1
            refine qp_mv (S' := S) (P' := P + 1) (c2 := 1) (z2 := 7) hL hc hd (Nat.le_refl _) (w_333 h1) (fun Y hY => cR0 hL hY.1 (fun i => kLk_1 (by omega)) (fun q j' => kLk_1 (by omega))) (fun Y e2 hap hR => ?_) (hgh.next (fun m0 G g => (g.mono (by omega)).leave hs hj hb)) (by omega) (by show _ + 4 + _ ≤ _; omega) (by omega)
            have h2 := c_256 (X := Y) (m := A + 49) hs hj hap hR (by rw [e2]; exact k1) (by rw [e2]; exact k2) (by rw [e2]; omega) (by rw [e2]; exact hb) (by rw [e2]; exact hb2) (by rw [e2]; exact h0)
            rw [e2] at h2
            exact h2
    · exact qp_x hL (w_333x2 (c_106x2 hs e2)) (c_256x2 hs e2) (by decide)
  · exact qp_x hL (w_333x2 (c_106x1 e)) (c_256x1 e) (by decide)
theorem p_13 (hL : LI n0 sc c X) (hc : c ≤ 511) : pr_13 (LI n0 sc) c X := by
  unfold pr_13
  generalize (xC X).2 (5 * c + 1) = a1
  refine qPairB.rep (fun hr => ?_)
  have h60 := (hr.choose_spec.2.2.2.2.2.2.1 2 (by omega)).1
  obtain ⟨S, P, A, hSP, hgh, hd⟩ := hL.g
  rcases i32_srv (xK X 2).2.2.length (by omega) a1 with ⟨j, hj, rfl⟩ | e
  · have hu := List.getElem?_eq_getElem hj
    obtain ⟨u, hu0⟩ : ∃ u, u = (xK X 2).2.2[j] := ⟨_, rfl⟩
    rw [← hu0] at hu
    obtain ⟨m0, G, L, g, -⟩ := id hgh
    have hm : u ∈ (xK X 2).2.2 := List.mem_of_getElem? hu
    have ho := g.2.2.1 u hm
    obtain ⟨k1, k2, k3, k4, k5, k6⟩ := hgh.ok ho.1.2.1
    have hgo := (k6.2 j u hu).2
    have hp := kHand_p hu ho.1
    have hφ := phi_le h60
    have hn := hL.n
    have h1 := c_108 (X := X) (n := A + 48) (by rw [hL.2.1]; exact hu) hL.2.2.1 ho.1 (by rw [hL.2.1]; exact k1) (by rw [hL.2.1]; exact k2) (by rw [hL.2.1]; exact k3) (by rw [hL.2.1]; exact hgo)
    rw [hL.2.1] at h1
    obtain ⟨f1, f2⟩ := frF30 (K := xK X 2) (K' := kHand (xK X 2) j (mS u) (mF u) u) (fun f i j hf => kHand_f hf)
    have hrf := (g.rf hn.1).1 j u hu
    refine qp_mvB (S' := S) (P' := P + 1) (c2 := kHandN (xK X 2) j (mS u) (mF u) u) (z2 := kHandN (xK X 2) j (mS u) (mF u) u * 7) hL hc (bI_01 _) hd (Nat.le_refl _) (w_334 h1 (bI_01 _)) (fun Y hY => cR0 hL hY f1 f2) (fun Y e2 hap hR => ?_) (hgh.next (fun m0 G g => (g.mono (k' := 5000 * (600 - (c + 1)) + 1) (by omega)).hand hu)) (by omega) (by show _ + _ * 4 + _ ≤ _; omega) (by omega)
    have h2 := c_258 (X := Y) (m := A + 49) (n := A + 48) ho.1.2.1 (by rw [e2]; exact k1) (by rw [e2]; exact k2) hR hap (by rw [e2]; omega) (by omega) (by omega) (by rw [e2]; exact hj) (by rw [e2]; exact hu) ho.1.1 ho.1.2.2.1 ho.1.2.2.2.1 ho.1.2.2.2.2 hrf.1 hrf.2 (by rw [e2]; exact hn.1 _ _ ho.1.2.1 ho.1.2.2.2.1) (by rw [e2]; exact hgo)
    rw [e2] at h2
    exact h2
  · exact qp_xB hL (w_334x2 (c_108x1 (by rw [hL.2.1]; exact e))) (c_258x1 e) (by decide)
theorem p_14 (hL : LI n0 sc c X) (hc : c ≤ 511) : pr_14 (LI n0 sc) c X := by
  unfold pr_14
  generalize (xC X).2 (5 * c + 1) = a1
  refine qPair.rep (fun hr => ?_)
  have h60 := (hr.choose_spec.2.2.2.2.2.2.1 2 (by omega)).1
  obtain ⟨S, P, A, hSP, hgh, hd⟩ := hL.g
  rcases i32_srv (xK X 2).2.2.length (by omega) a1 with ⟨j, hj, rfl⟩ | e
  · have h1 := c_109 (X := X) (n := A + 48) (by rw [hL.2.1]; exact hj) hL.2.2.1
    rw [hL.2.1] at h1
    refine qp_mv (S' := S) (P' := P + 1) (c2 := 0) (z2 := 0) hL hc hd (Nat.le_refl _) (w_335 h1) (fun Y hY => cR0 hL hY (fun i => kSet_ne (by omega)) (fun q j => kSet_ne (by omega))) (fun Y e2 hap hR => ?_) (hgh.next (fun m0 G g => ⟨G, (g.mono (by omega)).losem j⟩)) (by omega) (by omega) (by omega)
    have h2 := c_259 (X := Y) (m := A + 49) hap (by rw [e2]; exact hj)
    rw [e2] at h2
    exact h2
  · exact qp_x hL (w_335x2 (c_109x1 (by rw [hL.2.1]; exact e))) (c_259x1 e) (by decide)
theorem p_15 (hL : LI n0 sc c X) (hc : c ≤ 511) : pr_15 (LI n0 sc) c X := by
  unfold pr_15
  generalize (xC X).2 (5 * c + 1) = a1
  refine qPair.rep (fun hr => ?_)
  have h60 := (hr.choose_spec.2.2.2.2.2.2.1 2 (by omega)).1
  obtain ⟨S, P, A, hSP, hgh, hd⟩ := hL.g
  rcases i32_srv (xK X 2).2.2.length (by omega) a1 with ⟨j, hj, rfl⟩ | e
  · have hu := List.getElem?_eq_getElem hj
    by_cases h6 : (xK X 2).2.2.length < 60
    · have h1 := c_110 (X := X) (n := A + 48) (by rw [hL.2.1]; exact hu) hL.2.2.1 (by rw [hL.2.1]; exact h6)
      rw [hL.2.1] at h1
      refine qp_mv (S' := S) (P' := P + 1) (c2 := 0) (z2 := 0) hL hc hd (Nat.le_refl _) (w_336 h1) (fun Y hY => cR0 hL hY.1 (fun i => kSend_1 _ _ (by omega)) (fun q j => kSend_1 _ _ (by omega))) (fun Y e2 hap hR => ?_) (hgh.next (fun m0 G g => ⟨G, (g.mono (by omega)).twice hu⟩)) (by omega) (by omega) (by omega)
      have h2 := c_260 (X := Y) (m := A + 49) hap (by rw [e2]; exact hu) (by rw [e2]; exact h6)
      rw [e2] at h2
      exact h2
    · exact qp_x hL (w_336x1 (c_110x2 (by rw [hL.2.1]; exact hj) (by rw [hL.2.1]; exact h6))) (c_260x2 hj h6) (by decide)
  · exact qp_x hL (w_336x2 (c_110x1 (by rw [hL.2.1]; exact e))) (c_260x1 e) (by decide)
end MV2
