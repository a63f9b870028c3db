/-! ===== THE LAW: calls that move, what they share ===== -/
theorem lRel.put {o n c z : Nat} {X : XS} {D : XD} {K' : KK} (h : mPr X o) (hK : ∀ i, i < 7 → sSame (xK X o) K' i) (hR : ∀ a b, dR D a b = dR (xD X) a b) (hV : ∀ a f i j, ¬ (a = o ∧ f = 31) → dV D a f i j = dV (xD X) a f i j) (hZ : dZ D ≤ dZ (xD X) + z) (hC : dC D ≤ dC (xD X) + c) : lRel o n c z X (xSetK (xSetD X D) o K') ∧ xK (xSetK (xSetD X D) o K') o = K' := by
  refine ⟨⟨rfl, fun a ha => if_neg ha, fun a b _ => hR a b, fun a f i j ha => hV a f i j (fun z => ha z.1), ?_, ?_, fun b _ => ⟨Nat.le_of_eq (hR o b).symm, Or.inl (Nat.le_of_eq (hR o b))⟩, fun i hi => ?_⟩, xK_same _ _ _⟩
  · show dZ D + 2 * rTot (xD X) o ≤ dZ (xD X) + 2 * rTot D o + z
    rw [rTot_cg (fun b => hR o b)]; omega
  · show 64 * dC D + rTot (xD X) o ≤ 64 * dC (xD X) + rTot D o + 64 * c
    rw [rTot_cg (fun b => hR o b)]; omega
  · rw [xK_same]
    show dV D o 10 i 0 = _ ∧ dV D o 11 i 0 = _
    rw [hV o 10 i 0 (by omega), hV o 11 i 0 (by omega), (hK i hi).mem, (hK i hi).mix]
    exact h i hi
section QM
variable {n0 : Nat} {sc : Nat → Int32} {c : Nat} {X : XS} {w m : Nat} {ew em : PV}
/-- one call that moves: the class's state 0 and the reference's state 2 become K' -/
theorem mv1 {v : Int32} {K' : KK} {c1 z1 c2 z2 S P A S' P' A' : Nat} {R : XS → Prop} (hL : LI n0 sc c X) (hc : c ≤ 511) (hd : dOk S P A (xD X)) (hA : A ≤ A') (hR : ∀ Y, R Y → lRel 0 (A + 48) c1 z1 X Y ∧ xK Y 0 = K' ∧ kNum (c + 1) (dV (xD Y) 0 31 0 0) K')
    (hm : ∀ Y, xK Y 2 = xK X 2 → aPr Y 2 → rOkR Y 2 → RU m em Y (some (.int v)) (fun Z => rRel0 2 (A + 49) c2 z2 (xSetT Y 0) Z K' ∧ aPr Z 2))
    (hg : kGh (5000 * (600 - (c + 1))) S' P' A' K') (hSP : S' + P' ≤ c + 1) (hz : 40 * S + 4000 * P + z1 + z2 ≤ 40 * S' + 4000 * P') (hc2 : 10 * S + 600 * P + c1 + c2 ≤ 10 * S' + 600 * P') :
    (∀ Y, R Y → xC Y = xC X) ∧ ∀ Y, R Y → RU m em (xSetO Y v.toInt64) (some (.int v)) (fun Z => xT Z = 0 ∧ xO Z = v.toInt64 ∧ LI n0 sc (c + 1) Z) := by
  refine ⟨fun Y hY => congrArg (fun z => z.2.2.2) (hR Y hY).1.1, fun Y hY => ?_⟩
  obtain ⟨r1, r2, r3⟩ := hR Y hY
  refine (hm (xSetO Y v.toInt64) (r1.2.1 2 (by omega)) (fun i hi => ?_) (fun i hi => ?_)).m (fun Z hZ => ?_)
  · show dV (xD Y) 2 20 i 0 = (xK Y 2).1 15 i 0
    rw [r1.2.2.2.1 2 20 i 0 (by omega), r1.2.1 2 (by omega)]
    exact hL.2.2.2.2.1 i hi
  · show 112 ≤ dR (xD Y) 2 i ∧ dR (xD Y) 2 i ≤ 5600000
    rw [r1.2.2.1 2 i (by omega)]
    exact (hL.rok (by omega)).1 i hi
  · obtain ⟨q1, q2⟩ := hZ
    refine ⟨congrArg (fun z => z.1) q1.1, congrArg (fun z => z.2.2.1) q1.1, ?_⟩
    exact hL.mv hd hA r1 r2 (X2 := xSetT (xSetO Y v.toInt64) 0) rfl (fun _ => rfl) rfl q1 q2 r3 hg hSP hz hc2
theorem qp_mv {v : Int32} {K' : KK} {c1 z1 c2 z2 S P A S' P' A' : Nat} {R : XS → Prop} (hL : LI n0 sc c X) (hc : c ≤ 511) (hd : dOk S P A (xD X)) (hA : A ≤ A') (hw : RU w ew X (some (.int 0)) (fun Z => ∃ Y, R Y ∧ Z = xSetO Y v.toInt64)) (hR : ∀ Y, R Y → lRel 0 (A + 48) c1 z1 X Y ∧ xK Y 0 = K' ∧ kNum (c + 1) (dV (xD Y) 0 31 0 0) K')
    (hm : ∀ Y, xK Y 2 = xK X 2 → aPr Y 2 → rOkR Y 2 → RU m em Y (some (.int v)) (fun Z => rRel0 2 (A + 49) c2 z2 (xSetT Y 0) Z K' ∧ aPr Z 2))
    (hg : kGh (5000 * (600 - (c + 1))) S' P' A' K') (hSP : S' + P' ≤ c + 1) (hz : 40 * S + 4000 * P + z1 + z2 ≤ 40 * S' + 4000 * P') (hc2 : 10 * S + 600 * P + c1 + c2 ≤ 10 * S' + 600 * P') : qPair w m ew em X (LI n0 sc (c + 1)) := by
  obtain ⟨h1, h2⟩ := mv1 hL hc hd hA hR hm hg hSP hz hc2
  exact qp_m hw h1 h2
theorem qp_mvB {v : Int32} {K' : KK} {c1 z1 c2 z2 S P A S' P' A' : Nat} {R : XS → Prop} (hL : LI n0 sc c X) (hc : c ≤ 511) (h01 : v = 0 ∨ v = 1) (hd : dOk S P A (xD X)) (hA : A ≤ A') (hw : RU w ew X (some (.int 0)) (fun Z => ∃ Y, R Y ∧ Z = xSetO Y v.toInt64)) (hR : ∀ Y, R Y → lRel 0 (A + 48) c1 z1 X Y ∧ xK Y 0 = K' ∧ kNum (c + 1) (dV (xD Y) 0 31 0 0) K')
    (hm : ∀ Y, xK Y 2 = xK X 2 → aPr Y 2 → rOkR Y 2 → RU m em Y (some (.int v)) (fun Z => rRel0 2 (A + 49) c2 z2 (xSetT Y 0) Z K' ∧ aPr Z 2))
    (hg : kGh (5000 * (600 - (c + 1))) S' P' A' K') (hSP : S' + P' ≤ c + 1) (hz : 40 * S + 4000 * P + z1 + z2 ≤ 40 * S' + 4000 * P') (hc2 : 10 * S + 600 * P + c1 + c2 ≤ 10 * S' + 600 * P') : qPairB w m ew em X (LI n0 sc (c + 1)) := by
  obtain ⟨h1, h2⟩ := mv1 hL hc hd hA hR hm hg hSP hz hc2
  exact qp_mB h01 hw h1 h2
/-- the class's relation, the links and the clients as they were -/
theorem cR0 {n c1 z1 : Nat} {Y : XS} {K' : KK} (hL : LI n0 sc c X) (h : cRel0 0 n c1 z1 X Y K') (h30 : ∀ i, K'.1 30 i 0 = (xK X 2).1 30 i 0) (h34 : ∀ q j, K'.1 34 q j = (xK X 2).1 34 q j) : lRel 0 n c1 z1 X Y ∧ xK Y 0 = K' ∧ kNum (c + 1) (dV (xD Y) 0 31 0 0) K' := by
  refine ⟨h.l, h.k, ?_⟩
  rw [h.2.2.1.2.1 0 31 0 0 (by omega)]
  have := hL.2.2.2.2.2.1
  rw [hL.2.1] at this
  exact (this.cg h30 h34).up
theorem frF30 {K K' : KK} (h : ∀ f i j, frF f → K'.1 f i j = K.1 f i j) : (∀ i, K'.1 30 i 0 = K.1 30 i 0) ∧ ∀ q j, K'.1 34 q j = K.1 34 q j :=
  ⟨fun i => h 30 i 0 (by unfold frF; omega), fun q j => h 34 q j (by unfold frF; omega)⟩
/-- what L says, with state 2 named -/
theorem LI.g (hL : LI n0 sc c X) : ∃ S P A, S + P ≤ c ∧ kGh (5000 * (600 - c)) S P A (xK X 2) ∧ dOk S P A (xD X) := by
  obtain ⟨a1, a2, a3, a4, a5, a6, h⟩ := hL
  rw [a2] at h
  exact h
theorem kGh.ok {k S P A : Nat} {K : KK} (h : kGh k S P A K) {s : Nat} (hs : s < 7) : sOk K s ∧ kA K s + (K.2.1 s).length + 1 < 400000 ∧ (K.2.1 s).length ≤ A + 48 ∧ (K.1 12 s 0 = 3 → ∀ q, q < 7 → kNx K s q) ∧ A + 48 ≤ 12400 ∧ kFit (A + 48) K := by
  obtain ⟨m0, G, L, g, -⟩ := h
  have q := g.ok hs
  exact ⟨q.1, q.2.1, q.2.2.1, fun hr x hx => g.nx hs hr hx, g.2.2.2.2.2.2, g.fit⟩
end QM
section SIMPLE
variable {n0 : Nat} {sc : Nat → Int32} {c : Nat} {X : XS}
theorem p_1 (hL : LI n0 sc c X) (hc : c ≤ 511) : pr_1 (LI n0 sc) c X := by
  unfold pr_1
  generalize (xC X).2 (5 * c + 1) = a1
  obtain ⟨S, P, A, hSP, hgh, hd⟩ := hL.g
  rcases i32_srv 7 (by omega) a1 with ⟨s, hs, rfl⟩ | e
  · by_cases hup : (xK X 2).1 4 s 0 = 0
    · exact qp_x hL (w_323x1 (c_96x2 hs (by rw [hL.2.1]; exact hup))) (c_243x2 hs hup) (by decide)
    · have h1 := c_96 (X := X) hs (by rw [hL.2.1]; exact hup)
      rw [hL.2.1] at h1
      have r1 := cRel.set (n := A + 48) (K := kDown (xK X 2) s) hL.2.2.1 (fun i _ => by rw [hL.2.1]; exact (sSame.set (by decide) i).tr (sSame.rest _ s i))
      obtain ⟨f1, f2⟩ : (∀ i, (kDown (xK X 2) s).1 30 i 0 = (xK X 2).1 30 i 0) ∧ ∀ q j, (kDown (xK X 2) s).1 34 q j = (xK X 2).1 34 q j := ⟨fun i => (kRest_1 (by omega)).trans (kSet_ne (by omega)), fun q j => (kRest_1 (by omega)).trans (kSet_ne (by omega))⟩
      refine qp_mv (S' := S) (P' := P + 1) (c2 := 0) (z2 := 0) (K' := kDown (xK X 2) s) hL hc hd (Nat.le_refl _) (w_323 (RT.u h1)) (fun Y hY => by rw [hY]; exact cR0 hL r1.1 f1 f2) (fun Y e2 hap hR => ?_) (hgh.next (fun m0 G g => ⟨G, (g.mono (by omega)).down hs⟩)) (by omega) (by omega) (by omega)
      have h2 := c_243 (X := Y) (m := A + 49) hs hap (by rw [e2]; exact hup)
      rw [e2] at h2
      exact h2
  · exact qp_x hL (w_323x2 (c_96x1 e)) (c_243x1 e) (by decide)
theorem p_2 (hL : LI n0 sc c X) (hc : c ≤ 511) : pr_2 (LI n0 sc) c X := by
  unfold pr_2
  generalize (xC X).2 (5 * c + 1) = a1
  obtain ⟨S, P, A, hSP, hgh, hd⟩ := hL.g
  refine qPair.rep (fun hr => ?_)
  rcases i32_srv 7 (by omega) a1 with ⟨s, hs, rfl⟩ | e
  · have h4 := (hr.choose_spec.2.2.2.2.2.2.1 2 (by omega)).2.1 s hs
    by_cases hup : (xK X 2).1 4 s 0 = 0
    · have h1 := c_97 (X := X) hs (by rw [hL.2.1]; exact hup)
      rw [hL.2.1] at h1
      have r1 := cRel.set (n := A + 48) (K := kSet (xK X 2) 4 s 0 1) hL.2.2.1 (fun i _ => by rw [hL.2.1]; exact sSame.set (by decide) i)
      refine qp_mv (S' := S) (P' := P + 1) (c2 := 0) (z2 := 0) (K' := kSet (xK X 2) 4 s 0 1) hL hc hd (Nat.le_refl _) (w_324 (RT.u h1)) (fun Y hY => by rw [hY]; exact cR0 hL r1.1 (fun i => kSet_ne (by omega)) (fun q j => kSet_ne (by omega))) (fun Y e2 hap hR => ?_) (hgh.next (fun m0 G g => ⟨G, (g.mono (by omega)).set (by unfold relF; omega)⟩)) (by omega) (by omega) (by omega)
      have h2 := c_244 (X := Y) (m := A + 49) hs hap (by rw [e2]; exact hup)
      rw [e2] at h2
      exact h2
    · exact qp_x hL (w_324x1 (c_97x2 hs (by rw [hL.2.1]; exact h4.resolve_left hup))) (c_244x2 hs hup) (by decide)
  · exact qp_x hL (w_324x2 (c_97x1 e)) (c_244x1 e) (by decide)
theorem p_6 (hL : LI n0 sc c X) (hc : c ≤ 511) : pr_6 (LI n0 sc) c X := by
  unfold pr_6
  generalize (xC X).2 (5 * c + 1) = a1
  obtain ⟨S, P, A, hSP, hgh, hd⟩ := hL.g
  rcases i32_srv 7 (by omega) a1 with ⟨s, hs, rfl⟩ | e
  · obtain ⟨k1, k2, k3, k4, k5, -⟩ := hgh.ok hs
    cases hb : sMayS (xK X 2) s with
    | false => exact qp_x hL (w_328x1 (c_101x2 hs hL.2.2.1 (by rw [hL.2.1]; exact hb))) (c_249x2 hs k1 hb) (by decide)
    | true =>
      have h1 := c_101 (X := X) hs hL.2.2.1 (by rw [hL.2.1]; exact k1) (by rw [hL.2.1]; exact k2) (by rw [hL.2.1]; exact k3) (by rw [hL.2.1]; exact hb)
      rw [hL.2.1] at h1
      have hN := (kSoundA_p (xK X 2) s).2.2
      have hW := wt_le (xK X 2) s
      obtain ⟨f1, f2⟩ := frF30 (K := xK X 2) (K' := kSoundA (xK X 2) s) (fun f i j hf => kSoundA_f hf)
      refine qp_mv (S' := S) (P' := P + 1) (c2 := kSoundN (xK X 2) s) (z2 := kSoundN (xK X 2) s * 7) (K' := kSoundA (xK X 2) s) hL hc hd (Nat.le_refl _) (w_328 h1) (fun Y hY => cR0 hL hY.1 f1 f2) (fun Y e2 hap hR => ?_) (hgh.next (fun m0 G g => (g.mono (k' := 5000 * (600 - (c + 1)) + 1) (by omega)).soundA hs)) (by omega) (by show _ + _ * 4 + _ ≤ _; omega) (by omega)
      have h2 := c_249 (X := Y) (m := A + 49) hs (by rw [e2]; exact k1) (by rw [e2]; exact k2) hR hap (by rw [e2]; omega) (by rw [e2]; exact hb)
      rw [e2] at h2
      exact h2
  · exact qp_x hL (w_328x2 (c_101x1 e)) (c_249x1 e) (by decide)
theorem p_7 (hL : LI n0 sc c X) (hc : c ≤ 511) : pr_7 (LI n0 sc) c X := by
  unfold pr_7
  generalize (xC X).2 (5 * c + 1) = a1
  obtain ⟨S, P, A, hSP, hgh, hd⟩ := hL.g
  rcases i32_srv 7 (by omega) a1 with ⟨s, hs, rfl⟩ | e
  · obtain ⟨k1, k2, k3, k4, k5, -⟩ := hgh.ok hs
    by_cases hr : (xK X 2).1 12 s 0 = 3
    · have h1 := c_102 (X := X) (n := A + 48) hs hL.2.2.1 (by rw [hL.2.1]; exact k1) (by rw [hL.2.1]; exact hr) (by rw [hL.2.1]; exact k4 hr)
      rw [hL.2.1] at h1
      refine qp_mv (S' := S) (P' := P + 1) (c2 := 0) (z2 := 0) (K' := kSnd (xK X 2) s) hL hc hd (Nat.le_refl _) (w_329 h1) (fun Y hY => cR0 hL hY.1 (fun i => kSnd_1 _ _ (by omega)) (fun q j => kSnd_1 _ _ (by omega))) (fun Y e2 hap hR => ?_) (hgh.next (fun m0 G g => ⟨G, (g.mono (by omega)).snd hs (kR_of (r := 3) (by omega) hr)⟩)) (by omega) (by omega) (by omega)
      have h2 := c_250 (X := Y) (m := A + 49) hs (by rw [e2]; exact k1) hap (by rw [e2]; exact hr) (by rw [e2]; exact k4 hr)
      rw [e2] at h2
      exact h2
    · exact qp_x hL (w_329x1 (c_102x2 hs (by rw [hL.2.1]; exact hr))) (c_250x2 hs hr) (by decide)
  · exact qp_x hL (w_329x2 (c_102x1 e)) (c_250x1 e) (by decide)
theorem p_9 (hL : LI n0 sc c X) (hc : c ≤ 511) : pr_9 (LI n0 sc) c X := by
  unfold pr_9
  generalize (xC X).2 (5 * c + 1) = a1
  generalize (xC X).2 (5 * c + 2) = a2
  obtain ⟨S, P, A, hSP, hgh, hd⟩ := hL.g
  rcases i32_srv 7 (by omega) a1 with ⟨s, hs, rfl⟩ | e
  · rcases i32_srv 7 (by omega) a2 with ⟨j, hj, rfl⟩ | e2
    · obtain ⟨k1, k2, k3, k4, k5, -⟩ := hgh.ok hs
      by_cases hne : s = j
      · subst hne
        exact qp_x hL (w_331x0 (c_104x3 hs)) (c_252x3 hs) (by decide)
      · by_cases hr : (xK X 2).1 12 s 0 = 3
        · cases hb : sBit (sMem (xK X 2) s) j with
          | false => exact qp_x hL (w_331x1 (c_104x5 hs hj hne hL.2.2.1 (by rw [hL.2.1]; exact hr) (by rw [hL.2.1]; exact hb))) (c_252x5 hs hj hne k1 hr hb) (by decide)
          | true =>
            by_cases hl : sLast (xK X 2) s ≤ (xK X 2).1 3 s j
            · have h1 := c_104 (X := X) (n := A + 48) hs hj hne hL.2.2.1 (by rw [hL.2.1]; exact ⟨hr, hb, hl⟩)
              rw [hL.2.1] at h1
              refine qp_mv (S' := S) (P' := P + 1) (c2 := 0) (z2 := 0) (K' := kSend (xK X 2) (mHur (xK X 2) s j)) hL hc hd (Nat.le_refl _) (w_331 h1) (fun Y hY => cR0 hL hY.1 (fun i => kSend_1 _ _ (by omega)) (fun q j => kSend_1 _ _ (by omega))) (fun Y e2 hap hR => ?_) (hgh.next (fun m0 G g => ⟨G, (g.mono (by omega)).hur hs hj hne⟩)) (by omega) (by omega) (by omega)
              have h2 := c_252 (X := Y) (m := A + 49) hs hj hap hne (by rw [e2]; exact k1) (by rw [e2]; exact hr) (by rw [e2]; exact hb) (by rw [e2]; exact hl)
              rw [e2] at h2
              exact h2
            · exact qp_x hL (w_331x1 (c_104x6 hs hj hne hL.2.2.1 (by rw [hL.2.1]; exact hr) (by rw [hL.2.1]; exact hb) (by rw [hL.2.1]; exact hl))) (c_252x6 hs hj hne k1 hr hb hl) (by decide)
        · exact qp_x hL (w_331x1 (c_104x4 hs hj hne hL.2.2.1 (by rw [hL.2.1]; exact hr))) (c_252x4 hs hj hne hr) (by decide)
    · exact qp_x hL (w_331x2 (c_104x2 hs e2)) (c_252x2 hs e2) (by decide)
  · exact qp_x hL (w_331x2 (c_104x1 e)) (c_252x1 e) (by decide)
end SIMPLE
