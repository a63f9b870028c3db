/-! ===== THE LAW: requests, the beginning ===== -/
section MV4
variable {n0 : Nat} {sc : Nat → Int32} {c : Nat} {X : XS}
theorem kGh.begin {k k' S P A : Nat} {K : KK} {m : Int32} (h : kGh k S P A K) (hm : (1 : Int32) ≤ m ∧ m ≤ 7) (hk : k' ≤ 1000000000) : kGh k' S (P + 1) A (kBegin K (sFirst m)) := by
  obtain ⟨m0, G, L, h1, h2, h3, h4, h5, h6⟩ := h
  have hA := h1.2.2.2.2.2.2
  obtain ⟨b1, b2, b3, b4⟩ := kAll_begin (k := k') K hm hk (fun i hi => (h1.2.1 i hi).2.1.2.2.2.2.2)
  refine ⟨sFirst m 2, gZ, A, ⟨b1, fun s hs => ?_, fun u hu => ?_, b4.1, fun t ht => absurd rfl ht, Nat.le_refl _, hA⟩, fun i _ => Nat.zero_le _, fun t ht => absurd rfl ht, Nat.le_refl _, h5, by omega⟩
  · obtain ⟨⟨⟨a, cc, a1, a2, a3, a4, a5, a6, a7, a8, a9⟩, aB, aE⟩, b, c⟩ := b2 s hs
    exact ⟨⟨⟨a, cc, a1, a2, a3, a4, a5, a6, a7, a8, by omega⟩, Nat.zero_le _, aE⟩, b, c⟩
  · rw [(kBegin_v K (sFirst m)).2.2] at hu
    exact absurd hu (by simp)
theorem lRel.setK {o n c z : Nat} {X Y : XS} {K' : KK} (h : lRel o n c z X Y) (hK : ∀ i, i < 7 → sSame (xK Y o) K' i) : lRel o n c z X (xSetK Y o K') ∧ xK (xSetK Y o K') o = K' := by
  obtain ⟨a1, a2, a3, a4, a5, a6, a7, a8⟩ := h
  refine ⟨⟨a1, fun a ha => (if_neg ha).trans (a2 a ha), a3, a4, a5, a6, a7, fun i hi => ?_⟩, xK_same _ _ _⟩
  rw [xK_same, (hK i hi).mem, (hK i hi).mix]
  exact a8 i hi
theorem p_0 (hL : LI n0 sc c X) (hc : c ≤ 511) : pr_0 (LI n0 sc) c X := by
  unfold pr_0
  generalize (xC X).2 (5 * c + 1) = a1
  obtain ⟨S, P, A, hSP, hgh, hd⟩ := hL.g
  by_cases hm : (1 : Int32) ≤ a1 ∧ a1 ≤ 7
  · have h1 := c_95 (X := X) (n := A + 48) hL.2.2.1 hm
    rw [hL.2.1] at h1
    obtain ⟨v, vc, vn⟩ := kBegin_v (xK X 2) (sFirst a1)
    refine qp_mv (S' := S) (P' := P + 1) (c1 := 5) (z1 := 23) (c2 := 0) (z2 := 0) (K' := kBegin (xK X 2) (sFirst a1)) hL hc hd (Nat.le_refl _) (w_322 h1) (fun Y hY => ?_) (fun Y e2 hap hR => ?_) (hgh.begin hm (by omega)) (by omega) (by omega) (by omega)
    · obtain ⟨Z, hZ, rfl⟩ := hY
      obtain ⟨l1, l2⟩ := lRel.cut hZ 0
      have eZ : xK Z 0 = kBegC 4 0 (kBegS (sFirst a1) 7 0 (xK X 2)) := hZ.k
      rw [eZ]
      obtain ⟨q1, q2⟩ := l1.setK (K' := kSet (kClr (kBegC 4 0 (kBegS (sFirst a1) 7 0 (xK X 2)))) 33 0 0 0) (fun i _ => by
        rw [l2]
        refine ⟨rfl, fun j _ => ?_⟩
        rw [kSet_ne (by omega)]
        unfold kClr
        rw [kSet_ne (by omega)]
        show (if 18 = 30 ∧ i < 7 ∧ j = 0 then (0 : Int32) else (kBegC 4 0 (kBegS (sFirst a1) 7 0 (xK X 2))).1 18 i j) = _
        rw [if_neg (by omega)])
      refine ⟨q1, q2, ?_⟩
      have e31 : dV (xD (xSetK (xCutL Z 0 0) 0 (kSet (kClr (kBegC 4 0 (kBegS (sFirst a1) 7 0 (xK X 2)))) 33 0 0 0))) 0 31 0 0 = 0 := by
        show (if 0 = 0 ∧ 31 = 31 ∧ 0 = 0 ∧ 0 = 0 then (0 : Int32) else dV (xD Z) 0 31 0 0) = 0
        exact if_pos ⟨rfl, rfl, rfl, rfl⟩
      rw [e31]
      have e30 : ∀ i, i < 7 → (kBegin (xK X 2) (sFirst a1)).1 30 i 0 = 0 := fun i hi => (v i hi).2.2.2.2.2.2.2.1
      refine ⟨fun s f hs hf => ?_, fun i hi => ⟨0, by omega, e30 i hi⟩, ⟨0, by omega, rfl, ?_⟩, fun q hq => Or.inl ⟨vc q hq 3 (by omega), vc q hq⟩⟩
      · rw [e30 s hs, e30 f hf]
        have zz : ∀ f, f < 7 → sBit 0 f = false := by decide
        rw [zz f hf, zz s hs]
      · rw [sSum_tot (p := fun _ => 0) 7 (fun i hi => by
          show sCnt ((kBegin (xK X 2) (sFirst a1)).1 30 i 0) = _
          rw [e30 i hi]; decide)]
        rfl
    · have h2 := c_242 (X := Y) (n := A + 49) hm
      rw [e2] at h2
      exact h2
  · exact qp_x hL (w_322x0 (c_95x hm)) (c_242x hm) (by decide)
/-- a client's request -/
theorem LI.cl (hL : LI n0 sc c X) {q : Nat} (hq : q < 4) : ((xK X 2).1 34 q 3 = 0 ∧ (xK X 2).1 34 q 3 ≤ 0 ∧ (xK X 2).1 34 q 3 + 1 = Int32.ofNat 1) ∨ (∃ n : Nat, 1 ≤ n ∧ n ≤ c ∧ (xK X 2).1 34 q 3 = Int32.ofNat n ∧ (xK X 2).1 34 q 3 + 1 = Int32.ofNat (n + 1)) := by
  rcases hL.n.2.2.2 q hq with ⟨z, -⟩ | ⟨n, n1, n2, n3, -⟩
  · exact Or.inl ⟨z, by rw [z]; decide, by rw [z]; rfl⟩
  · exact Or.inr ⟨n, n1, n2, n3, by rw [n3]; exact i32_suc1 n⟩
theorem ask_n {v : Int32} {K : KK} {q k n : Nat} {kd ex vl : Int32} (h : kNum c v K) (hc : c ≤ 511) (hq : q < 4) (hk : k < 8) (hkd : 1 ≤ kd ∧ kd ≤ 3) (hn1 : 1 ≤ n) (hn2 : n ≤ c + 1) (hs : K.1 34 q 3 + 1 = Int32.ofNat n) : kNum (c + 1) v (kAsk K q kd (Int32.ofNat k) ex vl) := by
  obtain ⟨h1, h2, h3, h4⟩ := h
  have e30 : ∀ i, (kAsk K q kd (Int32.ofNat k) ex vl).1 30 i 0 = K.1 30 i 0 := fun i => by
    unfold kAsk
    rw [kSet_ne (by omega), kRow_ne (by omega)]
  have e34 : ∀ x, ¬ x = q → ∀ j, (kAsk K q kd (Int32.ofNat k) ex vl).1 34 x j = K.1 34 x j := fun x hx j => by
    unfold kAsk
    rw [kSet_ne (by omega), kRow_ne (by omega)]
  have eq : ∀ j, (kAsk K q kd (Int32.ofNat k) ex vl).1 34 q j = rAsk (Int32.ofNat q) (K.1 34 q 3 + 1) kd (Int32.ofNat k) ex vl j := fun j => by
    unfold kAsk
    rw [kSet_ne (by omega)]
    exact if_pos ⟨rfl, rfl⟩
  refine ⟨fun s f hs' hf => by rw [e30, e30]; exact h1 s f hs' hf, fun i hi => by rw [e30]; exact h2 i hi, ?_, fun x hx => ?_⟩
  · rw [show (fun i => sCnt ((kAsk K q kd (Int32.ofNat k) ex vl).1 30 i 0)) = fun i => sCnt (K.1 30 i 0) from funext fun i => by rw [e30]]
    exact h3
  · by_cases e : x = q
    · subst e
      refine Or.inr ⟨n, hn1, hn2, ?_, ?_, ?_, k, hk, ?_⟩
      · rw [eq]; exact hs
      · rw [eq]; exact hkd
      · rw [eq]; rfl
      · rw [eq]; rfl
    · rw [e34 x e, e34 x e, e34 x e, e34 x e]
      rcases h4 x hx with ⟨z1, z2⟩ | ⟨n', z1, z2, z3⟩
      · exact Or.inl ⟨z1, fun j hj => by rw [e34 x e]; exact z2 j hj⟩
      · exact Or.inr ⟨n', z1, by omega, z3⟩
theorem lRel_ask (hL : LI n0 sc c X) {q n : Nat} {kd ky ex vl : Int32} {r : ENT} : lRel 0 n 1 6 X (xSetK (xSetD X (dReq1 (xD X) r)) 0 (kAsk (xK X 2) q kd ky ex vl)) ∧ xK (xSetK (xSetD X (dReq1 (xD X) r)) 0 (kAsk (xK X 2) q kd ky ex vl)) 0 = kAsk (xK X 2) q kd ky ex vl :=
  lRel.put hL.2.2.1 (fun i _ => by
    rw [hL.2.1]
    refine ⟨rfl, fun j _ => ?_⟩
    unfold kAsk
    rw [kSet_ne (by omega), kRow_ne (by omega)]) (fun _ _ => rfl) (fun _ _ _ _ _ => rfl) (Nat.le_refl _) (Nat.le_refl _)
end MV4
section ASK4
variable {n0 : Nat} {sc : Nat → Int32} {c : Nat} {X : XS}
theorem p_21 (hL : LI n0 sc c X) (hc : c ≤ 511) : pr_21 (LI n0 sc) c X := by
  unfold pr_21
  generalize (xC X).2 (5 * c + 1) = a1
  generalize (xC X).2 (5 * c + 2) = a2
  generalize (xC X).2 (5 * c + 3) = a3
  obtain ⟨S, P, A, hSP, hgh, hd⟩ := hL.g
  rcases i32_srv 4 (by omega) a1 with ⟨q, hq, rfl⟩ | e
  · rcases i32_srv 8 (by omega) a2 with ⟨k, hk, rfl⟩ | e2
    · by_cases hv : (-9999 : Int32) ≤ a3 ∧ a3 ≤ 9999
      · have hcl := hL.cl hq
        have hn0 : ¬ (xK X 2).1 34 q 3 + 1 = 0 := by
          rcases hcl with ⟨-, -, z⟩ | ⟨n, n1, n2, n3, n4⟩
          · rw [z]; decide
          · rw [n4, show (0 : Int32) = Int32.ofNat 0 from rfl, i32_eq (by omega) (by omega)]; omega
        by_cases hw : (xK X 2).1 34 q 3 = 0 ∨ ¬ (xK X 2).1 35 q 0 = 0
        · have h1 := c_116 (X := X) hq hk hv (by rw [hL.2.1]; exact hw) (by rw [hL.2.1]; exact hn0)
          rw [hL.2.1] at h1
          obtain ⟨l1, l2⟩ := lRel_ask hL (q := q) (n := A + 48) (kd := 1) (ky := Int32.ofNat k) (ex := 0) (vl := a3) (r := rAsk (Int32.ofNat q) ((xK X 2).1 34 q 3 + 1) 1 (Int32.ofNat k) 0 a3)
          have hn : kNum (c + 1) (dV (xD X) 0 31 0 0) (kAsk (xK X 2) q 1 (Int32.ofNat k) 0 a3) := by
            rcases hcl with ⟨-, -, z⟩ | ⟨n, n1, n2, n3, n4⟩
            · exact ask_n hL.n hc hq hk (by decide) (Nat.le_refl 1) (by omega) z
            · exact ask_n hL.n hc hq hk (by decide) (by omega) (by omega) n4
          refine qp_mv (S' := S) (P' := P + 1) (c1 := 1) (z1 := 6) (c2 := 1) (z2 := 7) hL hc hd (Nat.le_refl _) (w_342 (RT.u h1)) (fun Y hY => by rw [hY]; exact ⟨l1, l2, hn⟩) (fun Y e2 hap hR => ?_) (hgh.next (fun m0 G g => ⟨G, (g.mono (by omega)).ask q _ _ _ _⟩)) (by omega) (by omega) (by omega)
          have h2 := c_268 (X := Y) (m := A + 49) hq hk hap hv (by rw [e2]; exact hw.imp (fun z => by rw [z]; decide) id)
          rw [e2] at h2
          exact h2
        · have hw' := not_or.mp hw
          have hw2 : ¬ (xK X 2).1 34 q 3 ≤ 0 := by
            rcases hcl with ⟨z, -⟩ | ⟨n, n1, n2, n3, n4⟩
            · exact absurd z hw'.1
            · rw [n3, show (0 : Int32) = Int32.ofNat 0 from rfl, i32_le (by omega) (by omega)]; omega
          exact qp_x hL (w_342x1 (c_116x5 hq hk hv (by rw [hL.2.1]; exact ⟨hw'.1, Classical.not_not.mp hw'.2⟩))) (c_268x5 hq hk hv ⟨hw2, Classical.not_not.mp hw'.2⟩) (by decide)
      · exact qp_x hL (w_342x0 (c_116x4 hq hk hv)) (c_268x3 hq hk hv) (by decide)
    · exact qp_x hL (w_342x2 (c_116x2 hq e2)) (c_268x2 hq e2) (by decide)
  · exact qp_x hL (w_342x2 (c_116x1 e)) (c_268x1 e) (by decide)
theorem p_22 (hL : LI n0 sc c X) (hc : c ≤ 511) : pr_22 (LI n0 sc) c X := by
  unfold pr_22
  generalize (xC X).2 (5 * c + 1) = a1
  generalize (xC X).2 (5 * c + 2) = a2
  generalize (xC X).2 (5 * c + 3) = a3
  obtain ⟨S, P, A, hSP, hgh, hd⟩ := hL.g
  rcases i32_srv 4 (by omega) a1 with ⟨q, hq, rfl⟩ | e
  · rcases i32_srv 8 (by omega) a2 with ⟨k, hk, rfl⟩ | e2
    · by_cases hv : (-9999 : Int32) ≤ a3 ∧ a3 ≤ 9999
      · have hcl := hL.cl hq
        have hn0 : ¬ (xK X 2).1 34 q 3 + 1 = 0 := by
          rcases hcl with ⟨-, -, z⟩ | ⟨n, n1, n2, n3, n4⟩
          · rw [z]; decide
          · rw [n4, show (0 : Int32) = Int32.ofNat 0 from rfl, i32_eq (by omega) (by omega)]; omega
        by_cases hw : (xK X 2).1 34 q 3 = 0 ∨ ¬ (xK X 2).1 35 q 0 = 0
        · have h1 := c_117 (X := X) hq hk hv (by rw [hL.2.1]; exact hw) (by rw [hL.2.1]; exact hn0)
          rw [hL.2.1] at h1
          obtain ⟨l1, l2⟩ := lRel_ask hL (q := q) (n := A + 48) (kd := 2) (ky := Int32.ofNat k) (ex := 0) (vl := a3) (r := rAsk (Int32.ofNat q) ((xK X 2).1 34 q 3 + 1) 2 (Int32.ofNat k) 0 a3)
          have hn : kNum (c + 1) (dV (xD X) 0 31 0 0) (kAsk (xK X 2) q 2 (Int32.ofNat k) 0 a3) := by
            rcases hcl with ⟨-, -, z⟩ | ⟨n, n1, n2, n3, n4⟩
            · exact ask_n hL.n hc hq hk (by decide) (Nat.le_refl 1) (by omega) z
            · exact ask_n hL.n hc hq hk (by decide) (by omega) (by omega) n4
          refine qp_mv (S' := S) (P' := P + 1) (c1 := 1) (z1 := 6) (c2 := 1) (z2 := 7) hL hc hd (Nat.le_refl _) (w_343 (RT.u h1)) (fun Y hY => by rw [hY]; exact ⟨l1, l2, hn⟩) (fun Y e2 hap hR => ?_) (hgh.next (fun m0 G g => ⟨G, (g.mono (by omega)).ask q _ _ _ _⟩)) (by omega) (by omega) (by omega)
          have h2 := c_269 (X := Y) (m := A + 49) hq hk hap hv (by rw [e2]; exact hw.imp (fun z => by rw [z]; decide) id)
          rw [e2] at h2
          exact h2
        · have hw' := not_or.mp hw
          have hw2 : ¬ (xK X 2).1 34 q 3 ≤ 0 := by
            rcases hcl with ⟨z, -⟩ | ⟨n, n1, n2, n3, n4⟩
            · exact absurd z hw'.1
            · rw [n3, show (0 : Int32) = Int32.ofNat 0 from rfl, i32_le (by omega) (by omega)]; omega
          exact qp_x hL (w_343x1 (c_117x5 hq hk hv (by rw [hL.2.1]; exact ⟨hw'.1, Classical.not_not.mp hw'.2⟩))) (c_269x5 hq hk hv ⟨hw2, Classical.not_not.mp hw'.2⟩) (by decide)
      · exact qp_x hL (w_343x0 (c_117x4 hq hk hv)) (c_269x3 hq hk hv) (by decide)
    · exact qp_x hL (w_343x2 (c_117x2 hq e2)) (c_269x2 hq e2) (by decide)
  · exact qp_x hL (w_343x2 (c_117x1 e)) (c_269x1 e) (by decide)
theorem p_23 (hL : LI n0 sc c X) (hc : c ≤ 511) : pr_23 (LI n0 sc) c X := by
  unfold pr_23
  generalize (xC X).2 (5 * c + 1) = a1
  generalize (xC X).2 (5 * c + 2) = a2
  generalize (xC X).2 (5 * c + 3) = a3
  generalize (xC X).2 (5 * c + 4) = a4
  obtain ⟨S, P, A, hSP, hgh, hd⟩ := hL.g
  rcases i32_srv 4 (by omega) a1 with ⟨q, hq, rfl⟩ | e
  · rcases i32_srv 8 (by omega) a2 with ⟨k, hk, rfl⟩ | e2
    · by_cases hx : (-9999 : Int32) ≤ a3 ∧ a3 ≤ 9999
      · by_cases hv : (-9999 : Int32) ≤ a4 ∧ a4 ≤ 9999
        · have hcl := hL.cl hq
          have hn0 : ¬ (xK X 2).1 34 q 3 + 1 = 0 := by
            rcases hcl with ⟨-, -, z⟩ | ⟨n, n1, n2, n3, n4⟩
            · rw [z]; decide
            · rw [n4, show (0 : Int32) = Int32.ofNat 0 from rfl, i32_eq (by omega) (by omega)]; omega
          by_cases hw : (xK X 2).1 34 q 3 = 0 ∨ ¬ (xK X 2).1 35 q 0 = 0
          · have h1 := c_118 (X := X) hq hk hx hv (by rw [hL.2.1]; exact hw) (by rw [hL.2.1]; exact hn0)
            rw [hL.2.1] at h1
            obtain ⟨l1, l2⟩ := lRel_ask hL (q := q) (n := A + 48) (kd := 3) (ky := Int32.ofNat k) (ex := a3) (vl := a4) (r := rAsk (Int32.ofNat q) ((xK X 2).1 34 q 3 + 1) 3 (Int32.ofNat k) a3 a4)
            have hn : kNum (c + 1) (dV (xD X) 0 31 0 0) (kAsk (xK X 2) q 3 (Int32.ofNat k) a3 a4) := by
              rcases hcl with ⟨-, -, z⟩ | ⟨n, n1, n2, n3, n4⟩
              · exact ask_n hL.n hc hq hk (by decide) (Nat.le_refl 1) (by omega) z
              · exact ask_n hL.n hc hq hk (by decide) (by omega) (by omega) n4
            refine qp_mv (S' := S) (P' := P + 1) (c1 := 1) (z1 := 6) (c2 := 1) (z2 := 7) hL hc hd (Nat.le_refl _) (w_344 (RT.u h1)) (fun Y hY => by rw [hY]; exact ⟨l1, l2, hn⟩) (fun Y e2 hap hR => ?_) (hgh.next (fun m0 G g => ⟨G, (g.mono (by omega)).ask q _ _ _ _⟩)) (by omega) (by omega) (by omega)
            have h2 := c_270 (X := Y) (m := A + 49) hq hk hap hv hx (by rw [e2]; exact hw.imp (fun z => by rw [z]; decide) id)
            rw [e2] at h2
            exact h2
          · have hw' := not_or.mp hw
            have hw2 : ¬ (xK X 2).1 34 q 3 ≤ 0 := by
              rcases hcl with ⟨z, -⟩ | ⟨n, n1, n2, n3, n4⟩
              · exact absurd z hw'.1
              · rw [n3, show (0 : Int32) = Int32.ofNat 0 from rfl, i32_le (by omega) (by omega)]; omega
            exact qp_x hL (w_344x1 (c_118x5 hq hk hx hv (by rw [hL.2.1]; exact ⟨hw'.1, Classical.not_not.mp hw'.2⟩))) (c_270x5 hq hk hv hx ⟨hw2, Classical.not_not.mp hw'.2⟩) (by decide)
        · exact qp_x hL (w_344x0 (c_118x4 hq hk hx hv)) (c_270x3 hq hk hv) (by decide)
      · by_cases hv : (-9999 : Int32) ≤ a4 ∧ a4 ≤ 9999
        · exact qp_x hL (w_344x0 (c_118x3 hq hk hx)) (c_270x4 hq hk hv hx) (by decide)
        · exact qp_x hL (w_344x0 (c_118x3 hq hk hx)) (c_270x3 hq hk hv) (by decide)
    · exact qp_x hL (w_344x2 (c_118x2 hq e2)) (c_270x2 hq e2) (by decide)
  · exact qp_x hL (w_344x2 (c_118x1 e)) (c_270x1 e) (by decide)
theorem p_24 (hL : LI n0 sc c X) (hc : c ≤ 511) : pr_24 (LI n0 sc) c X := by
  unfold pr_24
  generalize (xC X).2 (5 * c + 1) = a1
  generalize (xC X).2 (5 * c + 2) = a2
  obtain ⟨S, P, A, hSP, hgh, hd⟩ := hL.g
  rcases i32_srv 4 (by omega) a1 with ⟨q, hq, rfl⟩ | e
  · rcases i32_srv 7 (by omega) a2 with ⟨s, hs, rfl⟩ | e2
    · obtain ⟨k1, k2, k3, k4, k5, -⟩ := hgh.ok hs
      rcases hL.n.2.2.2 q hq with ⟨z, -⟩ | ⟨n, n1, n2, n3, n4, n5, y, n6, n7⟩
      · have hso : sOpen (xK X 2) q = false := by unfold sOpen; rw [z]; rfl
        exact qp_x hL (w_345x1 (c_119x3 hs hq (by rw [hL.2.1]; exact z))) (c_272x3 hq hs hso) (by decide)
      · have h3 : ¬ (xK X 2).1 34 q 3 = 0 := by rw [n3, show (0 : Int32) = Int32.ofNat 0 from rfl, i32_eq (by omega) (by omega)]; omega
        have h3' : ¬ (xK X 2).1 34 q 3 ≤ 0 := by rw [n3, show (0 : Int32) = Int32.ofNat 0 from rfl, i32_le (by omega) (by omega)]; omega
        by_cases h35 : (xK X 2).1 35 q 0 = 0
        · have ho : sOpen (xK X 2) q = true := by unfold sOpen; rw [decide_eq_true h3', decide_eq_true h35]; rfl
          by_cases hr : (xK X 2).1 12 s 0 = 3
          · by_cases hl : ((xK X 2).2.1 s).length < 40
            · have hE : eOk (eReq (xK X 2) s q) := ⟨fun z => by
                exfalso
                have z' : (xK X 2).1 34 q 1 = 4 := z
                rw [z'] at n4
                exact absurd n4.2 (by decide), fun _ => ⟨⟨q, hq, n5⟩, y, n6, n7⟩⟩
              have h1 := c_119 (X := X) (n := A + 48) hs hq hL.2.2.1 (by rw [hL.2.1]; exact k1) (by rw [hL.2.1]; exact k2) (by rw [hL.2.1]; exact k3) (by rw [hL.2.1]; exact h3) (by rw [hL.2.1]; exact h35) (by rw [hL.2.1]; exact hr) (by rw [hL.2.1]; exact hl) (by rw [hL.2.1]; exact n4) (by rw [hL.2.1]; exact hE)
              rw [hL.2.1] at h1
              refine qp_mv (S' := S) (P' := P + 1) (c2 := 0) (z2 := 0) hL hc hd (Nat.le_refl _) (w_345 h1) (fun Y hY => cR0 hL hY.1 (fun i => kLk_1 (by omega)) (fun q j' => kLk_1 (by omega))) (fun Y e2 hap hR => ?_) (hgh.next (fun m0 G g => (g.mono (by omega)).req hs hr hl n4 hE)) (by omega) (by show _ + 4 + _ ≤ _; omega) (by omega)
              have h2 := c_272 (X := Y) (m := A + 49) hq hs hap hR (by rw [e2]; exact k1) (by rw [e2]; exact k2) (by rw [e2]; omega) (by rw [e2]; exact hE) (by rw [e2]; exact ho) (by rw [e2]; exact hr) (by rw [e2]; exact hl)
              rw [e2] at h2
              exact h2
            · have hl9 : ((xK X 2).2.1 s).length < 400000 := by omega
              exact qp_x hL (w_345x1 (c_119x6 hs hq (by rw [hL.2.1]; exact h3) (by rw [hL.2.1]; exact h35) (by rw [hL.2.1]; exact hr) (by rw [hL.2.1]; exact hl) (by rw [hL.2.1]; omega))) (c_272x5 hq hs ho hr hl hl9) (by decide)
          · exact qp_x hL (w_345x1 (c_119x5 hs hq (by rw [hL.2.1]; exact h3) (by rw [hL.2.1]; exact h35) (by rw [hL.2.1]; exact hr))) (c_272x4 hq hs ho hr) (by decide)
        · have hso : sOpen (xK X 2) q = false := by unfold sOpen; rw [decide_eq_false h35, Bool.and_false]
          exact qp_x hL (w_345x1 (c_119x4 hs hq (by rw [hL.2.1]; exact h3) (by rw [hL.2.1]; exact h35))) (c_272x3 hq hs hso) (by decide)
    · exact qp_x hL (w_345x2 (c_119x2 hq e2)) (c_272x2 hq e2) (by decide)
  · exact qp_x hL (w_345x2 (c_119x1 e)) (c_272x1 e) (by decide)
end ASK4
