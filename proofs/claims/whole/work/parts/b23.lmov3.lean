/-! ===== THE LAW: links, requests, the beginning ===== -/
def tot (p : Nat → Nat) : Nat → Nat
  | 0 => 0
  | n + 1 => tot p n + p n
theorem sSum_tot {f : Nat → Int32} {p : Nat → Nat} : ∀ n, (∀ i, i < n → f i = Int32.ofNat (p i)) → sSum f n = Int32.ofNat (tot p n)
  | 0, _ => rfl
  | n + 1, h => by
    show sSum f n + f n = Int32.ofNat (tot p n + p n)
    rw [sSum_tot n (fun i hi => h i (by omega)), h n (by omega), Int32.ofNat_add]
theorem tot_cg {p p' : Nat → Nat} : ∀ n, (∀ x, x < n → p' x = p x) → tot p' n = tot p n
  | 0, _ => rfl
  | n + 1, h => by
    show tot p' n + p' n = tot p n + p n
    rw [tot_cg n (fun x hx => h x (by omega)), h n (by omega)]
theorem tot_up {p p' : Nat → Nat} {i : Nat} : ∀ n, i < n → (∀ x, x < n → ¬ x = i → p' x = p x) → tot p' n + p i = tot p n + p' i
  | 0, hi, _ => by omega
  | n + 1, hi, h => by
    show tot p' n + p' n + p i = tot p n + p n + p' i
    by_cases e : i = n
    · rw [tot_cg n (fun x hx => h x (by omega) (by omega)), e]; omega
    · have := tot_up (p := p) (p' := p') n (by omega) (fun x hx => h x (by omega))
      have := h n (by omega) (by omega)
      omega
theorem tot_le {p : Nat → Nat} {b : Nat} : ∀ n, (∀ x, x < n → p x ≤ b) → tot p n ≤ n * b
  | 0, _ => Nat.zero_le _
  | n + 1, h => by
    have := tot_le (p := p) (b := b) n (fun x hx => h x (by omega))
    have := h n (by omega)
    show tot p n + p n ≤ (n + 1) * b
    rw [Nat.succ_mul]; omega
theorem flip_all : ∀ n, n < 128 → ∀ j, j < 7 → sFlip (Int32.ofNat n) j = Int32.ofNat (n ^^^ 2 ^ j) ∧ n ^^^ 2 ^ j < 128 ∧ (∀ v, v < 7 → sBit (Int32.ofNat (n ^^^ 2 ^ j)) v = if v = j then !sBit (Int32.ofNat n) v else sBit (Int32.ofNat n) v) ∧
    (sBit (Int32.ofNat n) j = true → cn (sBit (Int32.ofNat (n ^^^ 2 ^ j))) + 1 = cn (sBit (Int32.ofNat n))) ∧ (sBit (Int32.ofNat n) j = false → cn (sBit (Int32.ofNat (n ^^^ 2 ^ j))) = cn (sBit (Int32.ofNat n)) + 1) := by decide +kernel
theorem half_all : ∀ k, k < 26 → Int32.ofNat (2 * k) / 2 = Int32.ofNat k ∧ Int32.ofNat k + 1 = Int32.ofNat (k + 1) ∧ (1 ≤ k → Int32.ofNat k + -1 = Int32.ofNat (k - 1)) := by decide +kernel
theorem kTurn_v {K : KK} {i j : Nat} (hne : ¬ i = j) (x : Nat) : (kTurn K i j).1 30 x 0 = if x = i then sFlip (K.1 30 i 0) j else if x = j then sFlip (K.1 30 j 0) i else K.1 30 x 0 := by
  unfold kTurn
  by_cases e : x = i
  · rw [if_pos e, e, kSet_ne (by omega), kSet_at]; rfl
  · rw [if_neg e]
    by_cases e2 : x = j
    · rw [if_pos e2, e2, kSet_at, kSet_ne (by omega)]; rfl
    · rw [if_neg e2, kSet_ne (by omega), kSet_ne (by omega)]
theorem kTurn_f {K : KK} {i j f x y : Nat} (h : ¬ f = 30) : (kTurn K i j).1 f x y = K.1 f x y := by
  unfold kTurn
  rw [kSet_ne (by omega), kSet_ne (by omega)]
theorem turn_n {c : Nat} {v : Int32} {K : KK} {i j : Nat} (h : kNum c v K) (hi : i < 7) (hj : j < 7) (hne : ¬ i = j) :
    kNum (c + 1) (v + (if sBit ((kTurn K i j).1 30 i 0) j = true then 1 else -1)) (kTurn K i j) ∧ sSum (fun x => sCnt ((kTurn K i j).1 30 x 0)) 7 / 2 = v + (if sBit ((kTurn K i j).1 30 i 0) j = true then 1 else -1) ∧ ∀ x, x < 7 → ∃ n : Nat, n < 128 ∧ (kTurn K i j).1 30 x 0 = Int32.ofNat n := by
  obtain ⟨h1, h2, ⟨k, k1, k2, k3⟩, h4⟩ := h
  obtain ⟨r, hr⟩ : ∃ r : Nat → Nat, ∀ x, x < 7 → r x < 128 ∧ K.1 30 x 0 = Int32.ofNat (r x) := by
    refine ⟨fun x => (K.1 30 x 0).toNatClampNeg, fun x hx => ?_⟩
    obtain ⟨n, n1, n2⟩ := h2 x hx
    show (K.1 30 x 0).toNatClampNeg < 128 ∧ K.1 30 x 0 = Int32.ofNat (K.1 30 x 0).toNatClampNeg
    rw [n2, toN (by omega)]
    exact ⟨n1, rfl⟩
  obtain ⟨i1, i2, i3, i4, i5⟩ := flip_all (r i) (hr i hi).1 j hj
  obtain ⟨j1, j2, j3, j4, j5⟩ := flip_all (r j) (hr j hj).1 i hi
  obtain ⟨r', hr'⟩ : ∃ r' : Nat → Nat, ∀ x, r' x = if x = i then r i ^^^ 2 ^ j else if x = j then r j ^^^ 2 ^ i else r x := ⟨_, fun _ => rfl⟩
  have hv : ∀ x, x < 7 → r' x < 128 ∧ (kTurn K i j).1 30 x 0 = Int32.ofNat (r' x) := fun x hx => by
    rw [kTurn_v hne, hr']
    by_cases e : x = i
    · rw [if_pos e, if_pos e, (hr i hi).2]; exact ⟨i2, i1⟩
    · rw [if_neg e, if_neg e]
      by_cases e2 : x = j
      · rw [if_pos e2, if_pos e2, (hr j hj).2]; exact ⟨j2, j1⟩
      · rw [if_neg e2, if_neg e2]; exact hr x hx
  have hbit : ∀ s f, s < 7 → f < 7 → sBit ((kTurn K i j).1 30 s 0) f = if (s = i ∧ f = j) ∨ (s = j ∧ f = i) then !sBit (K.1 30 s 0) f else sBit (K.1 30 s 0) f := fun s f hs hf => by
    rw [(hv s hs).2, hr', (hr s hs).2]
    by_cases e : s = i
    · subst e
      rw [if_pos rfl, i3 f hf]
      by_cases e2 : f = j
      · rw [if_pos e2, if_pos (Or.inl ⟨rfl, e2⟩)]
      · rw [if_neg e2, if_neg (by omega)]
    · rw [if_neg e]
      by_cases e2 : s = j
      · subst e2
        rw [if_pos rfl, j3 f hf]
        by_cases e3 : f = i
        · rw [if_pos e3, if_pos (Or.inr ⟨rfl, e3⟩)]
        · rw [if_neg e3, if_neg (by omega)]
      · rw [if_neg e2, if_neg (by omega)]
  have hsym := h1 i j hi hj
  have hbi : sBit ((kTurn K i j).1 30 i 0) j = !sBit (K.1 30 i 0) j := by rw [hbit i j hi hj, if_pos (Or.inl ⟨rfl, rfl⟩)]
  -- how many
  have s0 : sSum (fun x => sCnt (K.1 30 x 0)) 7 = Int32.ofNat (tot (fun x => cn (sBit (Int32.ofNat (r x)))) 7) := sSum_tot 7 (fun x hx => by
    show sCnt (K.1 30 x 0) = _
    rw [(hr x hx).2]; exact sCnt_cn _ (hr x hx).1)
  have s1 : sSum (fun x => sCnt ((kTurn K i j).1 30 x 0)) 7 = Int32.ofNat (tot (fun x => cn (sBit (Int32.ofNat (r' x)))) 7) := sSum_tot 7 (fun x hx => by
    show sCnt ((kTurn K i j).1 30 x 0) = _
    rw [(hv x hx).2]; exact sCnt_cn _ (hv x hx).1)
  obtain ⟨p, hp⟩ : ∃ p : Nat → Nat, p = fun x => cn (sBit (Int32.ofNat (r x))) := ⟨_, rfl⟩
  obtain ⟨p', hp'⟩ : ∃ p' : Nat → Nat, p' = fun x => cn (sBit (Int32.ofNat (r' x))) := ⟨_, rfl⟩
  rw [← hp] at s0
  rw [← hp'] at s1
  have pi : p i = cn (sBit (Int32.ofNat (r i))) := by rw [hp]
  have pj : p j = cn (sBit (Int32.ofNat (r j))) := by rw [hp]
  have pi' : p' i = cn (sBit (Int32.ofNat (r i ^^^ 2 ^ j))) := by rw [hp']; show cn (sBit (Int32.ofNat (r' i))) = _; rw [hr', if_pos rfl]
  have pj' : p' j = cn (sBit (Int32.ofNat (r j ^^^ 2 ^ i))) := by rw [hp']; show cn (sBit (Int32.ofNat (r' j))) = _; rw [hr', if_neg (fun z => hne z.symm), if_pos rfl]
  have po : ∀ x, ¬ x = i → ¬ x = j → p' x = p x := fun x e1 e2 => by
    rw [hp, hp']; show cn (sBit (Int32.ofNat (r' x))) = _; rw [hr', if_neg e1, if_neg e2]
  obtain ⟨q, hq⟩ : ∃ q : Nat → Nat, ∀ x, q x = if x = i then p' i else p x := ⟨_, fun _ => rfl⟩
  have t1 := tot_up (p := p) (p' := q) 7 hi (fun x _ e => by rw [hq, if_neg e])
  have t2 := tot_up (p := q) (p' := p') 7 hj (fun x _ e => by
    rw [hq]
    by_cases e1 : x = i
    · rw [if_pos e1, e1]
    · rw [if_neg e1]; exact po x e1 e)
  rw [hq i, if_pos rfl] at t1
  rw [hq j, if_neg (fun z => hne z.symm)] at t2
  have tl := tot_le (p := p) (b := 7) 7 (fun x _ => by rw [hp]; exact cn_le _)
  have tl' := tot_le (p := p') (b := 7) 7 (fun x _ => by rw [hp']; exact cn_le _)
  have e0 : tot p 7 = 2 * k := by
    rw [k3] at s0
    have := congrArg Int32.toNatClampNeg s0
    rw [toN (by omega), toN (by omega)] at this
    exact this.symm
  have hcl : ∀ x, x < 7 → ∃ n : Nat, n < 128 ∧ (kTurn K i j).1 30 x 0 = Int32.ofNat n := fun x hx => ⟨_, hv x hx⟩
  have hsy : ∀ s f, s < 7 → f < 7 → sBit ((kTurn K i j).1 30 s 0) f = sBit ((kTurn K i j).1 30 f 0) s := fun s f hs hf => by
    rw [hbit s f hs hf, hbit f s hf hs, h1 s f hs hf]
    by_cases e : (s = i ∧ f = j) ∨ (s = j ∧ f = i)
    · rw [if_pos e, if_pos (by omega)]
    · rw [if_neg e, if_neg (by omega)]
  have hcli : ∀ q, q < 4 → ((kTurn K i j).1 34 q 3 = 0 ∧ ∀ x, x < 7 → (kTurn K i j).1 34 q x = 0) ∨ ∃ n : Nat, 1 ≤ n ∧ n ≤ c + 1 ∧ (kTurn K i j).1 34 q 3 = Int32.ofNat n ∧ (1 ≤ (kTurn K i j).1 34 q 1 ∧ (kTurn K i j).1 34 q 1 ≤ 3) ∧ (kTurn K i j).1 34 q 2 = Int32.ofNat q ∧ ∃ y : Nat, y < 8 ∧ (kTurn K i j).1 34 q 4 = Int32.ofNat y := fun q hq4 => by
    have e34 : ∀ x, (kTurn K i j).1 34 q x = K.1 34 q x := fun x => kTurn_f (by omega)
    rw [e34, e34, e34, e34]
    rcases h4 q hq4 with ⟨z1, z2⟩ | ⟨n, z1, z2, z3⟩
    · exact Or.inl ⟨z1, fun x hx => by rw [e34]; exact z2 x hx⟩
    · exact Or.inr ⟨n, z1, by omega, z3⟩
  have main : ∃ k', k' ≤ 24 ∧ v + (if sBit ((kTurn K i j).1 30 i 0) j = true then 1 else -1) = Int32.ofNat k' ∧ tot p' 7 = 2 * k' := by
    rw [hbi, k2]
    have ebi : sBit (K.1 30 i 0) j = sBit (Int32.ofNat (r i)) j := by rw [(hr i hi).2]
    have ebj : sBit (K.1 30 j 0) i = sBit (Int32.ofNat (r j)) i := by rw [(hr j hj).2]
    cases hb : sBit (K.1 30 i 0) j with
    | true =>
      have a1 := i4 (ebi ▸ hb)
      have a2 := j4 (ebj ▸ (hsym ▸ hb))
      refine ⟨k - 1, by omega, ?_, by omega⟩
      rw [if_neg (by decide)]
      exact (half_all k (by omega)).2.2 (by omega)
    | false =>
      have a1 := i5 (ebi ▸ hb)
      have a2 := j5 (ebj ▸ (hsym ▸ hb))
      refine ⟨k + 1, by omega, ?_, by omega⟩
      rw [if_pos (by decide)]
      exact (half_all k (by omega)).2.1
  obtain ⟨k', m1, m2, m3⟩ := main
  refine ⟨⟨hsy, hcl, ⟨k', m1, m2, by rw [s1, m3]⟩, hcli⟩, ?_, hcl⟩
  rw [s1, m3, m2]
  exact (half_all k' (by omega)).1
section MV3
variable {n0 : Nat} {sc : Nat → Int32} {c : Nat} {X : XS}
theorem lRel_turn (hL : LI n0 sc c X) {s j n : Nat} {v : Int32} : lRel 0 n 0 0 X (xSetK (xSetD X (dSetV (xD X) 0 31 0 0 v)) 0 (kTurn (xK X 2) s j)) ∧ xK (xSetK (xSetD X (dSetV (xD X) 0 31 0 0 v)) 0 (kTurn (xK X 2) s j)) 0 = kTurn (xK X 2) s j ∧ dV (xD (xSetK (xSetD X (dSetV (xD X) 0 31 0 0 v)) 0 (kTurn (xK X 2) s j))) 0 31 0 0 = v := by
  obtain ⟨a, b⟩ := lRel.put (o := 0) (n := n) (c := 0) (z := 0) (X := X) (D := dSetV (xD X) 0 31 0 0 v) (K' := kTurn (xK X 2) s j) hL.2.2.1 (fun i _ => by rw [hL.2.1]; unfold kTurn; exact (sSame.set (by decide) i).tr (sSame.set (by decide) i)) (fun _ _ => rfl) (fun a f i j h => by
    show (if _ then _ else _) = _
    rw [if_neg (fun z => h ⟨z.1, z.2.1⟩)]; rfl) (Nat.le_refl _) (Nat.le_refl _)
  refine ⟨a, b, ?_⟩
  show (if 0 = 0 ∧ 31 = 31 ∧ 0 = 0 ∧ 0 = 0 then v else dV (xD X) 0 31 0 0) = v
  exact if_pos ⟨rfl, rfl, rfl, rfl⟩
theorem p_3 (hL : LI n0 sc c X) (hc : c ≤ 511) : pr_3 (LI n0 sc) c X := by
  unfold pr_3
  generalize (xC X).2 (5 * c + 1) = a1
  generalize (xC X).2 (5 * c + 2) = a2
  obtain ⟨S, P, A, hSP, hgh, hd⟩ := hL.g
  rcases i32_srv 7 (by omega) a1 with ⟨s, hs, rfl⟩ | e
  · rcases i32_srv 7 (by omega) a2 with ⟨j, hj, rfl⟩ | e2
    · by_cases hne : s = j
      · subst hne
        exact qp_x hL (w_325x0 (c_98x3 hs)) (c_246x3 hs) (by decide)
      · cases hb : sBit ((xK X 2).1 30 s 0) j with
        | true => exact qp_x hL (w_325x1 (c_98x4 hs hj hne (by rw [hL.2.1]; exact hb))) (c_246x4 hs hj hne hb) (by decide)
        | false =>
          have h1 := c_98 (X := X) hs hj hne (by rw [hL.2.1]; exact hb)
          rw [hL.2.1] at h1
          obtain ⟨t1, t2, t3⟩ := turn_n hL.n hs hj hne
          obtain ⟨l1, l2, l3⟩ := lRel_turn hL (s := s) (j := j) (n := A + 48) (v := dV (xD X) 0 31 0 0 + (if sBit ((kTurn (xK X 2) s j).1 30 s 0) j = true then 1 else -1))
          refine qp_mv (S' := S) (P' := P + 1) (c1 := 0) (z1 := 0) (c2 := 0) (z2 := 0) hL hc hd (Nat.le_refl _) (w_325 (RT.u h1)) (fun Y hY => by rw [hY]; exact ⟨l1, l2, by rw [l3]; exact t1⟩) (fun Y e2 hap hR => ?_) (hgh.next (fun m0 G g => ⟨G, (g.mono (by omega)).link s j⟩)) (by omega) (by omega) (by omega)
          have h2 := c_246 (X := Y) (m := A + 49) hs hj hap hne (by rw [e2]; exact hb) (by rw [e2]; exact t3)
          rw [e2, t2] at h2
          exact h2
    · exact qp_x hL (w_325x2 (c_98x2 hs e2)) (c_246x2 hs e2) (by decide)
  · exact qp_x hL (w_325x2 (c_98x1 e)) (c_246x1 e) (by decide)
theorem p_4 (hL : LI n0 sc c X) (hc : c ≤ 511) : pr_4 (LI n0 sc) c X := by
  unfold pr_4
  generalize (xC X).2 (5 * c + 1) = a1
  generalize (xC X).2 (5 * c + 2) = a2
  obtain ⟨S, P, A, hSP, hgh, hd⟩ := hL.g
  rcases i32_srv 7 (by omega) a1 with ⟨s, hs, rfl⟩ | e
  · rcases i32_srv 7 (by omega) a2 with ⟨j, hj, rfl⟩ | e2
    · by_cases hne : s = j
      · subst hne
        exact qp_x hL (w_326x0 (c_99x3 hs)) (c_247x3 hs) (by decide)
      · cases hb : sBit ((xK X 2).1 30 s 0) j with
        | false => exact qp_x hL (w_326x1 (c_99x4 hs hj hne (by rw [hL.2.1]; exact hb))) (c_247x4 hs hj hne hb) (by decide)
        | true =>
          have h1 := c_99 (X := X) hs hj hne (by rw [hL.2.1]; exact hb)
          rw [hL.2.1] at h1
          obtain ⟨t1, t2, t3⟩ := turn_n hL.n hs hj hne
          obtain ⟨l1, l2, l3⟩ := lRel_turn hL (s := s) (j := j) (n := A + 48) (v := dV (xD X) 0 31 0 0 + (if sBit ((kTurn (xK X 2) s j).1 30 s 0) j = true then 1 else -1))
          refine qp_mv (S' := S) (P' := P + 1) (c1 := 0) (z1 := 0) (c2 := 0) (z2 := 0) hL hc hd (Nat.le_refl _) (w_326 (RT.u h1)) (fun Y hY => by rw [hY]; exact ⟨l1, l2, by rw [l3]; exact t1⟩) (fun Y e2 hap hR => ?_) (hgh.next (fun m0 G g => ⟨G, (g.mono (by omega)).link s j⟩)) (by omega) (by omega) (by omega)
          have h2 := c_247 (X := Y) (m := A + 49) hs hj hap hne (by rw [e2]; exact hb) (by rw [e2]; exact t3)
          rw [e2, t2] at h2
          exact h2
    · exact qp_x hL (w_326x2 (c_99x2 hs e2)) (c_247x2 hs e2) (by decide)
  · exact qp_x hL (w_326x2 (c_99x1 e)) (c_247x1 e) (by decide)
end MV3
