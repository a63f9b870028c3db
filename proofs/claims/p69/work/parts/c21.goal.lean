/-! ===== THE LAW HOLDS: from its entry to its answer ===== -/
theorem kAll_K0 {k : Nat} (hk : k ≤ 1000000000) : kAll 7 0 48 k K0 gZ := by
  have z5 : ∀ i, kT K0 i = 0 := fun i => rfl
  have z12 : ∀ i, kR K0 i = 0 := fun i => rfl
  refine ⟨cI_gZ _ (fun i _ => z12 i) (fun i _ => rfl), fun i hi => ⟨⟨⟨0, 0, rfl, rfl, Nat.le_refl _, Nat.zero_le _, rfl, rfl, rfl, Or.inl rfl, Nat.le_refl _⟩, Nat.zero_le _, fun e he => ?_⟩, ⟨rfl, by rw [z5]; omega, rfl, by rw [z12]; omega, Or.inl rfl, 0, by omega, rfl⟩, fun z => ?_, fun z => ?_⟩, fun u hu => ?_, ⟨7, by omega, rfl⟩, fun t ht => absurd rfl ht, by omega, by omega⟩
  · exact absurd (show e ∈ ([] : List ENT) from he) (by simp)
  · rw [z12] at z; omega
  · rw [z12] at z; omega
  · exact absurd (show u ∈ ([] : List MSG) from hu) (by simp)
theorem NN_K0 {S : Nat → Int32} (hS : ∀ c, c < 4 → 0 ≤ S c) : NN (fun _ => 0) (fun _ => 0) (fun _ => 0) S K0 gZ := by
  have k19 : ∀ i j, K0.1 19 i j = 0 := fun i j => rfl
  have k18 : ∀ i j, K0.1 18 i (3 + j) = 0 := fun i j => by
    show (if 18 = 4 then (1 : Int32) else if 18 = 6 ∨ 18 = 13 then -1 else if 18 = 18 ∧ 3 + j = 2 then 7 else 0) = 0
    rw [if_neg (by omega), if_neg (by omega), if_neg (by omega)]
  refine ⟨fun i hi => ⟨okS.z rfl, fun z => absurd (show (1 : Int32) = 0 from z) (by decide), Nat.zero_le _, Nat.zero_le _⟩, ⟨fun i hi => ⟨fun e he => absurd (show e ∈ ([] : List ENT) from he) (by simp), ⟨(by decide : ¬ (7 : Int32) = 0), fun c hc => ?_⟩, fun c hc => ?_⟩, fun u hu => absurd (show u ∈ ([] : List MSG) from hu) (by simp)⟩, ⟨fun i hi => ⟨Or.inl ⟨rfl, fun j _ => k19 i j⟩, Or.inl ⟨rfl, fun j _ => k18 i j⟩⟩, fun u hu => absurd (show u ∈ ([] : List MSG) from hu) (by simp)⟩, fun t ht => absurd rfl ht⟩
  · have := k18 i (8 + c)
    rw [show 3 + (8 + c) = 11 + c by omega] at this
    rw [this]; exact hS c hc
  · rw [k19]; exact hS c hc
section GOAL
variable {L : Nat} {xs : Nat → Int32}
theorem LJ_0 : LJ L xs 0 (fun _ => 0) (fun _ => 0) (fun _ => 0) (X0 L xs) := by
  have e0 : xK (X0 L xs) 0 = K0 := xK0 (by omega)
  refine ⟨rfl, fun i hi => ?_, ?_, 0, 0, 0, Nat.le_refl _, ?_, ?_⟩
  · rw [e0]; exact ⟨rfl, rfl⟩
  · rw [e0]
    exact fun q _ => Or.inl ⟨rfl, fun _ _ => rfl⟩
  · rw [e0]
    exact ⟨7, gZ, 0, kAll_K0 (by omega), NN_K0 (fun c _ => Int32.le_refl _), fun i _ => Nat.zero_le _, fun t ht => absurd rfl ht, Nat.le_refl _, Nat.le_refl _, Nat.le_refl _⟩
  · have aR : ∀ o i, dR (xD (X0 L xs)) o i = if o < 2 then 64 else 112 := fun _ _ => rfl
    refine ⟨fun i hi => ?_, ?_, ?_⟩
    · rw [aR, if_pos (by omega)]; omega
    · show 3688 ≤ _
      omega
    · show 64 * 387 ≤ _
      omega
theorem LJ.law {n0 n c : Nat} {sc : Nat → Int32} {tl cl led : Nat → Nat} {X : XS} (h : LJ n0 sc c tl cl led X) (hn : n ≤ 400) : LJ n0 sc (c + 1) tl cl led (xSetD X (dLaw (xD X) n)) := by
  obtain ⟨a1, a2, a3, S, P, A, a4, a5, b1, b2, b3⟩ := h
  refine ⟨a1, a2, a3.up, S, P + 1, A, by omega, (a5.same).mono (by omega), b1, ?_, ?_⟩
  · show dZ (xD X) + n ≤ 6000 + 40 * S + 4000 * (P + 1) + 2 * rTot (xD X) 0; omega
  · show 64 * (dC (xD X) + 1) ≤ 64 * 400 + rTot (xD X) 0 + 64 * (10 * S + 600 * (P + 1)); omega
theorem LJ.room {n0 : Nat} {sc : Nat → Int32} {c : Nat} {tl cl led : Nat → Nat} {X : XS} {g : PS} (h : LJ n0 sc c tl cl led X) (hc : c ≤ 60) (hg : Rep X g) : pC g ≤ 600000 ∧ pZ g ≤ 7000000 := by
  obtain ⟨-, -, -, S, P, A, h1, ⟨m0, G, l, -, -, -, -, g4, g5, g6⟩, d1, d2, d3⟩ := h
  obtain ⟨⟨-, s2, s3, -⟩, -⟩ := hg
  have q0 : rTot (xD X) 0 ≤ 14 * (A + 48) := by
    have := d1 0 (by omega)
    have := d1 1 (by omega)
    have := d1 2 (by omega)
    have := d1 3 (by omega)
    have := d1 4 (by omega)
    have := d1 5 (by omega)
    have := d1 6 (by omega)
    unfold rTot
    omega
  constructor <;> omega
/-- what the tree says of the first heap -/
theorem boot : ∃ t : TH, tB1 = some (none, t) ∧ tChk t = true := by
  have h := tBoot_ok
  unfold tBoot at h
  cases h1 : tB1 with
  | none => rw [h1] at h; cases h
  | some p =>
    obtain ⟨v, t⟩ := p
    rw [h1] at h
    cases v with
    | some v => cases h
    | none => exact ⟨t, rfl, h⟩
theorem cAt_hi {a : Nat} (h : ¬ a < 1024) : cAt a = none := by
  unfold cAt
  have : cTab[a / 32]? = none := List.getElem?_eq_none (by
    have : cTab.length = 13 := rfl
    omega)
  rw [this]; rfl
theorem chk_rep {t : TH} (h : tChk t = true) : Rep (X0 L xs) (tS L xs t) := by
  unfold tChk at h
  rw [Bool.and_eq_true] at h
  obtain ⟨h1, h2⟩ := h
  have h1 := of_decide_eq_true h1
  have hc : ∀ a, tC t.1 a = cAt a := fun a => by
    by_cases c : a < 1024
    · exact of_decide_eq_true (List.all_eq_true.mp h2 a (List.mem_range.mpr c))
    · rw [cAt_hi c]
      unfold tC
      rw [if_neg c]
  refine z_rep (fun a h0 => ?_) (fun a h0 => ?_) (fun a k h0 => ?_) rfl rfl (fun _ => rfl) ?_ ?_ ?_
  · show (if a = 0 then 20 else oK (tC t.1 a)) = _
    rw [if_neg h0, hc]
  · show (if a = 0 then L else oL (tC t.1 a)) = _
    rw [if_neg h0, hc]
  · show (if a = 0 then Value.int (xs k) else oM (tC t.1 a) k) = _
    rw [if_neg h0, hc]
  · show t.2.1 = 388; rw [h1]
  · show t.2.2.1 = 387; rw [h1]
  · show t.2.2.2 = 3688; rw [h1]
/-- the two rows are made, then the loop -/
def qAns (L : Nat) (xs : Nat → Int32) (o : PO) (Y : XS) : Prop := o = .inl (some (.int 1)) ∧ ∃ c tl cl led, c ≤ 60 ∧ LJ L xs c tl cl led Y
theorem l_24 {X : XS} (hL : LJ L xs 2 (fun _ => 0) (fun _ => 0) (fun _ => 0) X) (h260 : L ≤ 260) : AT 378 24 [some (.ref 0), some (.ref 1), none, none, none, none, none, none, none, none, none, none] [] X (qAns L xs) := by
  intro g hg
  have hN : 388 ≤ pN g := hg.1.1
  refine PW.plain M_378 (i := 24) rfl rfl (q := (25, [some (.ref 0), some (.ref 1), none, none, none, none, none, none, none, none, none, none], [.int 400], g)) rfl ?_
  refine PW.plain M_378 (i := 25) rfl rfl (q := (26, [some (.ref 0), some (.ref 1), none, none, none, none, none, none, none, none, none, none], [.ref (pN g)], pNew g 13 400 400 (fun _ => .int 0))) rfl ?_
  obtain ⟨g1, hg1⟩ : ∃ g1, g1 = pNew g 13 400 400 (fun _ => .int 0) := ⟨_, rfl⟩
  rw [← hg1]
  have hR1 : Rep (xSetD X (dLaw (xD X) 400)) g1 := by rw [hg1]; exact hg.new13
  have hr1 : r13 (pN g) 400 (fun _ => 0) g1 := by
    rw [hg1]
    exact ⟨hN, Nat.lt_succ_self _, by rw [pK_new, if_pos rfl], by rw [pL_new, if_pos rfl], fun j => by rw [pM_new, if_pos rfl]⟩
  have hn1 : pN g1 = pN g + 1 := by rw [hg1]; rfl
  refine PW.plain M_378 (i := 26) rfl rfl (q := (27, [some (.ref 0), some (.ref 1), some (.ref (pN g)), none, none, none, none, none, none, none, none, none], [], g1)) rfl ?_
  refine PW.plain M_378 (i := 27) rfl rfl (q := (28, [some (.ref 0), some (.ref 1), some (.ref (pN g)), none, none, none, none, none, none, none, none, none], [.int 14], g1)) rfl ?_
  refine PW.plain M_378 (i := 28) rfl rfl (q := (29, [some (.ref 0), some (.ref 1), some (.ref (pN g)), none, none, none, none, none, none, none, none, none], [.ref (pN g1)], pNew g1 13 14 14 (fun _ => .int 0))) rfl ?_
  obtain ⟨g2, hg2⟩ : ∃ g2, g2 = pNew g1 13 14 14 (fun _ => .int 0) := ⟨_, rfl⟩
  rw [← hg2]
  have hR2 : Rep (xSetD (xSetD X (dLaw (xD X) 400)) (dLaw (xD (xSetD X (dLaw (xD X) 400))) 14)) g2 := by rw [hg2]; exact hR1.new13
  have hr2 : r13 (pN g1) 14 (fun _ => 0) g2 := by
    rw [hg2]
    exact ⟨by omega, Nat.lt_succ_self _, by rw [pK_new, if_pos rfl], by rw [pL_new, if_pos rfl], fun j => by rw [pM_new, if_pos rfl]⟩
  have hr1' : r13 (pN g) 400 (fun _ => 0) g2 := hr1.mv (by rw [hg2]; exact k13.new)
  refine PW.plain M_378 (i := 29) rfl rfl (q := (30, [some (.ref 0), some (.ref 1), some (.ref (pN g)), some (.ref (pN g1)), none, none, none, none, none, none, none, none], [], g2)) rfl ?_
  refine PW.plain M_378 (i := 30) rfl rfl (q := (31, [some (.ref 0), some (.ref 1), some (.ref (pN g)), some (.ref (pN g1)), none, none, none, none, none, none, none, none], [.int 0], g2)) rfl ?_
  refine PW.plain M_378 (i := 31) rfl rfl (q := (32, [some (.ref 0), some (.ref 1), some (.ref (pN g)), some (.ref (pN g1)), some (.int 0), none, none, none, none, none, none, none], [], g2)) rfl ?_
  have hl := l_32 (p1 := pN g) (p2 := pN g1) h260 44 0 _ (pN g, pN g1, (fun _ => 0), fun _ => 0) (fun _ => 0) (fun _ => 0) (fun _ => 0) none none none none none none none rfl rfl rfl (fun t _ => ⟨rfl, Nat.zero_le _⟩) (fun x _ => ⟨rfl, rfl, Nat.zero_le _, Nat.zero_le _⟩) ((hL.law (n := 400) (by omega)).law (n := 14) (by omega))
  refine (hl g2 ⟨hR2, hr1', hr2, by show ¬ pN g = pN g1; omega⟩).mono (fun o g' hq => ?_)
  obtain ⟨X', W', hw, ho, h⟩ := hq
  exact ⟨X', hw.1, ho, h⟩
set_option maxRecDepth 100000 in
theorem law_PW (hL : L ≤ 260) : PW 378 0 (pEntry 12 [.ref 0]) [] (qG0 L xs) (fun o g' => o = .inl (some (.int 1)) ∧ pC g' ≤ 600000 ∧ pZ g' ≤ 7000000) := by
  obtain ⟨t, b1, b4⟩ := boot
  have hchk := chk_rep (L := L) (xs := xs) b4
  have r1 := tRun_ok (L := L) (xs := xs) tPT_ok 20000 94 _ 0 _ [] tB0 _ M_94 b1
  have g0 : tS L xs tB0 = pNew (qG0 L xs) 9 0 (pF 9) (fun k => defaultValue (pT 9 k)) := by
    rw [← tS_0 L xs]
    exact tNw_eq (t := (TT.E TC 10, 1, 0, 0)) (d := (9, 0)) (by decide) (by decide) (fun k => cD_f 9 (by omega) k)
  refine PW.plain M_378 (i := 0) rfl rfl (q := (1, pEntry 12 [.ref 0], [.ref 1], pNew (qG0 L xs) 9 0 (pF 9) (fun k => defaultValue (pT 9 k)))) rfl ?_
  rw [← g0]
  refine PW.plain M_378 (i := 1) rfl rfl (q := (2, pEntry 12 [.ref 0], [.ref 1, .ref 1], tS L xs tB0)) rfl ?_
  refine PW.call M_378 (i := 2) rfl rfl M_94 (av := [.ref 1]) (rest := [.ref 1]) rfl (Or.inl (by decide)) (by decide) rfl ?_
  refine ⟨20000, _, _, r1, ?_⟩
  dsimp only
  refine PW.plain M_378 (i := 3) rfl rfl (q := (4, [some (.ref 0), some (.ref 1), none, none, none, none, none, none, none, none, none, none], [], tS L xs t)) rfl ?_
  obtain ⟨v0, hv0⟩ := c_323 (X := X0 L xs) (k := 0) (by omega) hL
  obtain ⟨v1, k95⟩ := k_95 (LJ_0 (L := L) (xs := xs)) (by omega) (N := 1 + bel v0 7) (by omega) (by have := bel_lt (x := v0) (n := 7) (by omega); omega)
  have key : AT 378 4 [some (.ref 0), some (.ref 1), none, none, none, none, none, none, none, none, none, none] [] (X0 L xs) (qAns L xs) := by
    refine AT.aload_n M_378 rfl rfl ?_
    refine AT.iconst M_378 rfl (v := 1) (by decide) ?_
    refine AT.aload_n M_378 rfl rfl ?_
    refine AT.iconst M_378 rfl (v := 0) (by decide) ?_
    refine AT.cs2i M_378 rfl M_323 rfl (Nat.le_of_ble_eq_true rfl) rfl hv0 ?_ (Nat.le_of_ble_eq_true rfl) rfl
    refine AT.bipush M_378 rfl (v := 7) (by decide) ?_
    refine AT.cs2i M_378 rfl M_322 rfl (Nat.le_of_ble_eq_true rfl) rfl (c_322 _ (n := 7) (by decide) (by decide)) ?_ (Nat.le_of_ble_eq_true rfl) rfl
    refine AT.iadd M_378 rfl (Int32.ofNat_add 1 _).symm ?_
    refine AT.cv2u M_378 rfl M_95 rfl (Nat.le_of_ble_eq_true rfl) (xKd.of (Or.inr (Or.inr (Or.inl ⟨rfl, rfl, rfl⟩)))) (by decide) k95 (fun Y hY => ?_) (Nat.le_of_ble_eq_true rfl) rfl
    refine AT.popi M_378 rfl ?_
    obtain ⟨v2, hv2⟩ := c_323 (X := Y) (k := 1) (by omega) (by rw [hY.1]; exact hL)
    obtain ⟨v3, k100⟩ := k_100r hY (by omega) (N := 5 + bel v2 12) (by omega) (by have := bel_lt (x := v2) (n := 12) (by omega); omega)
    refine AT.aload_n M_378 rfl rfl ?_
    refine AT.iconst M_378 rfl (v := 5) (by decide) ?_
    refine AT.aload_n M_378 rfl rfl ?_
    refine AT.iconst M_378 rfl (v := 1) (by decide) ?_
    refine AT.cs2i M_378 rfl M_323 rfl (Nat.le_of_ble_eq_true rfl) rfl hv2 ?_ (Nat.le_of_ble_eq_true rfl) rfl
    refine AT.bipush M_378 rfl (v := 12) (by decide) ?_
    refine AT.cs2i M_378 rfl M_322 rfl (Nat.le_of_ble_eq_true rfl) rfl (c_322 _ (n := 12) (by decide) (by decide)) ?_ (Nat.le_of_ble_eq_true rfl) rfl
    refine AT.iadd M_378 rfl (Int32.ofNat_add 5 _).symm ?_
    refine AT.cv2u M_378 rfl M_100 rfl (Nat.le_of_ble_eq_true rfl) (xKd.of (Or.inr (Or.inr (Or.inl ⟨rfl, rfl, rfl⟩)))) (by decide) k100 (fun Z hZ => ?_) (Nat.le_of_ble_eq_true rfl) rfl
    refine AT.popi M_378 rfl ?_
    exact l_24 hZ hL
  refine (key _ hchk).mono (fun o g' hq => ?_)
  obtain ⟨X', hr, ho, c, tl, cl, led, hc, hJ⟩ := hq
  exact ⟨ho, hJ.room hc hr⟩
theorem qGoal_ok : qGoal := fun L xs hL => by
  obtain ⟨n, o, g', h1, rfl, h3, h4⟩ := law_PW (xs := xs) hL
  exact ⟨n, g', h1, h3, h4⟩
end GOAL
