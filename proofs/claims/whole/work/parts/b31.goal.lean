/-! ===== THE LAW HOLDS: from its entry to its answer ===== -/
theorem kAll_K0 {k : Nat} (hk : k ≤ 1000000000) : kAll 7 0 48 k K0 gZ := by
  have z5 : ∀ i, kT K0 i = 0 := fun i => rfl
  have z12 : ∀ i, kR K0 i = 0 := fun i => rfl
  refine ⟨cI_gZ _ (fun i _ => z12 i) (fun i _ => rfl), fun i hi => ⟨⟨⟨0, 0, rfl, rfl, Nat.le_refl _, Nat.zero_le _, rfl, rfl, rfl, Or.inl rfl, Nat.le_refl _⟩, Nat.zero_le _, fun e he => ?_⟩, ⟨rfl, by rw [z5]; omega, rfl, by rw [z12]; omega, Or.inl rfl, 0, by omega, rfl⟩, fun z => ?_, fun z => ?_⟩, fun u hu => ?_, ⟨7, by omega, rfl⟩, fun t ht => absurd rfl ht, by omega, by omega⟩
  · exact absurd (show e ∈ ([] : List ENT) from he) (by simp)
  · rw [z12] at z; omega
  · rw [z12] at z; omega
  · exact absurd (show u ∈ ([] : List MSG) from hu) (by simp)
section GOAL
variable {L : Nat} {xs : Nat → Int32}
theorem LI_0 : LI L xs 0 (X0 L xs) := by
  have e0 : xK (X0 L xs) 0 = K0 := xK0 (by omega)
  have e1 : xK (X0 L xs) 1 = K0 := xK0 (by omega)
  have e2 : xK (X0 L xs) 2 = K0 := xK0 (by omega)
  refine ⟨rfl, by rw [e0, e2], fun i hi => ?_, fun i hi => ?_, fun i hi => ?_, ?_, 0, 0, 0, Nat.le_refl _, ?_, ?_⟩
  · rw [e0]; exact ⟨rfl, rfl⟩
  · rw [e1]; exact ⟨rfl, rfl⟩
  · rw [e2]; rfl
  · rw [e0]
    exact ⟨fun s f _ _ => by
      have zz : ∀ f, f < 7 → sBit 0 f = false := by decide
      rename_i hs hf
      exact (zz f hf).trans (zz s hs).symm, fun i _ => ⟨0, by omega, rfl⟩, ⟨0, by omega, rfl, by decide⟩, fun q _ => Or.inl ⟨rfl, fun _ _ => rfl⟩⟩
  · rw [e0]
    exact ⟨7, gZ, 0, kAll_K0 (by omega), fun i _ => Nat.zero_le _, fun t ht => absurd rfl ht, Nat.le_refl _, Nat.le_refl _, Nat.le_refl _⟩
  · have aR : ∀ o i, dR (xD (X0 L xs)) o i = if o < 2 then 64 else 112 := fun _ _ => rfl
    refine ⟨fun o i ho hi => ?_, fun o i h2 h4 hi => ?_, ?_, ?_⟩
    · rw [aR, if_pos ho]; omega
    · rw [aR, if_neg (by omega)]; omega
    · show 10705 ≤ _
      omega
    · show 64 * 511 ≤ _
      omega
theorem LI.room {n0 : Nat} {sc : Nat → Int32} {c : Nat} {X : XS} {g : PS} (h : LI n0 sc c X) (hc : c ≤ 512) (hg : Rep X g) : pC g ≤ 600000 ∧ pZ g ≤ 7000000 := by
  obtain ⟨-, -, -, -, -, -, S, P, A, h1, ⟨m0, G, l, -, -, -, g4, g5, g6⟩, d1, d2, d3, d4⟩ := h
  obtain ⟨⟨-, s2, s3, -⟩, -⟩ := hg
  have r0 : ∀ o, o < 2 → rTot (xD X) o ≤ 14 * (A + 48) := fun o ho => by
    have := d1 o 0 ho (by omega)
    have := d1 o 1 ho (by omega)
    have := d1 o 2 ho (by omega)
    have := d1 o 3 ho (by omega)
    have := d1 o 4 ho (by omega)
    have := d1 o 5 ho (by omega)
    have := d1 o 6 ho (by omega)
    unfold rTot
    omega
  have r2 : ∀ o, 2 ≤ o → o < 4 → rTot (xD X) o ≤ 98 * (A + 49) := fun o h2 h4 => by
    have := (d2 o 0 h2 h4 (by omega)).2
    have := (d2 o 1 h2 h4 (by omega)).2
    have := (d2 o 2 h2 h4 (by omega)).2
    have := (d2 o 3 h2 h4 (by omega)).2
    have := (d2 o 4 h2 h4 (by omega)).2
    have := (d2 o 5 h2 h4 (by omega)).2
    have := (d2 o 6 h2 h4 (by omega)).2
    unfold rTot
    omega
  have q0 := r0 0 (by omega)
  have q1 := r0 1 (by omega)
  have q2 := r2 2 (by omega) (by omega)
  have q3 := r2 3 (by omega) (by omega)
  constructor <;> omega
/-- what the tree says of the first heap -/
theorem boot : ∃ t t' : TH, tB1 = some (none, t) ∧ t.2.1 = 388 ∧ tB2 t = some (none, t') ∧ tChk (tNw t' 14 1 (14, 0) 1) = true := by
  have h := tBoot_ok
  unfold tBoot at h
  cases h1 : tB1 with
  | none => rw [h1] at h; cases h
  | some p =>
    obtain ⟨v, t⟩ := p
    rw [h1] at h
    cases v with
    | some v => cases h
    | none =>
      have h' : (decide (t.2.1 = 388) && (match tB2 t with | some (none, t') => tChk (tNw t' 14 1 (14, 0) 1) | _ => false)) = true := h
      rw [Bool.and_eq_true] at h'
      obtain ⟨h2, h3⟩ := h'
      cases h4 : tB2 t with
      | none => rw [h4] at h3; cases h3
      | some p2 =>
        obtain ⟨v2, t'⟩ := p2
        rw [h4] at h3
        cases v2 with
        | some v2 => cases h3
        | none => exact ⟨t, t', rfl, of_decide_eq_true h2, h4, h3⟩
theorem cAt_hi {a : Nat} (h : ¬ a < 1024) : cAt a = none := by
  unfold cAt
  have : cTab[a / 32]? = none := List.getElem?_eq_none (by
    have : cTab.length = 16 := rfl
    omega)
  rw [this]; rfl
theorem chk_rep {t : TH} (h : tChk t = true) : Rep (X0 L xs) (tS L xs t) := by
  unfold tChk at h
  rw [Bool.and_eq_true] at h
  obtain ⟨h1, h2⟩ := h
  have h1 := of_decide_eq_true h1
  have hc : ∀ a, tC t.1 a = cAt a := fun a => by
    by_cases c : a < 1024
    · exact of_decide_eq_true (List.all_eq_true.mp h2 a (List.mem_range.mpr c))
    · rw [cAt_hi c]
      unfold tC
      rw [if_neg c]
  refine z_rep (fun a h0 => ?_) (fun a h0 => ?_) (fun a k h0 => ?_) rfl rfl (fun _ => rfl) ?_ ?_ ?_
  · show (if a = 0 then 20 else oK (tC t.1 a)) = _
    rw [if_neg h0, hc]
  · show (if a = 0 then L else oL (tC t.1 a)) = _
    rw [if_neg h0, hc]
  · show (if a = 0 then Value.int (xs k) else oM (tC t.1 a) k) = _
    rw [if_neg h0, hc]
  · show t.2.1 = 512; rw [h1]
  · show t.2.2.1 = 511; rw [h1]
  · show t.2.2.2 = 10705; rw [h1]
end GOAL
section GOAL2
variable {L : Nat} {xs : Nat → Int32}
theorem tNw_N (t : TH) (kd ln : Nat) (d : Nat × Nat) (z : Nat) : (tNw t kd ln d z).2.1 = t.2.1 + 1 := rfl
set_option maxRecDepth 100000 in
theorem law_PW (hL : L ≤ 2560) : PW 378 0 (pEntry 9 [.ref 0]) [] (qG0 L xs) (fun o g' => o = .inl (some (.int 1)) ∧ pC g' ≤ 600000 ∧ pZ g' ≤ 7000000) := by
  obtain ⟨t, t', b1, b2, b3, b4⟩ := boot
  have hchk := chk_rep (L := L) (xs := xs) b4
  have hn' : t'.2.1 = 511 := by
    unfold tChk at b4
    rw [Bool.and_eq_true] at b4
    have := congrArg Prod.fst (of_decide_eq_true b4.1)
    have e : t'.2.1 + 1 = 512 := this
    omega
  have r1 := tRun_ok (L := L) (xs := xs) tPT_ok 20000 94 _ 0 _ [] tB0 _ M_94 b1
  have r2 := tRun_ok (L := L) (xs := xs) tPT_ok 20000 231 _ 0 _ [] _ _ M_231 b3
  have g0 : tS L xs tB0 = pNew (qG0 L xs) 9 0 (pF 9) (fun k => defaultValue (pT 9 k)) := by
    rw [← tS_0 L xs]
    exact tNw_eq (t := (TT.E TC 10, 1, 0, 0)) (d := (9, 0)) (by decide) (by decide) (fun k => cD_f 9 (by omega) k)
  have g1 : tS L xs (tNw t 11 0 (11, 0) (pF 11)) = pNew (tS L xs t) 11 0 (pF 11) (fun k => defaultValue (pT 11 k)) := tNw_eq (d := (11, 0)) (by omega) (by omega) (fun k => cD_f 11 (by omega) k)
  have g2 : tS L xs (tNw t' 14 1 (14, 0) 1) = pNew (tS L xs t') 14 1 1 (fun _ => .long 0) := tNw_eq (d := (14, 0)) (by omega) (by omega) (fun k => rfl)
  have n1 : pN (qG0 L xs) = 1 := rfl
  have n2 : pN (tS L xs t) = 388 := b2
  have n3 : pN (tS L xs t') = 511 := hn'
  refine PW.plain M_378 (i := 0) rfl rfl (q := (1, pEntry 9 [.ref 0], [.ref 1], pNew (qG0 L xs) 9 0 (pF 9) (fun k => defaultValue (pT 9 k)))) rfl ?_
  rw [← g0]
  refine PW.plain M_378 (i := 1) rfl rfl (q := (2, pEntry 9 [.ref 0], [.ref 1, .ref 1], tS L xs tB0)) rfl ?_
  refine PW.call M_378 (i := 2) rfl rfl M_94 (av := [.ref 1]) (rest := [.ref 1]) rfl (Or.inl (by decide)) (by decide) rfl ?_
  refine ⟨20000, _, _, r1, ?_⟩
  dsimp only
  refine PW.plain M_378 (i := 3) rfl rfl (q := (4, [some (.ref 0), some (.ref 1), none, none, none, none, none, none, none], [], tS L xs t)) rfl ?_
  refine PW.plain M_378 (i := 4) rfl rfl (q := (5, [some (.ref 0), some (.ref 1), none, none, none, none, none, none, none], [.ref 388], pNew (tS L xs t) 11 0 (pF 11) (fun k => defaultValue (pT 11 k)))) (by rw [← n2]; rfl) ?_
  rw [← g1]
  refine PW.plain M_378 (i := 5) rfl rfl (q := (6, [some (.ref 0), some (.ref 1), none, none, none, none, none, none, none], [.ref 388, .ref 388], tS L xs (tNw t 11 0 (11, 0) (pF 11)))) rfl ?_
  refine PW.call M_378 (i := 6) rfl rfl M_231 (av := [.ref 388]) (rest := [.ref 388]) rfl (Or.inl (by decide)) (by decide) rfl ?_
  refine ⟨20000, _, _, r2, ?_⟩
  dsimp only
  refine PW.plain M_378 (i := 7) rfl rfl (q := (8, [some (.ref 0), some (.ref 1), some (.ref 388), none, none, none, none, none, none], [], tS L xs t')) rfl ?_
  refine PW.plain M_378 (i := 8) rfl rfl (q := (9, [some (.ref 0), some (.ref 1), some (.ref 388), none, none, none, none, none, none], [.int 1], tS L xs t')) rfl ?_
  refine PW.plain M_378 (i := 9) rfl rfl (q := (10, [some (.ref 0), some (.ref 1), some (.ref 388), none, none, none, none, none, none], [.ref 511], pNew (tS L xs t') 14 1 1 (fun _ => .long 0))) (by rw [← n3]; rfl) ?_
  rw [← g2]
  refine PW.plain M_378 (i := 10) rfl rfl (q := (11, [some (.ref 0), some (.ref 1), some (.ref 388), some (.ref 511), none, none, none, none, none], [], tS L xs (tNw t' 14 1 (14, 0) 1))) rfl ?_
  refine PW.plain M_378 (i := 11) rfl rfl (q := (12, [some (.ref 0), some (.ref 1), some (.ref 388), some (.ref 511), none, none, none, none, none], [.int 0], tS L xs (tNw t' 14 1 (14, 0) 1))) rfl ?_
  refine PW.plain M_378 (i := 12) rfl rfl (q := (13, [some (.ref 0), some (.ref 1), some (.ref 388), some (.ref 511), some (.int 0), none, none, none, none], [], tS L xs (tNw t' 14 1 (14, 0) 1))) rfl ?_
  have hl := l_378 (L := LI L xs) (n := L) law_ok (fun c X h => h.step) (fun c X h => by rw [h.1]) hL (L / 5) 0 (by omega) (X0 L xs) none none none none LI_0
  refine PW.mono (hl _ hchk) (fun o g' hq => ?_)
  obtain ⟨X', hr, ho, c', hc', hI⟩ := hq
  exact ⟨ho, hI.room hc' hr⟩
theorem qGoal_ok : qGoal := fun L xs hL => by
  obtain ⟨n, o, g', h1, rfl, h3, h4⟩ := law_PW (xs := xs) hL
  exact ⟨n, g', h1, h3, h4⟩
end GOAL2
