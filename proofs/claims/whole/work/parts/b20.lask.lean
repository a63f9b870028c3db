/-! ===== THE LAW: what only asks ===== -/
section ASKS
variable {n0 : Nat} {sc : Nat → Int32} {c : Nat} {X : XS}
theorem p_25 (hL : LI n0 sc c X) : pr_25 (LI n0 sc) c X := by
  unfold pr_25
  generalize (xC X).2 (5 * c + 1) = a1
  rcases i32_srv 4 (by omega) a1 with ⟨s, hs, rfl⟩ | e
  · have h1 := c_120 (X := X) hs
    rw [hL.2.1] at h1
    exact qp_q hL (w_346 (RT.u h1)) (c_273 hs)
  · exact qp_x hL (w_346x2 (c_120x e)) (c_273x e) (by decide)
theorem p_31 (hL : LI n0 sc c X) : pr_31 (LI n0 sc) c X := by
  unfold pr_31
  generalize (xC X).2 (5 * c + 1) = a1
  rcases i32_srv 7 (by omega) a1 with ⟨s, hs, rfl⟩ | e
  · have h1 := c_126 (X := X) hs
    rw [hL.2.1] at h1
    exact qp_q hL (w_350 (RT.u h1)) (c_280 hs)
  · exact qp_x hL (w_350x2 (c_126x e)) (c_280x e) (by decide)
theorem p_32 (hL : LI n0 sc c X) : pr_32 (LI n0 sc) c X := by
  unfold pr_32
  generalize (xC X).2 (5 * c + 1) = a1
  rcases i32_srv 7 (by omega) a1 with ⟨s, hs, rfl⟩ | e
  · have h1 := c_127 (X := X) hs
    rw [hL.2.1] at h1
    exact qp_q hL (w_351 (RT.u h1)) (c_281 hs)
  · exact qp_x hL (w_351x2 (c_127x e)) (c_281x e) (by decide)
theorem p_33 (hL : LI n0 sc c X) : pr_33 (LI n0 sc) c X := by
  unfold pr_33
  generalize (xC X).2 (5 * c + 1) = a1
  rcases i32_srv 7 (by omega) a1 with ⟨s, hs, rfl⟩ | e
  · have h1 := c_128 (X := X) hs
    rw [hL.2.1] at h1
    exact qp_q hL (w_352 (RT.u h1)) (c_282 hs)
  · exact qp_x hL (w_352x2 (c_128x e)) (c_282x e) (by decide)
theorem p_34 (hL : LI n0 sc c X) : pr_34 (LI n0 sc) c X := by
  unfold pr_34
  generalize (xC X).2 (5 * c + 1) = a1
  rcases i32_srv 7 (by omega) a1 with ⟨s, hs, rfl⟩ | e
  · have h1 := c_129 (X := X) hs
    rw [hL.2.1] at h1
    exact qp_q hL (w_353 (RT.u h1)) (c_283 hs)
  · exact qp_x hL (w_353x2 (c_129x e)) (c_283x e) (by decide)
theorem p_35 (hL : LI n0 sc c X) : pr_35 (LI n0 sc) c X := by
  unfold pr_35
  generalize (xC X).2 (5 * c + 1) = a1
  rcases i32_srv 7 (by omega) a1 with ⟨s, hs, rfl⟩ | e
  · have h1 := c_130 (X := X) hs
    rw [hL.2.1] at h1
    exact qp_q hL (w_354 (RT.u h1)) (c_284 hs)
  · exact qp_x hL (w_354x2 (c_130x e)) (c_284x e) (by decide)
theorem p_36 (hL : LI n0 sc c X) : pr_36 (LI n0 sc) c X := by
  unfold pr_36
  generalize (xC X).2 (5 * c + 1) = a1
  rcases i32_srv 7 (by omega) a1 with ⟨s, hs, rfl⟩ | e
  · have h1 := c_131 (X := X) hs
    rw [hL.2.1] at h1
    exact qp_q hL (w_355 (RT.u h1)) (c_285 hs)
  · exact qp_x hL (w_355x2 (c_131x e)) (c_285x e) (by decide)
theorem p_37 (hL : LI n0 sc c X) : pr_37 (LI n0 sc) c X := by
  unfold pr_37
  generalize (xC X).2 (5 * c + 1) = a1
  rcases i32_srv 7 (by omega) a1 with ⟨s, hs, rfl⟩ | e
  · have h1 := c_132 (X := X) hs
    rw [hL.2.1] at h1
    exact qp_q hL (w_356 (RT.u h1)) (c_286 hs)
  · exact qp_x hL (w_356x2 (c_132x e)) (c_286x e) (by decide)
theorem p_38 (hL : LI n0 sc c X) : pr_38 (LI n0 sc) c X := by
  unfold pr_38
  generalize (xC X).2 (5 * c + 1) = a1
  rcases i32_srv 7 (by omega) a1 with ⟨s, hs, rfl⟩ | e
  · have h1 := c_133 (X := X) hs
    rw [hL.2.1] at h1
    exact qp_q hL (w_357 (RT.u h1)) (c_287 hs)
  · exact qp_x hL (w_357x2 (c_133x e)) (c_287x e) (by decide)
theorem p_39 (hL : LI n0 sc c X) : pr_39 (LI n0 sc) c X := by
  unfold pr_39
  generalize (xC X).2 (5 * c + 1) = a1
  rcases i32_srv 7 (by omega) a1 with ⟨s, hs, rfl⟩ | e
  · have h1 := c_134 (X := X) hs
    rw [hL.2.1] at h1
    exact qp_q hL (w_358 (RT.u h1)) (c_288 hs (hL.ok hs).2.1)
  · exact qp_x hL (w_358x2 (c_134x e)) (c_288x e) (by decide)
theorem p_40 (hL : LI n0 sc c X) : pr_40 (LI n0 sc) c X := by
  unfold pr_40
  generalize (xC X).2 (5 * c + 1) = a1
  rcases i32_srv 7 (by omega) a1 with ⟨s, hs, rfl⟩ | e
  · have h1 := c_135 (X := X) hs
    rw [hL.2.1] at h1
    exact qp_q hL (w_359 (RT.u h1)) (c_289 hs)
  · exact qp_x hL (w_359x2 (c_135x e)) (c_289x e) (by decide)
theorem p_41 (hL : LI n0 sc c X) : pr_41 (LI n0 sc) c X := by
  unfold pr_41
  generalize (xC X).2 (5 * c + 1) = a1
  rcases i32_srv 7 (by omega) a1 with ⟨s, hs, rfl⟩ | e
  · have h1 := c_136 (X := X) hs ((hL.mem hs).trans (by rw [hL.2.1])) (by rw [hL.2.1]; exact (hL.ok hs).2.2.1)
    rw [hL.2.1] at h1
    exact qp_q hL (w_360 (RT.u h1)) (c_290 hs (hL.ok hs).1)
  · exact qp_x hL (w_360x2 (c_136x e)) (c_290x e) (by decide)
theorem p_58 (hL : LI n0 sc c X) : pr_58 (LI n0 sc) c X := by
  unfold pr_58
  generalize (xC X).2 (5 * c + 1) = a1
  rcases i32_srv 8 (by omega) a1 with ⟨s, hs, rfl⟩ | e
  · have h1 := c_153 (X := X) hs
    rw [hL.2.1] at h1
    exact qp_q hL (w_374 (RT.u h1)) (c_310 hs)
  · exact qp_x hL (w_374x2 (c_153x e)) (c_310x e) (by decide)
theorem p_42 (hL : LI n0 sc c X) : pr_42 (LI n0 sc) c X := by
  unfold pr_42
  generalize (xC X).2 (5 * c + 1) = a1
  generalize (xC X).2 (5 * c + 2) = a2
  rcases i32_srv 7 (by omega) a1 with ⟨s, hs, rfl⟩ | e
  · rcases i32_srv 7 (by omega) a2 with ⟨j, hj, rfl⟩ | e2
    · have h1 := c_137 (X := X) hs hj ((hL.mem hs).trans (by rw [hL.2.1]))
      rw [hL.2.1] at h1
      exact qp_qB hL (bI_01 _) (w_361 (RT.u h1) (bI_01 _)) (c_291 hs hj (hL.ok hs).1)
    · exact qp_xB hL (w_361x2 (c_137x1 e2)) (c_291x2 hs e2) (by decide)
  · rcases i32_srv 7 (by omega) a2 with ⟨j, hj, rfl⟩ | e2
    · exact qp_xB hL (w_361x2 (c_137x2 hj e)) (c_291x1 e) (by decide)
    · exact qp_xB hL (w_361x2 (c_137x1 e2)) (c_291x1 e) (by decide)
theorem p_48 (hL : LI n0 sc c X) : pr_48 (LI n0 sc) c X := by
  unfold pr_48
  generalize (xC X).2 (5 * c + 1) = a1
  generalize (xC X).2 (5 * c + 2) = a2
  rcases i32_srv 7 (by omega) a1 with ⟨s, hs, rfl⟩ | e
  · rcases i32_srv 8 (by omega) a2 with ⟨j, hj, rfl⟩ | e2
    · have h1 := c_143 (X := X) hs hj
      rw [hL.2.1] at h1
      exact qp_q hL (w_367 (RT.u h1)) (c_298 hs hj)
    · exact qp_x hL (w_367x2 (c_143x1 e2)) (c_298x2 hs e2) (by decide)
  · rcases i32_srv 8 (by omega) a2 with ⟨j, hj, rfl⟩ | e2
    · exact qp_x hL (w_367x2 (c_143x2 hj e)) (c_298x1 e) (by decide)
    · exact qp_x hL (w_367x2 (c_143x1 e2)) (c_298x1 e) (by decide)
theorem p_49 (hL : LI n0 sc c X) : pr_49 (LI n0 sc) c X := by
  unfold pr_49
  generalize (xC X).2 (5 * c + 1) = a1
  generalize (xC X).2 (5 * c + 2) = a2
  rcases i32_srv 7 (by omega) a1 with ⟨s, hs, rfl⟩ | e
  · rcases i32_srv 4 (by omega) a2 with ⟨j, hj, rfl⟩ | e2
    · have h1 := c_144 (X := X) hs hj
      rw [hL.2.1] at h1
      exact qp_q hL (w_368 (RT.u h1)) (c_299 hs hj)
    · exact qp_x hL (w_368x2 (c_144x1 e2)) (c_299x2 hs e2) (by decide)
  · rcases i32_srv 4 (by omega) a2 with ⟨j, hj, rfl⟩ | e2
    · exact qp_x hL (w_368x2 (c_144x2 hj e)) (c_299x1 e) (by decide)
    · exact qp_x hL (w_368x2 (c_144x1 e2)) (c_299x1 e) (by decide)
theorem p_55 (hL : LI n0 sc c X) : pr_55 (LI n0 sc) c X := by
  unfold pr_55
  generalize (xC X).2 (5 * c + 1) = a1
  generalize (xC X).2 (5 * c + 2) = a2
  rcases i32_srv 7 (by omega) a1 with ⟨s, hs, rfl⟩ | e
  · rcases i32_srv 7 (by omega) a2 with ⟨j, hj, rfl⟩ | e2
    · have h1 := c_150 (X := X) hs hj (by rw [hL.2.1]; exact (hL.ok hs).2.1) (by rw [hL.2.1]; exact (hL.ok hj).2.1)
      rw [hL.2.1] at h1
      exact qp_q hL (w_371 (RT.u h1)) (c_307 hs hj (hL.ok hs).1 (hL.ok hj).1)
    · exact qp_x hL (w_371x2 (c_150x1 e2)) (c_307x2 hs e2) (by decide)
  · rcases i32_srv 7 (by omega) a2 with ⟨j, hj, rfl⟩ | e2
    · exact qp_x hL (w_371x2 (c_150x2 hj e)) (c_307x1 e) (by decide)
    · exact qp_x hL (w_371x2 (c_150x1 e2)) (c_307x1 e) (by decide)
theorem p_50 (hL : LI n0 sc c X) : pr_50 (LI n0 sc) c X := by
  unfold pr_50
  generalize (xC X).2 (5 * c + 1) = a1
  generalize (xC X).2 (5 * c + 2) = a2
  rcases i32_srv 7 (by omega) a1 with ⟨s, hs, rfl⟩ | e
  · rcases i32_srv 7 (by omega) a2 with ⟨j, hj, rfl⟩ | e2
    · by_cases hne : s = j
      · subst hne
        exact qp_x hL (w_369x0 (c_145x3 hs)) (c_301x3 hs) (by decide)
      · by_cases hr : (xK X 2).1 12 s 0 = 3
        · have h1 := c_145 (X := X) hs hj hne (by rw [hL.2.1]; exact hr)
          rw [hL.2.1] at h1
          exact qp_q hL (w_369 (RT.u h1)) (c_301 hs hj hne hr)
        · exact qp_x hL (w_369x1 (c_145x4 hs hj hne (by rw [hL.2.1]; exact hr))) (c_301x4 hs hj hne hr) (by decide)
    · exact qp_x hL (w_369x2 (c_145x2 hs e2)) (c_301x2 hs e2) (by decide)
  · exact qp_x hL (w_369x2 (c_145x1 e)) (c_301x1 e) (by decide)
theorem p_51 (hL : LI n0 sc c X) : pr_51 (LI n0 sc) c X := by
  unfold pr_51
  generalize (xC X).2 (5 * c + 1) = a1
  generalize (xC X).2 (5 * c + 2) = a2
  rcases i32_srv 7 (by omega) a1 with ⟨s, hs, rfl⟩ | e
  · rcases i32_srv 7 (by omega) a2 with ⟨j, hj, rfl⟩ | e2
    · by_cases hne : s = j
      · subst hne
        exact qp_x hL (w_370x0 (c_146x3 hs)) (c_302x3 hs) (by decide)
      · by_cases hr : (xK X 2).1 12 s 0 = 3
        · have h1 := c_146 (X := X) hs hj hne (by rw [hL.2.1]; exact hr)
          rw [hL.2.1] at h1
          exact qp_q hL (w_370 (RT.u h1)) (c_302 hs hj hne hr)
        · exact qp_x hL (w_370x1 (c_146x4 hs hj hne (by rw [hL.2.1]; exact hr))) (c_302x4 hs hj hne hr) (by decide)
    · exact qp_x hL (w_370x2 (c_146x2 hs e2)) (c_302x2 hs e2) (by decide)
  · exact qp_x hL (w_370x2 (c_146x1 e)) (c_302x1 e) (by decide)
theorem p_44 (hL : LI n0 sc c X) : pr_44 (LI n0 sc) c X := by
  unfold pr_44
  generalize (xC X).2 (5 * c + 1) = a1
  generalize (xC X).2 (5 * c + 2) = a2
  rcases i32_srv 7 (by omega) a1 with ⟨s, hs, rfl⟩ | e
  · have hk := (hL.ok hs).1
    have hw := hk.wf
    have hE := (hL.ok hs).2.2.2.2
    cases hx : sEnt (xK X 2) s a2 with
    | none =>
      exact qp_x hL (w_363x2 (c_139x2 hs (by rw [hL.2.1]; exact hx) (by rw [hL.2.1]; exact hw))) (c_294x2 hs (sEnt_has hx hw)) (by decide)
    | some e =>
      have hm : e ∈ (xK X 2).2.1 s := by
        obtain ⟨-, -, j, -, hj⟩ := sEnt_some hx hw
        exact List.mem_of_getElem? hj
      have h1 := c_139 (X := X) hs (by rw [hL.2.1]; exact hx) (by rw [hL.2.1]; exact hw)
      try rw [hL.2.1] at h1
      exact qp_q hL (w_363 (RT.u h1)) (c_294 hs hw hx)
  · exact qp_x hL (w_363x2 (c_139x1 e)) (c_294x1 e) (by decide)
theorem p_45 (hL : LI n0 sc c X) : pr_45 (LI n0 sc) c X := by
  unfold pr_45
  generalize (xC X).2 (5 * c + 1) = a1
  generalize (xC X).2 (5 * c + 2) = a2
  rcases i32_srv 7 (by omega) a1 with ⟨s, hs, rfl⟩ | e
  · have hk := (hL.ok hs).1
    have hw := hk.wf
    have hE := (hL.ok hs).2.2.2.2
    cases hx : sEnt (xK X 2) s a2 with
    | none =>
      exact qp_x hL (w_364x2 (c_140x2 hs (by rw [hL.2.1]; exact hx) (by rw [hL.2.1]; exact hw))) (c_295x2 hs (sEnt_has hx hw)) (by decide)
    | some e =>
      have hm : e ∈ (xK X 2).2.1 s := by
        obtain ⟨-, -, j, -, hj⟩ := sEnt_some hx hw
        exact List.mem_of_getElem? hj
      have h1 := c_140 (X := X) hs (by rw [hL.2.1]; exact hx) (by rw [hL.2.1]; exact hw) (hE e hm).2.1.1
      try rw [hL.2.1] at h1
      exact qp_q hL (w_364 (RT.u h1)) (c_295 hs hw hx (hE e hm).2.1.1 (eG_v (hE e hm)).1)
  · exact qp_x hL (w_364x2 (c_140x1 e)) (c_295x1 e) (by decide)
theorem p_46 (hL : LI n0 sc c X) : pr_46 (LI n0 sc) c X := by
  unfold pr_46
  generalize (xC X).2 (5 * c + 1) = a1
  generalize (xC X).2 (5 * c + 2) = a2
  rcases i32_srv 7 (by omega) a1 with ⟨s, hs, rfl⟩ | e
  · have hk := (hL.ok hs).1
    have hw := hk.wf
    have hE := (hL.ok hs).2.2.2.2
    cases hx : sEnt (xK X 2) s a2 with
    | none =>
      exact qp_x hL (w_365x2 (c_141x2 hs (by rw [hL.2.1]; exact hx) (by rw [hL.2.1]; exact hw))) (c_296x2 hs (sEnt_has hx hw)) (by decide)
    | some e =>
      have hm : e ∈ (xK X 2).2.1 s := by
        obtain ⟨-, -, j, -, hj⟩ := sEnt_some hx hw
        exact List.mem_of_getElem? hj
      have h1 := c_141 (X := X) hs (by rw [hL.2.1]; exact hx) (by rw [hL.2.1]; exact hw)
      try rw [hL.2.1] at h1
      exact qp_q hL (w_365 (RT.u h1)) (c_296 hs hw hx)
  · exact qp_x hL (w_365x2 (c_141x1 e)) (c_296x1 e) (by decide)
theorem p_47 (hL : LI n0 sc c X) : pr_47 (LI n0 sc) c X := by
  unfold pr_47
  generalize (xC X).2 (5 * c + 1) = a1
  generalize (xC X).2 (5 * c + 2) = a2
  rcases i32_srv 7 (by omega) a1 with ⟨s, hs, rfl⟩ | e
  · have hk := (hL.ok hs).1
    have hw := hk.wf
    have hE := (hL.ok hs).2.2.2.2
    cases hx : sEnt (xK X 2) s a2 with
    | none =>
      exact qp_x hL (w_366x2 (c_142x2 hs (by rw [hL.2.1]; exact hx) (by rw [hL.2.1]; exact hw))) (c_297x2 hs (sEnt_has hx hw)) (by decide)
    | some e =>
      have hm : e ∈ (xK X 2).2.1 s := by
        obtain ⟨-, -, j, -, hj⟩ := sEnt_some hx hw
        exact List.mem_of_getElem? hj
      have h1 := c_142 (X := X) hs (by rw [hL.2.1]; exact hx) (by rw [hL.2.1]; exact hw)
      try rw [hL.2.1] at h1
      exact qp_q hL (w_366 (RT.u h1)) (c_297 hs hw hx)
  · exact qp_x hL (w_366x2 (c_142x1 e)) (c_297x1 e) (by decide)
theorem p_56 (hL : LI n0 sc c X) : pr_56 (LI n0 sc) c X := by
  unfold pr_56
  generalize (xC X).2 (5 * c + 1) = a1
  generalize (xC X).2 (5 * c + 2) = a2
  rcases i32_srv 7 (by omega) a1 with ⟨s, hs, rfl⟩ | e
  · have hk := (hL.ok hs).1
    have hw := hk.wf
    have hE := (hL.ok hs).2.2.2.2
    cases hx : sEnt (xK X 2) s a2 with
    | none =>
      exact qp_x hL (w_372x2 (c_151x2 hs (by rw [hL.2.1]; exact hx) (by rw [hL.2.1]; exact hw))) (c_308x2 hs (sEnt_has hx hw)) (by decide)
    | some e =>
      have hm : e ∈ (xK X 2).2.1 s := by
        obtain ⟨-, -, j, -, hj⟩ := sEnt_some hx hw
        exact List.mem_of_getElem? hj
      have h1 := c_151 (X := X) hs (by rw [hL.2.1]; exact hx) (by rw [hL.2.1]; exact hw) ((hL.mem hs).trans (by rw [hL.2.1])) (fun i hi => by rw [hL.2.1]; exact (hL.ok hi).2.1)
      try rw [hL.2.1] at h1
      exact qp_q hL (w_372 (RT.u h1)) (c_308 hs (fun i hi => (hL.ok hi).2.1) hx (eG_v (hE e hm)).2)
  · exact qp_x hL (w_372x2 (c_151x1 e)) (c_308x1 e) (by decide)
theorem p_16 (hL : LI n0 sc c X) : pr_16 (LI n0 sc) c X := by
  unfold pr_16
  generalize (xC X).2 (5 * c + 1) = a1
  refine qPair.rep (fun hr => ?_)
  have h60 := (hr.choose_spec.2.2.2.2.2.2.1 2 (by omega)).1
  rcases i32_srv (xK X 2).2.2.length (by omega) a1 with ⟨j, hj, rfl⟩ | e
  · have hu := List.getElem?_eq_getElem hj
    obtain ⟨m0, G, A, g⟩ := hL.k
    have ho := g.2.2.1 _ (List.getElem_mem hj)
    have h1 := c_111 (X := X) (by rw [hL.2.1]; exact hu)
    try rw [hL.2.1] at h1
    exact qp_q hL (w_337 (RT.u h1)) (c_262 hu)
  · exact qp_x hL (w_337x2 (c_111x (by rw [hL.2.1]; exact e))) (c_262x e) (by decide)
theorem p_17 (hL : LI n0 sc c X) : pr_17 (LI n0 sc) c X := by
  unfold pr_17
  generalize (xC X).2 (5 * c + 1) = a1
  refine qPair.rep (fun hr => ?_)
  have h60 := (hr.choose_spec.2.2.2.2.2.2.1 2 (by omega)).1
  rcases i32_srv (xK X 2).2.2.length (by omega) a1 with ⟨j, hj, rfl⟩ | e
  · have hu := List.getElem?_eq_getElem hj
    obtain ⟨m0, G, A, g⟩ := hL.k
    have ho := g.2.2.1 _ (List.getElem_mem hj)
    have h1 := c_112 (X := X) (by rw [hL.2.1]; exact hu)
    try rw [hL.2.1] at h1
    exact qp_q hL (w_338 (RT.u h1)) (c_263 hu)
  · exact qp_x hL (w_338x2 (c_112x (by rw [hL.2.1]; exact e))) (c_263x e) (by decide)
theorem p_18 (hL : LI n0 sc c X) : pr_18 (LI n0 sc) c X := by
  unfold pr_18
  generalize (xC X).2 (5 * c + 1) = a1
  refine qPair.rep (fun hr => ?_)
  have h60 := (hr.choose_spec.2.2.2.2.2.2.1 2 (by omega)).1
  rcases i32_srv (xK X 2).2.2.length (by omega) a1 with ⟨j, hj, rfl⟩ | e
  · have hu := List.getElem?_eq_getElem hj
    obtain ⟨m0, G, A, g⟩ := hL.k
    have ho := g.2.2.1 _ (List.getElem_mem hj)
    have h1 := c_113 (X := X) (by rw [hL.2.1]; exact hu)
    try rw [hL.2.1] at h1
    exact qp_q hL (w_339 (RT.u h1)) (c_264 hu)
  · exact qp_x hL (w_339x2 (c_113x (by rw [hL.2.1]; exact e))) (c_264x e) (by decide)
theorem p_19 (hL : LI n0 sc c X) : pr_19 (LI n0 sc) c X := by
  unfold pr_19
  generalize (xC X).2 (5 * c + 1) = a1
  refine qPair.rep (fun hr => ?_)
  have h60 := (hr.choose_spec.2.2.2.2.2.2.1 2 (by omega)).1
  rcases i32_srv (xK X 2).2.2.length (by omega) a1 with ⟨j, hj, rfl⟩ | e
  · have hu := List.getElem?_eq_getElem hj
    obtain ⟨m0, G, A, g⟩ := hL.k
    have ho := g.2.2.1 _ (List.getElem_mem hj)
    have h1 := c_114 (X := X) (by rw [hL.2.1]; exact hu)
    try rw [hL.2.1] at h1
    exact qp_q hL (w_340 (RT.u h1)) (c_265 hu)
  · exact qp_x hL (w_340x2 (c_114x (by rw [hL.2.1]; exact e))) (c_265x e) (by decide)
theorem p_20 (hL : LI n0 sc c X) : pr_20 (LI n0 sc) c X := by
  unfold pr_20
  generalize (xC X).2 (5 * c + 1) = a1
  refine qPair.rep (fun hr => ?_)
  have h60 := (hr.choose_spec.2.2.2.2.2.2.1 2 (by omega)).1
  rcases i32_srv (xK X 2).2.2.length (by omega) a1 with ⟨j, hj, rfl⟩ | e
  · have hu := List.getElem?_eq_getElem hj
    obtain ⟨m0, G, A, g⟩ := hL.k
    have ho := g.2.2.1 _ (List.getElem_mem hj)
    have h1 := c_115 (X := X) (by rw [hL.2.1]; exact hu)
    try rw [hL.2.1] at h1
    exact qp_q hL (w_341 (RT.u h1)) (c_266 hu ho.2.2.2.2.1 ho.2.2.2.2.2.1)
  · exact qp_x hL (w_341x2 (c_115x (by rw [hL.2.1]; exact e))) (c_266x e) (by decide)
theorem p_27 (hL : LI n0 sc c X) : pr_27 (LI n0 sc) c X := by
  unfold pr_27
  generalize (xC X).2 (5 * c + 1) = a1
  refine qPair.rep (fun hr => ?_)
  rcases i32_srv 4 (by omega) a1 with ⟨s, hs, rfl⟩ | e
  · have h35 := (hr.choose_spec.2.2.2.2.2.2.1 2 (by omega)).2.2 s hs
    by_cases ha : (xK X 2).1 35 s 0 = 0
    · exact qp_x hL (w_348x1 (c_122x2 hs (by rw [hL.2.1]; exact ha))) (c_275x2 hs ha) (by decide)
    · have h1 := c_122 (X := X) hs (by rw [hL.2.1]; exact ha)
      rw [hL.2.1] at h1
      exact qp_q hL (w_348 (RT.u h1)) (c_275 hs (h35.resolve_left ha))
  · exact qp_x hL (w_348x2 (c_122x1 e)) (c_275x1 e) (by decide)
theorem p_26 (hL : LI n0 sc c X) : pr_26 (LI n0 sc) c X := by
  unfold pr_26
  generalize (xC X).2 (5 * c + 1) = a1
  refine qPairB.rep (fun hr => ?_)
  rcases i32_srv 4 (by omega) a1 with ⟨s, hs, rfl⟩ | e
  · have h35 := (hr.choose_spec.2.2.2.2.2.2.1 2 (by omega)).2.2 s hs
    have h1 := c_121 (X := X) hs
    rw [hL.2.1] at h1
    exact qp_qB hL h35 (w_347 (RT.u h1) h35) (c_274 hs)
  · exact qp_xB hL (w_347x2 (c_121x e)) (c_274x e) (by decide)
theorem p_30 (hL : LI n0 sc c X) : pr_30 (LI n0 sc) c X := by
  unfold pr_30
  generalize (xC X).2 (5 * c + 1) = a1
  refine qPairB.rep (fun hr => ?_)
  rcases i32_srv 7 (by omega) a1 with ⟨s, hs, rfl⟩ | e
  · have h4 := (hr.choose_spec.2.2.2.2.2.2.1 2 (by omega)).2.1 s hs
    have h1 := c_125 (X := X) hs
    rw [hL.2.1] at h1
    exact qp_qB hL h4 (w_349 (RT.u h1) h4) (c_279 hs)
  · exact qp_xB hL (w_349x2 (c_125x e)) (c_279x e) (by decide)
theorem p_57 (hL : LI n0 sc c X) : pr_57 (LI n0 sc) c X := by
  unfold pr_57
  generalize (xC X).2 (5 * c + 1) = a1
  rcases i32_srv 7 (by omega) a1 with ⟨s, hs, rfl⟩ | e
  · have h1 := c_152 (X := X) hs ((hL.mem hs).trans (by rw [hL.2.1]))
    rw [hL.2.1] at h1
    exact qp_qB hL (bI_01 _) (w_373 (RT.u h1) (bI_01 _)) (c_309 hs (fun i hi => (hL.ok hi).2.1) (hL.ok hs).2.2.1)
  · exact qp_xB hL (w_373x2 (c_152x e)) (c_309x e) (by decide)
theorem p_43 (hL : LI n0 sc c X) : pr_43 (LI n0 sc) c X := by
  unfold pr_43
  generalize (xC X).2 (5 * c + 1) = a1
  generalize (xC X).2 (5 * c + 2) = a2
  rcases i32_srv 7 (by omega) a1 with ⟨s, hs, rfl⟩ | e
  · have hk := (hL.ok hs).1
    have hw := hk.wf
    have hE := (hL.ok hs).2.2.2.2
    have h0 : ¬ (xK X 2).1 18 s 1 < 0 := by
      obtain ⟨m0, G, A, g⟩ := hL.k
      obtain ⟨⟨a, b, q1, q2, q3, q4, q5, q6, q7⟩, aB, aE⟩ := (g.2.1 s hs).1
      rw [q6]
      cases a with
      | zero => exact (by decide : ¬ (0 : Int32) < 0)
      | succ p =>
        obtain ⟨e, e1, e2, e3⟩ := tAt_get (L := gF G s) (x := p) (by omega)
        rw [e3, (aE e e2).1]
        exact (i32_ix (tm_lt e)).2
    by_cases hs0 : a2 = (xK X 2).1 18 s 0
    · have hx : ¬ sTix (xK X 2) s a2 < 0 := by unfold sTix; rw [if_pos hs0]; exact h0
      have h1 := c_138 (X := X) hs (by rw [hL.2.1]; exact hw) (by rw [hL.2.1]; exact hx)
      rw [hL.2.1] at h1
      exact qp_q hL (w_362 (RT.u h1)) (c_292 hs hw (Or.inl hs0))
    · cases hx : sEnt (xK X 2) s a2 with
      | none =>
        have hx2 : sTix (xK X 2) s a2 < 0 := by
          unfold sTix; rw [if_neg hs0, hx]
          exact (by decide : (-1 : Int32) < 0)
        exact qp_x hL (w_362x2 (c_138x2 hs (by rw [hL.2.1]; exact hw) (by rw [hL.2.1]; exact hx2))) (c_292x2 hs hs0 (sEnt_has hx hw)) (by decide)
      | some e =>
        have hm : e ∈ (xK X 2).2.1 s := by
          obtain ⟨-, -, j, -, hj⟩ := sEnt_some hx hw
          exact List.mem_of_getElem? hj
        have hx2 : ¬ sTix (xK X 2) s a2 < 0 := by
          unfold sTix; rw [if_neg hs0, hx]
          show ¬ e 0 < 0
          rw [(hE e hm).1]
          exact (i32_ix (tm_lt e)).2
        have h1 := c_138 (X := X) hs (by rw [hL.2.1]; exact hw) (by rw [hL.2.1]; exact hx2)
        rw [hL.2.1] at h1
        exact qp_q hL (w_362 (RT.u h1)) (c_292 hs hw (Or.inr ((sHasE_some hw).mpr ⟨e, hx⟩)))
  · exact qp_x hL (w_362x2 (c_138x1 e)) (c_292x1 e) (by decide)
theorem p_12 (hL : LI n0 sc c X) : pr_12 (LI n0 sc) c X := by
  have h1 := c_107 (X := X)
  rw [hL.2.1] at h1
  exact ⟨_, RT.m h1 (RT.m (c_257 (X := X)) (hL.same rfl (fun _ _ => rfl) (fun _ _ _ _ => rfl) (fun _ _ => rfl) (Nat.le_succ _) (Nat.le_add_right _ _)))⟩
theorem p_28 (hL : LI n0 sc c X) : pr_28 (LI n0 sc) c X := by
  have h1 := c_123 (X := X)
  rw [hL.2.1] at h1
  exact ⟨_, RT.m h1 (RT.m (c_276 (X := X)) (hL.same rfl (fun _ _ => rfl) (fun _ _ _ _ => rfl) (fun _ _ => rfl) (Nat.le_succ _) (Nat.le_add_right _ _)))⟩
theorem p_29 (hL : LI n0 sc c X) : pr_29 (LI n0 sc) c X := by
  have h1 := c_124 (X := X)
  rw [hL.2.1] at h1
  exact ⟨_, RT.m h1 (RT.m (c_277 (X := X)) (hL.same rfl (fun _ _ => rfl) (fun _ _ _ _ => rfl) (fun _ _ => rfl) (Nat.le_succ _) (Nat.le_add_right _ _)))⟩
theorem p_52 (hL : LI n0 sc c X) : pr_52 (LI n0 sc) c X := by
  have h1 := c_147 (X := X)
  rw [hL.2.1] at h1
  exact ⟨_, RT.m h1 (RT.m (c_303 (X := X)) (hL.same rfl (fun _ _ => rfl) (fun _ _ _ _ => rfl) (fun _ _ => rfl) (Nat.le_succ _) (Nat.le_add_right _ _)))⟩
theorem p_53 (hL : LI n0 sc c X) : pr_53 (LI n0 sc) c X := by
  have h1 := c_148 (X := X)
  rw [hL.2.1] at h1
  exact ⟨_, RT.m h1 (RT.m (c_305 (X := X)) (hL.same rfl (fun _ _ => rfl) (fun _ _ _ _ => rfl) (fun _ _ => rfl) (Nat.le_succ _) (Nat.le_add_right _ _)))⟩
theorem p_54 (hL : LI n0 sc c X) : pr_54 (LI n0 sc) c X := by
  have h1 := c_149 (X := X)
  rw [hL.2.1] at h1
  exact ⟨_, RT.m h1 (RT.m (c_306 (X := X)) (hL.same rfl (fun _ _ => rfl) (fun _ _ _ _ => rfl) (fun _ _ => rfl) (Nat.le_succ _) (Nat.le_add_right _ _)))⟩
theorem p_64 (hL : LI n0 sc c X) : pr_64 (LI n0 sc) c X := by
  have h1 := c_159 (X := X) (fun i hi => by rw [hL.2.1]; exact (hL.ok hi).1)
  rw [hL.2.1] at h1
  exact ⟨_, RT.m h1 (RT.m (c_318 (X := X) (fun i hi => (hL.ok hi).1)) (hL.same rfl (fun _ _ => rfl) (fun _ _ _ _ => rfl) (fun _ _ => rfl) (Nat.le_succ _) (Nat.le_add_right _ _)))⟩
theorem p_65 (hL : LI n0 sc c X) : pr_65 (LI n0 sc) c X := by
  have h1 := c_160 (X := X) hL.2.2.1 (fun i hi => by rw [hL.2.1]; exact (hL.ok hi).1)
  rw [hL.2.1] at h1
  have hM : ∀ u, u ∈ (xK X 2).2.2 → (u.1 5 = 0 ∨ u.1 5 = 1) ∧ (u.1 1 = 2 ∨ u.1 1 = 4 → u.1 9 = 0) := fun u hu => by
    obtain ⟨m0, G, A, g⟩ := hL.k
    have ho := g.2.2.1 u hu
    exact ⟨ho.2.2.2.2.1, ho.2.2.2.2.2.1⟩
  exact ⟨_, RT.m h1 (RT.m (c_321 (X := X) (fun i hi => (hL.ok hi).1) (fun i hi e he => eG_v ((hL.ok hi).2.2.2.2 e he)) hM) (hL.same rfl (fun _ _ => rfl) (fun _ _ _ _ => rfl) (fun _ _ => rfl) (Nat.le_succ _) (Nat.le_add_right _ _)))⟩
end ASKS
