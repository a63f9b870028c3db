/-! ===== THE CLASS'S CELLS, A RULE A FIELD ===== -/
theorem shp_cl {o : Nat} (ho : o < 2) : shp (aB o) 1 0 := Or.inl ⟨o, ho, Or.inl ⟨rfl, rfl, rfl⟩⟩
theorem shp_svs {o : Nat} (ho : o < 2) : shp (aB o + 1) 18 7 := Or.inl ⟨o, ho, Or.inr (Or.inl ⟨rfl, rfl, rfl⟩)⟩
theorem shp_cls {o : Nat} (ho : o < 2) : shp (aB o + 2) 15 4 := Or.inl ⟨o, ho, Or.inr (Or.inr (Or.inl ⟨rfl, rfl, rfl⟩))⟩
theorem shp_net {o : Nat} (ho : o < 2) : shp (aB o + 3) 4 0 := Or.inl ⟨o, ho, Or.inr (Or.inr (Or.inr (Or.inl ⟨rfl, rfl, rfl⟩)))⟩
theorem shp_row {o : Nat} (ho : o < 2) : shp (aB o + 4) 17 60 := Or.inl ⟨o, ho, Or.inr (Or.inr (Or.inr (Or.inr (Or.inl ⟨rfl, rfl, rfl⟩))))⟩
theorem shp_cuts {o : Nat} (ho : o < 2) : shp (aB o + 5) 12 7 := Or.inl ⟨o, ho, Or.inr (Or.inr (Or.inr (Or.inr (Or.inr (Or.inl ⟨rfl, rfl, rfl⟩)))))⟩
theorem shp_msg {o q : Nat} (ho : o < 2) (hq : q < 61) : shp (aM o q) 3 0 := Or.inl ⟨o, ho, Or.inr (Or.inr (Or.inr (Or.inr (Or.inr (Or.inr (Or.inl ⟨q, hq, Or.inl ⟨rfl, rfl, rfl⟩⟩))))))⟩
theorem shp_ents {o q : Nat} (ho : o < 2) (hq : q < 61) : shp (aM o q + 1) 16 4 := Or.inl ⟨o, ho, Or.inr (Or.inr (Or.inr (Or.inr (Or.inr (Or.inr (Or.inl ⟨q, hq, Or.inr ⟨rfl, rfl, rfl⟩⟩))))))⟩
theorem shp_sv9 {o i c kd ln : Nat} (ho : o < 2) (hi : i < 7) (h : (c = 0 ∧ kd = 6 ∧ ln = 0) ∨ (c = 1 ∧ kd = 8 ∧ ln = 0) ∨ (c = 2 ∧ kd = 12 ∧ ln = 8) ∨ (c = 3 ∧ kd = 12 ∧ ln = 4) ∨ (c = 4 ∧ kd = 12 ∧ ln = 4) ∨ (c = 5 ∧ kd = 12 ∧ ln = 7) ∨ (c = 6 ∧ kd = 12 ∧ ln = 7)) : shp (aS o i + c) kd ln := by
  refine Or.inl ⟨o, ho, Or.inr (Or.inr (Or.inr (Or.inr (Or.inr (Or.inr (Or.inr (Or.inl ⟨i, hi, ?_⟩)))))))⟩
  rcases h with ⟨rfl, rfl, rfl⟩ | ⟨rfl, rfl, rfl⟩ | ⟨rfl, rfl, rfl⟩ | ⟨rfl, rfl, rfl⟩ | ⟨rfl, rfl, rfl⟩ | ⟨rfl, rfl, rfl⟩ | ⟨rfl, rfl, rfl⟩
  · exact Or.inl ⟨rfl, rfl, rfl⟩
  · exact Or.inr (Or.inl ⟨rfl, rfl, rfl⟩)
  · exact Or.inr (Or.inr (Or.inl ⟨rfl, rfl, rfl⟩))
  · exact Or.inr (Or.inr (Or.inr (Or.inl ⟨rfl, rfl, rfl⟩)))
  · exact Or.inr (Or.inr (Or.inr (Or.inr (Or.inl ⟨rfl, rfl, rfl⟩))))
  · exact Or.inr (Or.inr (Or.inr (Or.inr (Or.inr (Or.inl ⟨rfl, rfl, rfl⟩)))))
  · exact Or.inr (Or.inr (Or.inr (Or.inr (Or.inr (Or.inr (⟨rfl, rfl, rfl⟩))))))
theorem shp_sv {o i : Nat} (ho : o < 2) (hi : i < 7) : shp (aS o i) 6 0 := shp_sv9 (c := 0) ho hi (Or.inl ⟨rfl, rfl, rfl⟩)
theorem shp_tab {o i : Nat} (ho : o < 2) (hi : i < 7) : shp (aS o i + 1) 8 0 := shp_sv9 ho hi (Or.inr (Or.inl ⟨rfl, rfl, rfl⟩))
theorem shp_val {o i : Nat} (ho : o < 2) (hi : i < 7) : shp (aS o i + 2) 12 8 := shp_sv9 ho hi (Or.inr (Or.inr (Or.inl ⟨rfl, rfl, rfl⟩)))
theorem shp_ser {o i : Nat} (ho : o < 2) (hi : i < 7) : shp (aS o i + 3) 12 4 := shp_sv9 ho hi (Or.inr (Or.inr (Or.inr (Or.inl ⟨rfl, rfl, rfl⟩))))
theorem shp_giv {o i : Nat} (ho : o < 2) (hi : i < 7) : shp (aS o i + 4) 12 4 := shp_sv9 ho hi (Or.inr (Or.inr (Or.inr (Or.inr (Or.inl ⟨rfl, rfl, rfl⟩)))))
theorem shp_nxt {o i : Nat} (ho : o < 2) (hi : i < 7) : shp (aS o i + 5) 12 7 := shp_sv9 ho hi (Or.inr (Or.inr (Or.inr (Or.inr (Or.inr (Or.inl ⟨rfl, rfl, rfl⟩))))))
theorem shp_mat {o i : Nat} (ho : o < 2) (hi : i < 7) : shp (aS o i + 6) 12 7 := shp_sv9 ho hi (Or.inr (Or.inr (Or.inr (Or.inr (Or.inr (Or.inr (⟨rfl, rfl, rfl⟩)))))))
theorem shp_cli {o c : Nat} (ho : o < 2) (hc : c < 4) : shp (aC o c) 0 0 := Or.inl ⟨o, ho, Or.inr (Or.inr (Or.inr (Or.inr (Or.inr (Or.inr (Or.inr (Or.inr ⟨c, hc, rfl, rfl, rfl⟩)))))))⟩
theorem loc_sv {o i f : Nat} (ho : o < 2) (hi : i < 7) (h : 4 ≤ f ∧ f ≤ 17 ∧ f ≠ 7 ∧ f ≠ 8 ∧ f ≠ 9) : loc o f i 0 (aS o i) f := by
  refine Or.inl ⟨ho, Or.inl ?_⟩
  dsimp only [aS, aB, aC]
  omega
theorem loc_val {o i k : Nat} (ho : o < 2) (hi : i < 7) (h : k < 8) : loc o 19 i k (aS o i + 2) k := by
  refine Or.inl ⟨ho, Or.inr (Or.inl ?_)⟩
  dsimp only [aS, aB, aC]
  omega
theorem loc_ser {o i k : Nat} (ho : o < 2) (hi : i < 7) (h : k < 4) : loc o 19 i (8 + k) (aS o i + 3) k := by
  refine Or.inl ⟨ho, Or.inr (Or.inr (Or.inl ?_))⟩
  dsimp only [aS, aB, aC]
  omega
theorem loc_giv {o i k : Nat} (ho : o < 2) (hi : i < 7) (h : k < 4) : loc o 19 i (12 + k) (aS o i + 4) k := by
  refine Or.inl ⟨ho, Or.inr (Or.inr (Or.inr (Or.inl ?_)))⟩
  dsimp only [aS, aB, aC]
  omega
theorem loc_nxt {o i k : Nat} (ho : o < 2) (hi : i < 7) (h : k < 7) : loc o 2 i k (aS o i + 5) k := by
  refine Or.inl ⟨ho, Or.inr (Or.inr (Or.inr (Or.inr (Or.inl ?_))))⟩
  dsimp only [aS, aB, aC]
  omega
theorem loc_mat {o i k : Nat} (ho : o < 2) (hi : i < 7) (h : k < 7) : loc o 3 i k (aS o i + 6) k := by
  refine Or.inl ⟨ho, Or.inr (Or.inr (Or.inr (Or.inr (Or.inr (Or.inl ?_)))))⟩
  dsimp only [aS, aB, aC]
  omega
theorem loc_cut {o i : Nat} (ho : o < 2) (hi : i < 7) : loc o 30 i 0 (aB o + 5) i := by
  refine Or.inl ⟨ho, Or.inr (Or.inr (Or.inr (Or.inr (Or.inr (Or.inr (Or.inl ?_))))))⟩
  dsimp only [aS, aB, aC]
  omega
theorem loc_net {o f : Nat} (ho : o < 2) (h : f = 31 ∨ f = 32) : loc o f 0 0 (aB o + 3) (f - 27) := by
  refine Or.inl ⟨ho, Or.inr (Or.inr (Or.inr (Or.inr (Or.inr (Or.inr (Or.inr (Or.inl ?_)))))))⟩
  dsimp only [aS, aB, aC]
  omega
theorem loc_rnd {o : Nat} (ho : o < 2) : loc o 33 0 0 (aB o) 3 := by
  refine Or.inl ⟨ho, Or.inr (Or.inr (Or.inr (Or.inr (Or.inr (Or.inr (Or.inr (Or.inr (Or.inl ?_))))))))⟩
  dsimp only [aS, aB, aC]
  omega
theorem loc_cli {o c f : Nat} (ho : o < 2) (hc : c < 4) (h : f = 35 ∨ f = 36) : loc o f c 0 (aC o c) (f - 34) := by
  refine Or.inl ⟨ho, Or.inr (Or.inr (Or.inr (Or.inr (Or.inr (Or.inr (Or.inr (Or.inr (Or.inr (?_)))))))))⟩
  dsimp only [aS, aB, aC]
  omega
theorem srf_cl {o k : Nat} (ho : o < 2) (h : k < 3) : srf (aB o) k (aB o + 1 + k) := Or.inl ⟨o, ho, Or.inl ⟨rfl, h, rfl⟩⟩
theorem srf_svs {o k : Nat} (ho : o < 2) (h : k < 7) : srf (aB o + 1) k (aS o k) := Or.inl ⟨o, ho, Or.inr (Or.inl ⟨rfl, h, rfl⟩)⟩
theorem srf_cls {o k : Nat} (ho : o < 2) (h : k < 4) : srf (aB o + 2) k (aC o k) := Or.inl ⟨o, ho, Or.inr (Or.inr (Or.inl ⟨rfl, h, rfl⟩))⟩
theorem srf_net {o k : Nat} (ho : o < 2) (h : k < 2) : srf (aB o + 3) k (aB o + 4 + k) := Or.inl ⟨o, ho, Or.inr (Or.inr (Or.inr (Or.inl ⟨rfl, h, rfl⟩)))⟩
theorem srf_msg {o q : Nat} (ho : o < 2) (h : q < 61) : srf (aM o q) 0 (aM o q + 1) := Or.inl ⟨o, ho, Or.inr (Or.inr (Or.inr (Or.inr (Or.inl ⟨q, h, rfl, rfl, rfl⟩))))⟩
theorem srf_sv {o i c k b : Nat} (ho : o < 2) (hi : i < 7) (h : (c = 0 ∧ k = 1 ∧ b = 1) ∨ (c = 0 ∧ k = 2 ∧ b = 5) ∨ (c = 0 ∧ k = 3 ∧ b = 6) ∨ (c = 1 ∧ k < 3 ∧ b = 2 + k)) : srf (aS o i + c) k (aS o i + b) := by
  refine Or.inl ⟨o, ho, Or.inr (Or.inr (Or.inr (Or.inr (Or.inr ⟨i, hi, ?_⟩))))⟩
  rcases h with ⟨rfl, rfl, rfl⟩ | ⟨rfl, rfl, rfl⟩ | ⟨rfl, rfl, rfl⟩ | ⟨rfl, h, rfl⟩
  · exact Or.inl ⟨rfl, rfl, rfl⟩
  · exact Or.inr (Or.inl ⟨rfl, rfl, rfl⟩)
  · exact Or.inr (Or.inr (Or.inl ⟨rfl, rfl, rfl⟩))
  · exact Or.inr (Or.inr (Or.inr (⟨rfl, h, by omega⟩)))
section ATC
variable {m i pc ln r1 r2 r3 : Nat} {ls : PV} {st : List Value} {X : XS} {Q : PO → XS → Prop} {M : PMet} {o s c q : Nat}
theorem AT.f_1_0 {n : Nat} (hM : qPT m = M) (hr : M.1[i]? = some (pc, .getfield n, ln, 1, 0, r3)) (ho : o < 2) (k : AT m (i + 1) ls (.ref (aB o + 1) :: st) X Q) : AT m i ls (.ref (aB o) :: st) X Q := AT.gr hM hr (shp_cl ho) (by decide) (srf_cl (k := 0) ho (by omega)) k
theorem AT.f_1_1 {n : Nat} (hM : qPT m = M) (hr : M.1[i]? = some (pc, .getfield n, ln, 1, 1, r3)) (ho : o < 2) (k : AT m (i + 1) ls (.ref (aB o + 2) :: st) X Q) : AT m i ls (.ref (aB o) :: st) X Q := AT.gr hM hr (shp_cl ho) (by decide) (srf_cl (k := 1) ho (by omega)) k
theorem AT.f_1_2 {n : Nat} (hM : qPT m = M) (hr : M.1[i]? = some (pc, .getfield n, ln, 1, 2, r3)) (ho : o < 2) (k : AT m (i + 1) ls (.ref (aB o + 3) :: st) X Q) : AT m i ls (.ref (aB o) :: st) X Q := AT.gr hM hr (shp_cl ho) (by decide) (srf_cl (k := 2) ho (by omega)) k
theorem AT.f_1_3 {n : Nat} (hM : qPT m = M) (hr : M.1[i]? = some (pc, .getfield n, ln, 1, 3, r3)) (ho : o < 2) (k : AT m (i + 1) ls (.int ((xK X o).1 33 0 0) :: st) X Q) : AT m i ls (.ref (aB o) :: st) X Q := AT.gn hM hr (shp_cl ho) (by decide) (loc_rnd ho) rfl k
theorem AT.f_4_0 {n : Nat} (hM : qPT m = M) (hr : M.1[i]? = some (pc, .getfield n, ln, 4, 0, r3)) (ho : o < 2) (k : AT m (i + 1) ls (.ref (aB o + 4) :: st) X Q) : AT m i ls (.ref (aB o + 3) :: st) X Q := AT.gr hM hr (shp_net ho) (by decide) (srf_net (k := 0) ho (by omega)) k
theorem AT.f_4_1 {n : Nat} (hM : qPT m = M) (hr : M.1[i]? = some (pc, .getfield n, ln, 4, 1, r3)) (ho : o < 2) (k : AT m (i + 1) ls (.ref (aB o + 5) :: st) X Q) : AT m i ls (.ref (aB o + 3) :: st) X Q := AT.gr hM hr (shp_net ho) (by decide) (srf_net (k := 1) ho (by omega)) k
theorem AT.f_4_4 {n : Nat} (hM : qPT m = M) (hr : M.1[i]? = some (pc, .getfield n, ln, 4, 4, r3)) (ho : o < 2) (k : AT m (i + 1) ls (.int (dV (xD X) o 31 0 0) :: st) X Q) : AT m i ls (.ref (aB o + 3) :: st) X Q := AT.gn hM hr (shp_net ho) (by decide) (loc_net (f := 31) ho (Or.inl rfl)) rfl k
theorem AT.f_4_5 {n : Nat} (hM : qPT m = M) (hr : M.1[i]? = some (pc, .getfield n, ln, 4, 5, r3)) (ho : o < 2) (k : AT m (i + 1) ls (.int ((xK X o).1 32 0 0) :: st) X Q) : AT m i ls (.ref (aB o + 3) :: st) X Q := AT.gn hM hr (shp_net ho) (by decide) (loc_net (f := 32) ho (Or.inr rfl)) rfl k
theorem AT.f_6_1 {n : Nat} (hM : qPT m = M) (hr : M.1[i]? = some (pc, .getfield n, ln, 6, 1, r3)) (ho : o < 2) (hs : s < 7) (k : AT m (i + 1) ls (.ref (aS o s + 1) :: st) X Q) : AT m i ls (.ref (aS o s) :: st) X Q := AT.gr hM hr (shp_sv ho hs) (by decide) (srf_sv (c := 0) ho hs (Or.inl ⟨rfl, rfl, rfl⟩)) k
theorem AT.f_6_2 {n : Nat} (hM : qPT m = M) (hr : M.1[i]? = some (pc, .getfield n, ln, 6, 2, r3)) (ho : o < 2) (hs : s < 7) (k : AT m (i + 1) ls (.ref (aS o s + 5) :: st) X Q) : AT m i ls (.ref (aS o s) :: st) X Q := AT.gr hM hr (shp_sv ho hs) (by decide) (srf_sv (c := 0) ho hs (Or.inr (Or.inl ⟨rfl, rfl, rfl⟩))) k
theorem AT.f_6_3 {n : Nat} (hM : qPT m = M) (hr : M.1[i]? = some (pc, .getfield n, ln, 6, 3, r3)) (ho : o < 2) (hs : s < 7) (k : AT m (i + 1) ls (.ref (aS o s + 6) :: st) X Q) : AT m i ls (.ref (aS o s) :: st) X Q := AT.gr hM hr (shp_sv ho hs) (by decide) (srf_sv (c := 0) ho hs (Or.inr (Or.inr (Or.inl ⟨rfl, rfl, rfl⟩)))) k
theorem AT.f_6_4 {n : Nat} (hM : qPT m = M) (hr : M.1[i]? = some (pc, .getfield n, ln, 6, 4, r3)) (ho : o < 2) (hs : s < 7) (k : AT m (i + 1) ls (.int ((xK X o).1 4 s 0) :: st) X Q) : AT m i ls (.ref (aS o s) :: st) X Q := AT.gn hM hr (shp_sv ho hs) (by decide) (loc_sv ho hs (by omega)) rfl k
theorem AT.f_6_5 {n : Nat} (hM : qPT m = M) (hr : M.1[i]? = some (pc, .getfield n, ln, 6, 5, r3)) (ho : o < 2) (hs : s < 7) (k : AT m (i + 1) ls (.int ((xK X o).1 5 s 0) :: st) X Q) : AT m i ls (.ref (aS o s) :: st) X Q := AT.gn hM hr (shp_sv ho hs) (by decide) (loc_sv ho hs (by omega)) rfl k
theorem AT.f_6_6 {n : Nat} (hM : qPT m = M) (hr : M.1[i]? = some (pc, .getfield n, ln, 6, 6, r3)) (ho : o < 2) (hs : s < 7) (k : AT m (i + 1) ls (.int ((xK X o).1 6 s 0) :: st) X Q) : AT m i ls (.ref (aS o s) :: st) X Q := AT.gn hM hr (shp_sv ho hs) (by decide) (loc_sv ho hs (by omega)) rfl k
theorem AT.f_6_12 {n : Nat} (hM : qPT m = M) (hr : M.1[i]? = some (pc, .getfield n, ln, 6, 12, r3)) (ho : o < 2) (hs : s < 7) (k : AT m (i + 1) ls (.int ((xK X o).1 12 s 0) :: st) X Q) : AT m i ls (.ref (aS o s) :: st) X Q := AT.gn hM hr (shp_sv ho hs) (by decide) (loc_sv ho hs (by omega)) rfl k
theorem AT.f_6_13 {n : Nat} (hM : qPT m = M) (hr : M.1[i]? = some (pc, .getfield n, ln, 6, 13, r3)) (ho : o < 2) (hs : s < 7) (k : AT m (i + 1) ls (.int ((xK X o).1 13 s 0) :: st) X Q) : AT m i ls (.ref (aS o s) :: st) X Q := AT.gn hM hr (shp_sv ho hs) (by decide) (loc_sv ho hs (by omega)) rfl k
theorem AT.f_6_14 {n : Nat} (hM : qPT m = M) (hr : M.1[i]? = some (pc, .getfield n, ln, 6, 14, r3)) (ho : o < 2) (hs : s < 7) (k : AT m (i + 1) ls (.int ((xK X o).1 14 s 0) :: st) X Q) : AT m i ls (.ref (aS o s) :: st) X Q := AT.gn hM hr (shp_sv ho hs) (by decide) (loc_sv ho hs (by omega)) rfl k
theorem AT.f_6_15 {n : Nat} (hM : qPT m = M) (hr : M.1[i]? = some (pc, .getfield n, ln, 6, 15, r3)) (ho : o < 2) (hs : s < 7) (k : AT m (i + 1) ls (.int ((xK X o).1 15 s 0) :: st) X Q) : AT m i ls (.ref (aS o s) :: st) X Q := AT.gn hM hr (shp_sv ho hs) (by decide) (loc_sv ho hs (by omega)) rfl k
theorem AT.f_6_16 {n : Nat} (hM : qPT m = M) (hr : M.1[i]? = some (pc, .getfield n, ln, 6, 16, r3)) (ho : o < 2) (hs : s < 7) (k : AT m (i + 1) ls (.int ((xK X o).1 16 s 0) :: st) X Q) : AT m i ls (.ref (aS o s) :: st) X Q := AT.gn hM hr (shp_sv ho hs) (by decide) (loc_sv ho hs (by omega)) rfl k
theorem AT.f_6_17 {n : Nat} (hM : qPT m = M) (hr : M.1[i]? = some (pc, .getfield n, ln, 6, 17, r3)) (ho : o < 2) (hs : s < 7) (k : AT m (i + 1) ls (.int ((xK X o).1 17 s 0) :: st) X Q) : AT m i ls (.ref (aS o s) :: st) X Q := AT.gn hM hr (shp_sv ho hs) (by decide) (loc_sv ho hs (by omega)) rfl k
theorem AT.f_6_10 {n : Nat} (hM : qPT m = M) (hr : M.1[i]? = some (pc, .getfield n, ln, 6, 10, r3)) (ho : o < 2) (hs : s < 7) (k : AT m (i + 1) ls (.int (dV (xD X) o 10 s 0) :: st) X Q) : AT m i ls (.ref (aS o s) :: st) X Q := AT.gn hM hr (shp_sv ho hs) (by decide) (loc_sv ho hs (by omega)) rfl k
theorem AT.f_6_11 {n : Nat} (hM : qPT m = M) (hr : M.1[i]? = some (pc, .getfield n, ln, 6, 11, r3)) (ho : o < 2) (hs : s < 7) (k : AT m (i + 1) ls (.int (dV (xD X) o 11 s 0) :: st) X Q) : AT m i ls (.ref (aS o s) :: st) X Q := AT.gn hM hr (shp_sv ho hs) (by decide) (loc_sv ho hs (by omega)) rfl k
theorem AT.f_8_0 {n : Nat} (hM : qPT m = M) (hr : M.1[i]? = some (pc, .getfield n, ln, 8, 0, r3)) (ho : o < 2) (hs : s < 7) (k : AT m (i + 1) ls (.ref (aS o s + 2) :: st) X Q) : AT m i ls (.ref (aS o s + 1) :: st) X Q := AT.gr hM hr (shp_tab ho hs) (by decide) (srf_sv (c := 1) ho hs (Or.inr (Or.inr (Or.inr ⟨rfl, by omega, rfl⟩)))) k
theorem AT.f_8_1 {n : Nat} (hM : qPT m = M) (hr : M.1[i]? = some (pc, .getfield n, ln, 8, 1, r3)) (ho : o < 2) (hs : s < 7) (k : AT m (i + 1) ls (.ref (aS o s + 3) :: st) X Q) : AT m i ls (.ref (aS o s + 1) :: st) X Q := AT.gr hM hr (shp_tab ho hs) (by decide) (srf_sv (c := 1) ho hs (Or.inr (Or.inr (Or.inr ⟨rfl, by omega, rfl⟩)))) k
theorem AT.f_8_2 {n : Nat} (hM : qPT m = M) (hr : M.1[i]? = some (pc, .getfield n, ln, 8, 2, r3)) (ho : o < 2) (hs : s < 7) (k : AT m (i + 1) ls (.ref (aS o s + 4) :: st) X Q) : AT m i ls (.ref (aS o s + 1) :: st) X Q := AT.gr hM hr (shp_tab ho hs) (by decide) (srf_sv (c := 1) ho hs (Or.inr (Or.inr (Or.inr ⟨rfl, by omega, rfl⟩)))) k
theorem AT.f_0_1 {n : Nat} (hM : qPT m = M) (hr : M.1[i]? = some (pc, .getfield n, ln, 0, 1, r3)) (ho : o < 2) (hc : c < 4) (k : AT m (i + 1) ls (.int ((xK X o).1 35 c 0) :: st) X Q) : AT m i ls (.ref (aC o c) :: st) X Q := AT.gn hM hr (shp_cli ho hc) (by decide) (loc_cli (f := 35) ho hc (Or.inl rfl)) rfl k
theorem AT.f_0_2 {n : Nat} (hM : qPT m = M) (hr : M.1[i]? = some (pc, .getfield n, ln, 0, 2, r3)) (ho : o < 2) (hc : c < 4) (k : AT m (i + 1) ls (.int ((xK X o).1 36 c 0) :: st) X Q) : AT m i ls (.ref (aC o c) :: st) X Q := AT.gn hM hr (shp_cli ho hc) (by decide) (loc_cli (f := 36) ho hc (Or.inr rfl)) rfl k
theorem AT.f_3_0 {n : Nat} (hM : qPT m = M) (hr : M.1[i]? = some (pc, .getfield n, ln, 3, 0, r3)) (ho : o < 2) (hq : q < 61) (k : AT m (i + 1) ls (.ref (aM o q + 1) :: st) X Q) : AT m i ls (.ref (aM o q) :: st) X Q := AT.gr hM hr (shp_msg ho hq) (by decide) (srf_msg ho hq) k
theorem AT.f_9_0 {n : Nat} (hM : qPT m = M) (hr : M.1[i]? = some (pc, .getfield n, ln, 9, 0, r3)) (k : AT m (i + 1) ls (.ref (aB 0) :: st) X Q) : AT m i ls (.ref 1 :: st) X Q := AT.gr hM hr (Or.inr (Or.inr (Or.inl ⟨rfl, rfl, rfl⟩))) (by decide) (Or.inr (Or.inr (Or.inl ⟨rfl, by omega, rfl⟩))) k
theorem AT.f_9_1 {n : Nat} (hM : qPT m = M) (hr : M.1[i]? = some (pc, .getfield n, ln, 9, 1, r3)) (k : AT m (i + 1) ls (.ref (aB 1) :: st) X Q) : AT m i ls (.ref 1 :: st) X Q := AT.gr hM hr (Or.inr (Or.inr (Or.inl ⟨rfl, rfl, rfl⟩))) (by decide) (Or.inr (Or.inr (Or.inl ⟨rfl, by omega, rfl⟩))) k
/-- a server's number, the entries of its log, its snapshot -/
theorem AT.f_6_0 {n : Nat} (hM : qPT m = M) (hr : M.1[i]? = some (pc, .getfield n, ln, 6, 0, r3)) (ho : o < 2) (hs : s < 7) (k : AT m (i + 1) ls (.int (Int32.ofNat s) :: st) X Q) : AT m i ls (.ref (aS o s) :: st) X Q :=
  AT.gf hM hr (xKd.of (shp_sv ho hs)) (by decide) (fun g hg => ((hg.2.2.2.2.2.1.1 o ho).2 s hs).2) k
theorem AT.f_6_8 {n : Nat} (hM : qPT m = M) (hr : M.1[i]? = some (pc, .getfield n, ln, 6, 8, r3)) (ho : o < 2) (hs : s < 7) (k : AT m (i + 1) ls (.int (Int32.ofNat ((xK X o).2.1 s).length) :: st) X Q) : AT m i ls (.ref (aS o s) :: st) X Q :=
  AT.gf hM hr (xKd.of (shp_sv ho hs)) (by decide) (fun g hg => ((hg.2.2.2.2.2.1.1 o ho).2 s hs).1) k
theorem AT.f_6_7 {n : Nat} (hM : qPT m = M) (hr : M.1[i]? = some (pc, .getfield n, ln, 6, 7, r3)) (ho : o < 2) (hs : s < 7) (k : AT m (i + 1) ls (.ref (dA (xD X) o s) :: st) X Q) : AT m i ls (.ref (aS o s) :: st) X Q :=
  AT.gf hM hr (xKd.of (shp_sv ho hs)) (by decide) (fun g hg => (hg.2.2.2.2.2.2.2.1 o s ho hs).1) k
theorem AT.f_6_9 {n : Nat} (hM : qPT m = M) (hr : M.1[i]? = some (pc, .getfield n, ln, 6, 9, r3)) (ho : o < 2) (hs : s < 7) (k : ∀ p, dSn (xD X) p ((xK X o).1 18 s) → AT m (i + 1) ls (.ref p :: st) X Q) : AT m i ls (.ref (aS o s) :: st) X Q :=
  AT.gfx (v := fun p => Value.ref p) (P := fun p => dSn (xD X) p ((xK X o).1 18 s)) hM hr (xKd.of (shp_sv ho hs)) (by decide) (fun g hg => by obtain ⟨p, h1, h2⟩ := hg.2.2.2.2.2.2.2.2.2.2.1 o s ho hs; exact ⟨p, h2, h1⟩) k
theorem dSn.ob {X : XS} {p : Nat} {r : ENT} {g : PS} (h : dSn (xD X) p r) (hg : Rep X g) : pK g p = 7 ∧ (∀ k, k < 3 → pM g p k = .int (r k)) ∧ pM g p 3 = .ref (p + 1) ∧ pK g (p + 1) = 8 ∧ (∀ k, k < 3 → pM g (p + 1) k = .ref (p + 2 + k) ∧ pK g (p + 2 + k) = 12) ∧ pL g (p + 2) = 8 ∧ pL g (p + 3) = 4 ∧ pL g (p + 4) = 4 ∧
    (∀ k, k < 8 → pM g (p + 2) k = .int (r (3 + k))) ∧ (∀ k, k < 4 → pM g (p + 3) k = .int (r (11 + k)) ∧ pM g (p + 4) k = .int (r (15 + k))) := by
  obtain ⟨r', h1, h2⟩ := h
  obtain ⟨-, -, h3⟩ := hg.2.2.2.2.2.2.2.2.2.2.2.2.2.2.2 p (by rw [h1]; show (3 : Nat) ≠ 0; decide)
  obtain ⟨a1, a2, a3, a4, a5, a6, a7, a8, a9, a10, a11⟩ := h3.2.2.1 (by rw [h1])
  rw [h1] at a2 a9 a10
  dsimp only at a2 a9 a10
  refine ⟨a1, fun k hk => by rw [← h2 k (by omega)]; exact a2 k hk, a3, a4, a5, a6, a7, a8, fun k hk => by rw [← h2 (3 + k) (by omega)]; exact a9 k hk, fun k hk => ⟨by rw [← h2 (11 + k) (by omega)]; exact (a10 k hk).1, by rw [← h2 (15 + k) (by omega)]; exact (a10 k hk).2⟩⟩
theorem AT.f_7_0 {n p : Nat} {r : ENT} (hM : qPT m = M) (hr : M.1[i]? = some (pc, .getfield n, ln, 7, 0, r3)) (hp : dSn (xD X) p r) (k : AT m (i + 1) ls (.int (r 0) :: st) X Q) : AT m i ls (.ref p :: st) X Q := AT.gf hM hr (fun g hg => (hp.ob hg).1) (by decide) (fun g hg => (hp.ob hg).2.1 0 (by omega)) k
theorem AT.f_7_1 {n p : Nat} {r : ENT} (hM : qPT m = M) (hr : M.1[i]? = some (pc, .getfield n, ln, 7, 1, r3)) (hp : dSn (xD X) p r) (k : AT m (i + 1) ls (.int (r 1) :: st) X Q) : AT m i ls (.ref p :: st) X Q := AT.gf hM hr (fun g hg => (hp.ob hg).1) (by decide) (fun g hg => (hp.ob hg).2.1 1 (by omega)) k
theorem AT.f_7_2 {n p : Nat} {r : ENT} (hM : qPT m = M) (hr : M.1[i]? = some (pc, .getfield n, ln, 7, 2, r3)) (hp : dSn (xD X) p r) (k : AT m (i + 1) ls (.int (r 2) :: st) X Q) : AT m i ls (.ref p :: st) X Q := AT.gf hM hr (fun g hg => (hp.ob hg).1) (by decide) (fun g hg => (hp.ob hg).2.1 2 (by omega)) k
theorem AT.f_7_3 {n p : Nat} {r : ENT} (hM : qPT m = M) (hr : M.1[i]? = some (pc, .getfield n, ln, 7, 3, r3)) (hp : dSn (xD X) p r) (k : AT m (i + 1) ls (.ref (p + 1) :: st) X Q) : AT m i ls (.ref p :: st) X Q := AT.gf hM hr (fun g hg => (hp.ob hg).1) (by decide) (fun g hg => (hp.ob hg).2.2.1) k
/-- an entry's object -/
theorem dE.ent {X : XS} {p : Nat} {e : ENT} {g : PS} (h : dE (xD X) p = (1, e)) (hg : Rep X g) : pK g p = 2 ∧ pM g p 0 = .int (e 0) ∧ pM g p 1 = .int (e 1) ∧ ((eRq e ∧ pM g p 3 = .int 0 ∧ ∃ q, pM g p 2 = .ref q ∧ dRq (xD X) q e) ∨ (¬ eRq e ∧ pM g p 2 = .null ∧ pM g p 3 = .int (e 6) ∧ e 2 = -1 ∧ e 3 = 0 ∧ e 4 = 0 ∧ e 5 = 0)) := by
  obtain ⟨-, -, h3⟩ := hg.2.2.2.2.2.2.2.2.2.2.2.2.2.2.2 p (by rw [h]; show (1 : Nat) ≠ 0; decide)
  have := h3.1 (by rw [h])
  rw [h] at this
  exact this
theorem AT.f_2_0 {n p : Nat} {e : ENT} (hM : qPT m = M) (hr : M.1[i]? = some (pc, .getfield n, ln, 2, 0, r3)) (hp : dE (xD X) p = (1, e)) (k : AT m (i + 1) ls (.int (e 0) :: st) X Q) : AT m i ls (.ref p :: st) X Q := AT.gf hM hr (fun g hg => (dE.ent hp hg).1) (by decide) (fun g hg => (dE.ent hp hg).2.1) k
theorem AT.f_2_1 {n p : Nat} {e : ENT} (hM : qPT m = M) (hr : M.1[i]? = some (pc, .getfield n, ln, 2, 1, r3)) (hp : dE (xD X) p = (1, e)) (k : AT m (i + 1) ls (.int (e 1) :: st) X Q) : AT m i ls (.ref p :: st) X Q := AT.gf hM hr (fun g hg => (dE.ent hp hg).1) (by decide) (fun g hg => (dE.ent hp hg).2.2.1) k
/-- its request, or none -/
theorem AT.f_2_2 {n p : Nat} {e : ENT} (hM : qPT m = M) (hr : M.1[i]? = some (pc, .getfield n, ln, 2, 2, r3)) (hp : dE (xD X) p = (1, e)) (k1 : eRq e → ∀ q, dRq (xD X) q e → AT m (i + 1) ls (.ref q :: st) X Q) (k2 : ¬ eRq e → e 2 = -1 ∧ e 3 = 0 ∧ e 4 = 0 ∧ e 5 = 0 → AT m (i + 1) ls (.null :: st) X Q) : AT m i ls (.ref p :: st) X Q := by
  intro g hg
  have hk := dE.ent hp hg
  have e1 : pK g p = 2 := hk.1
  rcases hk.2.2.2 with ⟨h3, h4, q, h5, h6⟩ | ⟨h3, h5, h4, h6⟩
  · refine PW.plain hM hr rfl (q := (i + 1, ls, .ref q :: st, g)) ?_ (k1 h3 q h6 g hg)
    show (if pK g p = 2 ∧ 2 < pF 2 then some (i + 1, ls, pM g p 2 :: st, g) else none) = _
    rw [if_pos ⟨e1, by decide⟩, h5]
  · refine PW.plain hM hr rfl (q := (i + 1, ls, .null :: st, g)) ?_ (k2 h3 h6 g hg)
    show (if pK g p = 2 ∧ 2 < pF 2 then some (i + 1, ls, pM g p 2 :: st, g) else none) = _
    rw [if_pos ⟨e1, by decide⟩, h5]
theorem AT.f_2_3 {n p : Nat} {e : ENT} (hM : qPT m = M) (hr : M.1[i]? = some (pc, .getfield n, ln, 2, 3, r3)) (hp : dE (xD X) p = (1, e)) (he : ¬ eRq e) (k : AT m (i + 1) ls (.int (e 6) :: st) X Q) : AT m i ls (.ref p :: st) X Q := AT.gf hM hr (fun g hg => (dE.ent hp hg).1) (by decide) (fun g hg => by
  rcases (dE.ent hp hg).2.2.2 with z | z
  · exact absurd z.1 he
  · exact z.2.2.1) k
theorem dRq.ob {X : XS} {q : Nat} {r : ENT} {g : PS} (h : dRq (xD X) q r) (hg : Rep X g) : pK g q = 5 ∧ pM g q 0 = .int (r 2) ∧ pM g q 1 = .int (r 3) ∧ pM g q 2 = .int (r 1) ∧ pM g q 3 = .int (r 4) ∧ pM g q 4 = .int (r 6) ∧ pM g q 5 = .int (r 5) := by
  obtain ⟨r', h1, h2⟩ := h
  obtain ⟨-, -, h3⟩ := hg.2.2.2.2.2.2.2.2.2.2.2.2.2.2.2 q (by rw [h1]; show (2 : Nat) ≠ 0; decide)
  have := h3.2.1 (by rw [h1])
  rw [h1] at this
  dsimp only at this
  rw [h2 1 (by omega) (by omega), h2 2 (by omega) (by omega), h2 3 (by omega) (by omega), h2 4 (by omega) (by omega), h2 5 (by omega) (by omega), h2 6 (by omega) (by omega)] at this
  exact this
theorem AT.f_5_0 {n p : Nat} {r : ENT} (hM : qPT m = M) (hr : M.1[i]? = some (pc, .getfield n, ln, 5, 0, r3)) (hp : dRq (xD X) p r) (k : AT m (i + 1) ls (.int (r 2) :: st) X Q) : AT m i ls (.ref p :: st) X Q := AT.gf hM hr (fun g hg => (hp.ob hg).1) (by decide) (fun g hg => (hp.ob hg).2.1) k
theorem AT.f_5_1 {n p : Nat} {r : ENT} (hM : qPT m = M) (hr : M.1[i]? = some (pc, .getfield n, ln, 5, 1, r3)) (hp : dRq (xD X) p r) (k : AT m (i + 1) ls (.int (r 3) :: st) X Q) : AT m i ls (.ref p :: st) X Q := AT.gf hM hr (fun g hg => (hp.ob hg).1) (by decide) (fun g hg => (hp.ob hg).2.2.1) k
theorem AT.f_5_2 {n p : Nat} {r : ENT} (hM : qPT m = M) (hr : M.1[i]? = some (pc, .getfield n, ln, 5, 2, r3)) (hp : dRq (xD X) p r) (k : AT m (i + 1) ls (.int (r 1) :: st) X Q) : AT m i ls (.ref p :: st) X Q := AT.gf hM hr (fun g hg => (hp.ob hg).1) (by decide) (fun g hg => (hp.ob hg).2.2.2.1) k
theorem AT.f_5_3 {n p : Nat} {r : ENT} (hM : qPT m = M) (hr : M.1[i]? = some (pc, .getfield n, ln, 5, 3, r3)) (hp : dRq (xD X) p r) (k : AT m (i + 1) ls (.int (r 4) :: st) X Q) : AT m i ls (.ref p :: st) X Q := AT.gf hM hr (fun g hg => (hp.ob hg).1) (by decide) (fun g hg => (hp.ob hg).2.2.2.2.1) k
theorem AT.f_5_4 {n p : Nat} {r : ENT} (hM : qPT m = M) (hr : M.1[i]? = some (pc, .getfield n, ln, 5, 4, r3)) (hp : dRq (xD X) p r) (k : AT m (i + 1) ls (.int (r 6) :: st) X Q) : AT m i ls (.ref p :: st) X Q := AT.gf hM hr (fun g hg => (hp.ob hg).1) (by decide) (fun g hg => (hp.ob hg).2.2.2.2.2.1) k
theorem AT.f_5_5 {n p : Nat} {r : ENT} (hM : qPT m = M) (hr : M.1[i]? = some (pc, .getfield n, ln, 5, 5, r3)) (hp : dRq (xD X) p r) (k : AT m (i + 1) ls (.int (r 5) :: st) X Q) : AT m i ls (.ref p :: st) X Q := AT.gf hM hr (fun g hg => (hp.ob hg).1) (by decide) (fun g hg => (hp.ob hg).2.2.2.2.2.2) k
/-- a client's request, or none -/
theorem AT.f_0_0n {n : Nat} (hM : qPT m = M) (hr : M.1[i]? = some (pc, .getfield n, ln, 0, 0, r3)) (ho : o < 2) (hc : c < 4) (h0 : (xK X o).1 34 c 3 = 0) (k : AT m (i + 1) ls (.null :: st) X Q) : AT m i ls (.ref (aC o c) :: st) X Q :=
  AT.gf hM hr (xKd.of (shp_cli ho hc)) (by decide) (fun g hg => (hg.2.2.2.2.2.2.2.2.2.2.2.1 o c ho hc).1 h0) k
theorem AT.f_0_0s {n : Nat} (hM : qPT m = M) (hr : M.1[i]? = some (pc, .getfield n, ln, 0, 0, r3)) (ho : o < 2) (hc : c < 4) (h0 : ¬ (xK X o).1 34 c 3 = 0) (k : ∀ p, dRq (xD X) p ((xK X o).1 34 c) → AT m (i + 1) ls (.ref p :: st) X Q) : AT m i ls (.ref (aC o c) :: st) X Q :=
  AT.gfx (v := fun p => Value.ref p) (P := fun p => dRq (xD X) p ((xK X o).1 34 c)) hM hr (xKd.of (shp_cli ho hc)) (by decide) (fun g hg => by obtain ⟨p, h1, h2⟩ := (hg.2.2.2.2.2.2.2.2.2.2.2.1 o c ho hc).2 h0; exact ⟨p, h2, h1⟩) k
/-- how many messages, the row of them -/
theorem AT.f_4_3 {n : Nat} (hM : qPT m = M) (hr : M.1[i]? = some (pc, .getfield n, ln, 4, 3, r3)) (ho : o < 2) (k : AT m (i + 1) ls (.int (Int32.ofNat (xK X o).2.2.length) :: st) X Q) : AT m i ls (.ref (aB o + 3) :: st) X Q :=
  AT.gf hM hr (xKd.of (shp_net ho)) (by decide) (fun g hg => (hg.2.2.2.2.2.1.1 o ho).1) k
theorem AT.f_4_2 {n : Nat} (hM : qPT m = M) (hr : M.1[i]? = some (pc, .getfield n, ln, 4, 2, r3)) (ho : o < 2) (k : AT m (i + 1) ls (.ref (aM o (dP (xD X) o 60)) :: st) X Q) : AT m i ls (.ref (aB o + 3) :: st) X Q :=
  AT.gf hM hr (xKd.of (shp_net ho)) (by decide) (fun g hg => (hg.2.2.2.2.2.2.2.2.2.2.2.2.1 o ho).1) k
/-! arrays -/
theorem AT.a_svs {y : Int32} (hM : qPT m = M) (hr : M.1[i]? = some (pc, .aaload, ln, r1, r2, r3)) (hy : y = Int32.ofNat s) (ho : o < 2) (hs : s < 7) (k : AT m (i + 1) ls (.ref (aS o s) :: st) X Q) : AT m i ls (.int y :: .ref (aB o + 1) :: st) X Q := AT.ar hM hr hy (shp_svs ho) (by omega) hs (by omega) (srf_svs ho hs) k
theorem AT.a_cls {y : Int32} (hM : qPT m = M) (hr : M.1[i]? = some (pc, .aaload, ln, r1, r2, r3)) (hy : y = Int32.ofNat c) (ho : o < 2) (hc : c < 4) (k : AT m (i + 1) ls (.ref (aC o c) :: st) X Q) : AT m i ls (.int y :: .ref (aB o + 2) :: st) X Q := AT.ar hM hr hy (shp_cls ho) (by omega) hc (by omega) (srf_cls ho hc) k
theorem AT.a_row {y : Int32} {j : Nat} (hM : qPT m = M) (hr : M.1[i]? = some (pc, .aaload, ln, r1, r2, r3)) (hy : y = Int32.ofNat j) (ho : o < 2) (hj : j < 60) (k : AT m (i + 1) ls (.ref (aM o (dP (xD X) o j)) :: st) X Q) : AT m i ls (.int y :: .ref (aB o + 4) :: st) X Q :=
  AT.aax (A := Unit) (v := fun _ => .ref (aM o (dP (xD X) o j))) (P := fun _ => True) (kl := 60) hM hr hy hj (by omega) (fun g hg => ⟨by rw [(hg.2.1 _ _ _ (shp_row ho)).1]; omega, (hg.2.1 _ _ _ (shp_row ho)).2 (by omega)⟩) (fun g hg => ⟨(), trivial, (hg.2.2.2.2.2.2.2.2.2.2.2.2.1 o ho).2.1 j hj⟩) (fun _ _ => k)
theorem AT.a_cuts {y : Int32} (hM : qPT m = M) (hr : M.1[i]? = some (pc, .iaload, ln, r1, r2, r3)) (hy : y = Int32.ofNat s) (ho : o < 2) (hs : s < 7) (k : AT m (i + 1) ls (.int ((xK X o).1 30 s 0) :: st) X Q) : AT m i ls (.int y :: .ref (aB o + 5) :: st) X Q := AT.in hM hr hy (shp_cuts ho) hs (by omega) (loc_cut ho hs) rfl k
theorem AT.a_nxt {y : Int32} {j : Nat} (hM : qPT m = M) (hr : M.1[i]? = some (pc, .iaload, ln, r1, r2, r3)) (hy : y = Int32.ofNat j) (ho : o < 2) (hs : s < 7) (hj : j < 7) (k : AT m (i + 1) ls (.int ((xK X o).1 2 s j) :: st) X Q) : AT m i ls (.int y :: .ref (aS o s + 5) :: st) X Q := AT.in hM hr hy (shp_nxt ho hs) hj (by omega) (loc_nxt ho hs hj) rfl k
theorem AT.a_mat {y : Int32} {j : Nat} (hM : qPT m = M) (hr : M.1[i]? = some (pc, .iaload, ln, r1, r2, r3)) (hy : y = Int32.ofNat j) (ho : o < 2) (hs : s < 7) (hj : j < 7) (k : AT m (i + 1) ls (.int ((xK X o).1 3 s j) :: st) X Q) : AT m i ls (.int y :: .ref (aS o s + 6) :: st) X Q := AT.in hM hr hy (shp_mat ho hs) hj (by omega) (loc_mat ho hs hj) rfl k
theorem AT.a_val {y : Int32} {j : Nat} (hM : qPT m = M) (hr : M.1[i]? = some (pc, .iaload, ln, r1, r2, r3)) (hy : y = Int32.ofNat j) (ho : o < 2) (hs : s < 7) (hj : j < 8) (k : AT m (i + 1) ls (.int ((xK X o).1 19 s j) :: st) X Q) : AT m i ls (.int y :: .ref (aS o s + 2) :: st) X Q := AT.in hM hr hy (shp_val ho hs) hj (by omega) (loc_val ho hs hj) rfl k
theorem AT.a_ser {y : Int32} {j : Nat} (hM : qPT m = M) (hr : M.1[i]? = some (pc, .iaload, ln, r1, r2, r3)) (hy : y = Int32.ofNat j) (ho : o < 2) (hs : s < 7) (hj : j < 4) (k : AT m (i + 1) ls (.int ((xK X o).1 19 s (8 + j)) :: st) X Q) : AT m i ls (.int y :: .ref (aS o s + 3) :: st) X Q := AT.in hM hr hy (shp_ser ho hs) hj (by omega) (loc_ser ho hs hj) rfl k
theorem AT.a_giv {y : Int32} {j : Nat} (hM : qPT m = M) (hr : M.1[i]? = some (pc, .iaload, ln, r1, r2, r3)) (hy : y = Int32.ofNat j) (ho : o < 2) (hs : s < 7) (hj : j < 4) (k : AT m (i + 1) ls (.int ((xK X o).1 19 s (12 + j)) :: st) X Q) : AT m i ls (.int y :: .ref (aS o s + 4) :: st) X Q := AT.in hM hr hy (shp_giv ho hs) hj (by omega) (loc_giv ho hs hj) rfl k
/-- an entry of a log -/
theorem AT.a_log {y : Int32} {j : Nat} {e : ENT} (hM : qPT m = M) (hr : M.1[i]? = some (pc, .aaload, ln, r1, r2, r3)) (hy : y = Int32.ofNat j) (ho : o < 2) (hs : s < 7) (hj : ((xK X o).2.1 s)[j]? = some e) (k : ∀ p, dE (xD X) p = (1, e) → AT m (i + 1) ls (.ref p :: st) X Q) : AT m i ls (.int y :: .ref (dA (xD X) o s) :: st) X Q := by
  intro g hg
  obtain ⟨h1, h2, h3, h4, h5, h6, h7, h8, h9⟩ := hg.2.2.2.2.2.2.2.1 o s ho hs
  have hl : j < ((xK X o).2.1 s).length := (List.getElem?_eq_some_iff.mp hj).1
  have h10 := h9 j e hj
  exact AT.aax (A := Unit) (v := fun _ => .ref (dQ (xD X) o s j)) (P := fun _ => True) (kl := dR (xD X) o s) hM hr hy (by omega) (by omega) (fun g hg => by obtain ⟨h1, h2, h3, -⟩ := hg.2.2.2.2.2.2.2.1 o s ho hs; exact ⟨by rw [h2]; omega, h3⟩)
    (fun g hg => by obtain ⟨h1, h2, h3, h4, h5, h6, h7, h8, h9⟩ := hg.2.2.2.2.2.2.2.1 o s ho hs; exact ⟨(), trivial, h8 j h10.2 (by omega)⟩) (fun _ _ => k _ h10.1) g hg
theorem AT.l_log (hM : qPT m = M) (hr : M.1[i]? = some (pc, .arraylength, ln, r1, r2, r3)) (ho : o < 2) (hs : s < 7) (k : ((xK X o).2.1 s).length ≤ dR (xD X) o s → dR (xD X) o s ≤ 1048576 → AT m (i + 1) ls (.int (Int32.ofNat (dR (xD X) o s)) :: st) X Q) : AT m i ls (.ref (dA (xD X) o s) :: st) X Q := by
  intro g hg
  obtain ⟨h1, h2, h3, h4, h5, h6, h7, h8, h9⟩ := hg.2.2.2.2.2.2.2.1 o s ho hs
  exact AT.al hM hr (fun g hg => by obtain ⟨h1, h2, h3, -⟩ := hg.2.2.2.2.2.2.2.1 o s ho hs; exact ⟨by rw [h2]; omega, h3⟩) (k h5 h7) g hg
theorem AT.l_svs (hM : qPT m = M) (hr : M.1[i]? = some (pc, .arraylength, ln, r1, r2, r3)) (ho : o < 2) (k : AT m (i + 1) ls (.int 7 :: st) X Q) : AT m i ls (.ref (aB o + 1) :: st) X Q := AT.aln hM hr (shp_svs ho) (by omega) k
theorem AT.l_cls (hM : qPT m = M) (hr : M.1[i]? = some (pc, .arraylength, ln, r1, r2, r3)) (ho : o < 2) (k : AT m (i + 1) ls (.int 4 :: st) X Q) : AT m i ls (.ref (aB o + 2) :: st) X Q := AT.aln hM hr (shp_cls ho) (by omega) k
theorem AT.l_val (hM : qPT m = M) (hr : M.1[i]? = some (pc, .arraylength, ln, r1, r2, r3)) (ho : o < 2) (hs : s < 7) (k : AT m (i + 1) ls (.int 8 :: st) X Q) : AT m i ls (.ref (aS o s + 2) :: st) X Q := AT.aln hM hr (shp_val ho hs) (by omega) k
theorem AT.l_ser (hM : qPT m = M) (hr : M.1[i]? = some (pc, .arraylength, ln, r1, r2, r3)) (ho : o < 2) (hs : s < 7) (k : AT m (i + 1) ls (.int 4 :: st) X Q) : AT m i ls (.ref (aS o s + 3) :: st) X Q := AT.aln hM hr (shp_ser ho hs) (by omega) k
theorem AT.p_1_3 {n : Nat} {v : Int32} (hM : qPT m = M) (hr : M.1[i]? = some (pc, .putfield n, ln, 1, 3, r3)) (ho : o < 2) (k : AT m (i + 1) ls st (xSetK X o (kSet (xK X o) 33 0 0 v)) Q) : AT m i ls (.int v :: .ref (aB o) :: st) X Q := AT.pn hM hr (shp_cl ho) (by decide) rfl (loc_rnd ho) rfl (fun z => absurd z (by decide)) rfl k
theorem AT.p_4_5 {n : Nat} {v : Int32} (hM : qPT m = M) (hr : M.1[i]? = some (pc, .putfield n, ln, 4, 5, r3)) (ho : o < 2) (k : AT m (i + 1) ls st (xSetK X o (kSet (xK X o) 32 0 0 v)) Q) : AT m i ls (.int v :: .ref (aB o + 3) :: st) X Q := AT.pn hM hr (shp_net ho) (by decide) rfl (loc_net (f := 32) ho (Or.inr rfl)) rfl (fun z => absurd z (by decide)) rfl k
theorem AT.p_6_4 {n : Nat} {v : Int32} (hM : qPT m = M) (hr : M.1[i]? = some (pc, .putfield n, ln, 6, 4, r3)) (ho : o < 2) (hs : s < 7) (h01 : v = 0 ∨ v = 1) (k : AT m (i + 1) ls st (xSetK X o (kSet (xK X o) 4 s 0 v)) Q) : AT m i ls (.int v :: .ref (aS o s) :: st) X Q := AT.pn hM hr (shp_sv ho hs) (by decide) (by rcases h01 with rfl | rfl <;> decide) (loc_sv ho hs (by omega)) rfl (fun _ => h01) rfl k
theorem AT.p_6_5 {n : Nat} {v : Int32} (hM : qPT m = M) (hr : M.1[i]? = some (pc, .putfield n, ln, 6, 5, r3)) (ho : o < 2) (hs : s < 7) (k : AT m (i + 1) ls st (xSetK X o (kSet (xK X o) 5 s 0 v)) Q) : AT m i ls (.int v :: .ref (aS o s) :: st) X Q := AT.pn hM hr (shp_sv ho hs) (by decide) rfl (loc_sv ho hs (by omega)) rfl (fun z => absurd z (by decide)) rfl k
theorem AT.p_6_6 {n : Nat} {v : Int32} (hM : qPT m = M) (hr : M.1[i]? = some (pc, .putfield n, ln, 6, 6, r3)) (ho : o < 2) (hs : s < 7) (k : AT m (i + 1) ls st (xSetK X o (kSet (xK X o) 6 s 0 v)) Q) : AT m i ls (.int v :: .ref (aS o s) :: st) X Q := AT.pn hM hr (shp_sv ho hs) (by decide) rfl (loc_sv ho hs (by omega)) rfl (fun z => absurd z (by decide)) rfl k
theorem AT.p_6_12 {n : Nat} {v : Int32} (hM : qPT m = M) (hr : M.1[i]? = some (pc, .putfield n, ln, 6, 12, r3)) (ho : o < 2) (hs : s < 7) (k : AT m (i + 1) ls st (xSetK X o (kSet (xK X o) 12 s 0 v)) Q) : AT m i ls (.int v :: .ref (aS o s) :: st) X Q := AT.pn hM hr (shp_sv ho hs) (by decide) rfl (loc_sv ho hs (by omega)) rfl (fun z => absurd z (by decide)) rfl k
theorem AT.p_6_13 {n : Nat} {v : Int32} (hM : qPT m = M) (hr : M.1[i]? = some (pc, .putfield n, ln, 6, 13, r3)) (ho : o < 2) (hs : s < 7) (k : AT m (i + 1) ls st (xSetK X o (kSet (xK X o) 13 s 0 v)) Q) : AT m i ls (.int v :: .ref (aS o s) :: st) X Q := AT.pn hM hr (shp_sv ho hs) (by decide) rfl (loc_sv ho hs (by omega)) rfl (fun z => absurd z (by decide)) rfl k
theorem AT.p_6_14 {n : Nat} {v : Int32} (hM : qPT m = M) (hr : M.1[i]? = some (pc, .putfield n, ln, 6, 14, r3)) (ho : o < 2) (hs : s < 7) (k : AT m (i + 1) ls st (xSetK X o (kSet (xK X o) 14 s 0 v)) Q) : AT m i ls (.int v :: .ref (aS o s) :: st) X Q := AT.pn hM hr (shp_sv ho hs) (by decide) rfl (loc_sv ho hs (by omega)) rfl (fun z => absurd z (by decide)) rfl k
theorem AT.p_6_15 {n : Nat} {v : Int32} (hM : qPT m = M) (hr : M.1[i]? = some (pc, .putfield n, ln, 6, 15, r3)) (ho : o < 2) (hs : s < 7) (k : AT m (i + 1) ls st (xSetK X o (kSet (xK X o) 15 s 0 v)) Q) : AT m i ls (.int v :: .ref (aS o s) :: st) X Q := AT.pn hM hr (shp_sv ho hs) (by decide) rfl (loc_sv ho hs (by omega)) rfl (fun z => absurd z (by decide)) rfl k
theorem AT.p_6_16 {n : Nat} {v : Int32} (hM : qPT m = M) (hr : M.1[i]? = some (pc, .putfield n, ln, 6, 16, r3)) (ho : o < 2) (hs : s < 7) (k : AT m (i + 1) ls st (xSetK X o (kSet (xK X o) 16 s 0 v)) Q) : AT m i ls (.int v :: .ref (aS o s) :: st) X Q := AT.pn hM hr (shp_sv ho hs) (by decide) rfl (loc_sv ho hs (by omega)) rfl (fun z => absurd z (by decide)) rfl k
theorem AT.p_6_17 {n : Nat} {v : Int32} (hM : qPT m = M) (hr : M.1[i]? = some (pc, .putfield n, ln, 6, 17, r3)) (ho : o < 2) (hs : s < 7) (k : AT m (i + 1) ls st (xSetK X o (kSet (xK X o) 17 s 0 v)) Q) : AT m i ls (.int v :: .ref (aS o s) :: st) X Q := AT.pn hM hr (shp_sv ho hs) (by decide) rfl (loc_sv ho hs (by omega)) rfl (fun z => absurd z (by decide)) rfl k
theorem AT.p_0_1 {n : Nat} {v : Int32} (hM : qPT m = M) (hr : M.1[i]? = some (pc, .putfield n, ln, 0, 1, r3)) (ho : o < 2) (hc : c < 4) (h01 : v = 0 ∨ v = 1) (k : AT m (i + 1) ls st (xSetK X o (kSet (xK X o) 35 c 0 v)) Q) : AT m i ls (.int v :: .ref (aC o c) :: st) X Q := AT.pn hM hr (shp_cli ho hc) (by decide) (by rcases h01 with rfl | rfl <;> decide) (loc_cli (f := 35) ho hc (Or.inl rfl)) rfl (fun _ => h01) rfl k
theorem AT.p_0_2 {n : Nat} {v : Int32} (hM : qPT m = M) (hr : M.1[i]? = some (pc, .putfield n, ln, 0, 2, r3)) (ho : o < 2) (hc : c < 4) (k : AT m (i + 1) ls st (xSetK X o (kSet (xK X o) 36 c 0 v)) Q) : AT m i ls (.int v :: .ref (aC o c) :: st) X Q := AT.pn hM hr (shp_cli ho hc) (by decide) rfl (loc_cli (f := 36) ho hc (Or.inr rfl)) rfl (fun z => absurd z (by decide)) rfl k
theorem AT.s_cuts {y v : Int32} {j : Nat} (hM : qPT m = M) (hr : M.1[i]? = some (pc, .iastore, ln, 0, r2, r3)) (hy : y = Int32.ofNat s) (ho : o < 2) (hs : s < 7) (k : AT m (i + 1) ls st (xSetK X o (kSet (xK X o) 30 s 0 v)) Q) : AT m i ls (.int v :: .int y :: .ref (aB o + 5) :: st) X Q := AT.sn hM hr hy (shp_cuts ho) hs (by omega) (loc_cut ho hs) rfl (fun z => absurd z (by decide)) rfl k
theorem AT.s_nxt {y v : Int32} {j : Nat} (hM : qPT m = M) (hr : M.1[i]? = some (pc, .iastore, ln, 0, r2, r3)) (hy : y = Int32.ofNat j) (ho : o < 2) (hs : s < 7) (hj : j < 7) (k : AT m (i + 1) ls st (xSetK X o (kSet (xK X o) 2 s j v)) Q) : AT m i ls (.int v :: .int y :: .ref (aS o s + 5) :: st) X Q := AT.sn hM hr hy (shp_nxt ho hs) hj (by omega) (loc_nxt ho hs hj) rfl (fun z => absurd z (by decide)) rfl k
theorem AT.s_mat {y v : Int32} {j : Nat} (hM : qPT m = M) (hr : M.1[i]? = some (pc, .iastore, ln, 0, r2, r3)) (hy : y = Int32.ofNat j) (ho : o < 2) (hs : s < 7) (hj : j < 7) (k : AT m (i + 1) ls st (xSetK X o (kSet (xK X o) 3 s j v)) Q) : AT m i ls (.int v :: .int y :: .ref (aS o s + 6) :: st) X Q := AT.sn hM hr hy (shp_mat ho hs) hj (by omega) (loc_mat ho hs hj) rfl (fun z => absurd z (by decide)) rfl k
theorem AT.s_val {y v : Int32} {j : Nat} (hM : qPT m = M) (hr : M.1[i]? = some (pc, .iastore, ln, 0, r2, r3)) (hy : y = Int32.ofNat j) (ho : o < 2) (hs : s < 7) (hj : j < 8) (k : AT m (i + 1) ls st (xSetK X o (kSet (xK X o) 19 s j v)) Q) : AT m i ls (.int v :: .int y :: .ref (aS o s + 2) :: st) X Q := AT.sn hM hr hy (shp_val ho hs) hj (by omega) (loc_val ho hs hj) rfl (fun z => absurd z (by decide)) rfl k
theorem AT.s_ser {y v : Int32} {j : Nat} (hM : qPT m = M) (hr : M.1[i]? = some (pc, .iastore, ln, 0, r2, r3)) (hy : y = Int32.ofNat j) (ho : o < 2) (hs : s < 7) (hj : j < 4) (k : AT m (i + 1) ls st (xSetK X o (kSet (xK X o) 19 s (8 + j) v)) Q) : AT m i ls (.int v :: .int y :: .ref (aS o s + 3) :: st) X Q := AT.sn hM hr hy (shp_ser ho hs) hj (by omega) (loc_ser ho hs hj) rfl (fun z => absurd z (by decide)) rfl k
theorem AT.s_giv {y v : Int32} {j : Nat} (hM : qPT m = M) (hr : M.1[i]? = some (pc, .iastore, ln, 0, r2, r3)) (hy : y = Int32.ofNat j) (ho : o < 2) (hs : s < 7) (hj : j < 4) (k : AT m (i + 1) ls st (xSetK X o (kSet (xK X o) 19 s (12 + j) v)) Q) : AT m i ls (.int v :: .int y :: .ref (aS o s + 4) :: st) X Q := AT.sn hM hr hy (shp_giv ho hs) hj (by omega) (loc_giv ho hs hj) rfl (fun z => absurd z (by decide)) rfl k
end ATC
