/-! ===== THE REFERENCE: asks about a log ===== -/
theorem i32_mul7 {a j c : Nat} : (Int32.ofNat (a + 1 + j) - Int32.ofNat a - 1) * 7 + Int32.ofNat c = Int32.ofNat (7 * j + c) := by
  rw [Int32.ofNat_add, Int32.ofNat_add, show (Int32.ofNat a + Int32.ofNat 1 + Int32.ofNat j - Int32.ofNat a - 1 : Int32) = Int32.ofNat j from i32_sub3 _ _, Int32.ofNat_add, Nat.mul_comm, Int32.ofNat_mul]
  rfl
theorem sEnt_ix {K : KK} {i : Nat} {x : Int32} {e : ENT} (h : sEnt K i x = some e) (hw : kWf K i) : ∃ a j : Nat, K.1 18 i 0 = Int32.ofNat a ∧ a + (K.2.1 i).length < 16777216 ∧ x = Int32.ofNat (a + 1 + j) ∧ (K.2.1 i)[j]? = some e := by
  obtain ⟨h1, h2, j0, h3, h4⟩ := sEnt_some h hw
  obtain ⟨a, j, ha, hb, hj, hx, hx2⟩ := hw.ix h1 h2
  have : j0 = j := by
    have h5 := h3.symm.trans hx2
    have h6 := (List.getElem?_eq_some_iff.mp h4).1
    exact i32_nat (by omega) (by omega) h5
  subst this
  exact ⟨a, j0, ha, hb, hx, h4⟩
theorem sTix_last {K : KK} {s : Nat} (hw : kWf K s) : sTix K s (sLast K s) = sLastT K s := by
  obtain ⟨a, ha, hl⟩ := hw
  have eL := sLast_of ha
  unfold sTix sLastT
  by_cases h0 : (K.2.1 s).length = 0
  · have e0 : K.2.1 s = [] := List.eq_nil_of_length_eq_zero h0
    rw [if_pos (by rw [eL, ha, h0]; rfl), e0]
    rfl
  · rw [if_neg (by rw [eL, ha]; intro z; have := i32_nat (by omega) (by omega) z; omega), eL]
    have h1 := sEnt_at ha hl (i := (K.2.1 s).length - 1) (by omega)
    rw [show a + 1 + ((K.2.1 s).length - 1) = a + (K.2.1 s).length by omega] at h1
    rw [h1, ← List.getLast?_eq_getElem?]
    cases hg : (K.2.1 s).getLast? with
    | none => rw [List.getLast?_eq_none_iff] at hg; rw [hg] at h0; exact absurd rfl h0
    | some e => rfl
def sHasE (K : KK) (s : Nat) (x : Int32) : Bool := decide (¬ x ≤ K.1 18 s 0) && decide (x ≤ sLast K s)
theorem sHasE_some {K : KK} {s : Nat} {x : Int32} (hw : kWf K s) : sHasE K s x = true ↔ ∃ e, sEnt K s x = some e := by
  unfold sHasE
  constructor
  · intro h
    have h1 : ¬ x ≤ K.1 18 s 0 ∧ x ≤ sLast K s := by simpa using h
    obtain ⟨a, j, ha, hb, hj, hx, hx2⟩ := hw.ix h1.1 h1.2
    refine ⟨(K.2.1 s)[j], ?_⟩
    rw [hx, sEnt_at ha hb hj, List.getElem?_eq_getElem hj]
  · rintro ⟨e, he⟩
    obtain ⟨h1, h2, -⟩ := sEnt_some he hw
    simp [h1, h2]
theorem c_187 {X : XS} {o s : Nat} (h2 : 2 ≤ o) (h4 : o < 4) (hs : s < 7) : RT 187 [some (.ref (bB o)), some (.int (Int32.ofNat s))] X (some (.int (sLast (xK X o) s))) X := by
  refine AT.aload_n M_187 rfl rfl ?_
  refine AT.r10_13 M_187 rfl h2 h4 ?_
  refine AT.iload_n M_187 rfl rfl ?_
  refine AT.ra_18_0 M_187 rfl rfl h2 h4 (by assumption) ?_
  refine AT.aload_n M_187 rfl rfl ?_
  refine AT.r10_18 M_187 rfl h2 h4 ?_
  refine AT.iload_n M_187 rfl rfl ?_
  refine AT.ra_siz M_187 rfl rfl h2 h4 (by assumption) ?_
  refine AT.iadd M_187 rfl rfl ?_
  refine AT.iret M_187 rfl rfl ?_
  exact ⟨rfl, rfl⟩
theorem c_188 {X : XS} {o s : Nat} (h2 : 2 ≤ o) (h4 : o < 4) (hs : s < 7) {x : Int32} : RT 188 [some (.ref (bB o)), some (.int (Int32.ofNat s)), some (.int x)] X (some (.int (bI (sHasE (xK X o) s x)))) X := by
  refine AT.iload_n M_188 rfl rfl ?_
  refine AT.aload_n M_188 rfl rfl ?_
  refine AT.r10_13 M_188 rfl h2 h4 ?_
  refine AT.iload_n M_188 rfl rfl ?_
  refine AT.ra_18_0 M_188 rfl rfl h2 h4 (by assumption) ?_
  refine AT.icmp_le M_188 rfl (fun b5 => ?_) (fun b5 => ?_)
  · refine AT.iconst M_188 rfl (v := 0) (by decide) ?_
    refine AT.zret M_188 rfl rfl (by first | exact Or.inl rfl | exact Or.inr rfl | assumption) ?_
    have h1 := (decide_eq_false (not_not_intro b5))
    rw [show bI (sHasE (xK X o) s x) = 0 from by unfold sHasE; rw [h1]; rfl]
    exact ⟨rfl, rfl⟩
  · refine AT.iload_n M_188 rfl rfl ?_
    refine AT.aload_n M_188 rfl rfl ?_
    refine AT.iload_n M_188 rfl rfl ?_
    refine AT.cv2i M_188 rfl M_187 rfl (Nat.le_of_ble_eq_true rfl) (xKd.of (sh_st h2 h4)) (by decide) (c_187 h2 h4 hs) ?_ (Nat.le_of_ble_eq_true rfl) rfl
    refine AT.icmp_gt M_188 rfl (fun b10 => ?_) (fun b10 => ?_)
    · refine AT.iconst M_188 rfl (v := 0) (by decide) ?_
      refine AT.zret M_188 rfl rfl (by first | exact Or.inl rfl | exact Or.inr rfl | assumption) ?_
      have h1 := (decide_eq_true b5)
      have h2 := (decide_eq_false (Int32.not_le.mpr b10))
      rw [show bI (sHasE (xK X o) s x) = 0 from by unfold sHasE; rw [h1, h2]; rfl]
      exact ⟨rfl, rfl⟩
    · refine AT.iconst M_188 rfl (v := 1) (by decide) ?_
      refine AT.goto M_188 rfl ?_
      refine AT.zret M_188 rfl rfl (by first | exact Or.inl rfl | exact Or.inr rfl | assumption) ?_
      have h1 := (decide_eq_true b5)
      have h2 := (decide_eq_true (Int32.not_lt.mp b10))
      rw [show bI (sHasE (xK X o) s x) = 1 from by unfold sHasE; rw [h1, h2]; rfl]
      exact ⟨rfl, rfl⟩
theorem c_189 {X : XS} {o s : Nat} (h2 : 2 ≤ o) (h4 : o < 4) (hs : s < 7) {x : Int32} : RT 189 [some (.ref (bB o)), some (.int (Int32.ofNat s)), some (.int x)] X (some (.int ((x - (xK X o).1 18 s 0 - 1) * 7))) X := by
  refine AT.iload_n M_189 rfl rfl ?_
  refine AT.aload_n M_189 rfl rfl ?_
  refine AT.r10_13 M_189 rfl h2 h4 ?_
  refine AT.iload_n M_189 rfl rfl ?_
  refine AT.ra_18_0 M_189 rfl rfl h2 h4 (by assumption) ?_
  refine AT.isub M_189 rfl rfl ?_
  refine AT.iconst M_189 rfl (v := 1) (by decide) ?_
  refine AT.isub M_189 rfl rfl ?_
  refine AT.bipush M_189 rfl (v := 7) (by decide) ?_
  refine AT.imul M_189 rfl rfl ?_
  refine AT.iret M_189 rfl rfl ?_
  exact ⟨rfl, rfl⟩
theorem c_190 {X : XS} {o s : Nat} (h2 : 2 ≤ o) (h4 : o < 4) (hs : s < 7) {x y : Int32} {e : ENT} {c : Nat} (hx : sEnt (xK X o) s x = some e) (hw : kWf (xK X o) s) (hc : c < 7) (hcc : y = Int32.ofNat c) : RT 190 [some (.ref (bB o)), some (.int (Int32.ofNat s)), some (.int x), some (.int y)] X (some (.int (e c))) X := by
  obtain ⟨a, j, ha, hb, hxx, he⟩ := sEnt_ix hx hw
  have hj := (List.getElem?_eq_some_iff.mp he).1
  refine AT.aload_n M_190 rfl rfl ?_
  refine AT.r10_19 M_190 rfl h2 h4 ?_
  refine AT.iload_n M_190 rfl rfl ?_
  refine AT.rr_log M_190 rfl rfl h2 h4 (by assumption) ?_
  refine AT.aload_n M_190 rfl rfl ?_
  refine AT.iload_n M_190 rfl rfl ?_
  refine AT.iload_n M_190 rfl rfl ?_
  refine AT.cv3i M_190 rfl M_189 rfl (Nat.le_of_ble_eq_true rfl) (xKd.of (sh_st h2 h4)) (by decide) (c_189 h2 h4 hs) ?_ (Nat.le_of_ble_eq_true rfl) rfl
  refine AT.iload_n M_190 rfl rfl ?_
  refine AT.iadd M_190 rfl rfl ?_
  refine AT.ra_ent M_190 rfl he hc (by rw [hxx, ha, hcc]; exact i32_mul7) (by omega) h2 h4 (by assumption) ?_
  refine AT.iret M_190 rfl rfl ?_
  exact ⟨rfl, rfl⟩
theorem c_191 {X : XS} {o s : Nat} (h2 : 2 ≤ o) (h4 : o < 4) (hs : s < 7) {x : Int32} (hw : kWf (xK X o) s) (hin : x = (xK X o).1 18 s 0 ∨ ∃ e, sEnt (xK X o) s x = some e) : RT 191 [some (.ref (bB o)), some (.int (Int32.ofNat s)), some (.int x)] X (some (.int (sTix (xK X o) s x))) X := by
  refine AT.iload_n M_191 rfl rfl ?_
  refine AT.aload_n M_191 rfl rfl ?_
  refine AT.r10_13 M_191 rfl h2 h4 ?_
  refine AT.iload_n M_191 rfl rfl ?_
  refine AT.ra_18_0 M_191 rfl rfl h2 h4 (by assumption) ?_
  refine AT.icmp_ne M_191 rfl (fun b5 => ?_) (fun b5 => ?_)
  · obtain ⟨e, hxe⟩ := hin.resolve_left b5
    refine AT.aload_n M_191 rfl rfl ?_
    refine AT.iload_n M_191 rfl rfl ?_
    refine AT.iload_n M_191 rfl rfl ?_
    refine AT.iconst M_191 rfl (v := 0) (by decide) ?_
    refine AT.cv4i M_191 rfl M_190 rfl (Nat.le_of_ble_eq_true rfl) (xKd.of (sh_st h2 h4)) (by decide) (c_190 h2 h4 hs hxe hw (c := 0) (by omega) rfl) ?_ (Nat.le_of_ble_eq_true rfl) rfl
    refine AT.iret M_191 rfl rfl ?_
    rw [show sTix (xK X o) s x = e 0 from by unfold sTix; rw [if_neg b5, hxe]]
    exact ⟨rfl, rfl⟩
  · refine AT.aload_n M_191 rfl rfl ?_
    refine AT.r10_14 M_191 rfl h2 h4 ?_
    refine AT.iload_n M_191 rfl rfl ?_
    refine AT.ra_18_1 M_191 rfl rfl h2 h4 (by assumption) ?_
    refine AT.goto M_191 rfl ?_
    refine AT.iret M_191 rfl rfl ?_
    rw [show sTix (xK X o) s x = (xK X o).1 18 s 1 from if_pos (Classical.not_not.mp b5)]
    exact ⟨rfl, rfl⟩
theorem sLast_in {K : KK} {s : Nat} (hw : kWf K s) : sLast K s = K.1 18 s 0 ∨ ∃ e, sEnt K s (sLast K s) = some e := by
  by_cases h : sLast K s ≤ K.1 18 s 0
  · left
    obtain ⟨a, ha, hl⟩ := hw
    rw [sLast_of ha, ha] at h ⊢
    rw [i32_le (by omega) (by omega)] at h
    rw [show a + (K.2.1 s).length = a by omega]
  · right
    exact (sHasE_some hw).mp (by unfold sHasE; simp [h])
theorem c_192 {X : XS} {o s : Nat} (h2 : 2 ≤ o) (h4 : o < 4) (hs : s < 7) (hw : kWf (xK X o) s) : RT 192 [some (.ref (bB o)), some (.int (Int32.ofNat s))] X (some (.int (sLastT (xK X o) s))) X := by
  refine AT.aload_n M_192 rfl rfl ?_
  refine AT.iload_n M_192 rfl rfl ?_
  refine AT.aload_n M_192 rfl rfl ?_
  refine AT.iload_n M_192 rfl rfl ?_
  refine AT.cv2i M_192 rfl M_187 rfl (Nat.le_of_ble_eq_true rfl) (xKd.of (sh_st h2 h4)) (by decide) (c_187 h2 h4 hs) ?_ (Nat.le_of_ble_eq_true rfl) rfl
  refine AT.cv3i M_192 rfl M_191 rfl (Nat.le_of_ble_eq_true rfl) (xKd.of (sh_st h2 h4)) (by decide) (c_191 h2 h4 hs hw (sLast_in hw)) ?_ (Nat.le_of_ble_eq_true rfl) rfl
  refine AT.iret M_192 rfl rfl ?_
  rw [sTix_last hw]
  exact ⟨rfl, rfl⟩
theorem l_193 {X : XS} {o s : Nat} (h2 : 2 ≤ o) (h4 : o < 4) (hs : s < 7) {a : Nat} (ha : (xK X o).1 18 s 0 = Int32.ofNat a) (hl : a + ((xK X o).2.1 s).length < 16777216) (x2 : Int32) : ∀ n : Nat, n ≤ ((xK X o).2.1 s).length → AT 193 2 [some (.ref (bB o)), some (.int (Int32.ofNat s)), some (.int x2), some (.int (Int32.ofNat (a + n)))] [] X (fun o' Y => o' = .inl (some (.int (sMixL (((xK X o).2.1 s).take n) 0 (Int32.ofNat a) (-1)))) ∧ Y = X)
  | 0, hn => by
    refine AT.iload_n M_193 rfl rfl ?_
    refine AT.aload_n M_193 rfl rfl ?_
    refine AT.r10_13 M_193 rfl h2 h4 ?_
    refine AT.iload_n M_193 rfl rfl ?_
    refine AT.ra_18_0 M_193 rfl rfl h2 h4 (by assumption) ?_
    refine AT.icmp_le M_193 rfl (fun b7 => ?_) (fun b7 => absurd (by rw [ha, Nat.add_zero]; exact Int32.le_refl _) b7)
    refine AT.iload_n M_193 rfl rfl ?_
    refine AT.aload_n M_193 rfl rfl ?_
    refine AT.r10_13 M_193 rfl h2 h4 ?_
    refine AT.iload_n M_193 rfl rfl ?_
    refine AT.ra_18_0 M_193 rfl rfl h2 h4 (by assumption) ?_
    refine AT.icmp_le M_193 rfl (fun b22 => ?_) (fun b22 => absurd (by rw [ha, Nat.add_zero]; exact Int32.le_refl _) b22)
    refine AT.iconst M_193 rfl (v := (-1)) (by decide) ?_
    refine AT.iret M_193 rfl rfl ?_
    exact ⟨rfl, rfl⟩
  | n + 1, hn => by
    have hx : sEnt (xK X o) s (Int32.ofNat (a + (n + 1))) = some ((xK X o).2.1 s)[n] := by
      rw [show a + (n + 1) = a + 1 + n by omega, sEnt_at ha hl (by omega), List.getElem?_eq_getElem (by omega)]
    have et : ((xK X o).2.1 s).take (n + 1) = ((xK X o).2.1 s).take n ++ [((xK X o).2.1 s)[n]] := by rw [List.take_add_one, List.getElem?_eq_getElem (by omega)]; rfl
    refine AT.iload_n M_193 rfl rfl ?_
    refine AT.aload_n M_193 rfl rfl ?_
    refine AT.r10_13 M_193 rfl h2 h4 ?_
    refine AT.iload_n M_193 rfl rfl ?_
    refine AT.ra_18_0 M_193 rfl rfl h2 h4 (by assumption) ?_
    refine AT.icmp_le M_193 rfl (fun b7 => absurd ((i32_le (a := a + (n + 1)) (b := a) (by omega) (by omega)).mp (by rw [← ha]; exact b7)) (by omega)) (fun b7 => ?_)
    refine AT.aload_n M_193 rfl rfl ?_
    refine AT.iload_n M_193 rfl rfl ?_
    refine AT.iload_n M_193 rfl rfl ?_
    refine AT.iconst M_193 rfl (v := 1) (by decide) ?_
    refine AT.cv4i M_193 rfl M_190 rfl (Nat.le_of_ble_eq_true rfl) (xKd.of (sh_st h2 h4)) (by decide) (c_190 h2 h4 hs hx ⟨a, ha, hl⟩ (c := 1) (by omega) rfl) ?_ (Nat.le_of_ble_eq_true rfl) rfl
    refine AT.iconst M_193 rfl (v := 4) (by decide) ?_
    refine AT.icmp_eq M_193 rfl (fun b14 => ?_) (fun b14 => ?_)
    · refine AT.iload_n M_193 rfl rfl ?_
      refine AT.aload_n M_193 rfl rfl ?_
      refine AT.r10_13 M_193 rfl h2 h4 ?_
      refine AT.iload_n M_193 rfl rfl ?_
      refine AT.ra_18_0 M_193 rfl rfl h2 h4 (by assumption) ?_
      refine AT.icmp_le M_193 rfl (fun b22 => absurd ((i32_le (a := a + (n + 1)) (b := a) (by omega) (by omega)).mp (by rw [← ha]; exact b22)) (by omega)) (fun b22 => ?_)
      refine AT.iload_n M_193 rfl rfl ?_
      refine AT.goto M_193 rfl ?_
      refine AT.iret M_193 rfl rfl ?_
      rw [show sMixL (((xK X o).2.1 s).take (n + 1)) 0 (Int32.ofNat a) (-1) = Int32.ofNat (a + (n + 1)) from by
        rw [et, sMixL_app, if_pos (by first | exact b14 | exact Classical.not_not.mp b14), Nat.zero_add, List.length_take, Nat.min_eq_left (by omega), Int32.ofNat_add, Int32.ofNat_add]
        exact (by grind : ∀ u v : Int32, u + 1 + v = u + (v + 1)) _ _]
      exact ⟨rfl, rfl⟩
    · refine AT.iinc3 M_193 rfl rfl (show _ = Int32.ofNat (a + n) from by rw [← Nat.add_assoc]; exact i32_dec _) ?_
      refine AT.goto M_193 rfl ?_
      rw [show sMixL (((xK X o).2.1 s).take (n + 1)) 0 (Int32.ofNat a) (-1) = sMixL (((xK X o).2.1 s).take n) 0 (Int32.ofNat a) (-1) from by rw [et, sMixL_app, if_neg b14]]
      exact l_193 h2 h4 hs ha hl x2 n (by omega)
theorem c_193 {X : XS} {o s : Nat} (h2 : 2 ≤ o) (h4 : o < 4) (hs : s < 7) {a : Nat} (ha : (xK X o).1 18 s 0 = Int32.ofNat a) (hl : a + ((xK X o).2.1 s).length < 16777216) {x : Int32} {n : Nat} (hn : x = Int32.ofNat (a + n)) (hn2 : n ≤ ((xK X o).2.1 s).length) : RT 193 [some (.ref (bB o)), some (.int (Int32.ofNat s)), some (.int x), none] X (some (.int (sMixL (((xK X o).2.1 s).take n) 0 (Int32.ofNat a) (-1)))) X := by
  refine AT.iload_n M_193 rfl rfl ?_
  refine AT.ist3 M_193 rfl rfl ?_
  subst hn
  exact l_193 h2 h4 hs ha hl _ n hn2
theorem sMix_mem : ∀ (l : List ENT) (a : Nat) (d : Int32), a + l.length < 16777216 → (sMixL l 0 (Int32.ofNat a) (-1) = -1 ∧ sMemL l d = d) ∨ ∃ j e, l[j]? = some e ∧ e 1 = 4 ∧ sMixL l 0 (Int32.ofNat a) (-1) = Int32.ofNat (a + 1 + j) ∧ sMemL l d = e 6 := by
  intro l
  generalize hn : l.length = n
  induction n generalizing l with
  | zero => intro a d _; rw [List.eq_nil_of_length_eq_zero hn]; exact Or.inl ⟨rfl, rfl⟩
  | succ n ih =>
    intro a d h
    have et : l = l.take n ++ [l[n]] := by
      have h1 : l.take (n + 1) = l := List.take_of_length_le (by omega)
      rw [List.take_add_one, List.getElem?_eq_getElem (by omega)] at h1
      exact h1.symm
    have hlen : (l.take n).length = n := by rw [List.length_take]; omega
    rw [et, sMixL_app, sMemL_app]
    by_cases h4 : l[n] 1 = 4
    · rw [if_pos h4, if_pos h4]
      refine Or.inr ⟨n, l[n], by rw [List.getElem?_append_right (by omega), hlen, Nat.sub_self]; rfl, h4, ?_, rfl⟩
      rw [Nat.zero_add, hlen, Int32.ofNat_add, Int32.ofNat_add]; rfl
    · rw [if_neg h4, if_neg h4]
      rcases ih (l.take n) hlen a d (by omega) with z | ⟨j, e', z1, z2, z3, z4⟩
      · exact Or.inl z
      · refine Or.inr ⟨j, e', ?_, z2, z3, z4⟩
        rw [List.getElem?_append_left (List.getElem?_eq_some_iff.mp z1).1]
        exact z1
theorem i32_m1 {a : Nat} (h : a < 2147483648) : ¬ Int32.ofNat a = -1 := fun z => by
  have h1 := (i32_ix h).2
  rw [z] at h1
  exact h1 (by decide)
theorem c_194 {X : XS} {o s : Nat} (h2 : 2 ≤ o) (h4 : o < 4) (hs : s < 7) {a : Nat} (ha : (xK X o).1 18 s 0 = Int32.ofNat a) (hl : a + ((xK X o).2.1 s).length < 16777216) {x : Int32} {n : Nat} (hn : x = Int32.ofNat (a + n)) (hn2 : n ≤ ((xK X o).2.1 s).length) : RT 194 [some (.ref (bB o)), some (.int (Int32.ofNat s)), some (.int x), none] X (some (.int (sMemL (((xK X o).2.1 s).take n) ((xK X o).1 18 s 2)))) X := by
  refine AT.aload_n M_194 rfl rfl ?_
  refine AT.iload_n M_194 rfl rfl ?_
  refine AT.iload_n M_194 rfl rfl ?_
  refine AT.cv3i M_194 rfl M_193 rfl (Nat.le_of_ble_eq_true rfl) (xKd.of (sh_st h2 h4)) (by decide) (c_193 h2 h4 hs ha hl hn hn2) ?_ (Nat.le_of_ble_eq_true rfl) rfl
  refine AT.ist3 M_194 rfl rfl ?_
  have hlt : (((xK X o).2.1 s).take n).length = n := by rw [List.length_take]; omega
  rcases sMix_mem (((xK X o).2.1 s).take n) a ((xK X o).1 18 s 2) (by rw [hlt]; omega) with ⟨z1, z2⟩ | ⟨j, e, z1, z2, z3, z4⟩
  · skip
    refine AT.iload_n M_194 rfl rfl ?_
    refine AT.iconst M_194 rfl (v := (-1)) (by decide) ?_
    refine AT.icmp_ne M_194 rfl (fun b7 => absurd z1 b7) (fun b7 => ?_)
    refine AT.aload_n M_194 rfl rfl ?_
    refine AT.r10_15 M_194 rfl h2 h4 ?_
    refine AT.iload_n M_194 rfl rfl ?_
    refine AT.ra_18_2 M_194 rfl rfl h2 h4 (by assumption) ?_
    refine AT.goto M_194 rfl ?_
    refine AT.iret M_194 rfl rfl ?_
    rw [z2]
    exact ⟨rfl, rfl⟩
  · have hj : j < n := by have := (List.getElem?_eq_some_iff.mp z1).1; omega
    have hx : sEnt (xK X o) s (sMixL (((xK X o).2.1 s).take n) 0 (Int32.ofNat a) (-1)) = some e := by
      rw [z3, sEnt_at ha hl (by omega)]
      rw [List.getElem?_take, if_pos hj] at z1
      exact z1
    refine AT.iload_n M_194 rfl rfl ?_
    refine AT.iconst M_194 rfl (v := (-1)) (by decide) ?_
    refine AT.icmp_ne M_194 rfl (fun b7 => ?_) (fun b7 => absurd (by rw [z3]; exact i32_m1 (by omega)) b7)
    refine AT.aload_n M_194 rfl rfl ?_
    refine AT.iload_n M_194 rfl rfl ?_
    refine AT.iload_n M_194 rfl rfl ?_
    refine AT.bipush M_194 rfl (v := 6) (by decide) ?_
    refine AT.cv4i M_194 rfl M_190 rfl (Nat.le_of_ble_eq_true rfl) (xKd.of (sh_st h2 h4)) (by decide) (c_190 h2 h4 hs hx ⟨a, ha, hl⟩ (c := 6) (by omega) rfl) ?_ (Nat.le_of_ble_eq_true rfl) rfl
    refine AT.iret M_194 rfl rfl ?_
    rw [z4]
    exact ⟨rfl, rfl⟩
theorem c_195 {X : XS} {o s : Nat} (h2 : 2 ≤ o) (h4 : o < 4) (hs : s < 7) (hw : kWf (xK X o) s) : RT 195 [some (.ref (bB o)), some (.int (Int32.ofNat s))] X (some (.int (sMem (xK X o) s))) X := by
  refine AT.aload_n M_195 rfl rfl ?_
  refine AT.iload_n M_195 rfl rfl ?_
  refine AT.aload_n M_195 rfl rfl ?_
  refine AT.iload_n M_195 rfl rfl ?_
  refine AT.cv2i M_195 rfl M_187 rfl (Nat.le_of_ble_eq_true rfl) (xKd.of (sh_st h2 h4)) (by decide) (c_187 h2 h4 hs) ?_ (Nat.le_of_ble_eq_true rfl) rfl
  refine AT.cv3i M_195 rfl M_194 rfl (Nat.le_of_ble_eq_true rfl) (xKd.of (sh_st h2 h4)) (by decide) (c_194 h2 h4 hs hw.choose_spec.1 hw.choose_spec.2 (sLast_of hw.choose_spec.1) (Nat.le_refl _)) ?_ (Nat.le_of_ble_eq_true rfl) rfl
  refine AT.iret M_195 rfl rfl ?_
  rw [List.take_length]
  exact ⟨rfl, rfl⟩
theorem i32_and31 {j : Nat} (h : j < 7) : Int32.ofNat j &&& 31 = Int32.ofNat j := by
  rcases (by omega : j = 0 ∨ j = 1 ∨ j = 2 ∨ j = 3 ∨ j = 4 ∨ j = 5 ∨ j = 6) with rfl | rfl | rfl | rfl | rfl | rfl | rfl <;> decide
theorem sBit_01 : ∀ n, n < 128 → ∀ j, j < 7 → (Int32.ofNat n >>> Int32.ofNat j) &&& (1 : Int32) = bI (sBit (Int32.ofNat n) j) := by
  unfold sBit bI
  decide +kernel
theorem c_196 {X : XS} {o s : Nat} (h2 : 2 ≤ o) (h4 : o < 4) (hs : s < 7) {j : Nat} (hj : j < 7) (hw : kWf (xK X o) s) (h7 : ∃ n : Nat, n < 128 ∧ sMem (xK X o) s = Int32.ofNat n) : RT 196 [some (.ref (bB o)), some (.int (Int32.ofNat s)), some (.int (Int32.ofNat j))] X (some (.int (bI (sBit (sMem (xK X o) s) j)))) X := by
  refine AT.aload_n M_196 rfl rfl ?_
  refine AT.iload_n M_196 rfl rfl ?_
  refine AT.cv2i M_196 rfl M_195 rfl (Nat.le_of_ble_eq_true rfl) (xKd.of (sh_st h2 h4)) (by decide) (c_195 h2 h4 hs hw) ?_ (Nat.le_of_ble_eq_true rfl) rfl
  refine AT.iload_n M_196 rfl rfl ?_
  refine AT.ishr M_196 rfl rfl ?_
  refine AT.iconst M_196 rfl (v := 1) (by decide) ?_
  refine AT.iand M_196 rfl rfl ?_
  refine AT.if_eq M_196 rfl (fun b7 => ?_) (fun b7 => ?_)
  · refine AT.iconst M_196 rfl (v := 0) (by decide) ?_
    refine AT.zret M_196 rfl rfl (by first | exact Or.inl rfl | exact Or.inr rfl | assumption) ?_
    have hz := b7
    rw [i32_and31 hj] at hz
    obtain ⟨nn, hn, hmm⟩ := h7
    rw [hmm, sBit_01 nn hn j hj, ← hmm] at hz
    rw [show bI (sBit (sMem (xK X o) s) j) = 0 from hz]
    exact ⟨rfl, rfl⟩
  · refine AT.iconst M_196 rfl (v := 1) (by decide) ?_
    refine AT.goto M_196 rfl ?_
    refine AT.zret M_196 rfl rfl (by first | exact Or.inl rfl | exact Or.inr rfl | assumption) ?_
    have hz := b7
    rw [i32_and31 hj] at hz
    obtain ⟨nn, hn, hmm⟩ := h7
    rw [hmm, sBit_01 nn hn j hj, ← hmm] at hz
    rw [show bI (sBit (sMem (xK X o) s) j) = 1 from by rw [bI_ne0.mp hz]; rfl]
    exact ⟨rfl, rfl⟩
/-- bits, one by one -/
def nPop : Nat → Nat → Int32
  | 0, _ => 0
  | k + 1, n => Int32.ofNat (n % 2) + nPop k (n / 2)
theorem nPop_0 : ∀ k, nPop k 0 = 0
  | 0 => rfl
  | k + 1 => by
    show Int32.ofNat 0 + nPop k 0 = 0
    rw [nPop_0 k]; rfl
theorem nPop_all : ∀ n, n < 128 → nPop 7 n = sCnt (Int32.ofNat n) ∧ Int32.ofNat n &&& (1 : Int32) = Int32.ofNat (n % 2) ∧ Int32.ofNat n >>> ((1 : Int32) &&& 31) = Int32.ofNat (n / 2) := by
  unfold sCnt
  decide +kernel
theorem l_197 {X : XS} (x0 : Int32) : ∀ (k n : Nat) (acc : Int32), n < 128 → n < 2 ^ k → AT 197 4 [some (.int x0), some (.int acc), some (.int (Int32.ofNat n))] [] X (fun o' Y => o' = .inl (some (.int (acc + nPop k n))) ∧ Y = X)
  | 0, n, acc, hn, hk => by
    have hk1 : n < 1 := hk
    refine AT.iload_n M_197 rfl rfl ?_
    refine AT.if_eq M_197 rfl (fun b5 => ?_) (fun b5 => absurd (show Int32.ofNat n = 0 from by rw [show n = 0 by omega]; rfl) b5)
    refine AT.iload_n M_197 rfl rfl ?_
    refine AT.iret M_197 rfl rfl ?_
    rw [show n = 0 by omega, nPop_0, Int32.add_zero]
    exact ⟨rfl, rfl⟩
  | k + 1, n, acc, hn, hk => by
    by_cases h0 : n = 0
    · subst h0
      refine AT.iload_n M_197 rfl rfl ?_
      refine AT.if_eq M_197 rfl (fun b5 => ?_) (fun b5 => absurd (show Int32.ofNat 0 = 0 from rfl) b5)
      refine AT.iload_n M_197 rfl rfl ?_
      refine AT.iret M_197 rfl rfl ?_
      rw [nPop_0, Int32.add_zero]
      exact ⟨rfl, rfl⟩
    · skip
      refine AT.iload_n M_197 rfl rfl ?_
      refine AT.if_eq M_197 rfl (fun b5 => absurd (i32_nat (b := 0) (by omega) (by omega) b5) (by omega)) (fun b5 => ?_)
      refine AT.iload_n M_197 rfl rfl ?_
      refine AT.iload_n M_197 rfl rfl ?_
      refine AT.iconst M_197 rfl (v := 1) (by decide) ?_
      refine AT.iand M_197 rfl rfl ?_
      refine AT.iadd M_197 rfl rfl ?_
      refine AT.ist1 M_197 rfl rfl ?_
      refine AT.iload_n M_197 rfl rfl ?_
      refine AT.iconst M_197 rfl (v := 1) (by decide) ?_
      refine AT.ishr M_197 rfl rfl ?_
      refine AT.ist2 M_197 rfl rfl ?_
      refine AT.goto M_197 rfl ?_
      obtain ⟨-, p1, p2⟩ := nPop_all n (by omega)
      rw [p1, p2, show nPop (k + 1) n = Int32.ofNat (n % 2) + nPop k (n / 2) from rfl, ← Int32.add_assoc]
      exact l_197 x0 k (n / 2) _ (by omega) (by rw [Nat.pow_succ] at hk; omega)
theorem c_197 {X : XS} {n : Nat} (hn : n < 128) : RT 197 [some (.int (Int32.ofNat n)), none, none] X (some (.int (sCnt (Int32.ofNat n)))) X := by
  refine AT.iconst M_197 rfl (v := 0) (by decide) ?_
  refine AT.ist1 M_197 rfl rfl ?_
  refine AT.iload_n M_197 rfl rfl ?_
  refine AT.ist2 M_197 rfl rfl ?_
  have h := l_197 (X := X) (Int32.ofNat n) 7 n 0 hn hn
  rw [Int32.zero_add, (nPop_all n hn).1] at h
  exact h
theorem c_197x {X : XS} {x : Int32} (h : ∃ n : Nat, n < 128 ∧ x = Int32.ofNat n) : RT 197 [some (.int x), none, none] X (some (.int (sCnt x))) X := by
  obtain ⟨n, hn, rfl⟩ := h; exact c_197 hn
theorem and_128 {x m : Int32} (h : ∃ n : Nat, n < 128 ∧ m = Int32.ofNat n) : ∃ n : Nat, n < 128 ∧ x &&& m = Int32.ofNat n := by
  obtain ⟨n, hn, rfl⟩ := h
  have e : (x &&& Int32.ofNat n).toBitVec.toNat < 128 := by
    rw [Int32.toBitVec_and, BitVec.toNat_and]
    have : (Int32.ofNat n).toBitVec.toNat = n := by
      show (BitVec.ofNat 32 n).toNat = n
      rw [BitVec.toNat_ofNat, Nat.mod_eq_of_lt (by omega)]
    rw [this]
    exact Nat.lt_of_le_of_lt Nat.and_le_right hn
  refine ⟨_, e, ?_⟩
  rw [← Int32.toBitVec_inj]
  show _ = BitVec.ofNat 32 _
  rw [BitVec.ofNat_toNat, BitVec.setWidth_eq]
theorem c_198 {X : XS} {o s : Nat} (h2 : 2 ≤ o) (h4 : o < 4) (hs : s < 7) {y : Int32} (hw : kWf (xK X o) s) (h7 : ∃ n : Nat, n < 128 ∧ sMem (xK X o) s = Int32.ofNat n) : RT 198 [some (.ref (bB o)), some (.int (Int32.ofNat s)), some (.int y), none] X (some (.int (bI (sMost (sMem (xK X o) s) y)))) X := by
  refine AT.aload_n M_198 rfl rfl ?_
  refine AT.iload_n M_198 rfl rfl ?_
  refine AT.cv2i M_198 rfl M_195 rfl (Nat.le_of_ble_eq_true rfl) (xKd.of (sh_st h2 h4)) (by decide) (c_195 h2 h4 hs hw) ?_ (Nat.le_of_ble_eq_true rfl) rfl
  refine AT.ist3 M_198 rfl rfl ?_
  refine AT.iconst M_198 rfl (v := 2) (by decide) ?_
  refine AT.iload_n M_198 rfl rfl ?_
  refine AT.iload_n M_198 rfl rfl ?_
  refine AT.iand M_198 rfl rfl ?_
  refine AT.cs1i M_198 rfl M_197 rfl (Nat.le_of_ble_eq_true rfl) rfl (c_197x (and_128 h7)) ?_ (Nat.le_of_ble_eq_true rfl) rfl
  refine AT.imul M_198 rfl rfl ?_
  refine AT.iload_n M_198 rfl rfl ?_
  refine AT.cs1i M_198 rfl M_197 rfl (Nat.le_of_ble_eq_true rfl) rfl (c_197x h7) ?_ (Nat.le_of_ble_eq_true rfl) rfl
  refine AT.icmp_le M_198 rfl (fun b12 => ?_) (fun b12 => ?_)
  · refine AT.iconst M_198 rfl (v := 0) (by decide) ?_
    refine AT.zret M_198 rfl rfl (by first | exact Or.inl rfl | exact Or.inr rfl | assumption) ?_
    rw [show bI (sMost (sMem (xK X o) s) y) = 0 from by unfold sMost; rw [decide_eq_false (Int32.not_lt.mpr b12)]; rfl]
    exact ⟨rfl, rfl⟩
  · refine AT.iconst M_198 rfl (v := 1) (by decide) ?_
    refine AT.goto M_198 rfl ?_
    refine AT.zret M_198 rfl rfl (by first | exact Or.inl rfl | exact Or.inr rfl | assumption) ?_
    rw [show bI (sMost (sMem (xK X o) s) y) = 1 from by unfold sMost; rw [decide_eq_true (Int32.not_le.mp b12)]; rfl]
    exact ⟨rfl, rfl⟩
theorem c_199 {X : XS} {o s : Nat} (h2 : 2 ≤ o) (h4 : o < 4) (hs : s < 7) {t x : Int32} (hw : kWf (xK X o) s) : RT 199 [some (.ref (bB o)), some (.int t), some (.int x), some (.int (Int32.ofNat s))] X (some (.int (bI (sGood (xK X o) s t x)))) X := by
  refine AT.iload_n M_199 rfl rfl ?_
  refine AT.aload_n M_199 rfl rfl ?_
  refine AT.iload_n M_199 rfl rfl ?_
  refine AT.cv2i M_199 rfl M_192 rfl (Nat.le_of_ble_eq_true rfl) (xKd.of (sh_st h2 h4)) (by decide) (c_192 h2 h4 hs hw) ?_ (Nat.le_of_ble_eq_true rfl) rfl
  refine AT.icmp_gt M_199 rfl (fun b4 => ?_) (fun b4 => ?_)
  · refine AT.iconst M_199 rfl (v := 1) (by decide) ?_
    refine AT.goto M_199 rfl ?_
    refine AT.zret M_199 rfl rfl (by first | exact Or.inl rfl | exact Or.inr rfl | assumption) ?_
    rw [show bI (sGood (xK X o) s t x) = 1 from by unfold sGood; rw [decide_eq_true (Or.inl b4)]; rfl]
    exact ⟨rfl, rfl⟩
  · refine AT.iload_n M_199 rfl rfl ?_
    refine AT.aload_n M_199 rfl rfl ?_
    refine AT.iload_n M_199 rfl rfl ?_
    refine AT.cv2i M_199 rfl M_192 rfl (Nat.le_of_ble_eq_true rfl) (xKd.of (sh_st h2 h4)) (by decide) (c_192 h2 h4 hs hw) ?_ (Nat.le_of_ble_eq_true rfl) rfl
    refine AT.icmp_ne M_199 rfl (fun b9 => ?_) (fun b9 => ?_)
    · refine AT.iconst M_199 rfl (v := 0) (by decide) ?_
      refine AT.zret M_199 rfl rfl (by first | exact Or.inl rfl | exact Or.inr rfl | assumption) ?_
      rw [show bI (sGood (xK X o) s t x) = 0 from by unfold sGood; rw [decide_eq_false (fun z => by rcases z with z | z; exact b4 z; exact b9 z.1)]; rfl]
      exact ⟨rfl, rfl⟩
    · refine AT.iload_n M_199 rfl rfl ?_
      refine AT.aload_n M_199 rfl rfl ?_
      refine AT.iload_n M_199 rfl rfl ?_
      refine AT.cv2i M_199 rfl M_187 rfl (Nat.le_of_ble_eq_true rfl) (xKd.of (sh_st h2 h4)) (by decide) (c_187 h2 h4 hs) ?_ (Nat.le_of_ble_eq_true rfl) rfl
      refine AT.icmp_lt M_199 rfl (fun b14 => ?_) (fun b14 => ?_)
      · refine AT.iconst M_199 rfl (v := 0) (by decide) ?_
        refine AT.zret M_199 rfl rfl (by first | exact Or.inl rfl | exact Or.inr rfl | assumption) ?_
        rw [show bI (sGood (xK X o) s t x) = 0 from by unfold sGood; rw [decide_eq_false (fun z => by rcases z with z | z; exact b4 z; exact absurd b14 (Int32.not_lt.mpr z.2))]; rfl]
        exact ⟨rfl, rfl⟩
      · refine AT.iconst M_199 rfl (v := 1) (by decide) ?_
        refine AT.goto M_199 rfl ?_
        refine AT.zret M_199 rfl rfl (by first | exact Or.inl rfl | exact Or.inr rfl | assumption) ?_
        rw [show bI (sGood (xK X o) s t x) = 1 from by unfold sGood; rw [decide_eq_true (Or.inr ⟨Classical.not_not.mp b9, Int32.not_lt.mp b14⟩)]; rfl]
        exact ⟨rfl, rfl⟩
