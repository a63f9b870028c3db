/-! ===== THE TWIN: the checksum of all ===== -/
theorem l_321a {X : XS} {t : Int32} {l : List Int32} {Q : PO → XS → Prop} (hc : AT 321 34 [some (.ref 388), some (.int (Int32.ofNat 0)), none] [] (xG X t (l ++ [(xK X 2).1 33 0 0, (xK X 2).1 32 0 0, Int32.ofNat (xK X 2).2.2.length, sLdr (xK X 2), sCntF (fun i => decide ((xK X 2).1 12 i 0 = 3)) 7, sFurF (xK X 2) 7])) Q) : AT 321 3 [some (.ref 388), none, none] [] (xG X t l) Q := by
  refine AT.aload_n M_321 rfl rfl ?_
  refine AT.aload_n M_321 rfl rfl ?_
  refine AT.r11_0 M_321 rfl ?_
  refine AT.r10_0 M_321 rfl (show 2 ≤ 2 by omega) (show 2 < 4 by omega) ?_
  refine AT.cv20 M_321 rfl M_319 rfl (Nat.le_of_ble_eq_true rfl) (xKd.of sh_mod) (by decide) (c_319 (X := X) (t := t) (l' := l ++ [(xK X 2).1 33 0 0]) rfl) ?_ (Nat.le_of_ble_eq_true rfl) rfl
  refine AT.aload_n M_321 rfl rfl ?_
  refine AT.aload_n M_321 rfl rfl ?_
  refine AT.r11_0 M_321 rfl ?_
  refine AT.r10_1 M_321 rfl (show 2 ≤ 2 by omega) (show 2 < 4 by omega) ?_
  refine AT.cv20 M_321 rfl M_319 rfl (Nat.le_of_ble_eq_true rfl) (xKd.of sh_mod) (by decide) (c_319 (X := X) (t := t) (l' := l ++ [(xK X 2).1 33 0 0, (xK X 2).1 32 0 0]) (by rw [List.append_assoc]; rfl)) ?_ (Nat.le_of_ble_eq_true rfl) rfl
  refine AT.aload_n M_321 rfl rfl ?_
  refine AT.aload_n M_321 rfl rfl ?_
  refine AT.r11_0 M_321 rfl ?_
  refine AT.r10_22 M_321 rfl (show 2 ≤ 2 by omega) (show 2 < 4 by omega) ?_
  refine AT.cv20 M_321 rfl M_319 rfl (Nat.le_of_ble_eq_true rfl) (xKd.of sh_mod) (by decide) (c_319 (X := X) (t := t) (l' := l ++ [(xK X 2).1 33 0 0, (xK X 2).1 32 0 0, Int32.ofNat (xK X 2).2.2.length]) (by rw [List.append_assoc]; rfl)) ?_ (Nat.le_of_ble_eq_true rfl) rfl
  refine AT.aload_n M_321 rfl rfl ?_
  refine AT.aload_n M_321 rfl rfl ?_
  refine AT.r11_0 M_321 rfl ?_
  refine AT.cv1i M_321 rfl M_222 rfl (Nat.le_of_ble_eq_true rfl) (xKd.of (sh_st (o := 2) (by omega) (by omega))) (by decide) (c_222 (X := xG X t (l ++ [(xK X 2).1 33 0 0, (xK X 2).1 32 0 0, Int32.ofNat (xK X 2).2.2.length])) (o := 2) (by omega) (by omega)) ?_ (Nat.le_of_ble_eq_true rfl) rfl
  refine AT.cv20 M_321 rfl M_319 rfl (Nat.le_of_ble_eq_true rfl) (xKd.of sh_mod) (by decide) (c_319 (X := X) (t := t) (l' := l ++ [(xK X 2).1 33 0 0, (xK X 2).1 32 0 0, Int32.ofNat (xK X 2).2.2.length, sLdr (xK X 2)]) (by rw [List.append_assoc]; rfl)) ?_ (Nat.le_of_ble_eq_true rfl) rfl
  refine AT.aload_n M_321 rfl rfl ?_
  refine AT.aload_n M_321 rfl rfl ?_
  refine AT.cv1i M_321 rfl M_304 rfl (Nat.le_of_ble_eq_true rfl) (xKd.of sh_mod) (by decide) (c_304 (X := xG X t (l ++ [(xK X 2).1 33 0 0, (xK X 2).1 32 0 0, Int32.ofNat (xK X 2).2.2.length, sLdr (xK X 2)]))) ?_ (Nat.le_of_ble_eq_true rfl) rfl
  refine AT.cv20 M_321 rfl M_319 rfl (Nat.le_of_ble_eq_true rfl) (xKd.of sh_mod) (by decide) (c_319 (X := X) (t := t) (l' := l ++ [(xK X 2).1 33 0 0, (xK X 2).1 32 0 0, Int32.ofNat (xK X 2).2.2.length, sLdr (xK X 2), sCntF (fun i => decide ((xK X 2).1 12 i 0 = 3)) 7]) (by rw [List.append_assoc]; rfl)) ?_ (Nat.le_of_ble_eq_true rfl) rfl
  refine AT.aload_n M_321 rfl rfl ?_
  refine AT.aload_n M_321 rfl rfl ?_
  refine AT.r11_0 M_321 rfl ?_
  refine AT.cv1i M_321 rfl M_230 rfl (Nat.le_of_ble_eq_true rfl) (xKd.of (sh_st (o := 2) (by omega) (by omega))) (by decide) (c_230 (X := xG X t (l ++ [(xK X 2).1 33 0 0, (xK X 2).1 32 0 0, Int32.ofNat (xK X 2).2.2.length, sLdr (xK X 2), sCntF (fun i => decide ((xK X 2).1 12 i 0 = 3)) 7])) (o := 2) (by omega) (by omega)) ?_ (Nat.le_of_ble_eq_true rfl) rfl
  refine AT.cv20 M_321 rfl M_319 rfl (Nat.le_of_ble_eq_true rfl) (xKd.of sh_mod) (by decide) (c_319 (X := X) (t := t) (l' := l ++ [(xK X 2).1 33 0 0, (xK X 2).1 32 0 0, Int32.ofNat (xK X 2).2.2.length, sLdr (xK X 2), sCntF (fun i => decide ((xK X 2).1 12 i 0 = 3)) 7, sFurF (xK X 2) 7]) (by rw [List.append_assoc]; rfl)) ?_ (Nat.le_of_ble_eq_true rfl) rfl
  refine AT.iconst M_321 rfl (v := 0) (by decide) ?_
  refine AT.ist1 M_321 rfl rfl ?_
  exact hc
theorem l_321w {X : XS} {j : Nat} {t : Int32} {u : MSG} {Q : PO → XS → Prop} (hj : j < 60) (hP : ∀ k, k < 8 → dV (xD X) 2 41 0 (36 * j + k) = mRow u k) : ∀ d q : Nat, q + d = 4 → ∀ {l : List Int32}, AT 321 57 [some (.ref 388), some (.int (Int32.ofNat j)), some (.int (Int32.ofNat 4))] [] (xG X t (l ++ lFor (fun w => [mRow u w]) d q)) Q → AT 321 41 [some (.ref 388), some (.int (Int32.ofNat j)), some (.int (Int32.ofNat q))] [] (xG X t l) Q
  | 0, q, hq, l, hc => by
    refine AT.iload_n M_321 rfl rfl ?_
    refine AT.iconst M_321 rfl (v := 4) (by decide) ?_
    refine AT.icmp_ge M_321 rfl (fun b43 => ?_) (fun b43 => absurd (by rw [show q = 4 by omega]; exact Int32.le_refl _) b43)
    rw [show lFor (fun w => [mRow u w]) 0 q = [] from rfl, List.append_nil] at hc
    rw [show q = 4 by omega]
    exact hc
  | d + 1, q, hq, l, hc => by
    refine AT.iload_n M_321 rfl rfl ?_
    refine AT.iconst M_321 rfl (v := 4) (by decide) ?_
    refine AT.icmp_ge M_321 rfl (fun b43 => absurd ((i32_le (a := 4) (b := q) (by omega) (by omega)).mp b43) (by omega)) (fun b43 => ?_)
    refine AT.aload_n M_321 rfl rfl ?_
    refine AT.aload_n M_321 rfl rfl ?_
    refine AT.r11_0 M_321 rfl ?_
    refine AT.r10_23 M_321 rfl (show 2 ≤ 2 by omega) (show 2 < 4 by omega) ?_
    refine AT.iload_n M_321 rfl rfl ?_
    refine AT.bipush M_321 rfl (v := 36) (by decide) ?_
    refine AT.imul M_321 rfl rfl ?_
    refine AT.iload_n M_321 rfl rfl ?_
    refine AT.iadd M_321 rfl rfl ?_
    refine AT.ra_post (j := 36 * j + q) M_321 rfl (by rw [i32_36, Int32.ofNat_add]) (show 2 ≤ 2 by omega) (show 2 < 4 by omega) (by omega) ?_
    rw [show dV (xD (xG X t l)) 2 41 0 (36 * j + q) = mRow u q from hP q (by omega)]
    refine AT.cv20 M_321 rfl M_319 rfl (Nat.le_of_ble_eq_true rfl) (xKd.of sh_mod) (by decide) (c_319 (X := X) (t := t) (l' := l ++ [mRow u q]) rfl) ?_ (Nat.le_of_ble_eq_true rfl) rfl
    refine AT.iinc2 M_321 rfl rfl (i32_succ _) ?_
    refine AT.goto M_321 rfl ?_
    refine l_321w hj hP d (q + 1) (by omega) ?_
    rw [List.append_assoc]
    exact hc
theorem l_321x {X : XS} {j : Nat} {t : Int32} {u : MSG} {l : List Int32} {Q : PO → XS → Prop} (hu : (xK X 2).2.2[j]? = some u) (h01 : u.1 5 = 0 ∨ u.1 5 = 1) (h9 : u.1 1 = 2 ∨ u.1 1 = 4 → u.1 9 = 0) (hc : AT 321 34 [some (.ref 388), some (.int (Int32.ofNat (j + 1))), some (.int (Int32.ofNat 4))] [] (xG X 0 (l ++ dMsg u)) Q) : AT 321 57 [some (.ref 388), some (.int (Int32.ofNat j)), some (.int (Int32.ofNat 4))] [] (xG X t (l ++ lFor (fun w => [mRow u w]) 4 0)) Q := by
  refine AT.aload_n M_321 rfl rfl ?_
  refine AT.aload_n M_321 rfl rfl ?_
  refine AT.iload_n M_321 rfl rfl ?_
  refine AT.cv2i M_321 rfl M_266 rfl (Nat.le_of_ble_eq_true rfl) (xKd.of sh_mod) (by decide) (c_266 (X := xG X t (l ++ lFor (fun w => [mRow u w]) 4 0)) hu h01 h9) ?_ (Nat.le_of_ble_eq_true rfl) rfl
  refine AT.cv20 M_321 rfl M_319 rfl (Nat.le_of_ble_eq_true rfl) (xKd.of sh_mod) (by decide) (c_319 (X := X) (t := 0) (l' := l ++ dMsg u) (by rw [List.append_assoc]; rfl)) ?_ (Nat.le_of_ble_eq_true rfl) rfl
  refine AT.iinc1 M_321 rfl rfl (i32_succ _) ?_
  refine AT.goto M_321 rfl ?_
  exact hc
theorem l_321m {X : XS} {Q : PO → XS → Prop} (hM : ∀ u, u ∈ (xK X 2).2.2 → (u.1 5 = 0 ∨ u.1 5 = 1) ∧ (u.1 1 = 2 ∨ u.1 1 = 4 → u.1 9 = 0)) (h60 : (xK X 2).2.2.length ≤ 60) (hR : ∀ (j : Nat) (u : MSG), (xK X 2).2.2[j]? = some u → ∀ k, k < 8 → dV (xD X) 2 41 0 (36 * j + k) = mRow u k) :
    ∀ n j : Nat, j + n = (xK X 2).2.2.length → ∀ (t : Int32) (x2 : Option Value) {l : List Int32}, (∀ (t' : Int32) (j' : Nat) (x2' : Option Value), AT 321 64 [some (.ref 388), some (.int (Int32.ofNat j')), x2'] [] (xG X t' (l ++ dMsgs ((xK X 2).2.2.drop j))) Q) → AT 321 34 [some (.ref 388), some (.int (Int32.ofNat j)), x2] [] (xG X t l) Q
  | 0, j, hj, t, x2, l, hc => by
    refine AT.iload_n M_321 rfl rfl ?_
    refine AT.aload_n M_321 rfl rfl ?_
    refine AT.r11_0 M_321 rfl ?_
    refine AT.r10_22 M_321 rfl (show 2 ≤ 2 by omega) (show 2 < 4 by omega) ?_
    refine AT.icmp_ge M_321 rfl (fun b38 => ?_) (fun b38 => absurd ((i32_le (a := (xK X 2).2.2.length) (b := j) (by omega) (by omega)).mpr (by omega)) b38)
    rw [List.drop_of_length_le (by omega), show dMsgs [] = [] from rfl, List.append_nil] at hc
    exact hc t j x2
  | n + 1, j, hj, t, x2, l, hc => by
    have hj2 : j < (xK X 2).2.2.length := by omega
    obtain ⟨u, hu⟩ : ∃ u, (xK X 2).2.2[j]? = some u := ⟨_, List.getElem?_eq_getElem hj2⟩
    have hmem : u ∈ (xK X 2).2.2 := List.mem_of_getElem? hu
    have hP := hR j u hu
    have hd : (xK X 2).2.2.drop j = u :: (xK X 2).2.2.drop (j + 1) := by
      rw [List.drop_eq_getElem_cons hj2]
      congr 1
      exact Option.some.inj ((List.getElem?_eq_getElem hj2).symm.trans hu)
    rw [hd] at hc
    have h9 : AT 321 34 [some (.ref 388), some (.int (Int32.ofNat (j + 1))), some (.int (Int32.ofNat 4))] [] (xG X 0 (l ++ dMsg u)) Q := l_321m hM h60 hR n (j + 1) (by omega) 0 _ (fun t' j' x2' => by
      rw [List.append_assoc]
      exact hc t' j' x2')
    refine AT.iload_n M_321 rfl rfl ?_
    refine AT.aload_n M_321 rfl rfl ?_
    refine AT.r11_0 M_321 rfl ?_
    refine AT.r10_22 M_321 rfl (show 2 ≤ 2 by omega) (show 2 < 4 by omega) ?_
    refine AT.icmp_ge M_321 rfl (fun b38 => absurd ((i32_le (a := (xK X 2).2.2.length) (b := j) (by omega) (by omega)).mp b38) (by omega)) (fun b38 => ?_)
    refine AT.iconst M_321 rfl (v := 0) (by decide) ?_
    refine AT.ist2 M_321 rfl rfl ?_
    refine l_321w (X := X) (u := u) (by omega) hP 4 0 rfl ?_
    exact l_321x hu (hM u hmem).1 (hM u hmem).2 h9
theorem l_321c {X : XS} {t : Int32} {x2 : Option Value} {Q : PO → XS → Prop} (h01 : ∀ c, c < 4 → (xK X 2).1 35 c 0 = 0 ∨ (xK X 2).1 35 c 0 = 1) : ∀ d q : Nat, q + d = 4 → ∀ {l : List Int32}, (∀ q' : Nat, AT 321 103 [some (.ref 388), some (.int (Int32.ofNat q')), x2] [] (xG X t (l ++ lFor (dCli (xK X 2)) d q)) Q) → AT 321 66 [some (.ref 388), some (.int (Int32.ofNat q)), x2] [] (xG X t l) Q
  | 0, q, hq, l, hc => by
    refine AT.iload_n M_321 rfl rfl ?_
    refine AT.iconst M_321 rfl (v := 4) (by decide) ?_
    refine AT.icmp_ge M_321 rfl (fun b68 => ?_) (fun b68 => absurd (by rw [show q = 4 by omega]; exact Int32.le_refl _) b68)
    rw [show lFor (dCli (xK X 2)) 0 q = [] from rfl, List.append_nil] at hc
    exact hc q
  | d + 1, q, hq, l, hc => by
    refine AT.iload_n M_321 rfl rfl ?_
    refine AT.iconst M_321 rfl (v := 4) (by decide) ?_
    refine AT.icmp_ge M_321 rfl (fun b68 => absurd ((i32_le (a := 4) (b := q) (by omega) (by omega)).mp b68) (by omega)) (fun b68 => ?_)
    refine AT.aload_n M_321 rfl rfl ?_
    refine AT.aload_n M_321 rfl rfl ?_
    refine AT.r11_0 M_321 rfl ?_
    refine AT.r10_25 M_321 rfl (show 2 ≤ 2 by omega) (show 2 < 4 by omega) ?_
    refine AT.iload_n M_321 rfl rfl ?_
    refine AT.bipush M_321 rfl (v := 7) (by decide) ?_
    refine AT.imul M_321 rfl rfl ?_
    refine AT.iconst M_321 rfl (v := 3) (by decide) ?_
    refine AT.iadd M_321 rfl rfl ?_
    refine AT.ra_req M_321 rfl (c := q) (j := 3) (by omega) (by omega) (by rw [i32_7, Int32.ofNat_add]; rfl) (show 2 ≤ 2 by omega) (show 2 < 4 by omega) ?_
    refine AT.cv20 M_321 rfl M_319 rfl (Nat.le_of_ble_eq_true rfl) (xKd.of sh_mod) (by decide) (c_319 (X := X) (t := t) (l' := l ++ [(xK X 2).1 34 q 3]) rfl) ?_ (Nat.le_of_ble_eq_true rfl) rfl
    refine AT.aload_n M_321 rfl rfl ?_
    refine AT.aload_n M_321 rfl rfl ?_
    refine AT.r11_0 M_321 rfl ?_
    refine AT.r10_26 M_321 rfl (show 2 ≤ 2 by omega) (show 2 < 4 by omega) ?_
    refine AT.iload_n M_321 rfl rfl ?_
    refine AT.ra_35 M_321 rfl rfl (show 2 ≤ 2 by omega) (show 2 < 4 by omega) (by omega) ?_
    refine AT.cv20 M_321 rfl M_319 rfl (Nat.le_of_ble_eq_true rfl) (xKd.of sh_mod) (by decide) (c_319 (X := X) (t := t) (l' := l ++ [(xK X 2).1 34 q 3, (xK X 2).1 35 q 0]) (by rw [List.append_assoc]; rfl)) ?_ (Nat.le_of_ble_eq_true rfl) rfl
    refine AT.aload_n M_321 rfl rfl ?_
    refine AT.r11_0 M_321 rfl ?_
    refine AT.r10_26 M_321 rfl (show 2 ≤ 2 by omega) (show 2 < 4 by omega) ?_
    refine AT.iload_n M_321 rfl rfl ?_
    refine AT.ra_35 M_321 rfl rfl (show 2 ≤ 2 by omega) (show 2 < 4 by omega) (by omega) ?_
    refine AT.iconst M_321 rfl (v := 1) (by decide) ?_
    refine AT.icmp_ne M_321 rfl (fun b93 => ?_) (fun b93 => ?_)
    · refine AT.iinc1 M_321 rfl rfl (i32_succ _) ?_
      refine AT.goto M_321 rfl ?_
      have e0 : (xK X 2).1 35 q 0 = 0 := (h01 q (by omega)).resolve_right b93
      rw [show [(xK X 2).1 34 q 3, (xK X 2).1 35 q 0] = dCli (xK X 2) q from by unfold dCli; rw [if_pos e0, e0]]
      refine l_321c h01 d (q + 1) (by omega) (fun q' => ?_)
      rw [List.append_assoc]
      exact hc q'
    · refine AT.aload_n M_321 rfl rfl ?_
      refine AT.aload_n M_321 rfl rfl ?_
      refine AT.r11_0 M_321 rfl ?_
      refine AT.r10_27 M_321 rfl (show 2 ≤ 2 by omega) (show 2 < 4 by omega) ?_
      refine AT.iload_n M_321 rfl rfl ?_
      refine AT.ra_36 M_321 rfl rfl (show 2 ≤ 2 by omega) (show 2 < 4 by omega) (by omega) ?_
      refine AT.cv20 M_321 rfl M_319 rfl (Nat.le_of_ble_eq_true rfl) (xKd.of sh_mod) (by decide) (c_319 (X := X) (t := t) (l' := l ++ [(xK X 2).1 34 q 3, (xK X 2).1 35 q 0, (xK X 2).1 36 q 0]) (by rw [List.append_assoc]; rfl)) ?_ (Nat.le_of_ble_eq_true rfl) rfl
      refine AT.iinc1 M_321 rfl rfl (i32_succ _) ?_
      refine AT.goto M_321 rfl ?_
      have e1 : (xK X 2).1 35 q 0 = 1 := Classical.not_not.mp b93
      rw [show [(xK X 2).1 34 q 3, (xK X 2).1 35 q 0, (xK X 2).1 36 q 0] = dCli (xK X 2) q from by unfold dCli; rw [if_neg (by rw [e1]; decide), e1]]
      refine l_321c h01 d (q + 1) (by omega) (fun q' => ?_)
      rw [List.append_assoc]
      exact hc q'
theorem l_321s {X : XS} {x2 : Option Value} {Q : PO → XS → Prop} (hk : ∀ i, i < 7 → sOk (xK X 2) i) (hE : ∀ i, i < 7 → ∀ e, e ∈ (xK X 2).2.1 i → ((e 1 = 4 → sVal e = sCnt (e 6)) ∧ (¬ e 1 = 4 → sVal e = e 5)) ∧ ¬ e 0 = -1) : ∀ d q : Nat, q + d = 7 → ∀ (t : Int32) {l : List Int32}, (∀ (t' : Int32) (q' : Nat), AT 321 113 [some (.ref 388), some (.int (Int32.ofNat q')), x2] [] (xG X t' (l ++ lFor (dAll1 (xK X 2)) d q)) Q) → AT 321 105 [some (.ref 388), some (.int (Int32.ofNat q)), x2] [] (xG X t l) Q
  | 0, q, hq, t, l, hc => by
    refine AT.iload_n M_321 rfl rfl ?_
    refine AT.bipush M_321 rfl (v := 7) (by decide) ?_
    refine AT.icmp_ge M_321 rfl (fun b107 => ?_) (fun b107 => absurd (by rw [show q = 7 by omega]; exact Int32.le_refl _) b107)
    rw [show lFor (dAll1 (xK X 2)) 0 q = [] from rfl, List.append_nil] at hc
    exact hc t q
  | d + 1, q, hq, t, l, hc => by
    refine AT.iload_n M_321 rfl rfl ?_
    refine AT.bipush M_321 rfl (v := 7) (by decide) ?_
    refine AT.icmp_ge M_321 rfl (fun b107 => absurd ((i32_le (a := 7) (b := q) (by omega) (by omega)).mp b107) (by omega)) (fun b107 => ?_)
    refine AT.aload_n M_321 rfl rfl ?_
    refine AT.iload_n M_321 rfl rfl ?_
    refine AT.cv2w M_321 rfl M_320 rfl (Nat.le_of_ble_eq_true rfl) (xKd.of sh_mod) (by decide) (c_320 (X := X) (t := t) (l := l) (by omega) hk (hE q (by omega))) (fun Y hc110 => ?_) (Nat.le_of_ble_eq_true rfl) rfl
    obtain ⟨t2, rfl⟩ := hc110
    refine AT.iinc1 M_321 rfl rfl (i32_succ _) ?_
    refine AT.goto M_321 rfl ?_
    refine l_321s hk hE d (q + 1) (by omega) t2 (fun t' q' => ?_)
    rw [List.append_assoc]
    exact hc t' q'
theorem l_321y {X : XS} {q : Nat} {x2 : Option Value} {Q : PO → XS → Prop} (hc : AT 321 66 [some (.ref 388), some (.int (Int32.ofNat 0)), x2] [] X Q) : AT 321 64 [some (.ref 388), some (.int (Int32.ofNat q)), x2] [] X Q := by
  refine AT.iconst M_321 rfl (v := 0) (by decide) ?_
  refine AT.ist1 M_321 rfl rfl ?_
  exact hc
theorem l_321z {X : XS} {q : Nat} {x2 : Option Value} {Q : PO → XS → Prop} (hc : AT 321 105 [some (.ref 388), some (.int (Int32.ofNat 0)), x2] [] X Q) : AT 321 103 [some (.ref 388), some (.int (Int32.ofNat q)), x2] [] X Q := by
  refine AT.iconst M_321 rfl (v := 0) (by decide) ?_
  refine AT.ist1 M_321 rfl rfl ?_
  exact hc
theorem l_321e {X : XS} {t : Int32} {q : Nat} {x2 : Option Value} {d : Int64} {ll : List Int32} (hl : ll = dAll (xK X 2)) : AT 321 113 [some (.ref 388), some (.int (Int32.ofNat q)), x2] [] (xG (xSetS X d) t ll) (fun o' Y => o' = .inl (some (.long (sDig d (dAll (xK X 2))))) ∧ Y = xSetT (xSetS X (sDig d (dAll (xK X 2)))) 0) := by
  refine AT.aload_n M_321 rfl rfl ?_
  refine AT.iconst M_321 rfl (v := 0) (by decide) ?_
  refine AT.w11_2 M_321 rfl ?_
  refine AT.aload_n M_321 rfl rfl ?_
  refine AT.r11_3 M_321 rfl ?_
  refine AT.lret M_321 rfl rfl ?_
  rw [← hl]
  exact ⟨rfl, rfl⟩
theorem c_321 {X : XS} (hk : ∀ i, i < 7 → sOk (xK X 2) i) (hE : ∀ i, i < 7 → ∀ e, e ∈ (xK X 2).2.1 i → ((e 1 = 4 → sVal e = sCnt (e 6)) ∧ (¬ e 1 = 4 → sVal e = e 5)) ∧ ¬ e 0 = -1) (hM : ∀ u, u ∈ (xK X 2).2.2 → (u.1 5 = 0 ∨ u.1 5 = 1) ∧ (u.1 1 = 2 ∨ u.1 1 = 4 → u.1 9 = 0)) : RT 321 [some (.ref 388), none, none] X (some (.long (sDig (Int64.ofNat 2423) (dAll (xK X 2))))) (xSetT (xSetS X (sDig (Int64.ofNat 2423) (dAll (xK X 2)))) 0) := by
  refine AT.rep (fun hr => ?_)
  have h60 := (hr.choose_spec.2.2.2.2.2.2.1 2 (by omega)).1
  have h01 := (hr.choose_spec.2.2.2.2.2.2.1 2 (by omega)).2.2
  have hR : ∀ (j : Nat) (u : MSG), (xK X 2).2.2[j]? = some u → ∀ k, k < 8 → dV (xD X) 2 41 0 (36 * j + k) = mRow u k := fun j u hu k hk => hr.choose_spec.2.2.2.2.2.2.2.2.2.2.2.2.2.1 2 (by omega) (by omega) j u hu k (by omega)
  refine AT.aload_n M_321 rfl rfl ?_
  refine AT.ldc2 M_321 rfl rfl rfl ?_
  refine AT.w11_3 M_321 rfl ?_
  change AT 321 3 _ _ (xG (xSetS X (Int64.ofNat 2423)) (xT X) []) _
  refine l_321a (X := (xSetS X (Int64.ofNat 2423))) ?_
  refine l_321m (X := (xSetS X (Int64.ofNat 2423))) hM h60 hR (xK X 2).2.2.length 0 (Nat.zero_add _) _ _ (fun t1 j1 x1 => ?_)
  refine l_321y (l_321c (X := (xSetS X (Int64.ofNat 2423))) h01 4 0 rfl (fun q1 => ?_))
  refine l_321z (l_321s (X := (xSetS X (Int64.ofNat 2423))) hk hE 7 0 rfl t1 (fun t2 q2 => ?_))
  refine l_321e (X := X) ?_
  simp only [List.append_assoc]
  rfl
