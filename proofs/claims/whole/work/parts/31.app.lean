/-! ===== FINDING MEMBERS, ANOTHER SNAPSHOT, APPENDING ===== -/
theorem i32_decm (n : Nat) : Int32.ofNat n + Int32.ofInt (-1) = Int32.ofNat n - 1 := by
  exact (by grind : ∀ u : Int32, u + (-1) = u - 1) _
theorem i32_sc (n : Nat) : Int32.ofNat (n + 1) - 1 = Int32.ofNat n := by
  rw [Int32.ofNat_add]
  exact (by grind : ∀ u : Int32, u + 1 - 1 = u) _
theorem l_76 {X : XS} {o s : Nat} (ho : o < 2) (hs : s < 7) : ∀ n : Nat, n ≤ ((xK X o).2.1 s).length → ((xK X o).2.1 s).length < 16777216 → (dV (xD X) o 10 s 0 = (xK X o).1 18 s 2 ∧ dV (xD X) o 11 s 0 = -1) → sMemL (((xK X o).2.1 s).take n) ((xK X o).1 18 s 2) = sMemL ((xK X o).2.1 s) ((xK X o).1 18 s 2) → sMixL (((xK X o).2.1 s).take n) 0 ((xK X o).1 18 s 0) (-1) = sMixL ((xK X o).2.1 s) 0 ((xK X o).1 18 s 0) (-1) →
    AT 76 13 [some (.ref (aS o s)), some (.int (Int32.ofNat n - 1))] [] X (fun o' Y => o' = .inl none ∧ Y = xSetD X (dMem (xD X) o s (xK X o)))
  | 0, hn, hlen, hv, h1, h2 => by
    refine AT.iload_n M_76 rfl rfl ?_
    refine AT.if_lt M_76 rfl (fun b14 => ?_) (fun b14 => ?_)
    · refine AT.vret M_76 rfl rfl ?_
      refine ⟨rfl, ?_⟩
      unfold dMem sMem sMix
      rw [← h1, ← h2]
      show X = xSetD X (dSetV (dSetV (xD X) o 10 s 0 ((xK X o).1 18 s 2)) o 11 s 0 (-1))
      rw [← hv.1, ← hv.2]
      rw [show dSetV (xD X) o 10 s 0 (dV (xD X) o 10 s 0) = xD X from dSetV_self _ _ _ _ _, dSetV_self]
      rfl
    · exact absurd (by decide) b14
  | n + 1, hn, hlen, hv, h1, h2 => by
    obtain ⟨e, he⟩ : ∃ e, ((xK X o).2.1 s)[n]? = some e := ⟨_, List.getElem?_eq_getElem (by omega)⟩
    rw [i32_sc n]
    refine AT.iload_n M_76 rfl rfl ?_
    refine AT.if_lt M_76 rfl (fun b14 => ?_) (fun b14 => ?_)
    · exact absurd b14 (i32_pos (by omega))
    · refine AT.aload_n M_76 rfl rfl ?_
      refine AT.f_6_7 M_76 rfl (by assumption) (by assumption) ?_
      refine AT.iload_n M_76 rfl rfl ?_
      refine AT.a_log M_76 rfl rfl (by assumption) (by assumption) he (fun p18 he18 => ?_)
      refine AT.f_2_1 M_76 rfl (by assumption) ?_
      refine AT.iconst M_76 rfl (v := 4) (by decide) ?_
      refine AT.icmp_ne M_76 rfl (fun b21 => ?_) (fun b21 => ?_)
      · refine AT.iinc1 M_76 rfl rfl (i32_decm n) ?_
        refine AT.goto M_76 rfl ?_
        have hk : ¬ e 1 = 4 := b21
        refine l_76 ho hs n (by omega) hlen hv ?_ ?_
        · rw [← h1, take_succ he, sMemL_app, if_neg hk]
        · rw [← h2, take_succ he, sMixL_app, if_neg hk]
      · refine AT.aload_n M_76 rfl rfl ?_
        refine AT.aload_n M_76 rfl rfl ?_
        refine AT.f_6_7 M_76 rfl (by assumption) (by assumption) ?_
        refine AT.iload_n M_76 rfl rfl ?_
        refine AT.a_log M_76 rfl rfl (by assumption) (by assumption) he (fun p26 he26 => ?_)
        have hk : e 1 = 4 := Classical.not_not.mp b21
        refine AT.f_2_3 M_76 rfl (by assumption) (i32_nrq hk) ?_
        refine AT.p_6_10 M_76 rfl (by assumption) (by assumption) ?_
        try simp only [xK_same, xSetK_idem, xD_setK, xK_setD, xD_setD, xSetD_setK, xSetD_idem, kSet_1, kSet_2, kRow_1, kRow_2, kLog_1, kLog_2]
        refine AT.aload_n M_76 rfl rfl ?_
        refine AT.aload_n M_76 rfl rfl ?_
        refine AT.f_6_9 M_76 rfl (by assumption) (by assumption) (fun p31 hp31 => ?_)
        refine AT.f_7_0 M_76 rfl (by assumption) ?_
        refine AT.iconst M_76 rfl (v := 1) (by decide) ?_
        refine AT.iadd M_76 rfl rfl ?_
        refine AT.iload_n M_76 rfl rfl ?_
        refine AT.iadd M_76 rfl rfl ?_
        refine AT.p_6_11 M_76 rfl (by assumption) (by assumption) ?_
        try simp only [xK_same, xSetK_idem, xD_setK, xK_setD, xD_setD, xSetD_setK, xSetD_idem, kSet_1, kSet_2, kRow_1, kRow_2, kLog_1, kLog_2]
        refine AT.vret M_76 rfl rfl ?_
        refine ⟨rfl, ?_⟩
        unfold dMem sMem sMix
        rw [← h1, ← h2, take_succ he, sMemL_app, sMixL_app, if_pos hk, if_pos hk]
        have hlt : (((xK X o).2.1 s).take n).length = n := by rw [List.length_take]; omega
        rw [hlt, Nat.zero_add]
        try rfl
