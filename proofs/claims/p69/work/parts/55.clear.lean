/-! ===== THE NETWORK, CLEARED ===== -/
def kFilC (K : KK) (v : Int32) (q : Nat) : KK := (fun a b c => if a = 30 ∧ b < q ∧ c = 0 then v else K.1 a b c, K.2)
theorem kFilC_0 (K : KK) (v : Int32) : kFilC K v 0 = K := by
  refine Prod.ext (funext fun a => funext fun b => funext fun c => ?_) rfl
  exact if_neg (fun z => Nat.not_lt_zero _ z.2.1)
theorem kFilC_s (K : KK) (v : Int32) (q : Nat) : kSet (kFilC K v q) 30 q 0 v = kFilC K v (q + 1) := by
  refine Prod.ext (funext fun a => funext fun b => funext fun c => ?_) rfl
  show (if a = 30 ∧ b = q ∧ c = 0 then v else if a = 30 ∧ b < q ∧ c = 0 then v else K.1 a b c) = if a = 30 ∧ b < q + 1 ∧ c = 0 then v else K.1 a b c
  by_cases h1 : a = 30 ∧ b = q ∧ c = 0
  · rw [if_pos h1, if_pos ⟨h1.1, by omega, h1.2.2⟩]
  · rw [if_neg h1]
    by_cases h2 : a = 30 ∧ b < q ∧ c = 0
    · rw [if_pos h2, if_pos ⟨h2.1, by omega, h2.2.2⟩]
    · rw [if_neg h2, if_neg (fun z => by
        by_cases e : b = q
        · exact h1 ⟨z.1, e, z.2.2⟩
        · exact h2 ⟨z.1, by omega, z.2.2⟩)]
theorem c_380c {X : XS} {o : Nat} (ho : o < 2) {v : Int32} : RT 380 [some (.ref (aB o + 5)), some (.int v), none, none] X none (xSetK X o (kFilC (xK X o) v 7)) :=
  c_380 (fi := fun q => q) (fj := fun _ => 0) ho (shp_cuts ho) (fun q hq => loc_cut ho hq) rfl (by decide) (fun q hq => kFilC_s _ _ q) (kFilC_0 _ _)
theorem c_48 {X : XS} {o : Nat} (ho : o < 2) : RT 48 [some (.ref (aB o + 3))] X none (xSetK (xSetD X (dSetV (xD X) o 31 0 0 0)) o (kSet (kNet (kFilC (xK X o) 0 7) []) 32 0 0 0)) := by
  refine AT.aload_n M_48 rfl rfl ?_
  refine AT.f_4_1 M_48 rfl (by assumption) ?_
  refine AT.iconst M_48 rfl (v := 0) (by decide) ?_
  refine AT.cs20 M_48 rfl M_380 rfl (Nat.le_of_ble_eq_true rfl) rfl (c_380c ho) ?_ (Nat.le_of_ble_eq_true rfl) rfl
  refine AT.aload_n M_48 rfl rfl ?_
  refine AT.iconst M_48 rfl (v := 0) (by decide) ?_
  refine AT.p_4_3 (n := 0) M_48 rfl ho (by omega) rfl ?_
  refine AT.aload_n M_48 rfl rfl ?_
  refine AT.iconst M_48 rfl (v := 0) (by decide) ?_
  refine AT.p_4_4 M_48 rfl (by assumption) ?_
  refine AT.aload_n M_48 rfl rfl ?_
  refine AT.iconst M_48 rfl (v := 0) (by decide) ?_
  refine AT.p_4_5 M_48 rfl (by assumption) ?_
  refine AT.vret M_48 rfl rfl ?_
  refine ⟨rfl, ?_⟩
  unfold xCnt
  simp only [xK_same, xSetK_idem, xD_setK, xK_setD, xD_setD, xSetD_setK, xSetD_idem, kSet_1, kSet_2, kRow_1, kRow_2, kLog_1, kLog_2, kLog_l, kLog_idem, List.take_zero, if_true]
  rfl
