/-! ===== COPYING A SERVER ===== -/
/-- only the log of server s of state o grew, to n entries at most -/
def dGrow (D D' : XD) (o s n : Nat) : Prop :=
  dE D' = dE D ∧ dP D' = dP D ∧ dH D' = dH D ∧ (∀ a b, ¬ (a = o ∧ b = s) → dR D' a b = dR D a b) ∧ (∀ a f i j, ¬ (a = o ∧ i = s ∧ (f = 10 ∨ f = 11)) → dV D' a f i j = dV D a f i j) ∧
  dZ D' + 2 * dR D o s = dZ D + 2 * dR D' o s ∧ 64 * dC D' + dR D o s ≤ 64 * dC D + dR D' o s ∧ dR D o s ≤ dR D' o s ∧ (dR D' o s ≤ dR D o s ∨ dR D' o s ≤ 2 * n)
theorem dGrow.refl (D : XD) (o s n : Nat) : dGrow D D o s n := ⟨rfl, rfl, rfl, fun _ _ _ => rfl, fun _ _ _ _ _ => rfl, rfl, Nat.le_refl _, Nat.le_refl _, Or.inl (Nat.le_refl _)⟩
theorem dGrow.trans {D D1 D2 : XD} {o s n1 n2 n : Nat} (h : dGrow D D1 o s n1) (k : dGrow D1 D2 o s n2) (h1 : n1 ≤ n) (h2 : n2 ≤ n) : dGrow D D2 o s n := by
  obtain ⟨a1, a2, a3, a4, a5, a6, a7, a8, a9⟩ := h
  obtain ⟨b1, b2, b3, b4, b5, b6, b7, b8, b9⟩ := k
  exact ⟨b1.trans a1, b2.trans a2, b3.trans a3, fun a b z => (b4 a b z).trans (a4 a b z), fun a f i j z => (b5 a f i j z).trans (a5 a f i j z), by omega, by omega, by omega, by omega⟩
theorem dRoom.grow {D D' : XD} {o s n : Nat} (h : dRoom D D' o s n) (h64 : 64 ≤ dR D o s) : dGrow D D' o s n := by
  rcases h with ⟨-, rfl⟩ | ⟨h1, p, rfl⟩
  · exact dGrow.refl _ _ _ _
  · have e : dR (dWide D o s p (2 * dR D o s)) o s = 2 * dR D o s := dR_wide _ _ _ _ _
    refine ⟨rfl, rfl, rfl, fun a b z => if_neg z, fun _ _ _ _ _ => rfl, ?_, ?_, ?_, ?_⟩
    · rw [e]; show dZ D + 2 * dR D o s + 2 * dR D o s = _; omega
    · rw [e]; show 64 * (dC D + 1) + dR D o s ≤ _; omega
    · omega
    · omega
theorem dSetV.grow (D : XD) (o s n f : Nat) (v : Int32) (hf : f = 10 ∨ f = 11) : dGrow D (dSetV D o f s 0 v) o s n :=
  ⟨rfl, rfl, rfl, fun _ _ _ => rfl, fun a f' i j z => if_neg (fun y => z ⟨y.1, y.2.2.1, by rw [y.2.1]; exact hf⟩), rfl, Nat.le_refl _, Nat.le_refl _, Or.inl (Nat.le_refl _)⟩
theorem dSetQ.grow (D : XD) (o s n j p : Nat) : dGrow D (dSetQ D o s j p) o s n := ⟨rfl, rfl, rfl, fun _ _ _ => rfl, fun _ _ _ _ _ => rfl, rfl, Nat.le_refl _, Nat.le_refl _, Or.inl (Nat.le_refl _)⟩
theorem dApp.grow (D : XD) (o s n m : Nat) (a : Int32) (e : ENT) (q : Nat) : dGrow D (dApp D o s n a e q) o s m := by
  unfold dApp
  split
  · exact ((dSetQ.grow D o s m n q).trans (dSetV.grow _ o s m 10 _ (Or.inl rfl)) (Nat.le_refl _) (Nat.le_refl _)).trans (dSetV.grow _ o s m 11 _ (Or.inr rfl)) (Nat.le_refl _) (Nat.le_refl _)
  · exact dSetQ.grow D o s m n q
theorem kRowN_of (K : KK) (f s n : Nat) (r : Nat → Int32) : kRow K f s (fun j => if 0 ≤ j ∧ j < 0 + n then r j else K.1 f s j) = kRowN K f s n r := by
  unfold kRowN
  refine kRow_congr _ _ _ (fun j => ?_)
  by_cases h : j < n
  · rw [if_pos h, if_pos ⟨Nat.zero_le _, by omega⟩]
  · rw [if_neg h, if_neg (by omega)]
def kCopy (K K' : KK) (s t : Nat) : KK := (kSet (kSet (kSet (kSet (kSet (kSet (kRow (kSet (kSet (kSet (kRowN (kRowN (kRowN K 19 s 16 (K'.1 19 t)) 2 s 7 (K'.1 2 t)) 3 s 7 (K'.1 3 t)) 4 s 0 (K'.1 4 t 0)) 5 s 0 (K'.1 5 t 0)) 6 s 0 (K'.1 6 t 0)) 18 s (K'.1 18 t)) 12 s 0 (K'.1 12 t 0)) 13 s 0 (K'.1 13 t 0)) 14 s 0 (K'.1 14 t 0)) 15 s 0 (K'.1 15 t 0)) 16 s 0 (K'.1 16 t 0)) 17 s 0 (K'.1 17 t 0))
def rCopy (X : XS) (o s o' t : Nat) (K2 : KK) (Y : XS) : Prop := ∃ D', dGrow (xD X) D' o s ((xK X o').2.1 t).length ∧ dV D' o 10 s 0 = dV (xD X) o' 10 t 0 ∧ dV D' o 11 s 0 = dV (xD X) o' 11 t 0 ∧ Y = xSetK (xSetD X D') o (kLog K2 s ((xK X o').2.1 t))
theorem l_60 {X : XS} {o s o' t : Nat} (ho : o < 2) (hs : s < 7) (ho2 : o' < 2) (ht : t < 7) (hne : ¬ o' = o) (hlen : ((xK X o').2.1 t).length < 500000) : ∀ n q : Nat, q + n = ((xK X o').2.1 t).length → ∀ (D : XD) (K2 : KK), dGrow (xD X) D o s ((xK X o').2.1 t).length → AT 60 66 [some (.ref (aS o s)), some (.ref (aS o' t)), some (.int (Int32.ofNat q))] [] (xSetK (xSetD X D) o (kLog K2 s (((xK X o').2.1 t).take q))) (fun o'' Y => o'' = .inl none ∧ rCopy X o s o' t K2 Y)
  | 0, q, hq, D, K2, hD => by
    refine AT.iload_n M_60 rfl rfl ?_
    refine AT.aload_n M_60 rfl rfl ?_
    refine AT.f_6_8 M_60 rfl (by assumption) (by assumption) ?_
    refine AT.icmp_ge M_60 rfl (fun b69 => ?_) (fun b69 => ?_)
    · refine AT.aload_n M_60 rfl rfl ?_
      refine AT.aload_n M_60 rfl rfl ?_
      refine AT.f_6_10 M_60 rfl (by assumption) (by assumption) ?_
      refine AT.p_6_10 M_60 rfl (by assumption) (by assumption) ?_
      try simp only [xK_other _ _ _ _ hne, xK_same, xSetK_idem, xD_setK, xK_setD, xD_setD, xSetD_setK, xSetD_idem, kSet_1, kSet_2, kRow_1, kRow_2, kLog_1, kLog_2, kLog_l, kLog_idem, List.take_zero, if_true]
      refine AT.aload_n M_60 rfl rfl ?_
      refine AT.aload_n M_60 rfl rfl ?_
      refine AT.f_6_11 M_60 rfl (by assumption) (by assumption) ?_
      refine AT.p_6_11 M_60 rfl (by assumption) (by assumption) ?_
      try simp only [xK_other _ _ _ _ hne, xK_same, xSetK_idem, xD_setK, xK_setD, xD_setD, xSetD_setK, xSetD_idem, kSet_1, kSet_2, kRow_1, kRow_2, kLog_1, kLog_2, kLog_l, kLog_idem, List.take_zero, if_true]
      refine AT.vret M_60 rfl rfl ?_
      have e : q = ((xK X o').2.1 t).length := by omega
      subst e
      refine ⟨rfl, dSetV (dSetV D o 10 s 0 (dV D o' 10 t 0)) o 11 s 0 (dV (dSetV D o 10 s 0 (dV D o' 10 t 0)) o' 11 t 0), ?_, ?_, ?_, ?_⟩
      · exact (hD.trans (dSetV.grow _ o s _ 10 _ (Or.inl rfl)) (Nat.le_refl _) (Nat.le_refl _)).trans (dSetV.grow _ o s _ 11 _ (Or.inr rfl)) (Nat.le_refl _) (Nat.le_refl _)
      · rw [dV_set, if_neg (by omega), dV_set, if_pos ⟨rfl, rfl, rfl, rfl⟩]
        exact hD.2.2.2.2.1 _ _ _ _ (fun z => hne z.1)
      · rw [dV_set, if_pos ⟨rfl, rfl, rfl, rfl⟩, dV_set, if_neg (by omega)]
        exact hD.2.2.2.2.1 _ _ _ _ (fun z => hne z.1)
      · try simp only [List.take_length]
        try rfl
    · exact absurd (by simp only [xK_other _ _ _ _ hne, xK_setD]; rw [i32_le (by omega) (by omega)]; omega) b69
  | n + 1, q, hq, D, K2, hD => by
    obtain ⟨e, he⟩ : ∃ e, ((xK X o').2.1 t)[q]? = some e := ⟨_, List.getElem?_eq_getElem (by omega)⟩
    intro g hg
    have h64' : 64 ≤ dR D o s := (hg.2.2.2.2.2.2.2.1 o s ho hs).2.2.2.2.2.1
    revert g
    refine AT.iload_n M_60 rfl rfl ?_
    refine AT.aload_n M_60 rfl rfl ?_
    refine AT.f_6_8 M_60 rfl (by assumption) (by assumption) ?_
    refine AT.icmp_ge M_60 rfl (fun b69 => ?_) (fun b69 => ?_)
    · exact absurd b69 (by simp only [xK_other _ _ _ _ hne, xK_setD]; rw [i32_le (by omega) (by omega)]; omega)
    · refine AT.aload_n M_60 rfl rfl ?_
      refine AT.aload_n M_60 rfl rfl ?_
      refine AT.f_6_7 M_60 rfl (by assumption) (by assumption) ?_
      refine AT.iload_n M_60 rfl rfl ?_
      refine AT.a_log M_60 rfl rfl (by assumption) (by assumption) (by rw [xK_other _ _ _ _ hne]; exact he) (fun p74 he74 => ?_)
      refine AT.cv2w M_60 rfl M_74 rfl (Nat.le_of_ble_eq_true rfl) (xKd.of (shp_sv ho hs)) (by decide) (c_74 ho hs (by exact he74) (by rw [xK_same, kLog_l, if_pos rfl, List.length_take]; omega)) (fun Y hY => ?_) (Nat.le_of_ble_eq_true rfl) rfl
      intro g hg
      obtain ⟨D', h1, rfl⟩ := hY
      have h64 : 64 ≤ dR D o s := h64'
      have hlq : (((xK X o').2.1 t).take q).length = q := by rw [List.length_take]; omega
      simp only [xK_other _ _ _ _ hne, xK_same, xSetK_idem, xD_setK, xK_setD, xD_setD, xSetD_setK, xSetD_idem, kLog_idem, kLog_l, if_true, hlq] at h1 hg
      rw [← take_succ he] at hg
      revert g
      refine AT.iinc2 M_60 rfl rfl (i32_succ _) ?_
      refine AT.goto M_60 rfl ?_
      exact l_60 ho hs ho2 ht hne hlen n (q + 1) (by omega) _ K2 (((hD.trans (h1.grow h64) (Nat.le_refl _) (by omega))).trans (dApp.grow _ o s _ _ _ _ _) (Nat.le_refl _) (Nat.le_refl _))
theorem c_60 {X : XS} {o s o' t : Nat} (ho : o < 2) (hs : s < 7) (ho2 : o' < 2) (ht : t < 7) (hne : ¬ o' = o) (hlen : ((xK X o').2.1 t).length < 500000) (h01 : (xK X o').1 4 t 0 = 0 ∨ (xK X o').1 4 t 0 = 1) : RU 60 [some (.ref (aS o s)), some (.ref (aS o' t)), none] X none (rCopy X o s o' t (kCopy (xK X o) (xK X o') s t)) := by
  refine AT.aload_n M_60 rfl rfl ?_
  refine AT.f_6_1 M_60 rfl (by assumption) (by assumption) ?_
  refine AT.aload_n M_60 rfl rfl ?_
  refine AT.f_6_1 M_60 rfl (by assumption) (by assumption) ?_
  refine AT.cv20 M_60 rfl M_92 rfl (Nat.le_of_ble_eq_true rfl) (xKd.of (shp_tab (by assumption) (by assumption))) (by decide) (c_92s ho hs ho2 ht hne) ?_ (Nat.le_of_ble_eq_true rfl) rfl
  try simp only [xK_other _ _ _ _ hne, xK_same, xSetK_idem, xD_setK, xK_setD, xD_setD, xSetD_setK, xSetD_idem, kSet_1, kSet_2, kRow_1, kRow_2, kLog_1, kLog_2, kLog_l, kLog_idem, List.take_zero, if_true]
  refine AT.aload_n M_60 rfl rfl ?_
  refine AT.f_6_2 M_60 rfl (by assumption) (by assumption) ?_
  refine AT.iconst M_60 rfl (v := 0) (by decide) ?_
  refine AT.aload_n M_60 rfl rfl ?_
  refine AT.f_6_2 M_60 rfl (by assumption) (by assumption) ?_
  refine AT.iconst M_60 rfl (v := 0) (by decide) ?_
  refine AT.bipush M_60 rfl (v := 7) (by decide) ?_
  refine AT.acpN (c := 5) M_60 rfl rfl (Nat.zero_le _) ho hs ho2 ht (Or.inl ⟨rfl, rfl, rfl, rfl⟩) rfl ?_
  rw [kRowN_of]
  try simp only [xK_other _ _ _ _ hne, xK_same, xSetK_idem, xD_setK, xK_setD, xD_setD, xSetD_setK, xSetD_idem, kSet_1, kSet_2, kRow_1, kRow_2, kLog_1, kLog_2, kLog_l, kLog_idem, List.take_zero, if_true]
  refine AT.aload_n M_60 rfl rfl ?_
  refine AT.f_6_3 M_60 rfl (by assumption) (by assumption) ?_
  refine AT.iconst M_60 rfl (v := 0) (by decide) ?_
  refine AT.aload_n M_60 rfl rfl ?_
  refine AT.f_6_3 M_60 rfl (by assumption) (by assumption) ?_
  refine AT.iconst M_60 rfl (v := 0) (by decide) ?_
  refine AT.bipush M_60 rfl (v := 7) (by decide) ?_
  refine AT.acpN (c := 6) M_60 rfl rfl (Nat.zero_le _) ho hs ho2 ht (Or.inr (Or.inl ⟨rfl, rfl, rfl, rfl⟩)) rfl ?_
  rw [kRowN_of]
  try simp only [xK_other _ _ _ _ hne, xK_same, xSetK_idem, xD_setK, xK_setD, xD_setD, xSetD_setK, xSetD_idem, kSet_1, kSet_2, kRow_1, kRow_2, kLog_1, kLog_2, kLog_l, kLog_idem, List.take_zero, if_true]
  refine AT.aload_n M_60 rfl rfl ?_
  refine AT.aload_n M_60 rfl rfl ?_
  refine AT.f_6_4 M_60 rfl (by assumption) (by assumption) ?_
  refine AT.p_6_4 M_60 rfl (by assumption) (by assumption) (by simpa only [xK_other _ _ _ _ hne] using h01) ?_
  try simp only [xK_other _ _ _ _ hne, xK_same, xSetK_idem, xD_setK, xK_setD, xD_setD, xSetD_setK, xSetD_idem, kSet_1, kSet_2, kRow_1, kRow_2, kLog_1, kLog_2, kLog_l, kLog_idem, List.take_zero, if_true]
  refine AT.aload_n M_60 rfl rfl ?_
  refine AT.aload_n M_60 rfl rfl ?_
  refine AT.f_6_5 M_60 rfl (by assumption) (by assumption) ?_
  refine AT.p_6_5 M_60 rfl (by assumption) (by assumption) ?_
  try simp only [xK_other _ _ _ _ hne, xK_same, xSetK_idem, xD_setK, xK_setD, xD_setD, xSetD_setK, xSetD_idem, kSet_1, kSet_2, kRow_1, kRow_2, kLog_1, kLog_2, kLog_l, kLog_idem, List.take_zero, if_true]
  refine AT.aload_n M_60 rfl rfl ?_
  refine AT.aload_n M_60 rfl rfl ?_
  refine AT.f_6_6 M_60 rfl (by assumption) (by assumption) ?_
  refine AT.p_6_6 M_60 rfl (by assumption) (by assumption) ?_
  try simp only [xK_other _ _ _ _ hne, xK_same, xSetK_idem, xD_setK, xK_setD, xD_setD, xSetD_setK, xSetD_idem, kSet_1, kSet_2, kRow_1, kRow_2, kLog_1, kLog_2, kLog_l, kLog_idem, List.take_zero, if_true]
  refine AT.aload_n M_60 rfl rfl ?_
  refine AT.aload_n M_60 rfl rfl ?_
  refine AT.f_6_9 M_60 rfl (by assumption) (by assumption) (fun p35 hp35 => ?_)
  refine AT.p_6_9 M_60 rfl (by assumption) (by assumption) (by exact hp35) ?_
  try simp only [xK_other _ _ _ _ hne, xK_same, xSetK_idem, xD_setK, xK_setD, xD_setD, xSetD_setK, xSetD_idem, kSet_1, kSet_2, kRow_1, kRow_2, kLog_1, kLog_2, kLog_l, kLog_idem, List.take_zero, if_true]
  refine AT.aload_n M_60 rfl rfl ?_
  refine AT.aload_n M_60 rfl rfl ?_
  refine AT.f_6_12 M_60 rfl (by assumption) (by assumption) ?_
  refine AT.p_6_12 M_60 rfl (by assumption) (by assumption) ?_
  try simp only [xK_other _ _ _ _ hne, xK_same, xSetK_idem, xD_setK, xK_setD, xD_setD, xSetD_setK, xSetD_idem, kSet_1, kSet_2, kRow_1, kRow_2, kLog_1, kLog_2, kLog_l, kLog_idem, List.take_zero, if_true]
  refine AT.aload_n M_60 rfl rfl ?_
  refine AT.aload_n M_60 rfl rfl ?_
  refine AT.f_6_13 M_60 rfl (by assumption) (by assumption) ?_
  refine AT.p_6_13 M_60 rfl (by assumption) (by assumption) ?_
  try simp only [xK_other _ _ _ _ hne, xK_same, xSetK_idem, xD_setK, xK_setD, xD_setD, xSetD_setK, xSetD_idem, kSet_1, kSet_2, kRow_1, kRow_2, kLog_1, kLog_2, kLog_l, kLog_idem, List.take_zero, if_true]
  refine AT.aload_n M_60 rfl rfl ?_
  refine AT.aload_n M_60 rfl rfl ?_
  refine AT.f_6_14 M_60 rfl (by assumption) (by assumption) ?_
  refine AT.p_6_14 M_60 rfl (by assumption) (by assumption) ?_
  try simp only [xK_other _ _ _ _ hne, xK_same, xSetK_idem, xD_setK, xK_setD, xD_setD, xSetD_setK, xSetD_idem, kSet_1, kSet_2, kRow_1, kRow_2, kLog_1, kLog_2, kLog_l, kLog_idem, List.take_zero, if_true]
  refine AT.aload_n M_60 rfl rfl ?_
  refine AT.aload_n M_60 rfl rfl ?_
  refine AT.f_6_15 M_60 rfl (by assumption) (by assumption) ?_
  refine AT.p_6_15 M_60 rfl (by assumption) (by assumption) ?_
  try simp only [xK_other _ _ _ _ hne, xK_same, xSetK_idem, xD_setK, xK_setD, xD_setD, xSetD_setK, xSetD_idem, kSet_1, kSet_2, kRow_1, kRow_2, kLog_1, kLog_2, kLog_l, kLog_idem, List.take_zero, if_true]
  refine AT.aload_n M_60 rfl rfl ?_
  refine AT.aload_n M_60 rfl rfl ?_
  refine AT.f_6_16 M_60 rfl (by assumption) (by assumption) ?_
  refine AT.p_6_16 M_60 rfl (by assumption) (by assumption) ?_
  try simp only [xK_other _ _ _ _ hne, xK_same, xSetK_idem, xD_setK, xK_setD, xD_setD, xSetD_setK, xSetD_idem, kSet_1, kSet_2, kRow_1, kRow_2, kLog_1, kLog_2, kLog_l, kLog_idem, List.take_zero, if_true]
  refine AT.aload_n M_60 rfl rfl ?_
  refine AT.aload_n M_60 rfl rfl ?_
  refine AT.f_6_17 M_60 rfl (by assumption) (by assumption) ?_
  refine AT.p_6_17 M_60 rfl (by assumption) (by assumption) ?_
  try simp only [xK_other _ _ _ _ hne, xK_same, xSetK_idem, xD_setK, xK_setD, xD_setD, xSetD_setK, xSetD_idem, kSet_1, kSet_2, kRow_1, kRow_2, kLog_1, kLog_2, kLog_l, kLog_idem, List.take_zero, if_true]
  refine AT.aload_n M_60 rfl rfl ?_
  refine AT.iconst M_60 rfl (v := 0) (by decide) ?_
  refine AT.p_6_8t M_60 rfl (by assumption) (by assumption) (q := 0) (Nat.zero_le _) rfl ?_
  try simp only [xK_other _ _ _ _ hne, xK_same, xSetK_idem, xD_setK, xK_setD, xD_setD, xSetD_setK, xSetD_idem, kSet_1, kSet_2, kRow_1, kRow_2, kLog_1, kLog_2, kLog_l, kLog_idem, List.take_zero, if_true]
  refine AT.iconst M_60 rfl (v := 0) (by decide) ?_
  refine AT.ist2 M_60 rfl rfl ?_
  have h := l_60 ho hs ho2 ht hne hlen ((xK X o').2.1 t).length 0 (by omega) (xD X) (kCopy (xK X o) (xK X o') s t) (dGrow.refl _ _ _ _)
  rw [List.take_zero] at h
  exact h
