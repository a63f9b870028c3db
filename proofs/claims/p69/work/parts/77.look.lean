/-! ===== A LEADER LOOKS WHAT IS COMMITTED ===== -/
def sHave (K : KK) (s : Nat) (mm x : Int32) : Bool := decide (sSum (fun j => bI (sBit mm j)) 7 < 2 * sSum (fun j => bI (sBit mm j && (decide (j = s) || decide (x ≤ K.1 3 s j)))) 7)
def sLkP (K : KK) (s : Nat) (mm x : Int32) : Bool := decide (sTix K s x = K.1 5 s 0) && sHave K s mm x
/-- the greatest of the first n, or 0 -/
def sLkN (p : Nat → Bool) : Nat → Nat
  | 0 => 0
  | n + 1 => if p (n + 1) = true then n + 1 else sLkN p n
theorem sLkN_le (p : Nat → Bool) : ∀ n, sLkN p n ≤ n
  | 0 => Nat.le_refl _
  | n + 1 => by
    unfold sLkN
    split
    · exact Nat.le_refl _
    · exact Nat.le_succ_of_le (sLkN_le p n)
/-- a leader that is no member any more steps down -/
def kStep (K : KK) (s : Nat) (mm mx : Int32) : KK := if sBit mm s = false ∧ ¬ mx = -1 ∧ mx ≤ K.1 15 s 0 then kSet (kSet K 12 s 0 0) 13 s 0 (-1) else K
def kLook (K : KK) (s : Nat) (mm mx : Int32) (c n : Nat) : KK := kStep (kComm K s c (sLkN (fun k => sLkP K s mm (Int32.ofNat (c + k))) n)) s mm mx
theorem kComm_0 {K : KK} {s c : Nat} (h : K.1 15 s 0 = Int32.ofNat c) : kComm K s c 0 = K := by
  show kSet K 15 s 0 (Int32.ofNat (c + 0)) = _
  rw [Nat.add_zero, ← h]
  exact kSet_self _ _ _ _
theorem t_28 {X : XS} {o s : Nat} (ho : o < 2) (hs : s < 7) {mm mx : Int32} (hm : dV (xD X) o 10 s 0 = mm) (hx : dV (xD X) o 11 s 0 = mx) (x2 : Option Value) : AT 28 24 [some (.ref (aB o)), some (.ref (aS o s)), x2] [] X (fun o' Y => o' = .inl none ∧ Y = xSetK X o (kStep (xK X o) s mm mx)) := by
  have hx2 : ∀ K, dV (xD (xSetK X o K)) o 11 s 0 = mx := fun _ => hx
  subst hx
  refine AT.aload_n M_28 rfl rfl ?_
  refine AT.cv1i M_28 rfl M_67 rfl (Nat.le_of_ble_eq_true rfl) (xKd.of (shp_sv (by assumption) (by assumption))) (by decide) (c_67 ho hs hm) ?_ (Nat.le_of_ble_eq_true rfl) rfl
  try simp only [xK_same, xSetK_idem, xD_setK, xK_setD, xD_setD, xSetD_setK, xSetD_idem, kSet_1, kSet_2, kRow_1, kRow_2, kLog_1, kLog_2, kLog_l, kLog_idem, List.take_zero, if_true]
  refine AT.if_ne M_28 rfl (fun b26 => ?_) (fun b26 => ?_)
  · refine AT.vret M_28 rfl rfl ?_
    refine ⟨rfl, ?_⟩
    unfold kStep
    rw [if_neg (fun z => by have := bI_ne0.mp b26; rw [z.1] at this; cases this)]
    exact (xSetK_self _ _).symm
  · refine AT.aload_n M_28 rfl rfl ?_
    refine AT.f_6_11 M_28 rfl (by assumption) (by assumption) ?_
    refine AT.iconst M_28 rfl (v := (-1)) (by decide) ?_
    refine AT.icmp_eq M_28 rfl (fun b30 => ?_) (fun b30 => ?_)
    · refine AT.vret M_28 rfl rfl ?_
      refine ⟨rfl, ?_⟩
      unfold kStep
      rw [if_neg (fun z => z.2.1 b30)]
      exact (xSetK_self _ _).symm
    · refine AT.aload_n M_28 rfl rfl ?_
      refine AT.f_6_11 M_28 rfl (by assumption) (by assumption) ?_
      refine AT.aload_n M_28 rfl rfl ?_
      refine AT.f_6_15 M_28 rfl (by assumption) (by assumption) ?_
      refine AT.icmp_gt M_28 rfl (fun b35 => ?_) (fun b35 => ?_)
      · refine AT.vret M_28 rfl rfl ?_
        refine ⟨rfl, ?_⟩
        unfold kStep
        rw [if_neg (fun z => absurd b35 (Int32.not_lt.mpr z.2.2))]
        exact (xSetK_self _ _).symm
      · refine AT.aload_n M_28 rfl rfl ?_
        refine AT.iconst M_28 rfl (v := 0) (by decide) ?_
        refine AT.p_6_12 M_28 rfl (by assumption) (by assumption) ?_
        try simp only [xK_same, xSetK_idem, xD_setK, xK_setD, xD_setD, xSetD_setK, xSetD_idem, kSet_1, kSet_2, kRow_1, kRow_2, kLog_1, kLog_2, kLog_l, kLog_idem, List.take_zero, if_true]
        refine AT.aload_n M_28 rfl rfl ?_
        refine AT.iconst M_28 rfl (v := (-1)) (by decide) ?_
        refine AT.p_6_13 M_28 rfl (by assumption) (by assumption) ?_
        try simp only [xK_same, xSetK_idem, xD_setK, xK_setD, xD_setD, xSetD_setK, xSetD_idem, kSet_1, kSet_2, kRow_1, kRow_2, kLog_1, kLog_2, kLog_l, kLog_idem, List.take_zero, if_true]
        refine AT.vret M_28 rfl rfl ?_
        refine ⟨rfl, ?_⟩
        unfold kStep
        rw [if_pos ⟨bI_eq0.mp (Classical.not_not.mp b26), b30, Int32.not_lt.mp b35⟩]
theorem i32_dec1 (u : Int32) : u + Int32.ofNat 1 + Int32.ofInt (-1) = u := by
  rw [show Int32.ofInt (-1) = -1 from rfl, show Int32.ofNat 1 = 1 from rfl]
  grind
theorem l_28 {X : XS} {o s : Nat} (ho : o < 2) (hs : s < 7) {a c n : Nat} {mm mx : Int32} (hm : dV (xD X) o 10 s 0 = mm) (hx : dV (xD X) o 11 s 0 = mx) (ha : (xK X o).1 18 s 0 = Int32.ofNat a) (hc15 : (xK X o).1 15 s 0 = Int32.ofNat c) (hac : a ≤ c) (hcn : c + n = a + ((xK X o).2.1 s).length) (hl : a + ((xK X o).2.1 s).length < 16777216) (hE : ∀ e, e ∈ (xK X o).2.1 s → eOk e) : ∀ k : Nat, k ≤ n → AT 28 3 [some (.ref (aB o)), some (.ref (aS o s)), some (.int (Int32.ofNat (c + k)))] [] X (fun o' Y => o' = .inl none ∧ Y = xSetK X o (kLook (xK X o) s mm mx c k))
  | 0, hk => by
    refine AT.iload_n M_28 rfl rfl ?_
    refine AT.aload_n M_28 rfl rfl ?_
    refine AT.f_6_15 M_28 rfl ho hs ?_
    rw [hc15]
    refine AT.icmp_le M_28 rfl (fun b6 => ?_) (fun b6 => ?_)
    · have h := t_28 (X := X) ho hs hm hx (some (.int (Int32.ofNat (c + 0))))
      rw [show kLook (xK X o) s mm mx c 0 = kStep (xK X o) s mm mx from by show kStep (kComm _ _ _ 0) _ _ _ = _; rw [kComm_0 hc15]]
      exact h
    · exact absurd (by rw [Nat.add_zero]; exact Int32.le_refl _) b6
  | k + 1, hk => by
    refine AT.iload_n M_28 rfl rfl ?_
    refine AT.aload_n M_28 rfl rfl ?_
    refine AT.f_6_15 M_28 rfl ho hs ?_
    rw [hc15]
    refine AT.icmp_le M_28 rfl (fun b6 => ?_) (fun b6 => ?_)
    · exact absurd ((i32_le (by omega) (by omega)).mp b6) (by omega)
    · refine AT.aload_n M_28 rfl rfl ?_
      refine AT.iload_n M_28 rfl rfl ?_
      refine AT.cv2i M_28 rfl M_65 rfl (Nat.le_of_ble_eq_true rfl) (xKd.of (shp_sv (by assumption) (by assumption))) (by decide) (c_65 ho hs ⟨a, ha, hl⟩) ?_ (Nat.le_of_ble_eq_true rfl) rfl
      refine AT.aload_n M_28 rfl rfl ?_
      refine AT.f_6_5 M_28 rfl (by assumption) (by assumption) ?_
      refine AT.icmp_ne M_28 rfl (fun b12 => ?_) (fun b12 => ?_)
      · have hp : sLkP (xK X o) s mm (Int32.ofNat (c + (k + 1))) = false := by unfold sLkP; rw [decide_eq_false b12]; rfl
        rw [show kLook (xK X o) s mm mx c (k + 1) = kLook (xK X o) s mm mx c k from by unfold kLook; rw [show sLkN (fun k => sLkP (xK X o) s mm (Int32.ofNat (c + k))) (k + 1) = sLkN (fun k => sLkP (xK X o) s mm (Int32.ofNat (c + k))) k from if_neg (show ¬ sLkP (xK X o) s mm (Int32.ofNat (c + (k + 1))) = true from by rw [hp]; decide)]]
        refine AT.iinc2 M_28 rfl rfl (show _ = Int32.ofNat (c + k) from by rw [show c + (k + 1) = c + k + 1 by omega, Int32.ofNat_add]; exact i32_dec1 _) ?_
        refine AT.goto M_28 rfl ?_
        exact l_28 ho hs hm hx ha hc15 hac hcn hl hE k (by omega)
      · refine AT.aload_n M_28 rfl rfl ?_
        refine AT.iload_n M_28 rfl rfl ?_
        refine AT.cv2i M_28 rfl M_69 rfl (Nat.le_of_ble_eq_true rfl) (xKd.of (shp_sv (by assumption) (by assumption))) (by decide) (c_69 ho hs hm) ?_ (Nat.le_of_ble_eq_true rfl) rfl
        refine AT.if_eq M_28 rfl (fun b16 => ?_) (fun b16 => ?_)
        · have hp : sLkP (xK X o) s mm (Int32.ofNat (c + (k + 1))) = false := by have h1 := bI_eq0.mp b16; unfold sLkP sHave; rw [h1, Bool.and_false]
          rw [show kLook (xK X o) s mm mx c (k + 1) = kLook (xK X o) s mm mx c k from by unfold kLook; rw [show sLkN (fun k => sLkP (xK X o) s mm (Int32.ofNat (c + k))) (k + 1) = sLkN (fun k => sLkP (xK X o) s mm (Int32.ofNat (c + k))) k from if_neg (show ¬ sLkP (xK X o) s mm (Int32.ofNat (c + (k + 1))) = true from by rw [hp]; decide)]]
          refine AT.iinc2 M_28 rfl rfl (show _ = Int32.ofNat (c + k) from by rw [show c + (k + 1) = c + k + 1 by omega, Int32.ofNat_add]; exact i32_dec1 _) ?_
          refine AT.goto M_28 rfl ?_
          exact l_28 ho hs hm hx ha hc15 hac hcn hl hE k (by omega)
        · refine AT.aload_n M_28 rfl rfl ?_
          refine AT.aload_n M_28 rfl rfl ?_
          refine AT.iload_n M_28 rfl rfl ?_
          refine AT.cv30 M_28 rfl M_29 rfl (Nat.le_of_ble_eq_true rfl) (xKd.of (shp_cl (by assumption))) (by decide) (c_29 (m := k + 1) ho hs ha hac (by omega) hl hE hc15 (Or.inr rfl)) ?_ (Nat.le_of_ble_eq_true rfl) rfl
          refine AT.goto M_28 rfl ?_
          have hp : sLkP (xK X o) s mm (Int32.ofNat (c + (k + 1))) = true := by
            have h1 := bI_ne0.mp b16
            unfold sLkP sHave
            rw [h1, decide_eq_true (Classical.not_not.mp b12)]
            rfl
          rw [show kLook (xK X o) s mm mx c (k + 1) = kStep (kComm (xK X o) s c (k + 1)) s mm mx from by unfold kLook; rw [show sLkN (fun k => sLkP (xK X o) s mm (Int32.ofNat (c + k))) (k + 1) = k + 1 from if_pos hp]]
          have h := t_28 (X := xSetK X o (kComm (xK X o) s c (k + 1))) ho hs (mm := mm) (mx := mx) hm hx (some (.int (Int32.ofNat (c + (k + 1)))))
          rw [xK_same, xSetK_idem] at h
          exact h
theorem c_28 {X : XS} {o s : Nat} (ho : o < 2) (hs : s < 7) {a c n : Nat} {mm mx : Int32} (hm : dV (xD X) o 10 s 0 = mm) (hx : dV (xD X) o 11 s 0 = mx) (ha : (xK X o).1 18 s 0 = Int32.ofNat a) (hc15 : (xK X o).1 15 s 0 = Int32.ofNat c) (hac : a ≤ c) (hcn : c + n = a + ((xK X o).2.1 s).length) (hl : a + ((xK X o).2.1 s).length < 16777216) (hE : ∀ e, e ∈ (xK X o).2.1 s → eOk e) : RT 28 [some (.ref (aB o)), some (.ref (aS o s)), none] X none (xSetK X o (kLook (xK X o) s mm mx c n)) := by
  refine AT.aload_n M_28 rfl rfl ?_
  refine AT.cv1i M_28 rfl M_62 rfl (Nat.le_of_ble_eq_true rfl) (xKd.of (shp_sv (by assumption) (by assumption))) (by decide) (c_62 ho hs) ?_ (Nat.le_of_ble_eq_true rfl) rfl
  refine AT.ist2 M_28 rfl rfl ?_
  rw [show sLast (xK X o) s = Int32.ofNat (c + n) from by unfold sLast; rw [ha, hcn, Int32.ofNat_add]]
  exact l_28 ho hs hm hx ha hc15 hac hcn hl hE n (Nat.le_refl _)
