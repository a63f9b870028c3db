/-! ===== WIDENING AND APPENDING ===== -/
theorem gWd_0 (g : PS) (n L : Nat) : pNew g 16 n n (fun _ => .null) = gWd g n L 0 := by
  unfold gWd
  congr 1
theorem i32_mul2 (n : Nat) : Int32.ofNat n * 2 = Int32.ofNat (2 * n) := by
  rw [Nat.mul_comm, Int32.ofNat_mul]
  rfl
theorem c_75 {X : XS} {o s : Nat} (ho : o < 2) (hs : s < 7) (hfull : ((xK X o).2.1 s).length = dR (xD X) o s) (hR : dR (xD X) o s < 500000) : RU 75 [some (.ref (aS o s)), none, none] X none (fun Y => ∃ p, Y = xSetD X (dWide (xD X) o s p (2 * dR (xD X) o s))) := by
  refine AT.aload_n M_75 rfl rfl ?_
  refine AT.f_6_7 M_75 rfl (by assumption) (by assumption) ?_
  refine AT.l_log M_75 rfl (by assumption) (by assumption) (fun hl2 hm2 => ?_)
  refine AT.ldc M_75 rfl rfl rfl ?_
  refine AT.icmp_lt M_75 rfl (fun b4 => ?_) (fun b4 => ?_)
  · refine AT.aload_n M_75 rfl rfl ?_
    refine AT.f_6_7 M_75 rfl (by assumption) (by assumption) ?_
    refine AT.l_log M_75 rfl (by assumption) (by assumption) (fun hl8 hm8 => ?_)
    refine AT.iconst M_75 rfl (v := 2) (by decide) ?_
    refine AT.imul M_75 rfl (i32_mul2 _) ?_
    intro g hg
    have hx := hg.2.2.2.2.2.2.2.1 o s ho hs
    refine PW.pl M_75 rfl rfl (st' := [.ref (pN g)]) (g' := gWd g (2 * dR (xD X) o s) (dA (xD X) o s) 0) (ls' := [some (.ref (aS o s)), none, none]) (nx := 12) ?_ ?_
    · show (if Int32.ofNat (2 * dR (xD X) o s) < 0 ∨ 100000000 < (Int32.ofNat (2 * dR (xD X) o s)).toNatClampNeg ∨ ¬ (15 ≤ 16 ∧ 16 ≤ 18) then none else some (12, _, Value.ref (pN g) :: [], pNew g 16 (Int32.ofNat (2 * dR (xD X) o s)).toNatClampNeg (Int32.ofNat (2 * dR (xD X) o s)).toNatClampNeg (fun _ => .null))) = _
      rw [(i32_ix (by omega)).1, gWd_0 g (2 * dR (xD X) o s) (dA (xD X) o s), if_neg]
      rintro (z | z | z)
      · exact (i32_ix (by omega)).2 z
      · omega
      · exact z ⟨by omega, by omega⟩
    refine PW.pl M_75 rfl rfl rfl ?_
    refine PW.pl M_75 rfl rfl rfl ?_
    refine PW.pl M_75 rfl rfl rfl ?_
    refine l_75 ho hs hg hfull hR ?_ (dR (xD X) o s) 0 (by omega)
    refine ⟨_, hg.wide ho hs rfl (by omega) ⟨_, rfl, by omega⟩ (fun j hj => if_pos hj), rfl, _, rfl⟩
  · exact absurd (by exact (i32_lt (by omega) (by omega)).mpr (by omega)) b4
/-- what goes beside, when an entry was put behind the last one -/
def dApp (D : XD) (o s n : Nat) (a : Int32) (e : ENT) (q : Nat) : XD := if e 1 = 4 then dSetV (dSetV (dSetQ D o s n q) o 10 s 0 (e 6)) o 11 s 0 (a + Int32.ofNat (n + 1)) else dSetQ D o s n q
/-- there is room for one entry more -/
def dRoom (D D' : XD) (o s n : Nat) : Prop := (n < dR D o s ∧ D' = D) ∨ (n = dR D o s ∧ ∃ p, D' = dWide D o s p (2 * dR D o s))
theorem dQ_set (D : XD) (o i j p a b c : Nat) : dQ (dSetQ D o i j p) a b c = if a = o ∧ b = i ∧ c = j then p else dQ D a b c := rfl
theorem dR_setQ (D : XD) (o i j p : Nat) : dR (dSetQ D o i j p) = dR D := rfl
theorem dE_setQ (D : XD) (o i j p : Nat) : dE (dSetQ D o i j p) = dE D := rfl
theorem dE_setV (D : XD) (o f i j : Nat) (v : Int32) : dE (dSetV D o f i j v) = dE D := rfl
theorem dE_wide (D : XD) (o s p n : Nat) : dE (dWide D o s p n) = dE D := rfl
theorem dR_wide (D : XD) (o s p n : Nat) : dR (dWide D o s p n) o s = n := if_pos ⟨rfl, rfl⟩
theorem t_74 {X : XS} {o s : Nat} (ho : o < 2) (hs : s < 7) {q : Nat} {e : ENT} (he : dE (xD X) q = (1, e)) (hlt : ((xK X o).2.1 s).length < dR (xD X) o s) : AT 74 8 [some (.ref (aS o s)), some (.ref q)] [] X (fun o' Y => o' = .inl none ∧ Y = xSetK (xSetD X (dApp (xD X) o s ((xK X o).2.1 s).length ((xK X o).1 18 s 0) e q)) o (kLog (xK X o) s ((xK X o).2.1 s ++ [e]))) := by
  refine AT.aload_n M_74 rfl rfl ?_
  refine AT.f_6_8 M_74 rfl (by assumption) (by assumption) ?_
  refine AT.aload_n M_74 rfl rfl ?_
  refine AT.f_6_7 M_74 rfl (by assumption) (by assumption) ?_
  refine AT.l_log M_74 rfl (by assumption) (by assumption) (fun hl12 hm12 => ?_)
  refine AT.icmp_ge M_74 rfl (fun b13 => ?_) (fun b13 => ?_)
  · exact absurd b13 (by rw [i32_le (by omega) (by omega)]; omega)
  · refine AT.aload_n M_74 rfl rfl ?_
    refine AT.f_6_7 M_74 rfl (by assumption) (by assumption) ?_
    refine AT.aload_n M_74 rfl rfl ?_
    refine AT.f_6_8 M_74 rfl (by assumption) (by assumption) ?_
    refine AT.aload_n M_74 rfl rfl ?_
    refine AT.s_logA M_74 rfl rfl ho hs (Nat.le_refl _) hlt he (fun hne => ?_)
    try simp only [xK_same, xSetK_idem, xD_setK, xK_setD, xD_setD, xSetD_setK, xSetD_idem, kSet_1, kSet_2, kRow_1, kRow_2, kLog_1, kLog_2, kLog_l, kLog_idem, List.take_zero, if_true]
    refine AT.aload_n M_74 rfl rfl ?_
    refine AT.dup M_74 rfl ?_
    refine AT.f_6_8 M_74 rfl (by assumption) (by assumption) ?_
    refine AT.iconst M_74 rfl (v := 1) (by decide) ?_
    refine AT.iadd M_74 rfl (i32_succ _) ?_
    refine AT.p_6_8a M_74 rfl (by assumption) (by assumption) (by rw [xD_setD, xK_setD, dQ_set, if_pos ⟨rfl, rfl, rfl⟩]) (by assumption) (by exact he) (by exact hlt) rfl ?_
    try simp only [xK_same, xSetK_idem, xD_setK, xK_setD, xD_setD, xSetD_setK, xSetD_idem, kSet_1, kSet_2, kRow_1, kRow_2, kLog_1, kLog_2, kLog_l, kLog_idem, List.take_zero, if_true]
    refine AT.aload_n M_74 rfl rfl ?_
    refine AT.f_2_1 M_74 rfl (by assumption) ?_
    refine AT.iconst M_74 rfl (v := 4) (by decide) ?_
    refine AT.icmp_ne M_74 rfl (fun b29 => ?_) (fun b29 => ?_)
    · refine AT.vret M_74 rfl rfl ?_
      refine ⟨rfl, ?_⟩
      unfold dApp
      rw [if_neg b29]
    · refine AT.aload_n M_74 rfl rfl ?_
      refine AT.aload_n M_74 rfl rfl ?_
      have hk : e 1 = 4 := Classical.not_not.mp b29
      refine AT.f_2_3 M_74 rfl (by exact he) (i32_nrq hk) ?_
      refine AT.p_6_10 M_74 rfl (by assumption) (by assumption) ?_
      try simp only [xK_same, xSetK_idem, xD_setK, xK_setD, xD_setD, xSetD_setK, xSetD_idem, kSet_1, kSet_2, kRow_1, kRow_2, kLog_1, kLog_2, kLog_l, kLog_idem, List.take_zero, if_true]
      refine AT.aload_n M_74 rfl rfl ?_
      refine AT.aload_n M_74 rfl rfl ?_
      refine AT.f_6_9 M_74 rfl (by assumption) (by assumption) (fun p36 hp36 => ?_)
      refine AT.f_7_0 M_74 rfl (by assumption) ?_
      refine AT.aload_n M_74 rfl rfl ?_
      refine AT.f_6_8 M_74 rfl (by assumption) (by assumption) ?_
      refine AT.iadd M_74 rfl rfl ?_
      refine AT.p_6_11 M_74 rfl (by assumption) (by assumption) ?_
      try simp only [xK_same, xSetK_idem, xD_setK, xK_setD, xD_setD, xSetD_setK, xSetD_idem, kSet_1, kSet_2, kRow_1, kRow_2, kLog_1, kLog_2, kLog_l, kLog_idem, List.take_zero, if_true]
      refine AT.vret M_74 rfl rfl ?_
      refine ⟨rfl, ?_⟩
      unfold dApp
      rw [if_pos hk]
      try simp only [List.length_append, List.length_cons, List.length_nil]
theorem c_74 {X : XS} {o s : Nat} (ho : o < 2) (hs : s < 7) {q : Nat} {e : ENT} (he : dE (xD X) q = (1, e)) (hlen : ((xK X o).2.1 s).length < 500000) : RU 74 [some (.ref (aS o s)), some (.ref q)] X none (fun Y => ∃ D', dRoom (xD X) D' o s ((xK X o).2.1 s).length ∧ Y = xSetK (xSetD X (dApp D' o s ((xK X o).2.1 s).length ((xK X o).1 18 s 0) e q)) o (kLog (xK X o) s ((xK X o).2.1 s ++ [e]))) := by
  refine AT.aload_n M_74 rfl rfl ?_
  refine AT.f_6_8 M_74 rfl (by assumption) (by assumption) ?_
  refine AT.aload_n M_74 rfl rfl ?_
  refine AT.f_6_7 M_74 rfl (by assumption) (by assumption) ?_
  refine AT.l_log M_74 rfl (by assumption) (by assumption) (fun hl4 hm4 => ?_)
  refine AT.icmp_lt M_74 rfl (fun b5 => ?_) (fun b5 => ?_)
  · refine AT.mono (t_74 ho hs he (by have := (i32_lt (by omega) (by omega)).mp b5; omega)) ?_
    rintro o' Y ⟨rfl, rfl⟩
    exact ⟨rfl, _, Or.inl ⟨(i32_lt (by omega) (by omega)).mp b5, rfl⟩, rfl⟩
  · have hfull : ((xK X o).2.1 s).length = dR (xD X) o s := by
      have : ¬ ((xK X o).2.1 s).length < dR (xD X) o s := fun z => b5 ((i32_lt (by omega) (by omega)).mpr z)
      omega
    refine AT.aload_n M_74 rfl rfl ?_
    refine AT.cv1w M_74 rfl M_75 rfl (Nat.le_of_ble_eq_true rfl) (xKd.of (shp_sv (by assumption) (by assumption))) (by decide) (c_75 ho hs hfull (by omega)) (fun Y hc7 => ?_) (Nat.le_of_ble_eq_true rfl) rfl
    obtain ⟨p, rfl⟩ := hc7
    intro g hg
    have h64 : 64 ≤ dR (xD (xSetD X (dWide (xD X) o s p (2 * dR (xD X) o s)))) o s := (hg.2.2.2.2.2.2.2.1 o s ho hs).2.2.2.2.2.1
    rw [xD_setD, dR_wide] at h64
    revert g
    refine AT.mono (t_74 ho hs (by exact he) (by rw [xK_setD, xD_setD, dR_wide]; omega)) ?_
    rintro o' Y' ⟨rfl, rfl⟩
    exact ⟨rfl, _, Or.inr ⟨by omega, p, rfl⟩, rfl⟩
