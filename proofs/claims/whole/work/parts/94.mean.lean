/-! ===== THE FACE OF THE CLASS: the mean ===== -/
theorem fp_nn {a : UInt64} (h : FP.Core.dIsNaN a = false) : a &&& 0x7fffffffffffffff ≤ 0x7ff0000000000000 := by
  have h1 := (FP.Core.ne_nan a).mp ((FP.Core.notNaN_iff a).mp h)
  rw [UInt64.le_iff_toNat_le, UInt64.toNat_and]
  show a.toNat &&& (2 ^ 63 - 1) ≤ 9218868437227405312
  rw [Nat.and_two_pow_sub_one_eq_mod]
  exact h1
theorem fp_i2d (v : Int32) : FP.Core.dIsNaN (FP.i2d v) = false := (FP.Core.notNaN_iff _).mpr ((FP.Core.i2d_fin v).ne_nan)
theorem fp_sum {a b : Nat} (h : a + b < 2147483648) : FP.dadd (FP.i2d (Int32.ofNat a)) (FP.i2d (Int32.ofNat b)) = FP.i2d (Int32.ofNat (a + b)) := by
  have ha := FP.Core.i2d_int (Int32.ofNat a)
  have hb := FP.Core.i2d_int (Int32.ofNat b)
  have hc := FP.Core.i2d_int (Int32.ofNat (a + b))
  rw [i32_int (by omega)] at ha hb hc
  by_cases z : a + b = 0
  · have z1 : a = 0 := by omega
    have z2 : b = 0 := by omega
    subst z1; subst z2
    decide +kernel
  · have hd := FP.Core.dadd_int ha hb (by omega)
    exact FP.Core.dint_unique (i := ((a : Int) + (b : Int))) (by omega) hd (by rw [← Int.natCast_add]; exact hc)
theorem fp_zero : FP.dconst0 = FP.i2d (Int32.ofNat 0) := by decide +kernel
theorem fp_div (a b : Int32) (h : ¬ b = 0) : FP.Core.dIsNaN (FP.ddiv (FP.i2d a) (FP.i2d b)) = false := by
  refine FP.Core.ddiv_out (fp_i2d a) (FP.Core.i2d_fin b) ?_
  rintro ⟨s, q, hz⟩
  have h1 := FP.Core.i2d_int b
  unfold FP.Core.DInt at h1
  rw [hz] at h1
  have h2 := (FP.Core.whole_zero h1).mp rfl
  exact h (by rw [← Int32.toInt_inj]; exact h2)
section FPR
variable {m i pc ln r1 r2 r3 : Nat} {ls : PV} {st : List Value} {X : XS} {Q : PO → XS → Prop} {M : PMet}
theorem AT.dadd {x y v : UInt64} (hM : qPT m = M) (hr : M.1[i]? = some (pc, .dadd, ln, r1, r2, r3)) (hv : FP.dadd x y = v) (hn : FP.Core.dIsNaN v = false) (k : AT m (i + 1) ls (.double v :: st) X Q) : AT m i ls (.double y :: .double x :: st) X Q := AT.plain hM hr rfl (fun _ => by subst hv; exact if_pos (fp_nn hn)) k
theorem AT.ddiv {x y v : UInt64} (hM : qPT m = M) (hr : M.1[i]? = some (pc, .ddiv, ln, r1, r2, r3)) (hv : FP.ddiv x y = v) (hn : FP.Core.dIsNaN v = false) (k : AT m (i + 1) ls (.double v :: st) X Q) : AT m i ls (.double y :: .double x :: st) X Q := AT.plain hM hr rfl (fun _ => by subst hv; exact if_pos (fp_nn hn)) k
end FPR
/-- the sum of what is committed by those that are up -/
def sComN (K : KK) : Nat → Nat
  | 0 => 0
  | n + 1 => sComN K n + (if ¬ K.1 4 n 0 = 0 then kC K n else 0)
def sMean (K : KK) : UInt64 := if sUp K = 0 then FP.dconst0 else FP.ddiv (FP.i2d (Int32.ofNat (sComN K 7))) (FP.i2d (sUp K))
theorem sComN_le {K : KK} (hk : ∀ i, i < 7 → sOk K i) : ∀ n, n ≤ 7 → sComN K n ≤ n * 400000
  | 0, _ => Nat.le_refl _
  | n + 1, h => by
    have h1 := sComN_le hk n (by omega)
    have h2 := (hk n (by omega)).2.2.2.1
    have h3 := (hk n (by omega)).2.2.2.2.1
    have e : sComN K (n + 1) = sComN K n + (if ¬ K.1 4 n 0 = 0 then kC K n else 0) := rfl
    by_cases c : ¬ K.1 4 n 0 = 0
    · rw [if_pos c] at e; omega
    · rw [if_neg c] at e; omega
theorem l_159 {X : XS} (hk : ∀ i, i < 7 → sOk (xK X 0) i) : ∀ k q : Nat, q + k = 7 → ∀ x7 : Option Value, AT 159 13 [some (.ref 1), some (.double (FP.i2d (Int32.ofNat (sComN (xK X 0) q)))), none, some (.int (sCntF (fun i => decide (¬ (xK X 0).1 4 i 0 = 0)) q)), some (.ref (aB 0 + 1)), some (.int (Int32.ofNat 7)), some (.int (Int32.ofNat q)), x7] [] X (fun o' Y => o' = .inl (some (.double (sMean (xK X 0)))) ∧ Y = X)
  | 0, q, hq, x7 => by
    refine AT.iload M_159 rfl rfl ?_
    refine AT.iload M_159 rfl rfl ?_
    refine AT.icmp_ge M_159 rfl (fun b15 => ?_) (fun b15 => absurd (by rw [show q = 7 by omega]; exact Int32.le_refl _) b15)
    have e7 : q = 7 := by omega
    subst e7
    refine AT.iload_n M_159 rfl rfl ?_
    refine AT.if_ne M_159 rfl (fun b33 => ?_) (fun b33 => ?_)
    · refine AT.dload_n M_159 rfl rfl ?_
      refine AT.iload_n M_159 rfl rfl ?_
      refine AT.i2d M_159 rfl ?_
      refine AT.ddiv M_159 rfl rfl (fp_div _ _ b33) ?_
      refine AT.dret M_159 rfl rfl ?_
      rw [show sMean (xK X 0) = FP.ddiv (FP.i2d (Int32.ofNat (sComN (xK X 0) 7))) (FP.i2d (sUp (xK X 0))) from if_neg (show ¬ sCntF (fun i => decide (¬ (xK X 0).1 4 i 0 = 0)) 7 = 0 from b33)]
      exact ⟨rfl, rfl⟩
    · refine AT.dconst M_159 rfl ?_
      refine AT.goto M_159 rfl ?_
      refine AT.dret M_159 rfl rfl ?_
      rw [show sMean (xK X 0) = FP.dconst0 from if_pos (Classical.not_not.mp b33)]
      exact ⟨rfl, rfl⟩
  | k + 1, q, hq, x7 => by
    have ho : (0 : Nat) < 2 := by decide
    have hq7 : q < 7 := by omega
    have hS : ∀ n, n ≤ 7 → sComN (xK X 0) n ≤ 2800000 := fun n hn => by have := sComN_le hk n hn; omega
    refine AT.iload M_159 rfl rfl ?_
    refine AT.iload M_159 rfl rfl ?_
    refine AT.icmp_ge M_159 rfl (fun b15 => absurd ((i32_le (b := q) (a := 7) (by omega) (by omega)).mp b15) (by omega)) (fun b15 => ?_)
    refine AT.aload M_159 rfl rfl ?_
    refine AT.iload M_159 rfl rfl ?_
    refine AT.a_svs M_159 rfl rfl (by assumption) (by assumption) ?_
    refine AT.ast7 M_159 rfl rfl ?_
    refine AT.aload M_159 rfl rfl ?_
    refine AT.f_6_4 M_159 rfl (by assumption) (by assumption) ?_
    refine AT.if_eq M_159 rfl (fun b22 => ?_) (fun b22 => ?_)
    · have e1 : sComN (xK X 0) (q + 1) = sComN (xK X 0) q := by show _ + (if _ then _ else _) = _; rw [if_neg (not_not_intro b22)]; rfl
      have e2 : sCntF (fun i => decide (¬ (xK X 0).1 4 i 0 = 0)) (q + 1) = sCntF (fun i => decide (¬ (xK X 0).1 4 i 0 = 0)) q := sCntF_f (decide_eq_false (not_not_intro b22))
      refine AT.iinc6 M_159 rfl rfl (i32_succ _) ?_
      refine AT.goto M_159 rfl ?_
      rw [← e1, ← e2]
      exact l_159 hk k (q + 1) (by omega) _
    · refine AT.dload_n M_159 rfl rfl ?_
      refine AT.aload M_159 rfl rfl ?_
      refine AT.f_6_15 M_159 rfl ho hq7 ?_
      rw [(hk q hq7).2.1]
      refine AT.i2d M_159 rfl ?_
      refine AT.dadd M_159 rfl (fp_sum (by have := hS q (by omega); have := (hk q hq7).2.2.2.1; have := (hk q hq7).2.2.2.2.1; omega)) (fp_i2d _) ?_
      refine AT.dst1 M_159 rfl rfl ?_
      refine AT.iinc3 M_159 rfl rfl rfl ?_
      have e1 : sComN (xK X 0) (q + 1) = sComN (xK X 0) q + kC (xK X 0) q := by show _ + (if _ then _ else _) = _; rw [if_pos b22]
      have e2 : sCntF (fun i => decide (¬ (xK X 0).1 4 i 0 = 0)) (q + 1) = sCntF (fun i => decide (¬ (xK X 0).1 4 i 0 = 0)) q + Int32.ofInt 1 := sCntF_t (decide_eq_true b22)
      refine AT.iinc6 M_159 rfl rfl (i32_succ _) ?_
      refine AT.goto M_159 rfl ?_
      rw [← e1, ← e2]
      exact l_159 hk k (q + 1) (by omega) _
theorem c_159 {X : XS} (hk : ∀ i, i < 7 → sOk (xK X 0) i) : RT 159 [some (.ref 1), none, none, none, none, none, none, none] X (some (.double (sMean (xK X 0)))) X := by
  have ho : (0 : Nat) < 2 := by decide
  refine AT.dconst M_159 rfl ?_
  refine AT.dst1 M_159 rfl rfl ?_
  refine AT.iconst M_159 rfl (v := 0) (by decide) ?_
  refine AT.ist3 M_159 rfl rfl ?_
  refine AT.aload_n M_159 rfl rfl ?_
  refine AT.f_9_0 M_159 rfl ?_
  refine AT.f_1_0 M_159 rfl (by assumption) ?_
  refine AT.ast4 M_159 rfl rfl ?_
  refine AT.aload M_159 rfl rfl ?_
  refine AT.l_svs M_159 rfl (by assumption) ?_
  refine AT.ist5 M_159 rfl rfl ?_
  refine AT.iconst M_159 rfl (v := 0) (by decide) ?_
  refine AT.ist6 M_159 rfl rfl ?_
  rw [fp_zero]
  exact l_159 hk 7 0 rfl _
