/-! ===== THE LAW'S SMALL METHODS ===== -/
def bel (x : Int32) (n : Nat) : Nat := (x &&& 2147483647).toInt.toNat % n
theorem bel_lt {x : Int32} {n : Nat} (h : 0 < n) : bel x n < n := Nat.mod_lt _ h
theorem i32_and (x : Int32) : ∃ k : Nat, k < 2147483648 ∧ x &&& 2147483647 = Int32.ofNat k ∧ (x &&& 2147483647).toInt.toNat = k := by
  have h0 : 0 ≤ (x &&& 2147483647).toInt := by
    have h1 : (x.toBitVec &&& 2147483647#32).msb = false := by
      rw [BitVec.msb_and]
      have : (2147483647#32).msb = false := by decide
      rw [this, Bool.and_false]
    rw [BitVec.msb_eq_toInt] at h1
    have h2 := of_decide_eq_false h1
    exact Int.not_lt.mp h2
  have h9 : (x &&& 2147483647).toInt < 2147483648 := Int32.toInt_lt _
  refine ⟨(x &&& 2147483647).toInt.toNat, by omega, ?_, rfl⟩
  refine Int32.toInt_inj.mp ?_
  rw [i32_int (by omega)]
  omega
theorem i32_div {a n : Nat} (ha : a < 2147483648) (hn : n < 2147483648) : Int32.ofNat a / Int32.ofNat n = Int32.ofNat (a / n) := by
  refine Int32.toInt_inj.mp ?_
  have hq : a / n ≤ a := Nat.div_le_self a n
  rw [Int32.toInt_div, i32_int ha, i32_int hn, i32_int (by omega), ← Int.ofNat_tdiv]
  generalize a / n = q at hq ⊢
  exact Int.bmod_eq_of_le (by omega) (by omega)
theorem bel_ok (x : Int32) {n : Nat} (hn : n < 2147483648) : (x &&& 2147483647) - (x &&& 2147483647) / Int32.ofNat n * Int32.ofNat n = Int32.ofNat (bel x n) := by
  obtain ⟨k, h1, h2, h3⟩ := i32_and x
  unfold bel
  rw [h3, h2, i32_div h1 hn, ← Int32.ofNat_mul, i32_subn (Nat.div_mul_le_self k n)]
  congr 1
  have := Nat.div_add_mod k n
  rw [Nat.mul_comm] at this
  omega
theorem c_322 {X : XS} (x : Int32) {n : Nat} (h0 : 0 < n) (hn : n < 2147483648) : RT 322 [some (.int x), some (.int (Int32.ofNat n))] X (some (.int (Int32.ofNat (bel x n)))) X := by
  refine AT.iload_n M_322 rfl rfl ?_
  refine AT.ldc M_322 rfl rfl rfl ?_
  refine AT.iand M_322 rfl rfl ?_
  refine AT.iload_n M_322 rfl rfl ?_
  refine AT.irem M_322 rfl (by rw [show (0 : Int32) = Int32.ofNat 0 from rfl, i32_eq hn (by omega)]; omega) (bel_ok x hn) ?_
  refine AT.iret M_322 rfl rfl ?_
  exact ⟨rfl, rfl⟩
theorem c_323 {X : XS} {k : Nat} (hk : k < 100) (hL : (xC X).1 ≤ 260) : ∃ v, RT 323 [some (.ref 0), some (.int (Int32.ofNat k))] X (some (.int v)) X := by
  by_cases hl : k < (xC X).1
  · refine ⟨(xC X).2 k, ?_⟩
    refine AT.iload_n M_323 rfl rfl ?_
    refine AT.aload_n M_323 rfl rfl ?_
    refine AT.al M_323 rfl (fun g hg => ⟨by rw [hg.2.2.2.2.1.2.2.2.1]; omega, hg.2.2.2.2.1.2.2.2.2.1⟩) ?_
    refine AT.icmp_ge M_323 rfl (fun b => absurd ((i32_le (by omega) (by omega)).mp b) (by omega)) (fun b => ?_)
    refine AT.aload_n M_323 rfl rfl ?_
    refine AT.iload_n M_323 rfl rfl ?_
    refine AT.ia M_323 rfl rfl hl (by omega) (fun g hg => ⟨Or.inr hg.2.2.2.2.1.2.2.2.1, hg.2.2.2.2.1.2.2.2.2.1⟩) (fun g hg => hg.2.2.2.2.1.2.2.2.2.2 k hl) ?_
    refine AT.goto M_323 rfl ?_
    refine AT.iret M_323 rfl rfl ?_
    exact ⟨rfl, rfl⟩
  · refine ⟨Int32.ofNat 790386105 * (Int32.ofNat k + 3), ?_⟩
    refine AT.iload_n M_323 rfl rfl ?_
    refine AT.aload_n M_323 rfl rfl ?_
    refine AT.al M_323 rfl (fun g hg => ⟨by rw [hg.2.2.2.2.1.2.2.2.1]; omega, hg.2.2.2.2.1.2.2.2.2.1⟩) ?_
    refine AT.icmp_ge M_323 rfl (fun b => ?_) (fun b => absurd ((i32_le (by omega) (by omega)).mpr (by omega)) b)
    refine AT.ldc M_323 rfl rfl rfl ?_
    refine AT.iload_n M_323 rfl rfl ?_
    refine AT.iconst M_323 rfl (v := 3) (by decide) ?_
    refine AT.iadd M_323 rfl rfl ?_
    refine AT.imul M_323 rfl rfl ?_
    refine AT.iret M_323 rfl rfl ?_
    exact ⟨rfl, rfl⟩
