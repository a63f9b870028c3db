/-! ===== QUESTIONS TO A SERVER OF THE CLASS, on ===== -/
theorem AT.cong {m i : Nat} {ls ls' : PV} {st : List Value} {X : XS} {Q : PO → XS → Prop} (h : ls = ls') (k : AT m i ls' st X Q) : AT m i ls st X Q := by rw [h]; exact k
theorem i32_31 {j : Nat} (h : j < 7) : Int32.ofNat j &&& 31 = Int32.ofNat j := by
  rcases (show j = 0 ∨ j = 1 ∨ j = 2 ∨ j = 3 ∨ j = 4 ∨ j = 5 ∨ j = 6 by omega) with rfl | rfl | rfl | rfl | rfl | rfl | rfl <;> decide
theorem i32_shr {x : Int32} {j : Nat} (h : j < 7) : x >>> (Int32.ofNat j &&& 31) = x >>> Int32.ofNat j := by rw [i32_31 h]
theorem i32_succ (j : Nat) : Int32.ofNat j + Int32.ofInt 1 = Int32.ofNat (j + 1) := by rw [Int32.ofNat_add]; rfl
theorem i32_ge7 {j : Nat} (h : j < 7) : ¬ (7 : Int32) ≤ Int32.ofNat j := by
  rw [show (7 : Int32) = Int32.ofNat 7 from rfl, i32_le (by omega) (by omega)]; omega
def sSum (f : Nat → Int32) : Nat → Int32
  | 0 => 0
  | n + 1 => sSum f n + f n
/-- what Integer.bitCount computes -/
def jBits (x : Int32) : Int32 :=
  let a := x - ((x.toUInt32 >>> ((1 : Int32).toUInt32 &&& Int32.toUInt32 31)).toInt32 &&& 1431655765)
  let b := (a &&& 858993459) + ((a.toUInt32 >>> ((2 : Int32).toUInt32 &&& Int32.toUInt32 31)).toInt32 &&& 858993459)
  let c := (b + (b.toUInt32 >>> ((4 : Int32).toUInt32 &&& Int32.toUInt32 31)).toInt32) &&& 252645135
  let d := c + (c.toUInt32 >>> ((8 : Int32).toUInt32 &&& Int32.toUInt32 31)).toInt32
  let e := d + (d.toUInt32 >>> ((16 : Int32).toUInt32 &&& Int32.toUInt32 31)).toInt32
  e &&& 63
set_option maxRecDepth 100000 in
theorem jBits_all : (List.range 128).all (fun n => jBits (Int32.ofNat n) == sCnt (Int32.ofNat n)) = true := by decide +kernel
theorem jBits_eq {n : Nat} (h : n < 128) : jBits (Int32.ofNat n) = sCnt (Int32.ofNat n) := by
  have := List.all_eq_true.mp jBits_all n (List.mem_range.mpr h)
  simpa using this
theorem c_379 {X : XS} {n : Nat} (hn : n < 128) : RT 379 [some (.int (Int32.ofNat n))] X (some (.int (sCnt (Int32.ofNat n)))) X := by
  refine AT.iload_n M_379 rfl rfl ?_
  refine AT.iload_n M_379 rfl rfl ?_
  refine AT.iconst M_379 rfl (v := 1) (by decide) ?_
  refine AT.iushr M_379 rfl rfl ?_
  refine AT.ldc_w M_379 rfl rfl rfl ?_
  refine AT.iand M_379 rfl rfl ?_
  refine AT.isub M_379 rfl rfl ?_
  refine AT.ist0 M_379 rfl ?_
  refine AT.iload_n M_379 rfl rfl ?_
  refine AT.ldc_w M_379 rfl rfl rfl ?_
  refine AT.iand M_379 rfl rfl ?_
  refine AT.iload_n M_379 rfl rfl ?_
  refine AT.iconst M_379 rfl (v := 2) (by decide) ?_
  refine AT.iushr M_379 rfl rfl ?_
  refine AT.ldc_w M_379 rfl rfl rfl ?_
  refine AT.iand M_379 rfl rfl ?_
  refine AT.iadd M_379 rfl rfl ?_
  refine AT.ist0 M_379 rfl ?_
  refine AT.iload_n M_379 rfl rfl ?_
  refine AT.iload_n M_379 rfl rfl ?_
  refine AT.iconst M_379 rfl (v := 4) (by decide) ?_
  refine AT.iushr M_379 rfl rfl ?_
  refine AT.iadd M_379 rfl rfl ?_
  refine AT.ldc_w M_379 rfl rfl rfl ?_
  refine AT.iand M_379 rfl rfl ?_
  refine AT.ist0 M_379 rfl ?_
  refine AT.iload_n M_379 rfl rfl ?_
  refine AT.iload_n M_379 rfl rfl ?_
  refine AT.bipush M_379 rfl (v := 8) (by decide) ?_
  refine AT.iushr M_379 rfl rfl ?_
  refine AT.iadd M_379 rfl rfl ?_
  refine AT.ist0 M_379 rfl ?_
  refine AT.iload_n M_379 rfl rfl ?_
  refine AT.iload_n M_379 rfl rfl ?_
  refine AT.bipush M_379 rfl (v := 16) (by decide) ?_
  refine AT.iushr M_379 rfl rfl ?_
  refine AT.iadd M_379 rfl rfl ?_
  refine AT.ist0 M_379 rfl ?_
  refine AT.iload_n M_379 rfl rfl ?_
  refine AT.bipush M_379 rfl (v := 63) (by decide) ?_
  refine AT.iand M_379 rfl rfl ?_
  refine AT.iret M_379 rfl rfl ?_
  exact ⟨congrArg (fun z => (Sum.inl (some (Value.int z)) : PO)) (jBits_eq hn), rfl⟩
theorem c_64n {X : XS} {o s : Nat} (ho : o < 2) (hs : s < 7) {x : Int32} (hx : sEnt (xK X o) s x = none) (hw : kWf (xK X o) s) : RT 64 [some (.ref (aS o s)), some (.int x)] X (some .null) X := by
  refine AT.iload_n M_64 rfl rfl ?_
  refine AT.aload_n M_64 rfl rfl ?_
  refine AT.f_6_9 M_64 rfl (by assumption) (by assumption) (fun p2 hp2 => ?_)
  refine AT.f_7_0 M_64 rfl (by assumption) ?_
  refine AT.icmp_le M_64 rfl (fun b4 => ?_) (fun b4 => ?_)
  · refine AT.anull M_64 rfl ?_
    refine AT.aret0 M_64 rfl rfl ?_
    exact ⟨rfl, rfl⟩
  · refine AT.iload_n M_64 rfl rfl ?_
    refine AT.aload_n M_64 rfl rfl ?_
    refine AT.f_6_9 M_64 rfl (by assumption) (by assumption) (fun p7 hp7 => ?_)
    refine AT.f_7_0 M_64 rfl (by assumption) ?_
    refine AT.aload_n M_64 rfl rfl ?_
    refine AT.f_6_8 M_64 rfl (by assumption) (by assumption) ?_
    refine AT.iadd M_64 rfl rfl ?_
    refine AT.icmp_le M_64 rfl (fun b12 => ?_) (fun b12 => ?_)
    · obtain ⟨a, j, -, z2, z3, -, z5⟩ := hw.ix b4 b12
      exfalso
      unfold sEnt at hx
      rw [if_neg b4, if_pos (show x ≤ sLast (xK X o) s from b12), z5, (i32_ix (by omega)).1, List.getElem?_eq_getElem z3] at hx
      cases hx
    · refine AT.anull M_64 rfl ?_
      refine AT.aret0 M_64 rfl rfl ?_
      exact ⟨rfl, rfl⟩
theorem sEnt_some {K : KK} {i : Nat} {x : Int32} {e : ENT} (h : sEnt K i x = some e) (hw : kWf K i) : ¬ x ≤ K.1 18 i 0 ∧ x ≤ sLast K i ∧ ∃ j : Nat, x - K.1 18 i 0 - 1 = Int32.ofNat j ∧ (K.2.1 i)[j]? = some e := by
  unfold sEnt at h
  split at h
  · cases h
  · rename_i h1
    split at h
    · rename_i h2
      obtain ⟨a, j, z1, z2, z3, z4, z5⟩ := hw.ix h1 h2
      refine ⟨h1, h2, j, z5, ?_⟩
      rw [z5, (i32_ix (by omega)).1] at h
      exact h
    · cases h
theorem i32_nlt (z : Int32) : ¬ z < z := by rw [Int32.lt_iff_toInt_lt]; omega
theorem i32_cases {x y : Int32} (h : x ≤ y) : x < y ∨ x = y := by
  rw [Int32.le_iff_toInt_le] at h
  rw [Int32.lt_iff_toInt_lt, ← Int32.toInt_inj]
  omega
theorem sTix_lt {K : KK} {i : Nat} {x : Int32} (h : x < K.1 18 i 0) : sTix K i x = -1 := by
  unfold sTix sEnt
  rw [if_neg (fun z => by rw [z] at h; exact i32_nlt _ h), if_pos (Int32.le_of_lt h)]
theorem sTix_gt {K : KK} {i : Nat} {x : Int32} (hw : kWf K i) (h : ¬ x ≤ sLast K i) : sTix K i x = -1 := by
  have h1 : ¬ x ≤ K.1 18 i 0 := fun z => h (by
    obtain ⟨a, h3, h4⟩ := hw
    refine Int32.le_trans z ?_
    unfold sLast
    rw [h3, ← Int32.ofNat_add, i32_le (by omega) (by omega)]
    omega)
  unfold sTix sEnt
  rw [if_neg (fun z => h1 (by rw [z]; exact Int32.le_refl _)), if_neg h1, if_neg h]
theorem sTix_in {K : KK} {i : Nat} {x : Int32} (hw : kWf K i) (h1 : ¬ x < K.1 18 i 0) (h2 : x ≤ sLast K i) (h3 : ¬ x = K.1 18 i 0) : ∃ e, sEnt K i x = some e ∧ sTix K i x = e 0 := by
  have h4 : ¬ x ≤ K.1 18 i 0 := fun z => by
    rcases i32_cases z with y | y
    · exact h1 y
    · exact h3 y
  obtain ⟨a, j, z1, z2, z3, z4, z5⟩ := hw.ix h4 h2
  have e1 : sEnt K i x = some ((K.2.1 i)[j]) := by
    unfold sEnt
    rw [if_neg h4, if_pos h2, z5, (i32_ix (by omega)).1, List.getElem?_eq_getElem z3]
  refine ⟨_, e1, ?_⟩
  unfold sTix
  rw [if_neg h3, e1]
theorem c_64 {X : XS} {o s : Nat} (ho : o < 2) (hs : s < 7) {x : Int32} {e : ENT} (hx : sEnt (xK X o) s x = some e) (hw : kWf (xK X o) s) : RP 64 [some (.ref (aS o s)), some (.int x)] X (fun p => dE (xD X) p = (1, e)) := by
  obtain ⟨h1, h2, j, hy, hj⟩ := sEnt_some hx hw
  clear hx
  refine AT.iload_n M_64 rfl rfl ?_
  refine AT.aload_n M_64 rfl rfl ?_
  refine AT.f_6_9 M_64 rfl (by assumption) (by assumption) (fun p2 hp2 => ?_)
  refine AT.f_7_0 M_64 rfl (by assumption) ?_
  refine AT.icmp_le M_64 rfl (fun b4 => ?_) (fun b4 => ?_)
  · exact absurd b4 h1
  · refine AT.iload_n M_64 rfl rfl ?_
    refine AT.aload_n M_64 rfl rfl ?_
    refine AT.f_6_9 M_64 rfl (by assumption) (by assumption) (fun p7 hp7 => ?_)
    refine AT.f_7_0 M_64 rfl (by assumption) ?_
    refine AT.aload_n M_64 rfl rfl ?_
    refine AT.f_6_8 M_64 rfl (by assumption) (by assumption) ?_
    refine AT.iadd M_64 rfl rfl ?_
    refine AT.icmp_le M_64 rfl (fun b12 => ?_) (fun b12 => ?_)
    · refine AT.aload_n M_64 rfl rfl ?_
      refine AT.f_6_7 M_64 rfl (by assumption) (by assumption) ?_
      refine AT.iload_n M_64 rfl rfl ?_
      refine AT.aload_n M_64 rfl rfl ?_
      refine AT.f_6_9 M_64 rfl (by assumption) (by assumption) (fun p19 hp19 => ?_)
      refine AT.f_7_0 M_64 rfl (by assumption) ?_
      refine AT.isub M_64 rfl rfl ?_
      refine AT.iconst M_64 rfl (v := 1) (by decide) ?_
      refine AT.isub M_64 rfl rfl ?_
      refine AT.a_log M_64 rfl hy (by assumption) (by assumption) hj (fun p24 he24 => ?_)
      refine AT.aret M_64 rfl rfl ?_
      exact ⟨_, rfl, he24, rfl⟩
    · exact absurd h2 b12
theorem c_65 {X : XS} {o s : Nat} (ho : o < 2) (hs : s < 7) {x : Int32} (hw : kWf (xK X o) s) : RT 65 [some (.ref (aS o s)), some (.int x)] X (some (.int (sTix (xK X o) s x))) X := by
  refine AT.iload_n M_65 rfl rfl ?_
  refine AT.aload_n M_65 rfl rfl ?_
  refine AT.f_6_9 M_65 rfl (by assumption) (by assumption) (fun p2 hp2 => ?_)
  refine AT.f_7_0 M_65 rfl (by assumption) ?_
  refine AT.icmp_lt M_65 rfl (fun b4 => ?_) (fun b4 => ?_)
  · refine AT.iconst M_65 rfl (v := (-1)) (by decide) ?_
    refine AT.iret M_65 rfl rfl ?_
    exact ⟨congrArg (fun z => (Sum.inl (some (Value.int z)) : PO)) ((sTix_lt b4).symm), rfl⟩
  · refine AT.iload_n M_65 rfl rfl ?_
    refine AT.aload_n M_65 rfl rfl ?_
    refine AT.f_6_9 M_65 rfl (by assumption) (by assumption) (fun p7 hp7 => ?_)
    refine AT.f_7_0 M_65 rfl (by assumption) ?_
    refine AT.aload_n M_65 rfl rfl ?_
    refine AT.f_6_8 M_65 rfl (by assumption) (by assumption) ?_
    refine AT.iadd M_65 rfl rfl ?_
    refine AT.icmp_le M_65 rfl (fun b12 => ?_) (fun b12 => ?_)
    · refine AT.iload_n M_65 rfl rfl ?_
      refine AT.aload_n M_65 rfl rfl ?_
      refine AT.f_6_9 M_65 rfl (by assumption) (by assumption) (fun p17 hp17 => ?_)
      refine AT.f_7_0 M_65 rfl (by assumption) ?_
      refine AT.icmp_ne M_65 rfl (fun b19 => ?_) (fun b19 => ?_)
      · obtain ⟨e, he1, he2⟩ := sTix_in hw b4 b12 b19
        obtain ⟨-, -, j, hy, hj⟩ := sEnt_some he1 hw
        refine AT.aload_n M_65 rfl rfl ?_
        refine AT.f_6_7 M_65 rfl (by assumption) (by assumption) ?_
        refine AT.iload_n M_65 rfl rfl ?_
        refine AT.aload_n M_65 rfl rfl ?_
        refine AT.f_6_9 M_65 rfl (by assumption) (by assumption) (fun p28 hp28 => ?_)
        refine AT.f_7_0 M_65 rfl (by assumption) ?_
        refine AT.isub M_65 rfl rfl ?_
        refine AT.iconst M_65 rfl (v := 1) (by decide) ?_
        refine AT.isub M_65 rfl rfl ?_
        refine AT.a_log M_65 rfl hy (by assumption) (by assumption) hj (fun p33 he33 => ?_)
        refine AT.f_2_0 M_65 rfl (by assumption) ?_
        refine AT.iret M_65 rfl rfl ?_
        exact ⟨congrArg (fun z => (Sum.inl (some (Value.int z)) : PO)) (he2.symm), rfl⟩
      · refine AT.aload_n M_65 rfl rfl ?_
        refine AT.f_6_9 M_65 rfl (by assumption) (by assumption) (fun p21 hp21 => ?_)
        refine AT.f_7_1 M_65 rfl (by assumption) ?_
        refine AT.goto M_65 rfl ?_
        refine AT.iret M_65 rfl rfl ?_
        exact ⟨congrArg (fun z => (Sum.inl (some (Value.int z)) : PO)) (by unfold sTix; rw [if_pos (Classical.not_not.mp b19)]), rfl⟩
    · refine AT.iconst M_65 rfl (v := (-1)) (by decide) ?_
      refine AT.iret M_65 rfl rfl ?_
      exact ⟨congrArg (fun z => (Sum.inl (some (Value.int z)) : PO)) ((sTix_gt hw b12).symm), rfl⟩
theorem c_66 {X : XS} {o s : Nat} (ho : o < 2) (hs : s < 7) {j : Nat} {mm : Int32} (hj : j < 7) (hm : dV (xD X) o 10 s 0 = mm) : RT 66 [some (.ref (aS o s)), some (.int (Int32.ofNat j))] X (some (.int (bI (sBit mm j)))) X := by
  subst hm
  refine AT.aload_n M_66 rfl rfl ?_
  refine AT.f_6_10 M_66 rfl (by assumption) (by assumption) ?_
  refine AT.iload_n M_66 rfl rfl ?_
  refine AT.ishr M_66 rfl (i32_shr hj) ?_
  refine AT.iconst M_66 rfl (v := 1) (by decide) ?_
  refine AT.iand M_66 rfl rfl ?_
  refine AT.iconst M_66 rfl (v := 1) (by decide) ?_
  refine AT.icmp_ne M_66 rfl (fun b7 => ?_) (fun b7 => ?_)
  · refine AT.iconst M_66 rfl (v := 0) (by decide) ?_
    refine AT.zret M_66 rfl rfl (by first | exact Or.inl rfl | exact Or.inr rfl | assumption) ?_
    exact ⟨congrArg (fun z => (Sum.inl (some (Value.int z)) : PO)) (by unfold sBit; rw [decide_eq_false b7]; rfl), rfl⟩
  · refine AT.iconst M_66 rfl (v := 1) (by decide) ?_
    refine AT.goto M_66 rfl ?_
    refine AT.zret M_66 rfl rfl (by first | exact Or.inl rfl | exact Or.inr rfl | assumption) ?_
    exact ⟨congrArg (fun z => (Sum.inl (some (Value.int z)) : PO)) (by unfold sBit; rw [decide_eq_true (Classical.not_not.mp b7)]; rfl), rfl⟩
theorem c_67 {X : XS} {o s : Nat} (ho : o < 2) (hs : s < 7) {mm : Int32} (hm : dV (xD X) o 10 s 0 = mm) : RT 67 [some (.ref (aS o s))] X (some (.int (bI (sBit mm s)))) X := by
  subst hm
  refine AT.aload_n M_67 rfl rfl ?_
  refine AT.f_6_10 M_67 rfl (by assumption) (by assumption) ?_
  refine AT.aload_n M_67 rfl rfl ?_
  refine AT.f_6_0 M_67 rfl (by assumption) (by assumption) ?_
  refine AT.ishr M_67 rfl (i32_shr hs) ?_
  refine AT.iconst M_67 rfl (v := 1) (by decide) ?_
  refine AT.iand M_67 rfl rfl ?_
  refine AT.iconst M_67 rfl (v := 1) (by decide) ?_
  refine AT.icmp_ne M_67 rfl (fun b8 => ?_) (fun b8 => ?_)
  · refine AT.iconst M_67 rfl (v := 0) (by decide) ?_
    refine AT.zret M_67 rfl rfl (by first | exact Or.inl rfl | exact Or.inr rfl | assumption) ?_
    exact ⟨congrArg (fun z => (Sum.inl (some (Value.int z)) : PO)) (by unfold sBit; rw [decide_eq_false b8]; rfl), rfl⟩
  · refine AT.iconst M_67 rfl (v := 1) (by decide) ?_
    refine AT.goto M_67 rfl ?_
    refine AT.zret M_67 rfl rfl (by first | exact Or.inl rfl | exact Or.inr rfl | assumption) ?_
    exact ⟨congrArg (fun z => (Sum.inl (some (Value.int z)) : PO)) (by unfold sBit; rw [decide_eq_true (Classical.not_not.mp b8)]; rfl), rfl⟩
theorem i32_and7 (x : Int32) {n : Nat} (h : n < 128) : ∃ k : Nat, k < 128 ∧ x &&& Int32.ofNat n = Int32.ofNat k := by
  refine ⟨(x &&& Int32.ofNat n).toBitVec.toNat, ?_, ?_⟩
  · have h1 : (Int32.ofNat n).toBitVec.toNat = n := by
      show (BitVec.ofNat 32 n).toNat = n
      rw [BitVec.toNat_ofNat]; omega
    rw [Int32.toBitVec_and, BitVec.toNat_and, h1]
    exact Nat.lt_of_le_of_lt Nat.and_le_right h
  · apply Int32.toBitVec_inj.mp
    show _ = BitVec.ofNat 32 _
    simp
    rw [Nat.mod_eq_of_lt (by omega)]
theorem c_68 {X : XS} {o s : Nat} (ho : o < 2) (hs : s < 7) {mm : Int32} (hm : dV (xD X) o 10 s 0 = mm) (h7 : ∃ n : Nat, n < 128 ∧ mm = Int32.ofNat n) : RT 68 [some (.ref (aS o s))] X (some (.int (bI (sMost mm ((xK X o).1 16 s 0))))) X := by
  subst hm
  obtain ⟨n, hn, hmn⟩ := h7
  obtain ⟨kk, hk, hke⟩ := i32_and7 ((xK X o).1 16 s 0) hn
  rw [← hmn] at hke
  refine AT.iconst M_68 rfl (v := 2) (by decide) ?_
  refine AT.aload_n M_68 rfl rfl ?_
  refine AT.f_6_16 M_68 rfl (by assumption) (by assumption) ?_
  refine AT.aload_n M_68 rfl rfl ?_
  refine AT.f_6_10 M_68 rfl (by assumption) (by assumption) ?_
  refine AT.iand M_68 rfl hke ?_
  refine AT.cs1i M_68 rfl M_379 rfl (Nat.le_of_ble_eq_true rfl) rfl (c_379 hk) ?_ (Nat.le_of_ble_eq_true rfl) rfl
  refine AT.imul M_68 rfl rfl ?_
  refine AT.aload_n M_68 rfl rfl ?_
  refine AT.f_6_10 M_68 rfl (by assumption) (by assumption) ?_
  refine AT.cs1i M_68 rfl M_379 rfl (Nat.le_of_ble_eq_true rfl) rfl (hmn ▸ c_379 hn) ?_ (Nat.le_of_ble_eq_true rfl) rfl
  refine AT.icmp_le M_68 rfl (fun b11 => ?_) (fun b11 => ?_)
  · refine AT.iconst M_68 rfl (v := 0) (by decide) ?_
    refine AT.zret M_68 rfl rfl (by first | exact Or.inl rfl | exact Or.inr rfl | assumption) ?_
    exact ⟨congrArg (fun z => (Sum.inl (some (Value.int z)) : PO)) (by unfold sMost; rw [hke, decide_eq_false (Int32.not_lt.mpr b11)]; rfl), rfl⟩
  · refine AT.iconst M_68 rfl (v := 1) (by decide) ?_
    refine AT.goto M_68 rfl ?_
    refine AT.zret M_68 rfl rfl (by first | exact Or.inl rfl | exact Or.inr rfl | assumption) ?_
    exact ⟨congrArg (fun z => (Sum.inl (some (Value.int z)) : PO)) (by unfold sMost; rw [hke, decide_eq_true (Int32.not_le.mp b11)]; rfl), rfl⟩
