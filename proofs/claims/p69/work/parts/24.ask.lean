theorem i32_pred {n : Nat} (h : 0 < n) : Int32.ofNat n - 1 = Int32.ofNat (n - 1) := by
  obtain ⟨k, rfl⟩ : ∃ k, n = k + 1 := ⟨n - 1, by omega⟩
  rw [Nat.add_sub_cancel, Int32.ofNat_add]
  exact (by grind : ∀ u : Int32, u + 1 - 1 = u) _
/-- a log of the class is not longer than its room -/
theorem AT.lenB {X : XS} {o s m i : Nat} {ls : PV} {st : List Value} {Q : PO → XS → Prop} (ho : o < 2) (hs : s < 7) (k : ((xK X o).2.1 s).length ≤ dR (xD X) o s → dR (xD X) o s ≤ 1048576 → AT m i ls st X Q) : AT m i ls st X Q := by
  intro g hg
  obtain ⟨h1, h2, h3, h4, h5, h6, h7, -⟩ := hg.2.2.2.2.2.2.2.1 o s ho hs
  exact k h5 h7 g hg
/-! ===== QUESTIONS TO A SERVER OF THE CLASS ===== -/
/-- what is kept beside is what the logs say -/
def mOk (X : XS) (o : Nat) : Prop := ∀ i, i < 7 → dV (xD X) o 10 i 0 = sMem (xK X o) i ∧ dV (xD X) o 11 i 0 = sMix (xK X o) i ∧ ∃ n : Nat, n < 128 ∧ sMem (xK X o) i = Int32.ofNat n
theorem c_61 {X : XS} {o s : Nat} (ho : o < 2) (hs : s < 7) : RT 61 [some (.ref (aS o s))] X (some (.int (sPat s ((xK X o).1 5 s 0)))) X := by
  refine AT.bipush M_61 rfl (v := 6) (by decide) ?_
  refine AT.iconst M_61 rfl (v := 3) (by decide) ?_
  refine AT.aload_n M_61 rfl rfl ?_
  refine AT.f_6_0 M_61 rfl (by assumption) (by assumption) ?_
  refine AT.imul M_61 rfl rfl ?_
  refine AT.iconst M_61 rfl (v := 5) (by decide) ?_
  refine AT.aload_n M_61 rfl rfl ?_
  refine AT.f_6_5 M_61 rfl (by assumption) (by assumption) ?_
  refine AT.imul M_61 rfl rfl ?_
  refine AT.iadd M_61 rfl rfl ?_
  refine AT.bipush M_61 rfl (v := 7) (by decide) ?_
  refine AT.irem M_61 rfl (by decide) rfl ?_
  refine AT.iadd M_61 rfl rfl ?_
  refine AT.iret M_61 rfl rfl ?_
  exact ⟨rfl, rfl⟩
theorem c_62 {X : XS} {o s : Nat} (ho : o < 2) (hs : s < 7) : RT 62 [some (.ref (aS o s))] X (some (.int (sLast (xK X o) s))) X := by
  refine AT.aload_n M_62 rfl rfl ?_
  refine AT.f_6_9 M_62 rfl (by assumption) (by assumption) (fun p1 hp1 => ?_)
  refine AT.f_7_0 M_62 rfl (by assumption) ?_
  refine AT.aload_n M_62 rfl rfl ?_
  refine AT.f_6_8 M_62 rfl (by assumption) (by assumption) ?_
  refine AT.iadd M_62 rfl rfl ?_
  refine AT.iret M_62 rfl rfl ?_
  exact ⟨rfl, rfl⟩
theorem c_63 {X : XS} {o s : Nat} (ho : o < 2) (hs : s < 7) : RT 63 [some (.ref (aS o s))] X (some (.int (sLastT (xK X o) s))) X := by
  cases hg : ((xK X o).2.1 s).getLast? with
  | none =>
    have hz : ((xK X o).2.1 s).length = 0 := by rw [List.getLast?_eq_none_iff.mp hg]; rfl
    refine AT.aload_n M_63 rfl rfl ?_
    refine AT.f_6_8 M_63 rfl (by assumption) (by assumption) ?_
    refine AT.if_le M_63 rfl (fun b2 => ?_) (fun b2 => ?_)
    · refine AT.aload_n M_63 rfl rfl ?_
      refine AT.f_6_9 M_63 rfl (by assumption) (by assumption) (fun p19 hp19 => ?_)
      refine AT.f_7_1 M_63 rfl (by assumption) ?_
      refine AT.iret M_63 rfl rfl ?_
      exact ⟨congrArg (fun z => (Sum.inl (some (Value.int z)) : PO)) (by unfold sLastT; rw [hg]), rfl⟩
    · exact absurd (by rw [hz]; decide) b2
  | some e =>
    have hne : (xK X o).2.1 s ≠ [] := fun z => by rw [z] at hg; cases hg
    have hp : 0 < ((xK X o).2.1 s).length := List.length_pos_iff.mpr hne
    have hj : ((xK X o).2.1 s)[((xK X o).2.1 s).length - 1]? = some e := by rw [← List.getLast?_eq_getElem?]; exact hg
    refine AT.lenB ho hs (fun hlen hle => ?_)
    have hix : Int32.ofNat ((xK X o).2.1 s).length - 1 = Int32.ofNat (((xK X o).2.1 s).length - 1) := i32_pred hp
    refine AT.aload_n M_63 rfl rfl ?_
    refine AT.f_6_8 M_63 rfl (by assumption) (by assumption) ?_
    refine AT.if_le M_63 rfl (fun b2 => ?_) (fun b2 => ?_)
    · exact absurd b2 (by rw [show (0 : Int32) = Int32.ofNat 0 from rfl, i32_le (by omega) (by omega)]; omega)
    · refine AT.aload_n M_63 rfl rfl ?_
      refine AT.f_6_8 M_63 rfl (by assumption) (by assumption) ?_
      refine AT.aload_n M_63 rfl rfl ?_
      refine AT.f_6_7 M_63 rfl (by assumption) (by assumption) ?_
      refine AT.l_log M_63 rfl (by assumption) (by assumption) (fun hl7 hm7 => ?_)
      refine AT.icmp_gt M_63 rfl (fun b8 => ?_) (fun b8 => ?_)
      · exact absurd b8 (by rw [Int32.not_lt, i32_le (by omega) (by omega)]; omega)
      · refine AT.aload_n M_63 rfl rfl ?_
        refine AT.f_6_7 M_63 rfl (by assumption) (by assumption) ?_
        refine AT.aload_n M_63 rfl rfl ?_
        refine AT.f_6_8 M_63 rfl (by assumption) (by assumption) ?_
        refine AT.iconst M_63 rfl (v := 1) (by decide) ?_
        refine AT.isub M_63 rfl rfl ?_
        refine AT.a_log M_63 rfl hix (by assumption) (by assumption) hj (fun p15 he15 => ?_)
        refine AT.f_2_0 M_63 rfl (by assumption) ?_
        refine AT.goto M_63 rfl ?_
        refine AT.iret M_63 rfl rfl ?_
        exact ⟨congrArg (fun z => (Sum.inl (some (Value.int z)) : PO)) (by unfold sLastT; rw [hg]), rfl⟩
