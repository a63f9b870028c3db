/-! ===== HOW FAR TWO LOGS AGREE ===== -/
/-- the last index up to which the terms agree, from x on, f steps at most -/
def sAgrN (K K' : KK) (s t : Nat) : Nat → Nat → Nat
  | 0, x => x
  | f + 1, x => if sTix K s (Int32.ofNat (x + 1)) = sTix K' t (Int32.ofNat (x + 1)) then sAgrN K K' s t f (x + 1) else x
theorem l_73 {X : XS} {o s o' t : Nat} (ho : o < 2) (hs : s < 7) (ho2 : o' < 2) (ht : t < 7) (hw : kWf (xK X o) s) (hw2 : kWf (xK X o') t) {m : Nat} (hm : m < 16777216) : ∀ n x : Nat, x + n = m → AT 73 19 [some (.ref (aS o s)), some (.ref (aS o' t)), some (.int (Int32.ofNat m)), some (.int (Int32.ofNat x))] [] X (fun o'' Y => o'' = .inl (some (.int (Int32.ofNat (sAgrN (xK X o) (xK X o') s t n x)))) ∧ Y = X)
  | 0, x, hx => by
    refine AT.iload_n M_73 rfl rfl ?_
    refine AT.iload_n M_73 rfl rfl ?_
    refine AT.icmp_ge M_73 rfl (fun b21 => ?_) (fun b21 => ?_)
    · refine AT.iload_n M_73 rfl rfl ?_
      refine AT.iret M_73 rfl rfl ?_
      exact ⟨rfl, rfl⟩
    · exact absurd (by rw [show x = m by omega]; exact Int32.le_refl _) b21
  | n + 1, x, hx => by
    refine AT.iload_n M_73 rfl rfl ?_
    refine AT.iload_n M_73 rfl rfl ?_
    refine AT.icmp_ge M_73 rfl (fun b21 => ?_) (fun b21 => ?_)
    · exact absurd ((i32_le (by omega) (by omega)).mp b21) (by omega)
    · refine AT.aload_n M_73 rfl rfl ?_
      refine AT.iload_n M_73 rfl rfl ?_
      refine AT.iconst M_73 rfl (v := 1) (by decide) ?_
      refine AT.iadd M_73 rfl (i32_succ x) ?_
      refine AT.cv2i M_73 rfl M_65 rfl (Nat.le_of_ble_eq_true rfl) (xKd.of (shp_sv (by assumption) (by assumption))) (by decide) (c_65 ho hs hw) ?_ (Nat.le_of_ble_eq_true rfl) rfl
      refine AT.aload_n M_73 rfl rfl ?_
      refine AT.iload_n M_73 rfl rfl ?_
      refine AT.iconst M_73 rfl (v := 1) (by decide) ?_
      refine AT.iadd M_73 rfl (i32_succ x) ?_
      refine AT.cv2i M_73 rfl M_65 rfl (Nat.le_of_ble_eq_true rfl) (xKd.of (shp_sv (by assumption) (by assumption))) (by decide) (c_65 ho2 ht hw2) ?_ (Nat.le_of_ble_eq_true rfl) rfl
      refine AT.icmp_ne M_73 rfl (fun b32 => ?_) (fun b32 => ?_)
      · refine AT.iload_n M_73 rfl rfl ?_
        refine AT.iret M_73 rfl rfl ?_
        have e : sAgrN (xK X o) (xK X o') s t (n + 1) x = x := if_neg b32
        rw [e]
        exact ⟨rfl, rfl⟩
      · refine AT.iinc3 M_73 rfl rfl (i32_succ x) ?_
        refine AT.goto M_73 rfl ?_
        have e : sAgrN (xK X o) (xK X o') s t (n + 1) x = sAgrN (xK X o) (xK X o') s t n (x + 1) := if_pos (Classical.not_not.mp b32)
        rw [e]
        exact l_73 ho hs ho2 ht hw hw2 hm n (x + 1) (by omega)
theorem c_73 {X : XS} {o s o' t : Nat} (ho : o < 2) (hs : s < 7) (ho2 : o' < 2) (ht : t < 7) {a a2 : Nat} (ha : (xK X o).1 18 s 0 = Int32.ofNat a) (hl : a + ((xK X o).2.1 s).length < 16777216) (ha2 : (xK X o').1 18 t 0 = Int32.ofNat a2) (hl2 : a2 + ((xK X o').2.1 t).length < 16777216) : RT 73 [some (.ref (aS o s)), some (.ref (aS o' t)), none, none] X (some (.int (if min (a + ((xK X o).2.1 s).length) (a2 + ((xK X o').2.1 t).length) ≤ max a a2 then Int32.ofNat (min (a + ((xK X o).2.1 s).length) (a2 + ((xK X o').2.1 t).length)) else Int32.ofNat (sAgrN (xK X o) (xK X o') s t (min (a + ((xK X o).2.1 s).length) (a2 + ((xK X o').2.1 t).length) - max a a2) (max a a2))))) X := by
  obtain ⟨b, hbb⟩ : ∃ b, b = a + ((xK X o).2.1 s).length := ⟨_, rfl⟩
  obtain ⟨b2, hbb2⟩ : ∃ b2, b2 = a2 + ((xK X o').2.1 t).length := ⟨_, rfl⟩
  have hb : sLast (xK X o) s = Int32.ofNat b := by unfold sLast; rw [ha, hbb, Int32.ofNat_add]
  have hb2 : sLast (xK X o') t = Int32.ofNat b2 := by unfold sLast; rw [ha2, hbb2, Int32.ofNat_add]
  rw [← hbb, ← hbb2]
  have hmin : (if Int32.ofNat b2 < Int32.ofNat b then Int32.ofNat b2 else Int32.ofNat b) = Int32.ofNat (min b b2) := by
    by_cases h : b2 < b
    · rw [if_pos ((i32_lt (by omega) (by omega)).mpr h), Nat.min_eq_right (by omega)]
    · rw [if_neg (fun z => h ((i32_lt (by omega) (by omega)).mp z)), Nat.min_eq_left (by omega)]
  have hmax : (if Int32.ofNat a < Int32.ofNat a2 then Int32.ofNat a2 else Int32.ofNat a) = Int32.ofNat (max a a2) := by
    by_cases h : a < a2
    · rw [if_pos ((i32_lt (by omega) (by omega)).mpr h), Nat.max_eq_right (by omega)]
    · rw [if_neg (fun z => h ((i32_lt (by omega) (by omega)).mp z)), Nat.max_eq_left (by omega)]
  refine AT.aload_n M_73 rfl rfl ?_
  refine AT.cv1i M_73 rfl M_62 rfl (Nat.le_of_ble_eq_true rfl) (xKd.of (shp_sv (by assumption) (by assumption))) (by decide) (c_62 ho hs) ?_ (Nat.le_of_ble_eq_true rfl) rfl
  refine AT.aload_n M_73 rfl rfl ?_
  refine AT.cv1i M_73 rfl M_62 rfl (Nat.le_of_ble_eq_true rfl) (xKd.of (shp_sv (by assumption) (by assumption))) (by decide) (c_62 ho2 ht) ?_ (Nat.le_of_ble_eq_true rfl) rfl
  rw [hb, hb2]
  refine AT.min M_73 rfl rfl (Nat.le_of_ble_eq_true rfl) (v := Int32.ofNat (min b b2)) hmin ?_
  refine AT.ist2 M_73 rfl rfl ?_
  refine AT.aload_n M_73 rfl rfl ?_
  refine AT.f_6_9 M_73 rfl (by assumption) (by assumption) (fun p7 hp7 => ?_)
  refine AT.f_7_0 M_73 rfl (by assumption) ?_
  refine AT.aload_n M_73 rfl rfl ?_
  refine AT.f_6_9 M_73 rfl (by assumption) (by assumption) (fun p10 hp10 => ?_)
  refine AT.f_7_0 M_73 rfl (by assumption) ?_
  rw [ha, ha2]
  refine AT.max M_73 rfl rfl (Nat.le_of_ble_eq_true rfl) (v := Int32.ofNat (max a a2)) hmax ?_
  refine AT.ist3 M_73 rfl rfl ?_
  refine AT.iload_n M_73 rfl rfl ?_
  refine AT.iload_n M_73 rfl rfl ?_
  refine AT.icmp_gt M_73 rfl (fun b16 => ?_) (fun b16 => ?_)
  · have hlt : max a a2 < min b b2 := (i32_lt (by omega) (by omega)).mp (by first | exact b16 | exact Int32.not_le.mp b16)
    rw [if_neg (by omega)]
    exact l_73 ho hs ho2 ht ⟨a, ha, hl⟩ ⟨a2, ha2, hl2⟩ (by omega) (min b b2 - max a a2) (max a a2) (by omega)
  · refine AT.iload_n M_73 rfl rfl ?_
    refine AT.iret M_73 rfl rfl ?_
    have hle : min b b2 ≤ max a a2 := (i32_le (by omega) (by omega)).mp (by first | exact b16 | exact Int32.not_lt.mp b16)
    rw [if_pos hle]
    exact ⟨rfl, rfl⟩
