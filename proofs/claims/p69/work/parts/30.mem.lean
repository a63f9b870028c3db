/-! ===== MEMBERS, ENTRIES, WHERE TO GO ON ===== -/
theorem sMemL_app (l : List ENT) (e : ENT) : ∀ d : Int32, sMemL (l ++ [e]) d = if e 1 = 4 then e 6 else sMemL l d := by
  induction l with
  | nil => intro d; rfl
  | cons a t ih => intro d; exact ih _
theorem sMixL_app (l : List ENT) (e : ENT) (a : Int32) : ∀ (j : Nat) (d : Int32), sMixL (l ++ [e]) j a d = if e 1 = 4 then a + 1 + Int32.ofNat (j + l.length) else sMixL l j a d := by
  induction l with
  | nil => intro j d; rfl
  | cons b t ih =>
    intro j d
    show sMixL (t ++ [e]) (j + 1) a _ = _
    rw [ih (j + 1)]
    show (if e 1 = 4 then a + 1 + Int32.ofNat (j + 1 + t.length) else _) = if e 1 = 4 then a + 1 + Int32.ofNat (j + (t.length + 1)) else _
    rw [show j + 1 + t.length = j + (t.length + 1) by omega]
    rfl
theorem take_succ {l : List ENT} {n : Nat} {e : ENT} (h : l[n]? = some e) : l.take (n + 1) = l.take n ++ [e] := by
  rw [List.take_succ, h]; rfl
theorem dSetV_self (D : XD) (o f i j : Nat) : dSetV D o f i j (dV D o f i j) = D := by
  have : (fun a b c d => if a = o ∧ b = f ∧ c = i ∧ d = j then dV D o f i j else D.2.2.2.2.1 a b c d) = D.2.2.2.2.1 := by
    funext a b c d
    split
    · rename_i h; obtain ⟨rfl, rfl, rfl, rfl⟩ := h; rfl
    · rfl
  unfold dSetV
  rw [this]
theorem dSetV_4 (D : XD) (o s : Nat) (a b c d : Int32) : dSetV (dSetV (dSetV (dSetV D o 10 s 0 a) o 11 s 0 b) o 10 s 0 c) o 11 s 0 d = dSetV (dSetV D o 10 s 0 c) o 11 s 0 d := by
  unfold dSetV
  refine Prod.ext rfl (Prod.ext rfl (Prod.ext rfl (Prod.ext rfl (Prod.ext ?_ rfl))))
  funext p q r t
  dsimp only
  split
  · rfl
  · split
    · rfl
    · rfl
/-- the members as they are kept beside -/
def dMem (D : XD) (o s : Nat) (K : KK) : XD := dSetV (dSetV D o 10 s 0 (sMem K s)) o 11 s 0 (sMix K s)
def sHas (K : KK) (s : Nat) (x t : Int32) : Bool := match sEnt K s x with | some e => decide (e 0 = t) | none => false
def sRun (l : List ENT) (t : Int32) : Nat → Nat
  | 0 => 0
  | n + 1 => if (match l[n]? with | some e => decide (e 0 = t) | none => false) = true then sRun l t n else n + 1
theorem i32_nrq {x : Int32} (h : x = 4) : ¬ (1 ≤ x ∧ x ≤ 3) := by rw [h]; decide
theorem i32_pos {n : Nat} (h : n < 2147483648) : ¬ Int32.ofNat n < 0 := (i32_ix h).2
theorem c_81 {X : XS} {o s : Nat} (ho : o < 2) (hs : s < 7) {x t : Int32} (hw : kWf (xK X o) s) : RT 81 [some (.ref (aS o s)), some (.int x), some (.int t), none] X (some (.int (bI (sHas (xK X o) s x t)))) X := by
  cases hx : sEnt (xK X o) s x with
  | none =>
    refine AT.aload_n M_81 rfl rfl ?_
    refine AT.iload_n M_81 rfl rfl ?_
    refine AT.cv2i M_81 rfl M_64 rfl (Nat.le_of_ble_eq_true rfl) (xKd.of (shp_sv (by assumption) (by assumption))) (by decide) (c_64n ho hs hx hw) ?_ (Nat.le_of_ble_eq_true rfl) rfl
    refine AT.zst3 M_81 rfl rfl ?_
    refine AT.aload_n0 M_81 rfl rfl ?_
    refine AT.ifnull0 M_81 rfl ?_
    refine AT.iconst M_81 rfl (v := 0) (by decide) ?_
    refine AT.zret M_81 rfl rfl (by first | exact Or.inl rfl | exact Or.inr rfl | assumption) ?_
    exact ⟨congrArg (fun z => (Sum.inl (some (Value.int z)) : PO)) (by unfold sHas; rw [hx]; rfl), rfl⟩
  | some e =>
    refine AT.aload_n M_81 rfl rfl ?_
    refine AT.iload_n M_81 rfl rfl ?_
    refine AT.cv2p M_81 rfl M_64 rfl (Nat.le_of_ble_eq_true rfl) (xKd.of (shp_sv (by assumption) (by assumption))) (by decide) (c_64 ho hs hx hw) (fun p2 he2 => ?_) (Nat.le_of_ble_eq_true rfl) rfl
    refine AT.ast3 M_81 rfl rfl ?_
    refine AT.aload_n M_81 rfl rfl ?_
    refine AT.ifnull1 M_81 rfl ?_
    refine AT.aload_n M_81 rfl rfl ?_
    refine AT.f_2_0 M_81 rfl (by assumption) ?_
    refine AT.iload_n M_81 rfl rfl ?_
    refine AT.icmp_ne M_81 rfl (fun b9 => ?_) (fun b9 => ?_)
    · refine AT.iconst M_81 rfl (v := 0) (by decide) ?_
      refine AT.zret M_81 rfl rfl (by first | exact Or.inl rfl | exact Or.inr rfl | assumption) ?_
      exact ⟨congrArg (fun z => (Sum.inl (some (Value.int z)) : PO)) (by unfold sHas; rw [hx]; dsimp only; rw [decide_eq_false b9]; rfl), rfl⟩
    · refine AT.iconst M_81 rfl (v := 1) (by decide) ?_
      refine AT.goto M_81 rfl ?_
      refine AT.zret M_81 rfl rfl (by first | exact Or.inl rfl | exact Or.inr rfl | assumption) ?_
      exact ⟨congrArg (fun z => (Sum.inl (some (Value.int z)) : PO)) (by unfold sHas; rw [hx]; dsimp only; rw [decide_eq_true (Classical.not_not.mp b9)]; rfl), rfl⟩
theorem c_82 {X : XS} {o s : Nat} (ho : o < 2) (hs : s < 7) {x t : Int32} (hw : kWf (xK X o) s) : RT 82 [some (.ref (aS o s)), some (.int x), some (.int t)] X (some (.int (bI (decide (x ≤ (xK X o).1 18 s 0) || sHas (xK X o) s x t)))) X := by
  refine AT.iload_n M_82 rfl rfl ?_
  refine AT.aload_n M_82 rfl rfl ?_
  refine AT.f_6_9 M_82 rfl (by assumption) (by assumption) (fun p2 hp2 => ?_)
  refine AT.f_7_0 M_82 rfl (by assumption) ?_
  refine AT.icmp_le M_82 rfl (fun b4 => ?_) (fun b4 => ?_)
  · refine AT.iconst M_82 rfl (v := 1) (by decide) ?_
    refine AT.goto M_82 rfl ?_
    refine AT.zret M_82 rfl rfl (by first | exact Or.inl rfl | exact Or.inr rfl | assumption) ?_
    exact ⟨congrArg (fun z => (Sum.inl (some (Value.int z)) : PO)) (by simp [bI, b4]), rfl⟩
  · refine AT.aload_n M_82 rfl rfl ?_
    refine AT.iload_n M_82 rfl rfl ?_
    refine AT.iload_n M_82 rfl rfl ?_
    refine AT.cv3i M_82 rfl M_81 rfl (Nat.le_of_ble_eq_true rfl) (xKd.of (shp_sv (by assumption) (by assumption))) (by decide) (c_81 ho hs hw) ?_ (Nat.le_of_ble_eq_true rfl) rfl
    refine AT.if_eq M_82 rfl (fun b9 => ?_) (fun b9 => ?_)
    · refine AT.iconst M_82 rfl (v := 0) (by decide) ?_
      refine AT.zret M_82 rfl rfl (by first | exact Or.inl rfl | exact Or.inr rfl | assumption) ?_
      exact ⟨congrArg (fun z => (Sum.inl (some (Value.int z)) : PO)) (by simp [bI, b4, bI_eq0.mp b9]), rfl⟩
    · refine AT.iconst M_82 rfl (v := 1) (by decide) ?_
      refine AT.goto M_82 rfl ?_
      refine AT.zret M_82 rfl rfl (by first | exact Or.inl rfl | exact Or.inr rfl | assumption) ?_
      exact ⟨congrArg (fun z => (Sum.inl (some (Value.int z)) : PO)) (by simp [bI, b4, bI_ne0.mp b9]), rfl⟩
theorem i32_dec (n : Nat) : Int32.ofNat (n + 1) + Int32.ofInt (-1) = Int32.ofNat n := by
  rw [Int32.ofNat_add]
  exact (by grind : ∀ u : Int32, u + 1 + (-1) = u) _
theorem l_83 {X : XS} {o s : Nat} (ho : o < 2) (hs : s < 7) {t pv : Int32} {a : Nat} (ha : (xK X o).1 18 s 0 = Int32.ofNat a) (hb : a + ((xK X o).2.1 s).length < 16777216) : ∀ n : Nat, n ≤ ((xK X o).2.1 s).length → AT 83 13 [some (.ref (aS o s)), some (.int pv), some (.int t), some (.int (Int32.ofNat (a + n)))] [] X (fun o' Y => o' = .inl (some (.int (if Int32.ofNat (a + sRun ((xK X o).2.1 s) t n) < (xK X o).1 15 s 0 then (xK X o).1 15 s 0 else Int32.ofNat (a + sRun ((xK X o).2.1 s) t n)))) ∧ Y = X)
  | 0, hn => by
    refine AT.iload_n M_83 rfl rfl ?_
    refine AT.aload_n M_83 rfl rfl ?_
    refine AT.f_6_9 M_83 rfl (by assumption) (by assumption) (fun p15 hp15 => ?_)
    refine AT.f_7_0 M_83 rfl (by assumption) ?_
    refine AT.icmp_le M_83 rfl (fun b17 => ?_) (fun b17 => ?_)
    · refine AT.iload_n M_83 rfl rfl ?_
      refine AT.aload_n M_83 rfl rfl ?_
      refine AT.f_6_15 M_83 rfl (by assumption) (by assumption) ?_
      refine AT.max M_83 rfl rfl (Nat.le_of_ble_eq_true rfl) rfl ?_
      refine AT.iret M_83 rfl rfl ?_
      exact ⟨rfl, rfl⟩
    · exact absurd (by rw [ha]; exact Int32.le_refl _) b17
  | n + 1, hn => by
    obtain ⟨e, he⟩ : ∃ e, ((xK X o).2.1 s)[n]? = some e := ⟨_, List.getElem?_eq_getElem (by omega)⟩
    have ht : sTix (xK X o) s (Int32.ofNat (a + n + 1)) = e 0 := by
      have h1 : ¬ Int32.ofNat (a + n + 1) ≤ (xK X o).1 18 s 0 := by rw [ha, i32_le (by omega) (by omega)]; omega
      have h2 : Int32.ofNat (a + n + 1) ≤ sLast (xK X o) s := by unfold sLast; rw [ha, ← Int32.ofNat_add, i32_le (by omega) (by omega)]; omega
      unfold sTix sEnt
      rw [if_neg (fun z => h1 (by rw [z]; exact Int32.le_refl _)), if_neg h1, if_pos h2, ha]
      rw [show Int32.ofNat (a + n + 1) - Int32.ofNat a - 1 = Int32.ofNat n by rw [show a + n + 1 = a + 1 + n by omega, Int32.ofNat_add, Int32.ofNat_add]; exact i32_sub3 _ _, (i32_ix (by omega)).1, he]
    rw [show a + (n + 1) = a + n + 1 by omega]
    refine AT.iload_n M_83 rfl rfl ?_
    refine AT.aload_n M_83 rfl rfl ?_
    refine AT.f_6_9 M_83 rfl (by assumption) (by assumption) (fun p15 hp15 => ?_)
    refine AT.f_7_0 M_83 rfl (by assumption) ?_
    refine AT.icmp_le M_83 rfl (fun b17 => ?_) (fun b17 => ?_)
    · exact absurd b17 (by rw [ha, i32_le (by omega) (by omega)]; omega)
    · refine AT.aload_n M_83 rfl rfl ?_
      refine AT.iload_n M_83 rfl rfl ?_
      refine AT.cv2i M_83 rfl M_65 rfl (Nat.le_of_ble_eq_true rfl) (xKd.of (shp_sv (by assumption) (by assumption))) (by decide) (c_65 ho hs ⟨a, ha, hb⟩) ?_ (Nat.le_of_ble_eq_true rfl) rfl
      refine AT.iload_n M_83 rfl rfl ?_
      refine AT.icmp_ne M_83 rfl (fun b22 => ?_) (fun b22 => ?_)
      · refine AT.iload_n M_83 rfl rfl ?_
        refine AT.aload_n M_83 rfl rfl ?_
        refine AT.f_6_15 M_83 rfl (by assumption) (by assumption) ?_
        refine AT.max M_83 rfl rfl (Nat.le_of_ble_eq_true rfl) rfl ?_
        refine AT.iret M_83 rfl rfl ?_
        have hr : sRun ((xK X o).2.1 s) t (n + 1) = n + 1 := if_neg (by rw [he]; dsimp only; rw [decide_eq_false (by rw [← ht]; exact b22)]; decide)
        rw [hr]
        exact ⟨rfl, rfl⟩
      · refine AT.iinc3 M_83 rfl rfl (i32_dec _) ?_
        refine AT.goto M_83 rfl ?_
        have hr : sRun ((xK X o).2.1 s) t (n + 1) = sRun ((xK X o).2.1 s) t n := if_pos (by rw [he]; exact decide_eq_true (by rw [← ht]; exact Classical.not_not.mp b22))
        rw [hr]
        exact l_83 ho hs ha hb n (by omega)
