/-! ===== FINDING MEMBERS, ANOTHER SNAPSHOT, APPENDING ===== -/
theorem i32_decm (n : Nat) : Int32.ofNat n + Int32.ofInt (-1) = Int32.ofNat n - 1 := by
  exact (by grind : ∀ u : Int32, u + (-1) = u - 1) _
theorem i32_sc (n : Nat) : Int32.ofNat (n + 1) - 1 = Int32.ofNat n := by
  rw [Int32.ofNat_add]
  exact (by grind : ∀ u : Int32, u + 1 - 1 = u) _
theorem l_76 {X : XS} {o s : Nat} (ho : o < 2) (hs : s < 7) : ∀ n : Nat, n ≤ ((xK X o).2.1 s).length → ((xK X o).2.1 s).length < 16777216 → (dV (xD X) o 10 s 0 = (xK X o).1 18 s 2 ∧ dV (xD X) o 11 s 0 = -1) → sMemL (((xK X o).2.1 s).take n) ((xK X o).1 18 s 2) = sMemL ((xK X o).2.1 s) ((xK X o).1 18 s 2) → sMixL (((xK X o).2.1 s).take n) 0 ((xK X o).1 18 s 0) (-1) = sMixL ((xK X o).2.1 s) 0 ((xK X o).1 18 s 0) (-1) →
    AT 76 13 [some (.ref (aS o s)), some (.int (Int32.ofNat n - 1))] [] X (fun o' Y => o' = .inl none ∧ Y = xSetD X (dMem (xD X) o s (xK X o)))
  | 0, hn, hlen, hv, h1, h2 => by
    refine AT.iload_n M_76 rfl rfl ?_
    refine AT.if_lt M_76 rfl (fun b14 => ?_) (fun b14 => ?_)
    · refine AT.vret M_76 rfl rfl ?_
      refine ⟨rfl, ?_⟩
      unfold dMem sMem sMix
      rw [← h1, ← h2]
      show X = xSetD X (dSetV (dSetV (xD X) o 10 s 0 ((xK X o).1 18 s 2)) o 11 s 0 (-1))
      rw [← hv.1, ← hv.2]
      rw [show dSetV (xD X) o 10 s 0 (dV (xD X) o 10 s 0) = xD X from dSetV_self _ _ _ _ _, dSetV_self]
      rfl
    · exact absurd (by decide) b14
  | n + 1, hn, hlen, hv, h1, h2 => by
    obtain ⟨e, he⟩ : ∃ e, ((xK X o).2.1 s)[n]? = some e := ⟨_, List.getElem?_eq_getElem (by omega)⟩
    rw [i32_sc n]
    refine AT.iload_n M_76 rfl rfl ?_
    refine AT.if_lt M_76 rfl (fun b14 => ?_) (fun b14 => ?_)
    · exact absurd b14 (i32_pos (by omega))
    · refine AT.aload_n M_76 rfl rfl ?_
      refine AT.f_6_7 M_76 rfl (by assumption) (by assumption) ?_
      refine AT.iload_n M_76 rfl rfl ?_
      refine AT.a_log M_76 rfl rfl (by assumption) (by assumption) he (fun p18 he18 => ?_)
      refine AT.f_2_1 M_76 rfl (by assumption) ?_
      refine AT.iconst M_76 rfl (v := 4) (by decide) ?_
      refine AT.icmp_ne M_76 rfl (fun b21 => ?_) (fun b21 => ?_)
      · refine AT.iinc1 M_76 rfl rfl (i32_decm n) ?_
        refine AT.goto M_76 rfl ?_
        have hk : ¬ e 1 = 4 := b21
        refine l_76 ho hs n (by omega) hlen hv ?_ ?_
        · rw [← h1, take_succ he, sMemL_app, if_neg hk]
        · rw [← h2, take_succ he, sMixL_app, if_neg hk]
      · refine AT.aload_n M_76 rfl rfl ?_
        refine AT.aload_n M_76 rfl rfl ?_
        refine AT.f_6_7 M_76 rfl (by assumption) (by assumption) ?_
        refine AT.iload_n M_76 rfl rfl ?_
        refine AT.a_log M_76 rfl rfl (by assumption) (by assumption) he (fun p26 he26 => ?_)
        have hk : e 1 = 4 := Classical.not_not.mp b21
        refine AT.f_2_3 M_76 rfl (by assumption) (i32_nrq hk) ?_
        refine AT.p_6_10 M_76 rfl (by assumption) (by assumption) ?_
        try simp only [xK_same, xSetK_idem, xD_setK, xK_setD, xD_setD, xSetD_setK, xSetD_idem, kSet_1, kSet_2, kRow_1, kRow_2, kLog_1, kLog_2, kLog_l, kLog_idem, List.take_zero, if_true]
        refine AT.aload_n M_76 rfl rfl ?_
        refine AT.aload_n M_76 rfl rfl ?_
        refine AT.f_6_9 M_76 rfl (by assumption) (by assumption) (fun p31 hp31 => ?_)
        refine AT.f_7_0 M_76 rfl (by assumption) ?_
        refine AT.iconst M_76 rfl (v := 1) (by decide) ?_
        refine AT.iadd M_76 rfl rfl ?_
        refine AT.iload_n M_76 rfl rfl ?_
        refine AT.iadd M_76 rfl rfl ?_
        refine AT.p_6_11 M_76 rfl (by assumption) (by assumption) ?_
        try simp only [xK_same, xSetK_idem, xD_setK, xK_setD, xD_setD, xSetD_setK, xSetD_idem, kSet_1, kSet_2, kRow_1, kRow_2, kLog_1, kLog_2, kLog_l, kLog_idem, List.take_zero, if_true]
        refine AT.vret M_76 rfl rfl ?_
        refine ⟨rfl, ?_⟩
        unfold dMem sMem sMix
        rw [← h1, ← h2, take_succ he, sMemL_app, sMixL_app, if_pos hk, if_pos hk]
        have hlt : (((xK X o).2.1 s).take n).length = n := by rw [List.length_take]; omega
        rw [hlt, Nat.zero_add]
        try rfl
theorem dV_set (D : XD) (o f i j a b c d : Nat) (v : Int32) : dV (dSetV D o f i j v) a b c d = if a = o ∧ b = f ∧ c = i ∧ d = j then v else dV D a b c d := rfl
theorem c_76 {X : XS} {o s : Nat} (ho : o < 2) (hs : s < 7) (hlen : ((xK X o).2.1 s).length < 16777216) : RT 76 [some (.ref (aS o s)), none] X none (xSetD X (dMem (xD X) o s (xK X o))) := by
  refine AT.aload_n M_76 rfl rfl ?_
  refine AT.aload_n M_76 rfl rfl ?_
  refine AT.f_6_9 M_76 rfl (by assumption) (by assumption) (fun p2 hp2 => ?_)
  refine AT.f_7_2 M_76 rfl (by assumption) ?_
  refine AT.p_6_10 M_76 rfl (by assumption) (by assumption) ?_
  try simp only [xK_same, xSetK_idem, xD_setK, xK_setD, xD_setD, xSetD_setK, xSetD_idem, kSet_1, kSet_2, kRow_1, kRow_2, kLog_1, kLog_2, kLog_l, kLog_idem, List.take_zero, if_true]
  refine AT.aload_n M_76 rfl rfl ?_
  refine AT.iconst M_76 rfl (v := (-1)) (by decide) ?_
  refine AT.p_6_11 M_76 rfl (by assumption) (by assumption) ?_
  try simp only [xK_same, xSetK_idem, xD_setK, xK_setD, xD_setD, xSetD_setK, xSetD_idem, kSet_1, kSet_2, kRow_1, kRow_2, kLog_1, kLog_2, kLog_l, kLog_idem, List.take_zero, if_true]
  refine AT.aload_n M_76 rfl rfl ?_
  refine AT.f_6_8 M_76 rfl (by assumption) (by assumption) ?_
  refine AT.iconst M_76 rfl (v := 1) (by decide) ?_
  refine AT.isub M_76 rfl rfl ?_
  refine AT.ist1 M_76 rfl rfl ?_
  refine AT.mono (l_76 ho hs ((xK X o).2.1 s).length (Nat.le_refl _) hlen ⟨?_, ?_⟩ ?_ ?_) ?_
  · simp [xD_setD, xK_setD, dV_set]
  · simp [xD_setD, xK_setD, dV_set]
  · rw [xK_setD, List.take_length]
  · rw [xK_setD, List.take_length]
  · rintro o' Y ⟨rfl, rfl⟩
    refine ⟨rfl, ?_⟩
    rw [xSetD_idem, xD_setD, xK_setD]
    unfold dMem
    rw [dSetV_4]
/-- a server anew, with a snapshot -/
def kNew (K : KK) (s : Nat) (r : ENT) : KK := kRow (kLog (kSet (kSet (kSet K 4 s 0 1) 5 s 0 0) 6 s 0 (-1)) s []) 18 s r
theorem c_57 {X : XS} {o s : Nat} (ho : o < 2) (hs : s < 7) {p : Nat} {r : ENT} (hp : dSn (xD X) p r) : RT 57 [some (.ref (aS o s)), some (.ref p)] X none (xSetK (xSetD X (dMem (xD X) o s (kNew (xK X o) s r))) o (kRest (kNew (xK X o) s r) s)) := by
  refine AT.aload_n M_57 rfl rfl ?_
  refine AT.iconst M_57 rfl (v := 1) (by decide) ?_
  refine AT.p_6_4 M_57 rfl (by assumption) (by assumption) (by first | exact Or.inl rfl | exact Or.inr rfl | assumption) ?_
  try simp only [xK_same, xSetK_idem, xD_setK, xK_setD, xD_setD, xSetD_setK, xSetD_idem, kSet_1, kSet_2, kRow_1, kRow_2, kLog_1, kLog_2, kLog_l, kLog_idem, List.take_zero, if_true]
  refine AT.aload_n M_57 rfl rfl ?_
  refine AT.iconst M_57 rfl (v := 0) (by decide) ?_
  refine AT.p_6_5 M_57 rfl (by assumption) (by assumption) ?_
  try simp only [xK_same, xSetK_idem, xD_setK, xK_setD, xD_setD, xSetD_setK, xSetD_idem, kSet_1, kSet_2, kRow_1, kRow_2, kLog_1, kLog_2, kLog_l, kLog_idem, List.take_zero, if_true]
  refine AT.aload_n M_57 rfl rfl ?_
  refine AT.iconst M_57 rfl (v := (-1)) (by decide) ?_
  refine AT.p_6_6 M_57 rfl (by assumption) (by assumption) ?_
  try simp only [xK_same, xSetK_idem, xD_setK, xK_setD, xD_setD, xSetD_setK, xSetD_idem, kSet_1, kSet_2, kRow_1, kRow_2, kLog_1, kLog_2, kLog_l, kLog_idem, List.take_zero, if_true]
  refine AT.aload_n M_57 rfl rfl ?_
  refine AT.iconst M_57 rfl (v := 0) (by decide) ?_
  refine AT.p_6_8t M_57 rfl (by assumption) (by assumption) (q := 0) (Nat.zero_le _) rfl ?_
  try simp only [xK_same, xSetK_idem, xD_setK, xK_setD, xD_setD, xSetD_setK, xSetD_idem, kSet_1, kSet_2, kRow_1, kRow_2, kLog_1, kLog_2, kLog_l, kLog_idem, List.take_zero, if_true]
  refine AT.aload_n M_57 rfl rfl ?_
  refine AT.aload_n M_57 rfl rfl ?_
  refine AT.p_6_9 M_57 rfl (by assumption) (by assumption) (by exact hp) ?_
  try simp only [xK_same, xSetK_idem, xD_setK, xK_setD, xD_setD, xSetD_setK, xSetD_idem, kSet_1, kSet_2, kRow_1, kRow_2, kLog_1, kLog_2, kLog_l, kLog_idem, List.take_zero, if_true]
  refine AT.aload_n M_57 rfl rfl ?_
  refine AT.cv10 M_57 rfl M_76 rfl (Nat.le_of_ble_eq_true rfl) (xKd.of (shp_sv (by assumption) (by assumption))) (by decide) (c_76 ho hs (by simp only [xK_same, kRow_2, kLog_l, if_true]; decide)) ?_ (Nat.le_of_ble_eq_true rfl) rfl
  try simp only [xK_same, xSetK_idem, xD_setK, xK_setD, xD_setD, xSetD_setK, xSetD_idem, kSet_1, kSet_2, kRow_1, kRow_2, kLog_1, kLog_2, kLog_l, kLog_idem, List.take_zero, if_true]
  refine AT.aload_n M_57 rfl rfl ?_
  refine AT.cv10 M_57 rfl M_58 rfl (Nat.le_of_ble_eq_true rfl) (xKd.of (shp_sv (by assumption) (by assumption))) (by decide) (c_58 ho hs) ?_ (Nat.le_of_ble_eq_true rfl) rfl
  try simp only [xK_same, xSetK_idem, xD_setK, xK_setD, xD_setD, xSetD_setK, xSetD_idem, kSet_1, kSet_2, kRow_1, kRow_2, kLog_1, kLog_2, kLog_l, kLog_idem, List.take_zero, if_true]
  refine AT.vret M_57 rfl rfl ?_
  exact ⟨rfl, rfl⟩
theorem l_77 {X : XS} {o s : Nat} (ho : o < 2) (hs : s < 7) {x : Int32} (hlen : ((xK X o).2.1 s).length < 16777216) : ∀ n : Nat, n ≤ ((xK X o).2.1 s).length → AT 77 8 [some (.ref (aS o s)), some (.int x), some (.int (Int32.ofNat n - 1))] [] X (fun o' Y => o' = .inl (some (.int (sMemL (((xK X o).2.1 s).take n) ((xK X o).1 18 s 2)))) ∧ Y = X)
  | 0, hn => by
    refine AT.iload_n M_77 rfl rfl ?_
    refine AT.if_lt M_77 rfl (fun b9 => ?_) (fun b9 => ?_)
    · refine AT.aload_n M_77 rfl rfl ?_
      refine AT.f_6_9 M_77 rfl (by assumption) (by assumption) (fun p30 hp30 => ?_)
      refine AT.f_7_2 M_77 rfl (by assumption) ?_
      refine AT.iret M_77 rfl rfl ?_
      exact ⟨rfl, rfl⟩
    · exact absurd (by decide) b9
  | n + 1, hn => by
    obtain ⟨e, he⟩ : ∃ e, ((xK X o).2.1 s)[n]? = some e := ⟨_, List.getElem?_eq_getElem (by omega)⟩
    rw [i32_sc n]
    refine AT.iload_n M_77 rfl rfl ?_
    refine AT.if_lt M_77 rfl (fun b9 => ?_) (fun b9 => ?_)
    · exact absurd b9 (i32_pos (by omega))
    · refine AT.iload_n M_77 rfl rfl ?_
      refine AT.aload_n M_77 rfl rfl ?_
      refine AT.f_6_8 M_77 rfl (by assumption) (by assumption) ?_
      refine AT.icmp_ge M_77 rfl (fun b13 => ?_) (fun b13 => ?_)
      · exact absurd b13 (by rw [i32_le (by omega) (by omega)]; omega)
      · refine AT.aload_n M_77 rfl rfl ?_
        refine AT.f_6_7 M_77 rfl (by assumption) (by assumption) ?_
        refine AT.iload_n M_77 rfl rfl ?_
        refine AT.a_log M_77 rfl rfl (by assumption) (by assumption) he (fun p17 he17 => ?_)
        refine AT.f_2_1 M_77 rfl (by assumption) ?_
        refine AT.iconst M_77 rfl (v := 4) (by decide) ?_
        refine AT.icmp_ne M_77 rfl (fun b20 => ?_) (fun b20 => ?_)
        · refine AT.iinc2 M_77 rfl rfl (i32_decm n) ?_
          refine AT.goto M_77 rfl ?_
          have hk : ¬ e 1 = 4 := b20
          rw [take_succ he, sMemL_app, if_neg hk]
          exact l_77 ho hs hlen n (by omega)
        · refine AT.aload_n M_77 rfl rfl ?_
          refine AT.f_6_7 M_77 rfl (by assumption) (by assumption) ?_
          refine AT.iload_n M_77 rfl rfl ?_
          refine AT.a_log M_77 rfl rfl (by assumption) (by assumption) he (fun p24 he24 => ?_)
          have hk : e 1 = 4 := Classical.not_not.mp b20
          refine AT.f_2_3 M_77 rfl (by assumption) (i32_nrq hk) ?_
          refine AT.iret M_77 rfl rfl ?_
          rw [take_succ he, sMemL_app, if_pos hk]
          exact ⟨rfl, rfl⟩
theorem c_77 {X : XS} {o s : Nat} (ho : o < 2) (hs : s < 7) {x : Int32} {n : Nat} (hlen : ((xK X o).2.1 s).length < 16777216) (hn : n ≤ ((xK X o).2.1 s).length) (hx : x - (xK X o).1 18 s 0 - 1 = Int32.ofNat n - 1) : RT 77 [some (.ref (aS o s)), some (.int x), none] X (some (.int (sMemL (((xK X o).2.1 s).take n) ((xK X o).1 18 s 2)))) X := by
  refine AT.iload_n M_77 rfl rfl ?_
  refine AT.aload_n M_77 rfl rfl ?_
  refine AT.f_6_9 M_77 rfl (by assumption) (by assumption) (fun p2 hp2 => ?_)
  refine AT.f_7_0 M_77 rfl (by assumption) ?_
  refine AT.isub M_77 rfl rfl ?_
  refine AT.iconst M_77 rfl (v := 1) (by decide) ?_
  refine AT.isub M_77 rfl rfl ?_
  refine AT.ist2 M_77 rfl rfl ?_
  rw [hx]
  exact l_77 ho hs hlen n hn
def dWithQ (D : XD) (q : Nat → Nat → Nat → Nat) : XD := (D.1, D.2.1, D.2.2.1, q, D.2.2.2.2)
/-- a log on the way to its rest behind gn entries -/
def lShift (l : List ENT) (gn q : Nat) : List ENT := (l.drop gn).take q ++ l.drop q
theorem lShift_len {l : List ENT} {gn q : Nat} (h : gn + q ≤ l.length) : (lShift l gn q).length = l.length := by
  unfold lShift
  rw [List.length_append, List.length_take, List.length_drop, List.length_drop]
  omega
theorem lShift_get {l : List ENT} {gn q : Nat} {e : ENT} (h : gn + q < l.length) (he : l[gn + q]? = some e) : (lShift l gn q)[gn + q]? = some e := by
  unfold lShift
  rw [List.getElem?_append_right (by rw [List.length_take, List.length_drop]; omega), List.length_take, List.length_drop, List.getElem?_drop]
  rw [show q + (gn + q - min q (l.length - gn)) = gn + q by omega]
  exact he
theorem lShift_set {l : List ENT} {gn q : Nat} {e : ENT} (h : gn + q < l.length) (he : l[gn + q]? = some e) : (lShift l gn q).set q e = lShift l gn (q + 1) := by
  have hl : ((l.drop gn).take q).length = q := by rw [List.length_take, List.length_drop]; omega
  unfold lShift
  rw [List.set_append_right _ _ (by omega), hl, Nat.sub_self]
  have h1 : l.drop q = l[q] :: l.drop (q + 1) := List.drop_eq_getElem_cons (by omega)
  rw [h1, List.set_cons_zero]
  have h2 : (l.drop gn).take (q + 1) = (l.drop gn).take q ++ [e] := take_succ (by rw [List.getElem?_drop]; exact he)
  rw [h2, List.append_assoc]
  rfl
theorem lShift_take {l : List ENT} {gn : Nat} (h : gn ≤ l.length) : (lShift l gn (l.length - gn)).take (l.length - gn) = l.drop gn := by
  unfold lShift
  have hl : ((l.drop gn).take (l.length - gn)).length = l.length - gn := by rw [List.length_take, List.length_drop]; omega
  rw [List.take_append_of_le_length (by omega), List.take_take, Nat.min_self]
  exact List.take_of_length_le (by rw [List.length_drop]; omega)
/-- the same log, shorter, with a newer snapshot -/
def kCut (K : KK) (s gn : Nat) (r : ENT) : KK := kRow (kLog K s ((K.2.1 s).drop gn)) 18 s r
theorem i32_sub0 {a b : Nat} (h : b ≤ a) : Int32.ofNat a - Int32.ofNat b = Int32.ofNat (a - b) := by
  obtain ⟨c, rfl⟩ : ∃ c, a = b + c := ⟨a - b, by omega⟩
  rw [Nat.add_sub_cancel_left, Int32.ofNat_add]
  exact (by grind : ∀ u v : Int32, u + v - u = v) _ _
theorem l_80 {X : XS} {o s : Nat} (ho : o < 2) (hs : s < 7) {p gn : Nat} {r : ENT} (hp : dSn (xD X) p r) (hg : gn ≤ ((xK X o).2.1 s).length) (hlen : ((xK X o).2.1 s).length < 16777216) : ∀ n q : Nat, gn + q + n = ((xK X o).2.1 s).length → ∀ qf, AT 80 4 [some (.ref (aS o s)), some (.ref p), some (.int (Int32.ofNat gn)), some (.int (Int32.ofNat (gn + q)))] [] (xSetK (xSetD X (dWithQ (xD X) qf)) o (kLog (xK X o) s (lShift ((xK X o).2.1 s) gn q))) (fun o' Y => o' = .inl none ∧ (fun Y => ∃ qf, Y = xSetK (xSetD X (dMem (dWithQ (xD X) qf) o s (kCut (xK X o) s gn r))) o (kCut (xK X o) s gn r)) Y)
  | 0, q, hq, qf => by
    have hL := lShift_len (l := (xK X o).2.1 s) (gn := gn) (q := q) (by omega)
    refine AT.iload_n M_80 rfl rfl ?_
    refine AT.aload_n M_80 rfl rfl ?_
    refine AT.f_6_8 M_80 rfl (by assumption) (by assumption) ?_
    refine AT.icmp_ge M_80 rfl (fun b7 => ?_) (fun b7 => ?_)
    · refine AT.aload_n M_80 rfl rfl ?_
      refine AT.dup M_80 rfl ?_
      refine AT.f_6_8 M_80 rfl (by assumption) (by assumption) ?_
      refine AT.iload_n M_80 rfl rfl ?_
      refine AT.isub M_80 rfl rfl ?_
      refine AT.p_6_8t M_80 rfl (by assumption) (by assumption) (q := ((xK X o).2.1 s).length - gn) (by simp only [xK_same, kLog_l, if_true, hL]; omega) (by simp only [xK_same, kLog_l, if_true, hL]; exact i32_sub0 (by omega)) ?_
      try simp only [xK_same, xSetK_idem, xD_setK, xK_setD, xD_setD, xSetD_setK, xSetD_idem, kSet_1, kSet_2, kRow_1, kRow_2, kLog_1, kLog_2, kLog_l, kLog_idem, List.take_zero, if_true]
      refine AT.aload_n M_80 rfl rfl ?_
      refine AT.aload_n M_80 rfl rfl ?_
      refine AT.p_6_9 M_80 rfl (by assumption) (by assumption) (by exact hp) ?_
      try simp only [xK_same, xSetK_idem, xD_setK, xK_setD, xD_setD, xSetD_setK, xSetD_idem, kSet_1, kSet_2, kRow_1, kRow_2, kLog_1, kLog_2, kLog_l, kLog_idem, List.take_zero, if_true]
      refine AT.aload_n M_80 rfl rfl ?_
      refine AT.cv10 M_80 rfl M_76 rfl (Nat.le_of_ble_eq_true rfl) (xKd.of (shp_sv (by assumption) (by assumption))) (by decide) (c_76 ho hs (by simp only [xK_same, kRow_2, kLog_l, if_true, List.length_take, List.length_drop]; omega)) ?_ (Nat.le_of_ble_eq_true rfl) rfl
      try simp only [xK_same, xSetK_idem, xD_setK, xK_setD, xD_setD, xSetD_setK, xSetD_idem, kSet_1, kSet_2, kRow_1, kRow_2, kLog_1, kLog_2, kLog_l, kLog_idem, List.take_zero, if_true]
      refine AT.vret M_80 rfl rfl ?_
      refine ⟨rfl, qf, ?_⟩
      have hq : q = ((xK X o).2.1 s).length - gn := by omega
      subst hq
      try simp only [lShift_take (show gn ≤ ((xK X o).2.1 s).length by omega)]
      rfl
    · exact absurd (by simp only [xK_same, kLog_l, if_true, hL]; rw [i32_le (by omega) (by omega)]; omega) b7
  | n + 1, q, hq, qf => by
    obtain ⟨e, he⟩ : ∃ e, ((xK X o).2.1 s)[gn + q]? = some e := ⟨_, List.getElem?_eq_getElem (by omega)⟩
    have hL := lShift_len (l := (xK X o).2.1 s) (gn := gn) (q := q) (by omega)
    have hSet := lShift_set (l := (xK X o).2.1 s) (gn := gn) (q := q) (by omega) he
    refine AT.iload_n M_80 rfl rfl ?_
    refine AT.aload_n M_80 rfl rfl ?_
    refine AT.f_6_8 M_80 rfl (by assumption) (by assumption) ?_
    refine AT.icmp_ge M_80 rfl (fun b7 => ?_) (fun b7 => ?_)
    · exact absurd b7 (by simp only [xK_same, kLog_l, if_true, hL]; rw [i32_le (by omega) (by omega)]; omega)
    · refine AT.aload_n M_80 rfl rfl ?_
      refine AT.f_6_7 M_80 rfl (by assumption) (by assumption) ?_
      refine AT.iload_n M_80 rfl rfl ?_
      refine AT.iload_n M_80 rfl rfl ?_
      refine AT.isub M_80 rfl (show Int32.ofNat (gn + q) - Int32.ofNat gn = Int32.ofNat q from by rw [i32_sub0 (by omega)]; congr 1; omega) ?_
      refine AT.aload_n M_80 rfl rfl ?_
      refine AT.f_6_7 M_80 rfl (by assumption) (by assumption) ?_
      refine AT.iload_n M_80 rfl rfl ?_
      refine AT.a_log M_80 rfl rfl (by assumption) (by assumption) (by simp only [xK_same, kLog_l, if_true]; exact lShift_get (by omega) he) (fun p16 he16 => ?_)
      refine AT.s_logS M_80 rfl rfl (by assumption) (by assumption) (by simp only [xK_same, kLog_l, if_true, hL]; omega) (by exact he16) ?_
      try simp only [xK_same, xSetK_idem, xD_setK, xK_setD, xD_setD, xSetD_setK, xSetD_idem, kSet_1, kSet_2, kRow_1, kRow_2, kLog_1, kLog_2, kLog_l, kLog_idem, List.take_zero, if_true]
      refine AT.iinc3 M_80 rfl rfl (i32_succ _) ?_
      refine AT.goto M_80 rfl ?_
      try simp only [hSet]
      rw [show gn + q + 1 = gn + (q + 1) by omega]
      exact l_80 ho hs hp hg hlen n (q + 1) (by omega) _
theorem c_80 {X : XS} {o s : Nat} (ho : o < 2) (hs : s < 7) {p gn : Nat} {r : ENT} (hp : dSn (xD X) p r) (hg : gn ≤ ((xK X o).2.1 s).length) (hlen : ((xK X o).2.1 s).length < 16777216) : RU 80 [some (.ref (aS o s)), some (.ref p), some (.int (Int32.ofNat gn)), none] X none (fun Y => ∃ qf, Y = xSetK (xSetD X (dMem (dWithQ (xD X) qf) o s (kCut (xK X o) s gn r))) o (kCut (xK X o) s gn r)) := by
  refine AT.iload_n M_80 rfl rfl ?_
  refine AT.iconst M_80 rfl (v := 0) (by decide) ?_
  refine AT.max M_80 rfl rfl (by exact Nat.le_of_ble_eq_true rfl) (v := Int32.ofNat gn) (if_neg (i32_pos (by omega))) ?_
  refine AT.ist3 M_80 rfl rfl ?_
  have h0 : lShift ((xK X o).2.1 s) gn 0 = (xK X o).2.1 s := by unfold lShift; rw [List.take_zero, List.drop_zero]; rfl
  have := l_80 (X := X) ho hs hp hg hlen (((xK X o).2.1 s).length - gn) 0 (by omega) (dQ (xD X))
  rw [h0, kLog_self] at this
  have e2 : xSetK (xSetD X (dWithQ (xD X) (dQ (xD X)))) o (xK X o) = X := xSetK_self X o
  rw [e2] at this
  exact this
