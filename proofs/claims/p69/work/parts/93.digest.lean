/-! ===== THE FACE OF THE CLASS: the checksum ===== -/
def sDig (d : Int64) (l : List Int32) : Int64 := l.foldl (fun d x => d * Int64.ofNat 31 + x.toInt64) d
theorem sDig_app (d : Int64) (l l' : List Int32) : sDig d (l ++ l') = sDig (sDig d l) l' := List.foldl_append
def lFor (f : Nat → List Int32) : Nat → Nat → List Int32
  | 0, _ => []
  | n + 1, q => f q ++ lFor f n (q + 1)
def dMsg (u : MSG) : List Int32 := [u.1 1, u.1 2, u.1 3, u.1 4, sTold u]
def dMsgs : List MSG → List Int32
  | [] => []
  | u :: t => dMsg u ++ dMsgs t
def dCli (K : KK) (c : Nat) : List Int32 := if K.1 35 c 0 = 0 then [K.1 34 c 3, 0] else [K.1 34 c 3, 1, K.1 36 c 0]
def dSrv (K : KK) (s : Nat) : List Int32 := [bI (decide (¬ K.1 4 s 0 = 0)), K.1 12 s 0, K.1 5 s 0, K.1 6 s 0, K.1 13 s 0, K.1 14 s 0, K.1 18 s 0, sLast K s, sLastT K s, K.1 15 s 0, sCnt (sMem K s), bI (sWin K s (sMem K s))]
def dEnt (K : KK) (s j : Nat) (e : ENT) : List Int32 := [e 0, e 1, sVal e, e 2, e 3, sCntF (sCopyP K (sMem K s) (K.1 18 s 0 + 1 + Int32.ofNat j) (e 0)) 7]
def dLog (K : KK) (s : Nat) : List ENT → Nat → List Int32
  | [], _ => []
  | e :: t, j => dEnt K s j e ++ dLog K s t (j + 1)
def dTab (K : KK) (s : Nat) : List Int32 := lFor (fun j => [K.1 19 s j]) 8 0 ++ lFor (fun j => [K.1 19 s (8 + j)]) 4 0
def dNxt (K : KK) (s q : Nat) : List Int32 := if K.1 12 s 0 = 3 ∧ ¬ q = s then [K.1 2 s q, K.1 3 s q] else []
def dOth (K : KK) (s : Nat) : List Int32 := lFor (dNxt K s) 7 0 ++ lFor (fun q => [sAgr K s q]) 7 0
def dAll1 (K : KK) (s : Nat) : List Int32 := dSrv K s ++ (dLog K s (K.2.1 s) 0 ++ (dTab K s ++ dOth K s))
def dAll (K : KK) : List Int32 := [K.1 33 0 0, K.1 32 0 0, Int32.ofNat K.2.2.length, sLdr K, sCntF (fun i => decide (K.1 12 i 0 = 3)) 7, sFurF K 7] ++ (dMsgs K.2.2 ++ (lFor (dCli K) 4 0 ++ lFor (dAll1 K) 7 0))
theorem l_161 {X : XS} (hn60 : (xK X 0).2.2.length ≤ 60) : ∀ (t : List MSG) (q : Nat) (d : Int64) (x6 : Option Value), (xK X 0).2.2.drop q = t → q ≤ (xK X 0).2.2.length → ∀ d0 : Int64, AT 161 4 [some (.ref 1), some (.long d0), none, some (.long d), none, some (.int (Int32.ofNat q)), x6] [] X (fun o' Y => o' = .inl (some (.long (sDig d (dMsgs t)))) ∧ Y = X)
  | [], q, d, x6, ht, hq9, d0 => by
    have ho : (0 : Nat) < 2 := by decide
    have hl : (xK X 0).2.2.length = q := by
      have := congrArg List.length ht
      rw [List.length_drop, List.length_nil] at this
      omega
    refine AT.iload M_161 rfl rfl ?_
    refine AT.aload_n M_161 rfl rfl ?_
    refine AT.f_9_0 M_161 rfl ?_
    refine AT.f_1_2 M_161 rfl (by assumption) ?_
    refine AT.f_4_3 M_161 rfl (by assumption) ?_
    refine AT.icmp_ge M_161 rfl (fun b9 => ?_) (fun b9 => absurd (by rw [hl]; exact Int32.le_refl _) b9)
    refine AT.lload_n M_161 rfl rfl ?_
    refine AT.lret M_161 rfl rfl ?_
    exact ⟨rfl, rfl⟩
  | u :: t, q, d, x6, ht, hq9, d0 => by
    have ho : (0 : Nat) < 2 := by decide
    have hlt : q + (t.length + 1) = (xK X 0).2.2.length := by
      have := congrArg List.length ht
      rw [List.length_drop, List.length_cons] at this
      omega
    have hu : (xK X 0).2.2[q]? = some u := by
      have := congrArg (fun l => l[0]?) ht
      simp only [List.getElem?_drop, Nat.add_zero, List.getElem?_cons_zero] at this
      exact this
    have hm := xMs.row (o := 0) ho hu
    have hq60 : q < 60 := by omega
    rw [show dMsgs (u :: t) = dMsg u ++ dMsgs t from rfl, sDig_app]
    refine AT.iload M_161 rfl rfl ?_
    refine AT.aload_n M_161 rfl rfl ?_
    refine AT.f_9_0 M_161 rfl ?_
    refine AT.f_1_2 M_161 rfl (by assumption) ?_
    refine AT.f_4_3 M_161 rfl (by assumption) ?_
    refine AT.icmp_ge M_161 rfl (fun b9 => absurd ((i32_le (by omega) (by omega)).mp b9) (by omega)) (fun b9 => ?_)
    refine AT.aload_n M_161 rfl rfl ?_
    refine AT.f_9_0 M_161 rfl ?_
    refine AT.f_1_2 M_161 rfl (by assumption) ?_
    refine AT.f_4_0 M_161 rfl (by assumption) ?_
    refine AT.iload M_161 rfl rfl ?_
    refine AT.a_row M_161 rfl rfl (by assumption) (by assumption) ?_
    refine AT.ast6 M_161 rfl rfl ?_
    refine AT.lload_n M_161 rfl rfl ?_
    refine AT.ldc2 M_161 rfl rfl rfl ?_
    refine AT.lmul M_161 rfl rfl ?_
    refine AT.aload M_161 rfl rfl ?_
    refine AT.f_3_1 M_161 rfl (by assumption) ?_
    refine AT.i2l M_161 rfl ?_
    refine AT.ladd M_161 rfl rfl ?_
    refine AT.lst3 M_161 rfl rfl ?_
    refine AT.lload_n M_161 rfl rfl ?_
    refine AT.ldc2 M_161 rfl rfl rfl ?_
    refine AT.lmul M_161 rfl rfl ?_
    refine AT.aload M_161 rfl rfl ?_
    refine AT.f_3_2 M_161 rfl (by assumption) ?_
    refine AT.i2l M_161 rfl ?_
    refine AT.ladd M_161 rfl rfl ?_
    refine AT.lst3 M_161 rfl rfl ?_
    refine AT.lload_n M_161 rfl rfl ?_
    refine AT.ldc2 M_161 rfl rfl rfl ?_
    refine AT.lmul M_161 rfl rfl ?_
    refine AT.aload M_161 rfl rfl ?_
    refine AT.f_3_3 M_161 rfl (by assumption) ?_
    refine AT.i2l M_161 rfl ?_
    refine AT.ladd M_161 rfl rfl ?_
    refine AT.lst3 M_161 rfl rfl ?_
    refine AT.lload_n M_161 rfl rfl ?_
    refine AT.ldc2 M_161 rfl rfl rfl ?_
    refine AT.lmul M_161 rfl rfl ?_
    refine AT.aload M_161 rfl rfl ?_
    refine AT.f_3_4 M_161 rfl (by assumption) ?_
    refine AT.i2l M_161 rfl ?_
    refine AT.ladd M_161 rfl rfl ?_
    refine AT.lst3 M_161 rfl rfl ?_
    refine AT.lload_n M_161 rfl rfl ?_
    refine AT.ldc2 M_161 rfl rfl rfl ?_
    refine AT.lmul M_161 rfl rfl ?_
    refine AT.aload M_161 rfl rfl ?_
    refine AT.cv1i M_161 rfl M_45 rfl (Nat.le_of_ble_eq_true rfl) (fun g hg => (hm g hg).1) (by decide) (c_45 hm) ?_ (Nat.le_of_ble_eq_true rfl) rfl
    refine AT.i2l M_161 rfl ?_
    refine AT.ladd M_161 rfl rfl ?_
    refine AT.lst3 M_161 rfl rfl ?_
    refine AT.iinc5 M_161 rfl rfl (i32_succ _) ?_
    refine AT.goto M_161 rfl ?_
    have ht2 : (xK X 0).2.2.drop (q + 1) = t := by have := congrArg List.tail ht; rw [List.tail_drop] at this; exact this
    exact l_161 hn60 t (q + 1) _ _ ht2 (by omega) d0
theorem c_161 {X : XS} {d : Int64} : RT 161 [some (.ref 1), some (.long d), none, none, none, none, none] X (some (.long (sDig d (dMsgs (xK X 0).2.2)))) X := by
  have ho : (0 : Nat) < 2 := by decide
  refine AT.lload_n M_161 rfl rfl ?_
  refine AT.lst3 M_161 rfl rfl ?_
  refine AT.iconst M_161 rfl (v := 0) (by decide) ?_
  refine AT.ist5 M_161 rfl rfl ?_
  refine AT.rep (fun hr => ?_)
  exact l_161 (hr.choose_spec.n60 (by omega)) (xK X 0).2.2 0 d none rfl (Nat.zero_le _) d
theorem l_162 {X : XS} {d0 : Int64} : ∀ k q : Nat, q + k = 4 → ∀ (d : Int64) (x8 : Option Value), AT 162 11 [some (.ref 1), some (.long d0), none, some (.long d), none, some (.ref (aB 0 + 2)), some (.int 4), some (.int (Int32.ofNat q)), x8] [] X (fun o' Y => o' = .inl (some (.long (sDig d (lFor (dCli (xK X 0)) k q)))) ∧ Y = X)
  | 0, q, hq, d, x8 => by
    refine AT.iload M_162 rfl rfl ?_
    refine AT.iload M_162 rfl rfl ?_
    refine AT.icmp_ge M_162 rfl (fun b13 => ?_) (fun b13 => absurd (by rw [show q = 4 by omega]; decide) b13)
    refine AT.lload_n M_162 rfl rfl ?_
    refine AT.lret M_162 rfl rfl ?_
    exact ⟨rfl, rfl⟩
  | k + 1, q, hq, d, x8 => by
    have ho : (0 : Nat) < 2 := by decide
    have hq7 : q < 4 := by omega
    rw [show lFor (dCli (xK X 0)) (k + 1) q = dCli (xK X 0) q ++ lFor (dCli (xK X 0)) k (q + 1) from rfl, sDig_app]
    refine AT.iload M_162 rfl rfl ?_
    refine AT.iload M_162 rfl rfl ?_
    refine AT.icmp_ge M_162 rfl (fun b13 => absurd ((i32_le (a := 4) (by omega) (by omega)).mp b13) (by omega)) (fun b13 => ?_)
    refine AT.aload M_162 rfl rfl ?_
    refine AT.iload M_162 rfl rfl ?_
    refine AT.a_cls M_162 rfl rfl (by assumption) (by assumption) ?_
    refine AT.ast8 M_162 rfl rfl ?_
    refine AT.lload_n M_162 rfl rfl ?_
    refine AT.ldc2 M_162 rfl rfl rfl ?_
    refine AT.lmul M_162 rfl rfl ?_
    refine AT.aload M_162 rfl rfl ?_
    refine AT.cv1i M_162 rfl M_3 rfl (Nat.le_of_ble_eq_true rfl) (xKd.of (shp_cli (by assumption) (by assumption))) (by decide) (c_3 ho hq7) ?_ (Nat.le_of_ble_eq_true rfl) rfl
    refine AT.i2l M_162 rfl ?_
    refine AT.ladd M_162 rfl rfl ?_
    refine AT.lst3 M_162 rfl rfl ?_
    refine AT.lload_n M_162 rfl rfl ?_
    refine AT.ldc2 M_162 rfl rfl rfl ?_
    refine AT.lmul M_162 rfl rfl ?_
    refine AT.aload M_162 rfl rfl ?_
    refine AT.f_0_1 M_162 rfl (by assumption) (by assumption) ?_
    refine AT.if_eq M_162 rfl (fun b31 => ?_) (fun b31 => ?_)
    · refine AT.iconst M_162 rfl (v := 0) (by decide) ?_
      refine AT.i2l M_162 rfl ?_
      refine AT.ladd M_162 rfl rfl ?_
      refine AT.lst3 M_162 rfl rfl ?_
      refine AT.aload M_162 rfl rfl ?_
      refine AT.f_0_1 M_162 rfl (by assumption) (by assumption) ?_
      refine AT.if_eq M_162 rfl (fun b40 => ?_) (fun b40 => absurd b31 b40)
      refine AT.iinc7 M_162 rfl rfl (i32_succ _) ?_
      refine AT.goto M_162 rfl ?_
      rw [show dCli (xK X 0) q = [(xK X 0).1 34 q 3, 0] from if_pos b31]
      exact l_162 k (q + 1) (by omega) _ _
    · refine AT.iconst M_162 rfl (v := 1) (by decide) ?_
      refine AT.goto M_162 rfl ?_
      refine AT.i2l M_162 rfl ?_
      refine AT.ladd M_162 rfl rfl ?_
      refine AT.lst3 M_162 rfl rfl ?_
      refine AT.aload M_162 rfl rfl ?_
      refine AT.f_0_1 M_162 rfl (by assumption) (by assumption) ?_
      refine AT.if_eq M_162 rfl (fun b40 => absurd b40 b31) (fun b40 => ?_)
      refine AT.lload_n M_162 rfl rfl ?_
      refine AT.ldc2 M_162 rfl rfl rfl ?_
      refine AT.lmul M_162 rfl rfl ?_
      refine AT.aload M_162 rfl rfl ?_
      refine AT.f_0_2 M_162 rfl (by assumption) (by assumption) ?_
      refine AT.i2l M_162 rfl ?_
      refine AT.ladd M_162 rfl rfl ?_
      refine AT.lst3 M_162 rfl rfl ?_
      refine AT.iinc7 M_162 rfl rfl (i32_succ _) ?_
      refine AT.goto M_162 rfl ?_
      rw [show dCli (xK X 0) q = [(xK X 0).1 34 q 3, 1, (xK X 0).1 36 q 0] from if_neg b31]
      exact l_162 k (q + 1) (by omega) _ _
theorem c_162 {X : XS} {d : Int64} : RT 162 [some (.ref 1), some (.long d), none, none, none, none, none, none, none] X (some (.long (sDig d (lFor (dCli (xK X 0)) 4 0)))) X := by
  have ho : (0 : Nat) < 2 := by decide
  refine AT.lload_n M_162 rfl rfl ?_
  refine AT.lst3 M_162 rfl rfl ?_
  refine AT.aload_n M_162 rfl rfl ?_
  refine AT.f_9_0 M_162 rfl ?_
  refine AT.f_1_1 M_162 rfl (by assumption) ?_
  refine AT.ast5 M_162 rfl rfl ?_
  refine AT.aload M_162 rfl rfl ?_
  refine AT.l_cls M_162 rfl (by assumption) ?_
  refine AT.ist6 M_162 rfl rfl ?_
  refine AT.iconst M_162 rfl (v := 0) (by decide) ?_
  refine AT.ist7 M_162 rfl rfl ?_
  exact l_162 4 0 rfl d none
theorem c_163 {X : XS} {s : Nat} {d : Int64} (hs : s < 7) (hm : dV (xD X) 0 10 s 0 = sMem (xK X 0) s) (h7 : ∃ n : Nat, n < 128 ∧ sMem (xK X 0) s = Int32.ofNat n) : RT 163 [some (.ref 1), some (.long d), none, some (.ref (aS 0 s)), none, none] X (some (.long (sDig d (dSrv (xK X 0) s)))) X := by
  have ho : (0 : Nat) < 2 := by decide
  refine AT.lload_n M_163 rfl rfl ?_
  refine AT.lst4 M_163 rfl rfl ?_
  refine AT.lload M_163 rfl rfl ?_
  refine AT.ldc2 M_163 rfl rfl rfl ?_
  refine AT.lmul M_163 rfl rfl ?_
  refine AT.aload_n M_163 rfl rfl ?_
  refine AT.f_6_4 M_163 rfl (by assumption) (by assumption) ?_
  refine AT.if_eq M_163 rfl (fun b7 => ?_) (fun b7 => ?_)
  · refine AT.iconst M_163 rfl (v := 0) (by decide) ?_
    refine AT.i2l M_163 rfl ?_
    refine AT.ladd M_163 rfl rfl ?_
    refine AT.lst4 M_163 rfl rfl ?_
    refine AT.lload M_163 rfl rfl ?_
    refine AT.ldc2 M_163 rfl rfl rfl ?_
    refine AT.lmul M_163 rfl rfl ?_
    refine AT.aload_n M_163 rfl rfl ?_
    refine AT.f_6_12 M_163 rfl (by assumption) (by assumption) ?_
    refine AT.i2l M_163 rfl ?_
    refine AT.ladd M_163 rfl rfl ?_
    refine AT.lst4 M_163 rfl rfl ?_
    refine AT.lload M_163 rfl rfl ?_
    refine AT.ldc2 M_163 rfl rfl rfl ?_
    refine AT.lmul M_163 rfl rfl ?_
    refine AT.aload_n M_163 rfl rfl ?_
    refine AT.f_6_5 M_163 rfl (by assumption) (by assumption) ?_
    refine AT.i2l M_163 rfl ?_
    refine AT.ladd M_163 rfl rfl ?_
    refine AT.lst4 M_163 rfl rfl ?_
    refine AT.lload M_163 rfl rfl ?_
    refine AT.ldc2 M_163 rfl rfl rfl ?_
    refine AT.lmul M_163 rfl rfl ?_
    refine AT.aload_n M_163 rfl rfl ?_
    refine AT.f_6_6 M_163 rfl (by assumption) (by assumption) ?_
    refine AT.i2l M_163 rfl ?_
    refine AT.ladd M_163 rfl rfl ?_
    refine AT.lst4 M_163 rfl rfl ?_
    refine AT.lload M_163 rfl rfl ?_
    refine AT.ldc2 M_163 rfl rfl rfl ?_
    refine AT.lmul M_163 rfl rfl ?_
    refine AT.aload_n M_163 rfl rfl ?_
    refine AT.f_6_13 M_163 rfl (by assumption) (by assumption) ?_
    refine AT.i2l M_163 rfl ?_
    refine AT.ladd M_163 rfl rfl ?_
    refine AT.lst4 M_163 rfl rfl ?_
    refine AT.lload M_163 rfl rfl ?_
    refine AT.ldc2 M_163 rfl rfl rfl ?_
    refine AT.lmul M_163 rfl rfl ?_
    refine AT.aload_n M_163 rfl rfl ?_
    refine AT.f_6_14 M_163 rfl (by assumption) (by assumption) ?_
    refine AT.i2l M_163 rfl ?_
    refine AT.ladd M_163 rfl rfl ?_
    refine AT.lst4 M_163 rfl rfl ?_
    refine AT.lload M_163 rfl rfl ?_
    refine AT.ldc2 M_163 rfl rfl rfl ?_
    refine AT.lmul M_163 rfl rfl ?_
    refine AT.aload_n M_163 rfl rfl ?_
    refine AT.f_6_9 M_163 rfl (by assumption) (by assumption) (fun p58 hp58 => ?_)
    refine AT.f_7_0 M_163 rfl (by assumption) ?_
    refine AT.i2l M_163 rfl ?_
    refine AT.ladd M_163 rfl rfl ?_
    refine AT.lst4 M_163 rfl rfl ?_
    refine AT.lload M_163 rfl rfl ?_
    refine AT.ldc2 M_163 rfl rfl rfl ?_
    refine AT.lmul M_163 rfl rfl ?_
    refine AT.aload_n M_163 rfl rfl ?_
    refine AT.cv1i M_163 rfl M_62 rfl (Nat.le_of_ble_eq_true rfl) (xKd.of (shp_sv (by assumption) (by assumption))) (by decide) (c_62 ho hs) ?_ (Nat.le_of_ble_eq_true rfl) rfl
    refine AT.i2l M_163 rfl ?_
    refine AT.ladd M_163 rfl rfl ?_
    refine AT.lst4 M_163 rfl rfl ?_
    refine AT.lload M_163 rfl rfl ?_
    refine AT.ldc2 M_163 rfl rfl rfl ?_
    refine AT.lmul M_163 rfl rfl ?_
    refine AT.aload_n M_163 rfl rfl ?_
    refine AT.cv1i M_163 rfl M_63 rfl (Nat.le_of_ble_eq_true rfl) (xKd.of (shp_sv (by assumption) (by assumption))) (by decide) (c_63 ho hs) ?_ (Nat.le_of_ble_eq_true rfl) rfl
    refine AT.i2l M_163 rfl ?_
    refine AT.ladd M_163 rfl rfl ?_
    refine AT.lst4 M_163 rfl rfl ?_
    refine AT.lload M_163 rfl rfl ?_
    refine AT.ldc2 M_163 rfl rfl rfl ?_
    refine AT.lmul M_163 rfl rfl ?_
    refine AT.aload_n M_163 rfl rfl ?_
    refine AT.f_6_15 M_163 rfl (by assumption) (by assumption) ?_
    refine AT.i2l M_163 rfl ?_
    refine AT.ladd M_163 rfl rfl ?_
    refine AT.lst4 M_163 rfl rfl ?_
    refine AT.lload M_163 rfl rfl ?_
    refine AT.ldc2 M_163 rfl rfl rfl ?_
    refine AT.lmul M_163 rfl rfl ?_
    refine AT.aload_n M_163 rfl rfl ?_
    refine AT.f_6_10 M_163 rfl ho hs ?_
    rw [hm]
    refine AT.cs1i M_163 rfl M_379 rfl (Nat.le_of_ble_eq_true rfl) rfl (c_379x h7) ?_ (Nat.le_of_ble_eq_true rfl) rfl
    refine AT.i2l M_163 rfl ?_
    refine AT.ladd M_163 rfl rfl ?_
    refine AT.lst4 M_163 rfl rfl ?_
    refine AT.lload M_163 rfl rfl ?_
    refine AT.ldc2 M_163 rfl rfl rfl ?_
    refine AT.lmul M_163 rfl rfl ?_
    refine AT.aload_n M_163 rfl rfl ?_
    refine AT.f_9_0 M_163 rfl ?_
    refine AT.aload_n M_163 rfl rfl ?_
    refine AT.cv2i M_163 rfl M_14 rfl (Nat.le_of_ble_eq_true rfl) (xKd.of (shp_cl (by assumption))) (by decide) (c_14 ho hs hm) ?_ (Nat.le_of_ble_eq_true rfl) rfl
    refine AT.if_eq M_163 rfl (fun b103 => ?_) (fun b103 => ?_)
    · refine AT.iconst M_163 rfl (v := 0) (by decide) ?_
      refine AT.i2l M_163 rfl ?_
      refine AT.ladd M_163 rfl rfl ?_
      refine AT.lst4 M_163 rfl rfl ?_
      refine AT.lload M_163 rfl rfl ?_
      refine AT.lret M_163 rfl rfl ?_
      have h1 : bI (decide (¬ (xK X 0).1 4 s 0 = 0)) = 0 := bI_eq0.mpr (decide_eq_false (not_not_intro b7))
      have h2 : bI (sWin (xK X 0) s (sMem (xK X 0) s)) = 0 := b103
      unfold dSrv
      rw [h1, h2]
      exact ⟨rfl, rfl⟩
    · refine AT.iconst M_163 rfl (v := 1) (by decide) ?_
      refine AT.goto M_163 rfl ?_
      refine AT.i2l M_163 rfl ?_
      refine AT.ladd M_163 rfl rfl ?_
      refine AT.lst4 M_163 rfl rfl ?_
      refine AT.lload M_163 rfl rfl ?_
      refine AT.lret M_163 rfl rfl ?_
      have h1 : bI (decide (¬ (xK X 0).1 4 s 0 = 0)) = 0 := bI_eq0.mpr (decide_eq_false (not_not_intro b7))
      have h2 : bI (sWin (xK X 0) s (sMem (xK X 0) s)) = 1 := by rw [bI_ne0.mp b103]; rfl
      unfold dSrv
      rw [h1, h2]
      exact ⟨rfl, rfl⟩
  · refine AT.iconst M_163 rfl (v := 1) (by decide) ?_
    refine AT.goto M_163 rfl ?_
    refine AT.i2l M_163 rfl ?_
    refine AT.ladd M_163 rfl rfl ?_
    refine AT.lst4 M_163 rfl rfl ?_
    refine AT.lload M_163 rfl rfl ?_
    refine AT.ldc2 M_163 rfl rfl rfl ?_
    refine AT.lmul M_163 rfl rfl ?_
    refine AT.aload_n M_163 rfl rfl ?_
    refine AT.f_6_12 M_163 rfl (by assumption) (by assumption) ?_
    refine AT.i2l M_163 rfl ?_
    refine AT.ladd M_163 rfl rfl ?_
    refine AT.lst4 M_163 rfl rfl ?_
    refine AT.lload M_163 rfl rfl ?_
    refine AT.ldc2 M_163 rfl rfl rfl ?_
    refine AT.lmul M_163 rfl rfl ?_
    refine AT.aload_n M_163 rfl rfl ?_
    refine AT.f_6_5 M_163 rfl (by assumption) (by assumption) ?_
    refine AT.i2l M_163 rfl ?_
    refine AT.ladd M_163 rfl rfl ?_
    refine AT.lst4 M_163 rfl rfl ?_
    refine AT.lload M_163 rfl rfl ?_
    refine AT.ldc2 M_163 rfl rfl rfl ?_
    refine AT.lmul M_163 rfl rfl ?_
    refine AT.aload_n M_163 rfl rfl ?_
    refine AT.f_6_6 M_163 rfl (by assumption) (by assumption) ?_
    refine AT.i2l M_163 rfl ?_
    refine AT.ladd M_163 rfl rfl ?_
    refine AT.lst4 M_163 rfl rfl ?_
    refine AT.lload M_163 rfl rfl ?_
    refine AT.ldc2 M_163 rfl rfl rfl ?_
    refine AT.lmul M_163 rfl rfl ?_
    refine AT.aload_n M_163 rfl rfl ?_
    refine AT.f_6_13 M_163 rfl (by assumption) (by assumption) ?_
    refine AT.i2l M_163 rfl ?_
    refine AT.ladd M_163 rfl rfl ?_
    refine AT.lst4 M_163 rfl rfl ?_
    refine AT.lload M_163 rfl rfl ?_
    refine AT.ldc2 M_163 rfl rfl rfl ?_
    refine AT.lmul M_163 rfl rfl ?_
    refine AT.aload_n M_163 rfl rfl ?_
    refine AT.f_6_14 M_163 rfl (by assumption) (by assumption) ?_
    refine AT.i2l M_163 rfl ?_
    refine AT.ladd M_163 rfl rfl ?_
    refine AT.lst4 M_163 rfl rfl ?_
    refine AT.lload M_163 rfl rfl ?_
    refine AT.ldc2 M_163 rfl rfl rfl ?_
    refine AT.lmul M_163 rfl rfl ?_
    refine AT.aload_n M_163 rfl rfl ?_
    refine AT.f_6_9 M_163 rfl (by assumption) (by assumption) (fun p58 hp58 => ?_)
    refine AT.f_7_0 M_163 rfl (by assumption) ?_
    refine AT.i2l M_163 rfl ?_
    refine AT.ladd M_163 rfl rfl ?_
    refine AT.lst4 M_163 rfl rfl ?_
    refine AT.lload M_163 rfl rfl ?_
    refine AT.ldc2 M_163 rfl rfl rfl ?_
    refine AT.lmul M_163 rfl rfl ?_
    refine AT.aload_n M_163 rfl rfl ?_
    refine AT.cv1i M_163 rfl M_62 rfl (Nat.le_of_ble_eq_true rfl) (xKd.of (shp_sv (by assumption) (by assumption))) (by decide) (c_62 ho hs) ?_ (Nat.le_of_ble_eq_true rfl) rfl
    refine AT.i2l M_163 rfl ?_
    refine AT.ladd M_163 rfl rfl ?_
    refine AT.lst4 M_163 rfl rfl ?_
    refine AT.lload M_163 rfl rfl ?_
    refine AT.ldc2 M_163 rfl rfl rfl ?_
    refine AT.lmul M_163 rfl rfl ?_
    refine AT.aload_n M_163 rfl rfl ?_
    refine AT.cv1i M_163 rfl M_63 rfl (Nat.le_of_ble_eq_true rfl) (xKd.of (shp_sv (by assumption) (by assumption))) (by decide) (c_63 ho hs) ?_ (Nat.le_of_ble_eq_true rfl) rfl
    refine AT.i2l M_163 rfl ?_
    refine AT.ladd M_163 rfl rfl ?_
    refine AT.lst4 M_163 rfl rfl ?_
    refine AT.lload M_163 rfl rfl ?_
    refine AT.ldc2 M_163 rfl rfl rfl ?_
    refine AT.lmul M_163 rfl rfl ?_
    refine AT.aload_n M_163 rfl rfl ?_
    refine AT.f_6_15 M_163 rfl (by assumption) (by assumption) ?_
    refine AT.i2l M_163 rfl ?_
    refine AT.ladd M_163 rfl rfl ?_
    refine AT.lst4 M_163 rfl rfl ?_
    refine AT.lload M_163 rfl rfl ?_
    refine AT.ldc2 M_163 rfl rfl rfl ?_
    refine AT.lmul M_163 rfl rfl ?_
    refine AT.aload_n M_163 rfl rfl ?_
    refine AT.f_6_10 M_163 rfl ho hs ?_
    rw [hm]
    refine AT.cs1i M_163 rfl M_379 rfl (Nat.le_of_ble_eq_true rfl) rfl (c_379x h7) ?_ (Nat.le_of_ble_eq_true rfl) rfl
    refine AT.i2l M_163 rfl ?_
    refine AT.ladd M_163 rfl rfl ?_
    refine AT.lst4 M_163 rfl rfl ?_
    refine AT.lload M_163 rfl rfl ?_
    refine AT.ldc2 M_163 rfl rfl rfl ?_
    refine AT.lmul M_163 rfl rfl ?_
    refine AT.aload_n M_163 rfl rfl ?_
    refine AT.f_9_0 M_163 rfl ?_
    refine AT.aload_n M_163 rfl rfl ?_
    refine AT.cv2i M_163 rfl M_14 rfl (Nat.le_of_ble_eq_true rfl) (xKd.of (shp_cl (by assumption))) (by decide) (c_14 ho hs hm) ?_ (Nat.le_of_ble_eq_true rfl) rfl
    refine AT.if_eq M_163 rfl (fun b103 => ?_) (fun b103 => ?_)
    · refine AT.iconst M_163 rfl (v := 0) (by decide) ?_
      refine AT.i2l M_163 rfl ?_
      refine AT.ladd M_163 rfl rfl ?_
      refine AT.lst4 M_163 rfl rfl ?_
      refine AT.lload M_163 rfl rfl ?_
      refine AT.lret M_163 rfl rfl ?_
      have h1 : bI (decide (¬ (xK X 0).1 4 s 0 = 0)) = 1 := by rw [decide_eq_true b7]; rfl
      have h2 : bI (sWin (xK X 0) s (sMem (xK X 0) s)) = 0 := b103
      unfold dSrv
      rw [h1, h2]
      exact ⟨rfl, rfl⟩
    · refine AT.iconst M_163 rfl (v := 1) (by decide) ?_
      refine AT.goto M_163 rfl ?_
      refine AT.i2l M_163 rfl ?_
      refine AT.ladd M_163 rfl rfl ?_
      refine AT.lst4 M_163 rfl rfl ?_
      refine AT.lload M_163 rfl rfl ?_
      refine AT.lret M_163 rfl rfl ?_
      have h1 : bI (decide (¬ (xK X 0).1 4 s 0 = 0)) = 1 := by rw [decide_eq_true b7]; rfl
      have h2 : bI (sWin (xK X 0) s (sMem (xK X 0) s)) = 1 := by rw [bI_ne0.mp b103]; rfl
      unfold dSrv
      rw [h1, h2]
      exact ⟨rfl, rfl⟩
theorem l_164 {X : XS} {s : Nat} (hs : s < 7) (hm : dV (xD X) 0 10 s 0 = sMem (xK X 0) s) (hwa : ∀ i, i < 7 → kWf (xK X 0) i) (he8 : ∀ e, e ∈ (xK X 0).2.1 s → e 1 = 4 → ∃ n : Nat, n < 128 ∧ e 6 = Int32.ofNat n) (hB : ((xK X 0).2.1 s).length < 400000) : ∀ (t : List ENT) (q : Nat) (d : Int64) (x7 : Option Value), ((xK X 0).2.1 s).drop q = t → q ≤ ((xK X 0).2.1 s).length → ∀ d0 : Int64, AT 164 4 [some (.ref 1), some (.long d0), none, some (.ref (aS 0 s)), some (.long d), none, some (.int (Int32.ofNat q)), x7] [] X (fun o' Y => o' = .inl (some (.long (sDig d (dLog (xK X 0) s t q)))) ∧ Y = X)
  | [], q, d, x7, ht, hq9, d0 => by
    have ho : (0 : Nat) < 2 := by decide
    have hl : ((xK X 0).2.1 s).length = q := by
      have := congrArg List.length ht
      rw [List.length_drop, List.length_nil] at this
      omega
    refine AT.iload M_164 rfl rfl ?_
    refine AT.aload_n M_164 rfl rfl ?_
    refine AT.f_6_8 M_164 rfl (by assumption) (by assumption) ?_
    refine AT.icmp_ge M_164 rfl (fun b7 => ?_) (fun b7 => absurd (by rw [hl]; exact Int32.le_refl _) b7)
    refine AT.lload M_164 rfl rfl ?_
    refine AT.lret M_164 rfl rfl ?_
    exact ⟨rfl, rfl⟩
  | e :: t, q, d, x7, ht, hq9, d0 => by
    have ho : (0 : Nat) < 2 := by decide
    have hlt : q + (t.length + 1) = ((xK X 0).2.1 s).length := by
      have := congrArg List.length ht
      rw [List.length_drop, List.length_cons] at this
      omega
    have hu : ((xK X 0).2.1 s)[q]? = some e := by
      have := congrArg (fun l => l[0]?) ht
      simp only [List.getElem?_drop, Nat.add_zero, List.getElem?_cons_zero] at this
      exact this
    rw [show dLog (xK X 0) s (e :: t) q = dEnt (xK X 0) s q e ++ dLog (xK X 0) s t (q + 1) from rfl, sDig_app]
    refine AT.iload M_164 rfl rfl ?_
    refine AT.aload_n M_164 rfl rfl ?_
    refine AT.f_6_8 M_164 rfl (by assumption) (by assumption) ?_
    refine AT.icmp_ge M_164 rfl (fun b7 => absurd ((i32_le (by omega) (by omega)).mp b7) (by omega)) (fun b7 => ?_)
    refine AT.iload M_164 rfl rfl ?_
    refine AT.aload_n M_164 rfl rfl ?_
    refine AT.f_6_7 M_164 rfl (by assumption) (by assumption) ?_
    refine AT.l_log M_164 rfl (by assumption) (by assumption) (fun hl11 hm11 => ?_)
    refine AT.icmp_ge M_164 rfl (fun b12 => absurd ((i32_le (by omega) (by omega)).mp b12) (by omega)) (fun b12 => ?_)
    refine AT.aload_n M_164 rfl rfl ?_
    refine AT.f_6_7 M_164 rfl (by assumption) (by assumption) ?_
    refine AT.iload M_164 rfl rfl ?_
    refine AT.a_log M_164 rfl rfl (by assumption) (by assumption) hu (fun p16 he16 => ?_)
    refine AT.ast7 M_164 rfl rfl ?_
    refine AT.lload M_164 rfl rfl ?_
    refine AT.ldc2 M_164 rfl rfl rfl ?_
    refine AT.lmul M_164 rfl rfl ?_
    refine AT.aload M_164 rfl rfl ?_
    refine AT.f_2_0 M_164 rfl (by assumption) ?_
    refine AT.i2l M_164 rfl ?_
    refine AT.ladd M_164 rfl rfl ?_
    refine AT.lst4 M_164 rfl rfl ?_
    refine AT.lload M_164 rfl rfl ?_
    refine AT.ldc2 M_164 rfl rfl rfl ?_
    refine AT.lmul M_164 rfl rfl ?_
    refine AT.aload M_164 rfl rfl ?_
    refine AT.f_2_1 M_164 rfl (by assumption) ?_
    refine AT.i2l M_164 rfl ?_
    refine AT.ladd M_164 rfl rfl ?_
    refine AT.lst4 M_164 rfl rfl ?_
    refine AT.lload M_164 rfl rfl ?_
    refine AT.ldc2 M_164 rfl rfl rfl ?_
    refine AT.lmul M_164 rfl rfl ?_
    refine AT.aload M_164 rfl rfl ?_
    refine AT.cv1i M_164 rfl M_40 rfl (Nat.le_of_ble_eq_true rfl) (fun g hg => (dE.ent (by assumption) hg).1) (by decide) (c_40 (by assumption) (he8 e (List.mem_of_getElem? hu))) ?_ (Nat.le_of_ble_eq_true rfl) rfl
    refine AT.i2l M_164 rfl ?_
    refine AT.ladd M_164 rfl rfl ?_
    refine AT.lst4 M_164 rfl rfl ?_
    refine AT.lload M_164 rfl rfl ?_
    refine AT.ldc2 M_164 rfl rfl rfl ?_
    refine AT.lmul M_164 rfl rfl ?_
    refine AT.aload M_164 rfl rfl ?_
    refine AT.cv1i M_164 rfl M_41 rfl (Nat.le_of_ble_eq_true rfl) (fun g hg => (dE.ent (by assumption) hg).1) (by decide) (c_41 (by assumption)) ?_ (Nat.le_of_ble_eq_true rfl) rfl
    refine AT.i2l M_164 rfl ?_
    refine AT.ladd M_164 rfl rfl ?_
    refine AT.lst4 M_164 rfl rfl ?_
    refine AT.lload M_164 rfl rfl ?_
    refine AT.ldc2 M_164 rfl rfl rfl ?_
    refine AT.lmul M_164 rfl rfl ?_
    refine AT.aload M_164 rfl rfl ?_
    refine AT.cv1i M_164 rfl M_42 rfl (Nat.le_of_ble_eq_true rfl) (fun g hg => (dE.ent (by assumption) hg).1) (by decide) (c_42 (by assumption)) ?_ (Nat.le_of_ble_eq_true rfl) rfl
    refine AT.i2l M_164 rfl ?_
    refine AT.ladd M_164 rfl rfl ?_
    refine AT.lst4 M_164 rfl rfl ?_
    refine AT.lload M_164 rfl rfl ?_
    refine AT.ldc2 M_164 rfl rfl rfl ?_
    refine AT.lmul M_164 rfl rfl ?_
    refine AT.aload_n M_164 rfl rfl ?_
    refine AT.f_9_0 M_164 rfl ?_
    refine AT.aload_n M_164 rfl rfl ?_
    refine AT.aload_n M_164 rfl rfl ?_
    refine AT.f_6_9 M_164 rfl (by assumption) (by assumption) (fun p65 hp65 => ?_)
    refine AT.f_7_0 M_164 rfl (by assumption) ?_
    refine AT.iconst M_164 rfl (v := 1) (by decide) ?_
    refine AT.iadd M_164 rfl rfl ?_
    refine AT.iload M_164 rfl rfl ?_
    refine AT.iadd M_164 rfl rfl ?_
    refine AT.aload M_164 rfl rfl ?_
    refine AT.f_2_0 M_164 rfl (by assumption) ?_
    refine AT.cv4i M_164 rfl M_13 rfl (Nat.le_of_ble_eq_true rfl) (xKd.of (shp_cl (by assumption))) (by decide) (c_13 ho hs hm hwa) ?_ (Nat.le_of_ble_eq_true rfl) rfl
    refine AT.i2l M_164 rfl ?_
    refine AT.ladd M_164 rfl rfl ?_
    refine AT.lst4 M_164 rfl rfl ?_
    refine AT.iinc6 M_164 rfl rfl (i32_succ _) ?_
    refine AT.goto M_164 rfl ?_
    have ht2 : ((xK X 0).2.1 s).drop (q + 1) = t := by have := congrArg List.tail ht; rw [List.tail_drop] at this; exact this
    exact l_164 hs hm hwa he8 hB t (q + 1) _ _ ht2 (by omega) d0
theorem c_164 {X : XS} {s : Nat} {d : Int64} (hs : s < 7) (hm : dV (xD X) 0 10 s 0 = sMem (xK X 0) s) (hwa : ∀ i, i < 7 → kWf (xK X 0) i) (he8 : ∀ e, e ∈ (xK X 0).2.1 s → e 1 = 4 → ∃ n : Nat, n < 128 ∧ e 6 = Int32.ofNat n) (hB : ((xK X 0).2.1 s).length < 400000) : RT 164 [some (.ref 1), some (.long d), none, some (.ref (aS 0 s)), none, none, none, none] X (some (.long (sDig d (dLog (xK X 0) s ((xK X 0).2.1 s) 0)))) X := by
  have ho : (0 : Nat) < 2 := by decide
  refine AT.lload_n M_164 rfl rfl ?_
  refine AT.lst4 M_164 rfl rfl ?_
  refine AT.iconst M_164 rfl (v := 0) (by decide) ?_
  refine AT.ist6 M_164 rfl rfl ?_
  exact l_164 hs hm hwa he8 hB ((xK X 0).2.1 s) 0 d none rfl (Nat.zero_le _) d
theorem l_165a {X : XS} {s : Nat} {d0 : Int64} {Q : PO → XS → Prop} (hs : s < 7) : ∀ k q : Nat, q + k = 8 → ∀ (d : Int64), (∀ x8 : Option Value, AT 165 26 [some (.long d0), none, some (.ref (aS 0 s + 1)), some (.long (sDig d (lFor (fun j => [(xK X 0).1 19 s j]) k q))), none, some (.ref (aS 0 s + 2)), some (.int 8), some (.int (Int32.ofNat 8)), x8] [] X Q) → ∀ x8 : Option Value, AT 165 10 [some (.long d0), none, some (.ref (aS 0 s + 1)), some (.long d), none, some (.ref (aS 0 s + 2)), some (.int 8), some (.int (Int32.ofNat q)), x8] [] X Q
  | 0, q, hq, d, hC, x8 => by
    refine AT.iload M_165 rfl rfl ?_
    refine AT.iload M_165 rfl rfl ?_
    refine AT.icmp_ge M_165 rfl (fun b12 => ?_) (fun b12 => absurd (by rw [show q = 8 by omega]; decide) b12)
    have h := hC x8
    rw [show Int32.ofNat q = Int32.ofNat 8 from by rw [show q = 8 by omega]]
    exact h
  | k + 1, q, hq, d, hC, x8 => by
    have ho : (0 : Nat) < 2 := by decide
    have hq7 : q < 8 := by omega
    refine AT.iload M_165 rfl rfl ?_
    refine AT.iload M_165 rfl rfl ?_
    refine AT.icmp_ge M_165 rfl (fun b12 => absurd ((i32_le (a := 8) (by omega) (by omega)).mp b12) (by omega)) (fun b12 => ?_)
    refine AT.aload M_165 rfl rfl ?_
    refine AT.iload M_165 rfl rfl ?_
    refine AT.a_val M_165 rfl rfl (by assumption) (by assumption) (by assumption) ?_
    refine AT.ist8 M_165 rfl rfl ?_
    refine AT.lload_n M_165 rfl rfl ?_
    refine AT.ldc2 M_165 rfl rfl rfl ?_
    refine AT.lmul M_165 rfl rfl ?_
    refine AT.iload M_165 rfl rfl ?_
    refine AT.i2l M_165 rfl ?_
    refine AT.ladd M_165 rfl rfl ?_
    refine AT.lst3 M_165 rfl rfl ?_
    refine AT.iinc7 M_165 rfl rfl (i32_succ _) ?_
    refine AT.goto M_165 rfl ?_
    exact l_165a hs k (q + 1) (by omega) _ (fun x8 => hC x8) _
theorem l_165b {X : XS} {s : Nat} {d0 : Int64} {Q : PO → XS → Prop} (hs : s < 7) : ∀ k q : Nat, q + k = 4 → ∀ (d : Int64), (∀ x8 : Option Value, AT 165 50 [some (.long d0), none, some (.ref (aS 0 s + 1)), some (.long (sDig d (lFor (fun j => [(xK X 0).1 19 s (8 + j)]) k q))), none, some (.ref (aS 0 s + 3)), some (.int 4), some (.int (Int32.ofNat 4)), x8] [] X Q) → ∀ x8 : Option Value, AT 165 34 [some (.long d0), none, some (.ref (aS 0 s + 1)), some (.long d), none, some (.ref (aS 0 s + 3)), some (.int 4), some (.int (Int32.ofNat q)), x8] [] X Q
  | 0, q, hq, d, hC, x8 => by
    refine AT.iload M_165 rfl rfl ?_
    refine AT.iload M_165 rfl rfl ?_
    refine AT.icmp_ge M_165 rfl (fun b36 => ?_) (fun b36 => absurd (by rw [show q = 4 by omega]; decide) b36)
    have h := hC x8
    rw [show Int32.ofNat q = Int32.ofNat 4 from by rw [show q = 4 by omega]]
    exact h
  | k + 1, q, hq, d, hC, x8 => by
    have ho : (0 : Nat) < 2 := by decide
    have hq7 : q < 4 := by omega
    refine AT.iload M_165 rfl rfl ?_
    refine AT.iload M_165 rfl rfl ?_
    refine AT.icmp_ge M_165 rfl (fun b36 => absurd ((i32_le (a := 4) (by omega) (by omega)).mp b36) (by omega)) (fun b36 => ?_)
    refine AT.aload M_165 rfl rfl ?_
    refine AT.iload M_165 rfl rfl ?_
    refine AT.a_ser M_165 rfl rfl (by assumption) (by assumption) (by assumption) ?_
    refine AT.ist8 M_165 rfl rfl ?_
    refine AT.lload_n M_165 rfl rfl ?_
    refine AT.ldc2 M_165 rfl rfl rfl ?_
    refine AT.lmul M_165 rfl rfl ?_
    refine AT.iload M_165 rfl rfl ?_
    refine AT.i2l M_165 rfl ?_
    refine AT.ladd M_165 rfl rfl ?_
    refine AT.lst3 M_165 rfl rfl ?_
    refine AT.iinc7 M_165 rfl rfl (i32_succ _) ?_
    refine AT.goto M_165 rfl ?_
    exact l_165b hs k (q + 1) (by omega) _ (fun x8 => hC x8) _
theorem c_165 {X : XS} {s : Nat} {d : Int64} (hs : s < 7) : RT 165 [some (.long d), none, some (.ref (aS 0 s + 1)), none, none, none, none, none, none] X (some (.long (sDig d (dTab (xK X 0) s)))) X := by
  have ho : (0 : Nat) < 2 := by decide
  refine AT.lload_n M_165 rfl rfl ?_
  refine AT.lst3 M_165 rfl rfl ?_
  refine AT.aload_n M_165 rfl rfl ?_
  refine AT.f_8_0 M_165 rfl (by assumption) (by assumption) ?_
  refine AT.ast5 M_165 rfl rfl ?_
  refine AT.aload M_165 rfl rfl ?_
  refine AT.l_val M_165 rfl (by assumption) (by assumption) ?_
  refine AT.ist6 M_165 rfl rfl ?_
  refine AT.iconst M_165 rfl (v := 0) (by decide) ?_
  refine AT.ist7 M_165 rfl rfl ?_
  refine l_165a (s := s) hs 8 0 rfl d (fun x8 => ?_) none
  refine AT.aload_n M_165 rfl rfl ?_
  refine AT.f_8_1 M_165 rfl (by assumption) (by assumption) ?_
  refine AT.ast5 M_165 rfl rfl ?_
  refine AT.aload M_165 rfl rfl ?_
  refine AT.l_ser M_165 rfl (by assumption) (by assumption) ?_
  refine AT.ist6 M_165 rfl rfl ?_
  refine AT.iconst M_165 rfl (v := 0) (by decide) ?_
  refine AT.ist7 M_165 rfl rfl ?_
  refine l_165b (s := s) hs 4 0 rfl _ (fun x8 => ?_) _
  refine AT.lload_n M_165 rfl rfl ?_
  refine AT.lret M_165 rfl rfl ?_
  unfold dTab
  rw [sDig_app]
  exact ⟨rfl, rfl⟩
theorem l_166a {X : XS} {s : Nat} {d0 : Int64} {Q : PO → XS → Prop} (hs : s < 7) : ∀ k q : Nat, q + k = 7 → ∀ (d : Int64), AT 166 37 [some (.ref 1), some (.long d0), none, some (.ref (aS 0 s)), some (.long (sDig d (lFor (dNxt (xK X 0) s) k q))), none, some (.int (Int32.ofNat 7)), none, none, none] [] X Q → AT 166 4 [some (.ref 1), some (.long d0), none, some (.ref (aS 0 s)), some (.long d), none, some (.int (Int32.ofNat q)), none, none, none] [] X Q
  | 0, q, hq, d, hC => by
    refine AT.iload M_166 rfl rfl ?_
    refine AT.bipush M_166 rfl (v := 7) (by decide) ?_
    refine AT.icmp_ge M_166 rfl (fun b6 => ?_) (fun b6 => absurd (by rw [show q = 7 by omega]; decide) b6)
    have h := hC
    rw [show Int32.ofNat q = Int32.ofNat 7 from by rw [show q = 7 by omega]]
    exact h
  | k + 1, q, hq, d, hC => by
    have ho : (0 : Nat) < 2 := by decide
    have hq7 : q < 7 := by omega
    refine AT.iload M_166 rfl rfl ?_
    refine AT.bipush M_166 rfl (v := 7) (by decide) ?_
    refine AT.icmp_ge M_166 rfl (fun b6 => absurd ((i32_le (a := 7) (by omega) (by omega)).mp b6) (by omega)) (fun b6 => ?_)
    refine AT.aload_n M_166 rfl rfl ?_
    refine AT.f_6_12 M_166 rfl (by assumption) (by assumption) ?_
    refine AT.iconst M_166 rfl (v := 3) (by decide) ?_
    refine AT.icmp_ne M_166 rfl (fun b10 => ?_) (fun b10 => ?_)
    · refine AT.iinc6 M_166 rfl rfl (i32_succ _) ?_
      refine AT.goto M_166 rfl ?_
      rw [show lFor (dNxt (xK X 0) s) (k + 1) q = dNxt (xK X 0) s q ++ lFor (dNxt (xK X 0) s) k (q + 1) from rfl, sDig_app, show dNxt (xK X 0) s q = [] from if_neg (fun z => b10 z.1)] at hC
      exact l_166a hs k (q + 1) (by omega) _ hC
    · refine AT.iload M_166 rfl rfl ?_
      refine AT.aload_n M_166 rfl rfl ?_
      refine AT.f_6_0 M_166 rfl (by assumption) (by assumption) ?_
      refine AT.icmp_eq M_166 rfl (fun b14 => ?_) (fun b14 => ?_)
      · refine AT.iinc6 M_166 rfl rfl (i32_succ _) ?_
        refine AT.goto M_166 rfl ?_
        rw [show lFor (dNxt (xK X 0) s) (k + 1) q = dNxt (xK X 0) s q ++ lFor (dNxt (xK X 0) s) k (q + 1) from rfl, sDig_app, show dNxt (xK X 0) s q = [] from if_neg (fun z => z.2 (i32_nat (by omega) (by omega) b14))] at hC
        exact l_166a hs k (q + 1) (by omega) _ hC
      · refine AT.lload M_166 rfl rfl ?_
        refine AT.ldc2 M_166 rfl rfl rfl ?_
        refine AT.lmul M_166 rfl rfl ?_
        refine AT.aload_n M_166 rfl rfl ?_
        refine AT.f_6_2 M_166 rfl (by assumption) (by assumption) ?_
        refine AT.iload M_166 rfl rfl ?_
        refine AT.a_nxt M_166 rfl rfl (by assumption) (by assumption) (by assumption) ?_
        refine AT.i2l M_166 rfl ?_
        refine AT.ladd M_166 rfl rfl ?_
        refine AT.lst4 M_166 rfl rfl ?_
        refine AT.lload M_166 rfl rfl ?_
        refine AT.ldc2 M_166 rfl rfl rfl ?_
        refine AT.lmul M_166 rfl rfl ?_
        refine AT.aload_n M_166 rfl rfl ?_
        refine AT.f_6_3 M_166 rfl (by assumption) (by assumption) ?_
        refine AT.iload M_166 rfl rfl ?_
        refine AT.a_mat M_166 rfl rfl (by assumption) (by assumption) (by assumption) ?_
        refine AT.i2l M_166 rfl ?_
        refine AT.ladd M_166 rfl rfl ?_
        refine AT.lst4 M_166 rfl rfl ?_
        refine AT.iinc6 M_166 rfl rfl (i32_succ _) ?_
        refine AT.goto M_166 rfl ?_
        rw [show lFor (dNxt (xK X 0) s) (k + 1) q = dNxt (xK X 0) s q ++ lFor (dNxt (xK X 0) s) k (q + 1) from rfl, sDig_app, show dNxt (xK X 0) s q = [(xK X 0).1 2 s q, (xK X 0).1 3 s q] from if_pos ⟨Classical.not_not.mp b10, fun z => b14 (by rw [z])⟩] at hC
        exact l_166a hs k (q + 1) (by omega) _ hC
theorem l_166b {X : XS} {s : Nat} {d0 : Int64} (hs : s < 7) (hwa : ∀ i, i < 7 → kWf (xK X 0) i) : ∀ k q : Nat, q + k = 7 → ∀ (d : Int64) (x9 : Option Value), AT 166 46 [some (.ref 1), some (.long d0), none, some (.ref (aS 0 s)), some (.long d), none, some (.ref (aB 0 + 1)), some (.int (Int32.ofNat 7)), some (.int (Int32.ofNat q)), x9] [] X (fun o' Y => o' = .inl (some (.long (sDig d (lFor (fun q => [sAgr (xK X 0) s q]) k q)))) ∧ Y = X)
  | 0, q, hq, d, x9 => by
    refine AT.iload M_166 rfl rfl ?_
    refine AT.iload M_166 rfl rfl ?_
    refine AT.icmp_ge M_166 rfl (fun b48 => ?_) (fun b48 => absurd (by rw [show q = 7 by omega]; exact Int32.le_refl _) b48)
    refine AT.lload M_166 rfl rfl ?_
    refine AT.lret M_166 rfl rfl ?_
    exact ⟨rfl, rfl⟩
  | k + 1, q, hq, d, x9 => by
    have ho : (0 : Nat) < 2 := by decide
    have hq7 : q < 7 := by omega
    refine AT.iload M_166 rfl rfl ?_
    refine AT.iload M_166 rfl rfl ?_
    refine AT.icmp_ge M_166 rfl (fun b48 => absurd ((i32_le (a := 7) (by omega) (by omega)).mp b48) (by omega)) (fun b48 => ?_)
    refine AT.aload M_166 rfl rfl ?_
    refine AT.iload M_166 rfl rfl ?_
    refine AT.a_svs M_166 rfl rfl (by assumption) (by assumption) ?_
    refine AT.ast9 M_166 rfl rfl ?_
    refine AT.lload M_166 rfl rfl ?_
    refine AT.ldc2 M_166 rfl rfl rfl ?_
    refine AT.lmul M_166 rfl rfl ?_
    refine AT.aload_n M_166 rfl rfl ?_
    refine AT.aload M_166 rfl rfl ?_
    refine AT.cv2i M_166 rfl M_73 rfl (Nat.le_of_ble_eq_true rfl) (xKd.of (shp_sv (by assumption) (by assumption))) (by decide) (c_73k ho hs ho hq7 (hwa s hs) (hwa q hq7)) ?_ (Nat.le_of_ble_eq_true rfl) rfl
    refine AT.i2l M_166 rfl ?_
    refine AT.ladd M_166 rfl rfl ?_
    refine AT.lst4 M_166 rfl rfl ?_
    refine AT.iinc8 M_166 rfl rfl (i32_succ _) ?_
    refine AT.goto M_166 rfl ?_
    exact l_166b hs hwa k (q + 1) (by omega) _ _
theorem c_166 {X : XS} {s : Nat} {d : Int64} (hs : s < 7) (hwa : ∀ i, i < 7 → kWf (xK X 0) i) : RT 166 [some (.ref 1), some (.long d), none, some (.ref (aS 0 s)), none, none, none, none, none, none] X (some (.long (sDig d (dOth (xK X 0) s)))) X := by
  have ho : (0 : Nat) < 2 := by decide
  refine AT.lload_n M_166 rfl rfl ?_
  refine AT.lst4 M_166 rfl rfl ?_
  refine AT.iconst M_166 rfl (v := 0) (by decide) ?_
  refine AT.ist6 M_166 rfl rfl ?_
  refine l_166a hs 7 0 rfl d ?_
  refine AT.aload_n M_166 rfl rfl ?_
  refine AT.f_9_0 M_166 rfl ?_
  refine AT.f_1_0 M_166 rfl (by assumption) ?_
  refine AT.ast6 M_166 rfl rfl ?_
  refine AT.aload M_166 rfl rfl ?_
  refine AT.l_svs M_166 rfl (by assumption) ?_
  refine AT.ist7 M_166 rfl rfl ?_
  refine AT.iconst M_166 rfl (v := 0) (by decide) ?_
  refine AT.ist8 M_166 rfl rfl ?_
  unfold dOth
  rw [sDig_app]
  exact l_166b hs hwa 7 0 rfl _ _
theorem l_160 {X : XS} (hp : mPr X 0) (hk : ∀ i, i < 7 → sOk (xK X 0) i) : ∀ k q : Nat, q + k = 7 → ∀ (d : Int64) (x6 : Option Value), AT 160 67 [some (.ref 1), some (.long d), none, some (.ref (aB 0 + 1)), some (.int (Int32.ofNat 7)), some (.int (Int32.ofNat q)), x6] [] X (fun o' Y => o' = .inl (some (.long (sDig d (lFor (dAll1 (xK X 0)) k q)))) ∧ Y = X)
  | 0, q, hq, d, x6 => by
    refine AT.iload M_160 rfl rfl ?_
    refine AT.iload M_160 rfl rfl ?_
    refine AT.icmp_ge M_160 rfl (fun b69 => ?_) (fun b69 => absurd (by rw [show q = 7 by omega]; exact Int32.le_refl _) b69)
    refine AT.lload_n M_160 rfl rfl ?_
    refine AT.lret M_160 rfl rfl ?_
    exact ⟨rfl, rfl⟩
  | k + 1, q, hq, d, x6 => by
    have ho : (0 : Nat) < 2 := by decide
    have hq7 : q < 7 := by omega
    refine AT.iload M_160 rfl rfl ?_
    refine AT.iload M_160 rfl rfl ?_
    refine AT.icmp_ge M_160 rfl (fun b69 => absurd ((i32_le (a := 7) (by omega) (by omega)).mp b69) (by omega)) (fun b69 => ?_)
    refine AT.aload_n M_160 rfl rfl ?_
    refine AT.iload M_160 rfl rfl ?_
    refine AT.a_svs M_160 rfl rfl (by assumption) (by assumption) ?_
    refine AT.ast6 M_160 rfl rfl ?_
    refine AT.aload_n M_160 rfl rfl ?_
    refine AT.lload_n M_160 rfl rfl ?_
    refine AT.aload M_160 rfl rfl ?_
    refine AT.cv3i M_160 rfl M_163 rfl (Nat.le_of_ble_eq_true rfl) (xKd.of (Or.inr (Or.inr (Or.inl ⟨rfl, rfl, rfl⟩)))) (by decide) (c_163 hq7 (hp q hq7).1 (hk q hq7).m128) ?_ (Nat.le_of_ble_eq_true rfl) rfl
    refine AT.lst1 M_160 rfl rfl ?_
    refine AT.aload_n M_160 rfl rfl ?_
    refine AT.lload_n M_160 rfl rfl ?_
    refine AT.aload M_160 rfl rfl ?_
    refine AT.cv3i M_160 rfl M_164 rfl (Nat.le_of_ble_eq_true rfl) (xKd.of (Or.inr (Or.inr (Or.inl ⟨rfl, rfl, rfl⟩)))) (by decide) (c_164 hq7 (hp q hq7).1 (fun i hi => (hk i hi).wf) (fun e he => ((hk q hq7).2.2.2.2.2.1 e he).1) (by have := (hk q hq7).2.2.2.2.1; omega)) ?_ (Nat.le_of_ble_eq_true rfl) rfl
    refine AT.lst1 M_160 rfl rfl ?_
    refine AT.lload_n M_160 rfl rfl ?_
    refine AT.aload M_160 rfl rfl ?_
    refine AT.f_6_1 M_160 rfl (by assumption) (by assumption) ?_
    refine AT.cs2i M_160 rfl M_165 rfl (Nat.le_of_ble_eq_true rfl) rfl (c_165 hq7) ?_ (Nat.le_of_ble_eq_true rfl) rfl
    refine AT.lst1 M_160 rfl rfl ?_
    refine AT.aload_n M_160 rfl rfl ?_
    refine AT.lload_n M_160 rfl rfl ?_
    refine AT.aload M_160 rfl rfl ?_
    refine AT.cv3i M_160 rfl M_166 rfl (Nat.le_of_ble_eq_true rfl) (xKd.of (Or.inr (Or.inr (Or.inl ⟨rfl, rfl, rfl⟩)))) (by decide) (c_166 hq7 (fun i hi => (hk i hi).wf)) ?_ (Nat.le_of_ble_eq_true rfl) rfl
    refine AT.lst1 M_160 rfl rfl ?_
    refine AT.iinc5 M_160 rfl rfl (i32_succ _) ?_
    refine AT.goto M_160 rfl ?_
    rw [show lFor (dAll1 (xK X 0)) (k + 1) q = dAll1 (xK X 0) q ++ lFor (dAll1 (xK X 0)) k (q + 1) from rfl, sDig_app, show dAll1 (xK X 0) q = dSrv (xK X 0) q ++ (dLog (xK X 0) q ((xK X 0).2.1 q) 0 ++ (dTab (xK X 0) q ++ dOth (xK X 0) q)) from rfl, sDig_app, sDig_app, sDig_app]
    exact l_160 hp hk k (q + 1) (by omega) _ _
theorem c_160 {X : XS} (hp : mPr X 0) (hk : ∀ i, i < 7 → sOk (xK X 0) i) : RT 160 [some (.ref 1), none, none, none, none, none, none] X (some (.long (sDig (Int64.ofNat 2423) (dAll (xK X 0))))) X := by
  have ho : (0 : Nat) < 2 := by decide
  refine AT.ldc2 M_160 rfl rfl rfl ?_
  refine AT.lst1 M_160 rfl rfl ?_
  refine AT.lload_n M_160 rfl rfl ?_
  refine AT.ldc2 M_160 rfl rfl rfl ?_
  refine AT.lmul M_160 rfl rfl ?_
  refine AT.aload_n M_160 rfl rfl ?_
  refine AT.cv1i M_160 rfl M_123 rfl (Nat.le_of_ble_eq_true rfl) (xKd.of (Or.inr (Or.inr (Or.inl ⟨rfl, rfl, rfl⟩)))) (by decide) c_123 ?_ (Nat.le_of_ble_eq_true rfl) rfl
  refine AT.i2l M_160 rfl ?_
  refine AT.ladd M_160 rfl rfl ?_
  refine AT.lst1 M_160 rfl rfl ?_
  refine AT.lload_n M_160 rfl rfl ?_
  refine AT.ldc2 M_160 rfl rfl rfl ?_
  refine AT.lmul M_160 rfl rfl ?_
  refine AT.aload_n M_160 rfl rfl ?_
  refine AT.cv1i M_160 rfl M_124 rfl (Nat.le_of_ble_eq_true rfl) (xKd.of (Or.inr (Or.inr (Or.inl ⟨rfl, rfl, rfl⟩)))) (by decide) c_124 ?_ (Nat.le_of_ble_eq_true rfl) rfl
  refine AT.i2l M_160 rfl ?_
  refine AT.ladd M_160 rfl rfl ?_
  refine AT.lst1 M_160 rfl rfl ?_
  refine AT.lload_n M_160 rfl rfl ?_
  refine AT.ldc2 M_160 rfl rfl rfl ?_
  refine AT.lmul M_160 rfl rfl ?_
  refine AT.aload_n M_160 rfl rfl ?_
  refine AT.cv1i M_160 rfl M_107 rfl (Nat.le_of_ble_eq_true rfl) (xKd.of (Or.inr (Or.inr (Or.inl ⟨rfl, rfl, rfl⟩)))) (by decide) c_107 ?_ (Nat.le_of_ble_eq_true rfl) rfl
  refine AT.i2l M_160 rfl ?_
  refine AT.ladd M_160 rfl rfl ?_
  refine AT.lst1 M_160 rfl rfl ?_
  refine AT.lload_n M_160 rfl rfl ?_
  refine AT.ldc2 M_160 rfl rfl rfl ?_
  refine AT.lmul M_160 rfl rfl ?_
  refine AT.aload_n M_160 rfl rfl ?_
  refine AT.cv1i M_160 rfl M_147 rfl (Nat.le_of_ble_eq_true rfl) (xKd.of (Or.inr (Or.inr (Or.inl ⟨rfl, rfl, rfl⟩)))) (by decide) c_147 ?_ (Nat.le_of_ble_eq_true rfl) rfl
  refine AT.i2l M_160 rfl ?_
  refine AT.ladd M_160 rfl rfl ?_
  refine AT.lst1 M_160 rfl rfl ?_
  refine AT.lload_n M_160 rfl rfl ?_
  refine AT.ldc2 M_160 rfl rfl rfl ?_
  refine AT.lmul M_160 rfl rfl ?_
  refine AT.aload_n M_160 rfl rfl ?_
  refine AT.cv1i M_160 rfl M_148 rfl (Nat.le_of_ble_eq_true rfl) (xKd.of (Or.inr (Or.inr (Or.inl ⟨rfl, rfl, rfl⟩)))) (by decide) c_148 ?_ (Nat.le_of_ble_eq_true rfl) rfl
  refine AT.i2l M_160 rfl ?_
  refine AT.ladd M_160 rfl rfl ?_
  refine AT.lst1 M_160 rfl rfl ?_
  refine AT.lload_n M_160 rfl rfl ?_
  refine AT.ldc2 M_160 rfl rfl rfl ?_
  refine AT.lmul M_160 rfl rfl ?_
  refine AT.aload_n M_160 rfl rfl ?_
  refine AT.cv1i M_160 rfl M_149 rfl (Nat.le_of_ble_eq_true rfl) (xKd.of (Or.inr (Or.inr (Or.inl ⟨rfl, rfl, rfl⟩)))) (by decide) c_149 ?_ (Nat.le_of_ble_eq_true rfl) rfl
  refine AT.i2l M_160 rfl ?_
  refine AT.ladd M_160 rfl rfl ?_
  refine AT.lst1 M_160 rfl rfl ?_
  refine AT.aload_n M_160 rfl rfl ?_
  refine AT.lload_n M_160 rfl rfl ?_
  refine AT.cv2i M_160 rfl M_161 rfl (Nat.le_of_ble_eq_true rfl) (xKd.of (Or.inr (Or.inr (Or.inl ⟨rfl, rfl, rfl⟩)))) (by decide) c_161 ?_ (Nat.le_of_ble_eq_true rfl) rfl
  refine AT.lst1 M_160 rfl rfl ?_
  refine AT.aload_n M_160 rfl rfl ?_
  refine AT.lload_n M_160 rfl rfl ?_
  refine AT.cv2i M_160 rfl M_162 rfl (Nat.le_of_ble_eq_true rfl) (xKd.of (Or.inr (Or.inr (Or.inl ⟨rfl, rfl, rfl⟩)))) (by decide) c_162 ?_ (Nat.le_of_ble_eq_true rfl) rfl
  refine AT.lst1 M_160 rfl rfl ?_
  refine AT.aload_n M_160 rfl rfl ?_
  refine AT.f_9_0 M_160 rfl ?_
  refine AT.f_1_0 M_160 rfl (by assumption) ?_
  refine AT.ast3 M_160 rfl rfl ?_
  refine AT.aload_n M_160 rfl rfl ?_
  refine AT.l_svs M_160 rfl (by assumption) ?_
  refine AT.ist4 M_160 rfl rfl ?_
  refine AT.iconst M_160 rfl (v := 0) (by decide) ?_
  refine AT.ist5 M_160 rfl rfl ?_
  unfold dAll
  rw [sDig_app, sDig_app, sDig_app]
  exact l_160 hp hk 7 0 rfl _ _
