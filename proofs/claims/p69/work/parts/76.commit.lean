/-! ===== WHAT IS COMMITTED IS APPLIED ===== -/
/-- an entry that can be: kinds, members, client and key -/
def eOk (e : ENT) : Prop := (e 1 = 4 → ∃ n : Nat, n < 128 ∧ e 6 = Int32.ofNat n) ∧ (eRq e → (∃ c : Nat, c < 4 ∧ e 2 = Int32.ofNat c) ∧ ∃ k : Nat, k < 8 ∧ e 4 = Int32.ofNat k)
def kAns2 (K : KK) (s c : Nat) (e : ENT) : KK := if K.1 12 s 0 = 3 ∧ K.1 34 c 3 = e 3 then kSet (kSet K 35 c 0 1) 36 c 0 (K.1 19 s (12 + c)) else K
/-- an entry is applied by server s; a leader answers its client -/
def kAnsE (K : KK) (s : Nat) (e : ENT) : KK := if 1 ≤ e 1 ∧ e 1 ≤ 3 then kAns2 (kApply K s (e 2).toNatClampNeg (e 4).toNatClampNeg e) s (e 2).toNatClampNeg e else K
def kAnsO (K : KK) (s : Nat) : Option ENT → KK
  | some e => kAnsE K s e
  | none => K
/-- server s applies the entries behind index c, n of them -/
def kAppl (K : KK) (s c : Nat) : Nat → KK
  | 0 => K
  | n + 1 => kAnsO (kAppl K s c n) s (sEnt K s (Int32.ofNat (c + (n + 1))))
theorem kAppl_s (K : KK) (s c n : Nat) : kAppl K s c (n + 1) = kAnsO (kAppl K s c n) s (sEnt K s (Int32.ofNat (c + (n + 1)))) := rfl
def kComm (K : KK) (s c n : Nat) : KK := kSet (kAppl K s c n) 15 s 0 (Int32.ofNat (c + n))
theorem kSet_comm {K : KK} {f i j f' i' j' : Nat} {v w : Int32} (h : ¬ (f = f' ∧ i = i' ∧ j = j')) : kSet (kSet K f i j v) f' i' j' w = kSet (kSet K f' i' j' w) f i j v := by
  refine Prod.ext (funext fun a => funext fun b => funext fun c => ?_) rfl
  show (if a = f' ∧ b = i' ∧ c = j' then w else if a = f ∧ b = i ∧ c = j then v else _) = (if a = f ∧ b = i ∧ c = j then v else if a = f' ∧ b = i' ∧ c = j' then w else _)
  by_cases h1 : a = f' ∧ b = i' ∧ c = j'
  · rw [if_pos h1]
    by_cases h2 : a = f ∧ b = i ∧ c = j
    · exact absurd ⟨h2.1.symm.trans h1.1, h2.2.1.symm.trans h1.2.1, h2.2.2.symm.trans h1.2.2⟩ h
    · rw [if_neg h2, if_pos h1]
  · rw [if_neg h1]
    by_cases h2 : a = f ∧ b = i ∧ c = j
    · rw [if_pos h2, if_pos h2]
    · rw [if_neg h2, if_neg h2, if_neg h1]
theorem kSet_idem (K : KK) (f i j : Nat) (v w : Int32) : kSet (kSet K f i j v) f i j w = kSet K f i j w := by
  refine Prod.ext (funext fun a => funext fun b => funext fun c => ?_) rfl
  show (if a = f ∧ b = i ∧ c = j then w else if a = f ∧ b = i ∧ c = j then v else _) = (if a = f ∧ b = i ∧ c = j then w else _)
  by_cases h1 : a = f ∧ b = i ∧ c = j
  · rw [if_pos h1, if_pos h1]
  · rw [if_neg h1, if_neg h1, if_neg h1]
theorem kSet_self (K : KK) (f i j : Nat) : kSet K f i j (K.1 f i j) = K := by
  refine Prod.ext (funext fun a => funext fun b => funext fun c => ?_) rfl
  show (if a = f ∧ b = i ∧ c = j then _ else _) = _
  split
  · rename_i h; rw [h.1, h.2.1, h.2.2]
  · rfl
theorem kSet_at (K : KK) (f i j : Nat) (v : Int32) : (kSet K f i j v).1 f i j = v := if_pos ⟨rfl, rfl, rfl⟩
theorem kSet_ne {K : KK} {f i j a b c : Nat} {v : Int32} (h : ¬ (a = f ∧ b = i ∧ c = j)) : (kSet K f i j v).1 a b c = K.1 a b c := if_neg h
theorem kApply_set {K : KK} {s c ky f i j : Nat} {r : ENT} {v : Int32} (h : ¬ f = 19) : kApply (kSet K f i j v) s c ky r = kSet (kApply K s c ky r) f i j v := by
  have e : ∀ a b, (kSet K f i j v).1 19 a b = K.1 19 a b := fun a b => if_neg (fun z => h z.1.symm)
  have cm : ∀ (K : KK) b w, kSet (kSet K f i j v) 19 s b w = kSet (kSet K 19 s b w) f i j v := fun K b w => kSet_comm (fun z => h z.1)
  have e2 : ∀ (K : KK) a b, (kSet K f i j v).1 19 a b = K.1 19 a b := fun K a b => if_neg (fun z => h z.1.symm)
  unfold kApply kAp1
  simp only [cm, e2]
  split
  · rfl
  · split
    · rfl
    · split
      · rfl
      · split <;> rfl
theorem kAns2_set {K : KK} {s c f i j : Nat} {r : ENT} {v : Int32} (h : ¬ (f = 19 ∨ f = 12 ∨ f = 34 ∨ f = 35 ∨ f = 36)) : kAns2 (kSet K f i j v) s c r = kSet (kAns2 K s c r) f i j v := by
  unfold kAns2
  rw [kSet_ne (fun z => h (Or.inr (Or.inl z.1.symm))), kSet_ne (fun z => h (Or.inr (Or.inr (Or.inl z.1.symm)))), kSet_ne (fun z => h (Or.inl z.1.symm))]
  split
  · rw [kSet_comm (f := f) (f' := 35) (fun z => h (Or.inr (Or.inr (Or.inr (Or.inl z.1))))), kSet_comm (f := f) (f' := 36) (fun z => h (Or.inr (Or.inr (Or.inr (Or.inr z.1)))))]
  · rfl
theorem kAnsO_set {K : KK} {s f i j : Nat} {r : Option ENT} {v : Int32} (h : ¬ (f = 19 ∨ f = 12 ∨ f = 34 ∨ f = 35 ∨ f = 36)) : kAnsO (kSet K f i j v) s r = kSet (kAnsO K s r) f i j v := by
  cases r with
  | none => rfl
  | some e =>
    show kAnsE _ _ _ = kSet (kAnsE _ _ _) _ _ _ _
    unfold kAnsE
    split
    · rw [kApply_set (fun z => h (Or.inl z)), kAns2_set h]
    · rfl
/-- what applying leaves alone -/
theorem kApply_1 {K : KK} {s c ky f i j : Nat} {r : ENT} (h : ¬ (f = 19 ∧ i = s)) : (kApply K s c ky r).1 f i j = K.1 f i j := by
  have e : ∀ (K : KK) b w, (kSet K 19 s b w).1 f i j = K.1 f i j := fun K b w => if_neg (fun z => h ⟨z.1, z.2.1⟩)
  unfold kApply kAp1
  split
  · rfl
  · split
    · simp only [e]
    · split
      · simp only [e]
      · split <;> simp only [e]
theorem kApply_2 (K : KK) (s c ky : Nat) (r : ENT) : (kApply K s c ky r).2 = K.2 := by
  unfold kApply kAp1
  split
  · rfl
  · split
    · rfl
    · split
      · rfl
      · split <;> rfl
theorem kAns2_1 {K : KK} {s c f i j : Nat} {r : ENT} (h : ¬ (f = 35 ∨ f = 36)) : (kAns2 K s c r).1 f i j = K.1 f i j := by
  unfold kAns2
  split
  · rw [kSet_ne (fun z => h (Or.inr z.1)), kSet_ne (fun z => h (Or.inl z.1))]
  · rfl
theorem kAns2_2 (K : KK) (s c : Nat) (r : ENT) : (kAns2 K s c r).2 = K.2 := by
  unfold kAns2
  split <;> rfl
theorem kAnsO_1 {K : KK} {s f i j : Nat} {r : Option ENT} (h : ¬ (f = 35 ∨ f = 36)) (h2 : ¬ (f = 19 ∧ i = s)) : (kAnsO K s r).1 f i j = K.1 f i j := by
  cases r with
  | none => rfl
  | some e =>
    show (kAnsE _ _ _).1 _ _ _ = _
    unfold kAnsE
    split
    · rw [kAns2_1 h, kApply_1 h2]
    · rfl
theorem kAnsO_2 (K : KK) (s : Nat) (r : Option ENT) : (kAnsO K s r).2 = K.2 := by
  cases r with
  | none => rfl
  | some e =>
    show (kAnsE _ _ _).2 = _
    unfold kAnsE
    split
    · rw [kAns2_2, kApply_2]
    · rfl
theorem kAppl_1 {K : KK} {s c f i j : Nat} (h : ¬ (f = 35 ∨ f = 36)) (h2 : ¬ (f = 19 ∧ i = s)) : ∀ n, (kAppl K s c n).1 f i j = K.1 f i j
  | 0 => rfl
  | n + 1 => (kAnsO_1 h h2).trans (kAppl_1 h h2 n)
theorem kAppl_2 (K : KK) (s c : Nat) : ∀ n, (kAppl K s c n).2 = K.2
  | 0 => rfl
  | n + 1 => (kAnsO_2 _ _ _).trans (kAppl_2 K s c n)
theorem kComm_1 {K : KK} {s c n f i j : Nat} (h : ¬ (f = 35 ∨ f = 36)) (h2 : ¬ (f = 19 ∧ i = s)) (h3 : ¬ (f = 15 ∧ i = s ∧ j = 0)) : (kComm K s c n).1 f i j = K.1 f i j := (kSet_ne h3).trans (kAppl_1 h h2 n)
theorem kComm_2 (K : KK) (s c n : Nat) : (kComm K s c n).2 = K.2 := kAppl_2 K s c n
theorem kComm_ent (K : KK) (s c n i : Nat) (x : Int32) : sEnt (kComm K s c n) i x = sEnt K i x := sEnt_congr (kComm_1 (by decide) (by omega) (by omega)) (by rw [kComm_2]) x
theorem kComm_up (K : KK) (s c n : Nat) (v : Int32) : kSet (kComm K s c n) 15 s 0 v = kSet (kAppl K s c n) 15 s 0 v := kSet_idem _ _ _ _ _ _
theorem sEnt_at {K : KK} {s a i : Nat} (ha : K.1 18 s 0 = Int32.ofNat a) (hl : a + (K.2.1 s).length < 16777216) (hi : i < (K.2.1 s).length) : sEnt K s (Int32.ofNat (a + 1 + i)) = (K.2.1 s)[i]? := by
  have e1 : (Int32.ofNat (a + 1 + i) - Int32.ofNat a - 1).toNatClampNeg = i := by
    rw [Int32.ofNat_add, Int32.ofNat_add, show (Int32.ofNat a + Int32.ofNat 1 + Int32.ofNat i - Int32.ofNat a - 1 : Int32) = Int32.ofNat i from i32_sub3 _ _]
    exact (i32_ix (by omega)).1
  have e2 : sLast K s = Int32.ofNat (a + (K.2.1 s).length) := by unfold sLast; rw [ha, Int32.ofNat_add]
  unfold sEnt
  rw [e2, ha, if_neg (by rw [i32_le (by omega) (by omega)]; omega), if_pos (by rw [i32_le (by omega) (by omega)]; omega), e1]
theorem sEnt_mem {K : KK} {i : Nat} {x : Int32} {e : ENT} (h : sEnt K i x = some e) (hw : kWf K i) : e ∈ K.2.1 i := by
  obtain ⟨-, -, j, -, h4⟩ := sEnt_some h hw
  exact List.mem_of_getElem? h4
theorem l_29 {X : XS} {o s : Nat} (ho : o < 2) (hs : s < 7) {a c m : Nat} (ha : (xK X o).1 18 s 0 = Int32.ofNat a) (hac : a ≤ c) (hcm : c + m ≤ a + ((xK X o).2.1 s).length) (hl : a + ((xK X o).2.1 s).length < 16777216) (hE : ∀ e, e ∈ (xK X o).2.1 s → eOk e) {x : Int32} (hx0 : (m = 0 ∧ x ≤ Int32.ofNat c) ∨ x = Int32.ofNat (c + m)) : ∀ n k : Nat, k + n = m → ∀ x3 x4 x5 : Option Value, AT 29 0 [some (.ref (aB o)), some (.ref (aS o s)), some (.int x), x3, x4, x5] [] (xSetK X o (kComm (xK X o) s c k)) (fun o' Y => o' = .inl none ∧ Y = (xSetK X o (kComm (xK X o) s c m)))
  | 0, k, hk, x3, x4, x5 => by
    have hx : x ≤ Int32.ofNat (c + k) := by
      rcases hx0 with ⟨z1, z2⟩ | z
      · rw [show c + k = c by omega]; exact z2
      · rw [z, show c + k = c + m by omega]; exact Int32.le_refl _
    refine AT.aload_n M_29 rfl rfl ?_
    refine AT.f_6_15 M_29 rfl ho hs ?_
    rw [xK_same, show (kComm (xK X o) s c k).1 15 s 0 = Int32.ofNat (c + k) from kSet_at _ _ _ _ _]
    refine AT.iload_n M_29 rfl rfl ?_
    refine AT.icmp_ge M_29 rfl (fun b3 => ?_) (fun b3 => ?_)
    · refine AT.vret M_29 rfl rfl ?_
      exact ⟨rfl, by rw [show k = m by omega]⟩
    · exact absurd hx b3
  | n + 1, k, hk, x3, x4, x5 => by
    have hx : ¬ x ≤ Int32.ofNat (c + k) := by
      rcases hx0 with ⟨z1, z2⟩ | z
      · omega
      · rw [z, i32_le (by omega) (by omega)]; omega
    have hK2 : ∀ y, sEnt (kSet (kAppl (xK X o) s c k) 15 s 0 (Int32.ofNat (c + (k + 1)))) s y = sEnt (xK X o) s y := fun y => sEnt_congr ((kSet_ne (by omega)).trans (kAppl_1 (by decide) (by omega) k)) (by show (kAppl (xK X o) s c k).2.1 s = _; rw [kAppl_2]) y
    have hwf : kWf (xK (xSetK X o (kSet (kAppl (xK X o) s c k) 15 s 0 (Int32.ofNat (c + (k + 1))))) o) s := by
      rw [xK_same]
      exact kWf_congr ⟨a, ha, hl⟩ ((kSet_ne (by omega)).trans (kAppl_1 (by decide) (by omega) k)) (by show (kAppl (xK X o) s c k).2.1 s = _; rw [kAppl_2])
    obtain ⟨e, hsE⟩ : ∃ e, sEnt (xK X o) s (Int32.ofNat (c + (k + 1))) = some e := by
      have h1 := sEnt_at ha hl (i := c + k - a) (by omega)
      rw [show a + 1 + (c + k - a) = c + (k + 1) by omega, List.getElem?_eq_getElem (by omega)] at h1
      exact ⟨_, h1⟩
    refine AT.aload_n M_29 rfl rfl ?_
    refine AT.f_6_15 M_29 rfl ho hs ?_
    rw [xK_same, show (kComm (xK X o) s c k).1 15 s 0 = Int32.ofNat (c + k) from kSet_at _ _ _ _ _]
    refine AT.iload_n M_29 rfl rfl ?_
    refine AT.icmp_ge M_29 rfl (fun b3 => ?_) (fun b3 => ?_)
    · exact absurd b3 hx
    · refine AT.aload_n M_29 rfl rfl ?_
      refine AT.dup M_29 rfl ?_
      refine AT.f_6_15 M_29 rfl ho hs ?_
      rw [xK_same, show (kComm (xK X o) s c k).1 15 s 0 = Int32.ofNat (c + k) from kSet_at _ _ _ _ _]
      refine AT.iconst M_29 rfl (v := 1) (by decide) ?_
      refine AT.iadd M_29 rfl rfl ?_
      refine AT.p_6_15 M_29 rfl ho hs ?_
      rw [xK_same, xSetK_idem, kComm_up, show Int32.ofNat (c + k) + 1 = Int32.ofNat (c + (k + 1)) from i32_suc1 _]
      refine AT.aload_n M_29 rfl rfl ?_
      refine AT.aload_n M_29 rfl rfl ?_
      refine AT.f_6_15 M_29 rfl ho hs ?_
      rw [xK_same, kSet_at]
      refine AT.cv2p M_29 rfl M_64 rfl (Nat.le_of_ble_eq_true rfl) (xKd.of (shp_sv (by assumption) (by assumption))) (by decide) (c_64 ho hs (by rw [xK_same, hK2]; exact hsE) hwf) (fun p13 he13 => ?_) (Nat.le_of_ble_eq_true rfl) rfl
      refine AT.ast3 M_29 rfl rfl ?_
      refine AT.aload_n M_29 rfl rfl ?_
      refine AT.ifnn1 M_29 rfl ?_
      refine AT.aload_n M_29 rfl rfl ?_
      refine AT.f_2_2 M_29 rfl (by assumption) (fun b20 q20 hq20 => ?_) (fun b20 hq20 => ?_)
      · refine AT.ast4 M_29 rfl rfl ?_
        refine AT.aload M_29 rfl rfl ?_
        refine AT.ifnn1 M_29 rfl ?_
        refine AT.aload_n M_29 rfl rfl ?_
        refine AT.f_6_1 M_29 rfl (by assumption) (by assumption) ?_
        refine AT.aload M_29 rfl rfl ?_
        obtain ⟨⟨cc, hc4, hc⟩, ky, hky8, hky⟩ := (hE e (sEnt_mem hsE ⟨a, ha, hl⟩)).2 b20
        have hcc : (e 2).toNatClampNeg = cc := by rw [hc]; exact (i32_ix (by omega)).1
        have hkk8 : (e 4).toNatClampNeg = ky := by rw [hky]; exact (i32_ix (by omega)).1
        refine AT.cv20 M_29 rfl M_93 rfl (Nat.le_of_ble_eq_true rfl) (xKd.of (shp_tab (by assumption) (by assumption))) (by decide) (c_93 ho hs (by assumption) hc hky hc4 hky8) ?_ (Nat.le_of_ble_eq_true rfl) rfl
        rw [xK_same, xSetK_idem, kApply_set (by decide)]
        refine AT.aload_n M_29 rfl rfl ?_
        refine AT.f_1_1 M_29 rfl (by assumption) ?_
        refine AT.aload M_29 rfl rfl ?_
        refine AT.f_5_0 M_29 rfl (by assumption) ?_
        refine AT.a_cls M_29 rfl hc ho hc4 ?_
        refine AT.ast5 M_29 rfl rfl ?_
        refine AT.aload_n M_29 rfl rfl ?_
        refine AT.f_6_12 M_29 rfl (by assumption) (by assumption) ?_
        simp only [xK_same]
        refine AT.iconst M_29 rfl (v := 3) (by decide) ?_
        refine AT.icmp_ne M_29 rfl (fun b38 => ?_) (fun b38 => ?_)
        · have hkk : kAnsO (kAppl (xK X o) s c k) s (sEnt (xK X o) s (Int32.ofNat (c + (k + 1)))) = kAns2 (kApply (kAppl (xK X o) s c k) s cc ky e) s cc e := by
            rw [hsE]
            show kAnsE _ _ _ = _
            unfold kAnsE
            rw [if_pos (show 1 ≤ e 1 ∧ e 1 ≤ 3 from b20), hcc, hkk8]
          rw [show kAns2 (kApply (kAppl (xK X o) s c k) s cc ky e) s cc e = _ from if_neg (fun z => b38 ((kSet_ne (by omega)).trans z.1))] at hkk
          refine AT.goto M_29 rfl ?_
          have hst : xSetK X o (kSet (kApply (kAppl (xK X o) s c k) s cc ky e) 15 s 0 (Int32.ofNat (c + (k + 1)))) = xSetK X o (kComm (xK X o) s c (k + 1)) := by
            unfold kComm
            rw [kAppl_s, hkk]
            try rw [kSet_comm (f := 36) (f' := 15) (by omega), kSet_comm (f := 35) (f' := 15) (by omega)]
            try rfl
          first | rw [hst] | skip
          exact l_29 ho hs ha hac hcm hl hE hx0 n (k + 1) (by omega) _ _ _
        · refine AT.aload M_29 rfl rfl ?_
          refine AT.cv1i M_29 rfl M_3 rfl (Nat.le_of_ble_eq_true rfl) (xKd.of (shp_cli (by assumption) (by assumption))) (by decide) (c_3 ho hc4) ?_ (Nat.le_of_ble_eq_true rfl) rfl
          simp only [xK_same]
          refine AT.aload M_29 rfl rfl ?_
          refine AT.f_5_1 M_29 rfl (by assumption) ?_
          refine AT.icmp_ne M_29 rfl (fun b43 => ?_) (fun b43 => ?_)
          · have hkk : kAnsO (kAppl (xK X o) s c k) s (sEnt (xK X o) s (Int32.ofNat (c + (k + 1)))) = kAns2 (kApply (kAppl (xK X o) s c k) s cc ky e) s cc e := by
              rw [hsE]
              show kAnsE _ _ _ = _
              unfold kAnsE
              rw [if_pos (show 1 ≤ e 1 ∧ e 1 ≤ 3 from b20), hcc, hkk8]
            rw [show kAns2 (kApply (kAppl (xK X o) s c k) s cc ky e) s cc e = _ from if_neg (fun z => b43 ((kSet_ne (by omega)).trans z.2))] at hkk
            refine AT.goto M_29 rfl ?_
            have hst : xSetK X o (kSet (kApply (kAppl (xK X o) s c k) s cc ky e) 15 s 0 (Int32.ofNat (c + (k + 1)))) = xSetK X o (kComm (xK X o) s c (k + 1)) := by
              unfold kComm
              rw [kAppl_s, hkk]
              try rw [kSet_comm (f := 36) (f' := 15) (by omega), kSet_comm (f := 35) (f' := 15) (by omega)]
              try rfl
            first | rw [hst] | skip
            exact l_29 ho hs ha hac hcm hl hE hx0 n (k + 1) (by omega) _ _ _
          · refine AT.aload M_29 rfl rfl ?_
            refine AT.iconst M_29 rfl (v := 1) (by decide) ?_
            refine AT.p_0_1 M_29 rfl (by assumption) (by assumption) (by first | exact Or.inl rfl | exact Or.inr rfl | assumption) ?_
            simp only [xK_same, xSetK_idem]
            refine AT.aload M_29 rfl rfl ?_
            refine AT.aload_n M_29 rfl rfl ?_
            refine AT.f_6_1 M_29 rfl (by assumption) (by assumption) ?_
            refine AT.f_8_2 M_29 rfl (by assumption) (by assumption) ?_
            refine AT.aload M_29 rfl rfl ?_
            refine AT.f_5_0 M_29 rfl (by assumption) ?_
            refine AT.a_giv M_29 rfl hc ho hs hc4 ?_
            refine AT.p_0_2 M_29 rfl (by assumption) (by assumption) ?_
            simp only [xK_same, xSetK_idem]
            have hkk : kAnsO (kAppl (xK X o) s c k) s (sEnt (xK X o) s (Int32.ofNat (c + (k + 1)))) = kAns2 (kApply (kAppl (xK X o) s c k) s cc ky e) s cc e := by
              rw [hsE]
              show kAnsE _ _ _ = _
              unfold kAnsE
              rw [if_pos (show 1 ≤ e 1 ∧ e 1 ≤ 3 from b20), hcc, hkk8]
            have h12 : (kApply (kAppl (xK X o) s c k) s cc ky e).1 12 s 0 = 3 ∧ (kApply (kAppl (xK X o) s c k) s cc ky e).1 34 cc 3 = e 3 := ⟨by rw [← Classical.not_not.mp b38]; exact (kSet_ne (by omega)).symm, by rw [← Classical.not_not.mp b43]; exact (kSet_ne (by omega)).symm⟩
            rw [show kAns2 (kApply (kAppl (xK X o) s c k) s cc ky e) s cc e = _ from if_pos h12] at hkk
            refine AT.goto M_29 rfl ?_
            have hst : xSetK X o (kSet (kSet (kSet (kApply (kAppl (xK X o) s c k) s cc ky e) 15 s 0 (Int32.ofNat (c + (k + 1)))) 35 cc 0 1) 36 cc 0 ((kSet (kSet (kApply (kAppl (xK X o) s c k) s cc ky e) 15 s 0 (Int32.ofNat (c + (k + 1)))) 35 cc 0 1).1 19 s (12 + cc))) = xSetK X o (kComm (xK X o) s c (k + 1)) := by
              unfold kComm
              rw [kAppl_s, hkk]
              try rw [kSet_comm (f := 36) (f' := 15) (by omega), kSet_comm (f := 35) (f' := 15) (by omega)]
              try rfl
            first | rw [hst] | skip
            exact l_29 ho hs ha hac hcm hl hE hx0 n (k + 1) (by omega) _ _ _
      · refine AT.zst4 M_29 rfl rfl ?_
        refine AT.aload0 M_29 rfl rfl ?_
        refine AT.ifnn0 M_29 rfl ?_
        have hkk : kAnsO (kAppl (xK X o) s c k) s (sEnt (xK X o) s (Int32.ofNat (c + (k + 1)))) = kAppl (xK X o) s c k := by
          rw [hsE]
          show kAnsE _ _ _ = _
          exact if_neg b20
        refine AT.goto M_29 rfl ?_
        have hst : (xSetK X o (kSet (kAppl (xK X o) s c k) 15 s 0 (Int32.ofNat (c + (k + 1))))) = xSetK X o (kComm (xK X o) s c (k + 1)) := by
          unfold kComm
          rw [kAppl_s, hkk]
          try rw [kSet_comm (f := 36) (f' := 15) (by omega), kSet_comm (f := 35) (f' := 15) (by omega)]
          try rfl
        first | rw [hst] | skip
        exact l_29 ho hs ha hac hcm hl hE hx0 n (k + 1) (by omega) _ _ _
theorem c_29 {X : XS} {o s : Nat} (ho : o < 2) (hs : s < 7) {a c m : Nat} (ha : (xK X o).1 18 s 0 = Int32.ofNat a) (hac : a ≤ c) (hcm : c + m ≤ a + ((xK X o).2.1 s).length) (hl : a + ((xK X o).2.1 s).length < 16777216) (hE : ∀ e, e ∈ (xK X o).2.1 s → eOk e) {x : Int32} (hc15 : (xK X o).1 15 s 0 = Int32.ofNat c) (hx0 : (m = 0 ∧ x ≤ Int32.ofNat c) ∨ x = Int32.ofNat (c + m)) : RT 29 [some (.ref (aB o)), some (.ref (aS o s)), some (.int x), none, none, none] X none (xSetK X o (kComm (xK X o) s c m)) := by
  have h := l_29 ho hs ha hac hcm hl hE hx0 m 0 (Nat.zero_add _) none none none
  rw [show kComm (xK X o) s c 0 = xK X o from by show kSet (xK X o) 15 s 0 (Int32.ofNat (c + 0)) = _; rw [Nat.add_zero, ← hc15]; exact kSet_self _ _ _ _, xSetK_self] at h
  exact h
