/-! ===== A SERVER SENDS OF ITS LOG TO ALL OTHERS ===== -/
theorem kSend_1 (K : KK) (u : MSG) {f i j : Nat} (h : ¬ f = 32) : (kSend K u).1 f i j = K.1 f i j := by
  unfold kSend
  split
  · rfl
  · exact if_neg (fun z => h z.1)
theorem kSend_l (K : KK) (u : MSG) : (kSend K u).2.1 = K.2.1 := by
  unfold kSend
  split <;> rfl
theorem kSend_wf {K : KK} {u : MSG} {i : Nat} (h : kWf K i) : kWf (kSend K u) i := kWf_congr h (kSend_1 K u (by decide)) (by rw [kSend_l])
theorem kSend_nx {K : KK} {u : MSG} {s q : Nat} (h : kNx K s q) : kNx (kSend K u) s q := by
  unfold kNx
  rw [kSend_1 K u (by decide), kSend_1 K u (by decide), kSend_l]
  exact h
/-- server s sends of its log to the servers from q on, n of them -/
def kAllF (s : Nat) (mm : Int32) : Nat → Nat → KK → KK
  | 0, _, K => K
  | n + 1, q, K => kAllF s mm n (q + 1) (if ¬ q = s ∧ sBit mm q = true then kSend K (mLog K s q) else K)
def xAllF (o s : Nat) (mm : Int32) : Nat → Nat → XS → XS
  | 0, _, X => X
  | n + 1, q, X => xAllF o s mm n (q + 1) (if ¬ q = s ∧ sBit mm q = true then xSend X o (mLog (xK X o) s q) else X)
theorem xK_all (o s : Nat) (mm : Int32) : ∀ (n q : Nat) (X : XS), xK (xAllF o s mm n q X) o = kAllF s mm n q (xK X o)
  | 0, _, _ => rfl
  | n + 1, q, X => by
    unfold xAllF kAllF
    rw [xK_all o s mm n (q + 1)]
    split
    · rw [xK_send]
    · rfl
/-- to whom a leader sends -/
def sToP (s : Nat) (mm : Int32) (q : Nat) : Bool := decide (¬ q = s) && sBit mm q
theorem l_26 {o s : Nat} (ho : o < 2) (hs : s < 7) {mm : Int32} : ∀ n q : Nat, q + n = 7 → ∀ X : XS, dV (xD X) o 10 s 0 = mm → kWf (xK X o) s → (∀ q, q < 7 → kNx (xK X o) s q) → AT 26 4 [some (.ref (aB o)), some (.ref (aS o s)), some (.int (sCntF (sToP s mm) q)), some (.int (Int32.ofNat q))] [] X (fun o' Y => o' = .inl (some (.int (sCntF (sToP s mm) 7))) ∧ Y = xAllF o s mm n q X)
  | 0, q, hq, X, hm, hw, hN => by
    refine AT.iload_n M_26 rfl rfl ?_
    refine AT.bipush M_26 rfl (v := 7) (by decide) ?_
    refine AT.icmp_ge M_26 rfl (fun b6 => ?_) (fun b6 => ?_)
    · refine AT.iload_n M_26 rfl rfl ?_
      refine AT.iret M_26 rfl rfl ?_
      rw [show q = 7 by omega]
      exact ⟨rfl, rfl⟩
    · exact absurd (by rw [show q = 7 by omega]; exact Int32.le_refl _) b6
  | n + 1, q, hq, X, hm, hw, hN => by
    have hq7 : q < 7 := by omega
    unfold xAllF
    refine AT.iload_n M_26 rfl rfl ?_
    refine AT.bipush M_26 rfl (v := 7) (by decide) ?_
    refine AT.icmp_ge M_26 rfl (fun b6 => ?_) (fun b6 => ?_)
    · exact absurd ((i32_le (b := q) (a := 7) (by omega) (by omega)).mp b6) (by omega)
    · refine AT.iload_n M_26 rfl rfl ?_
      refine AT.aload_n M_26 rfl rfl ?_
      refine AT.f_6_0 M_26 rfl (by assumption) (by assumption) ?_
      refine AT.icmp_eq M_26 rfl (fun b10 => ?_) (fun b10 => ?_)
      · have e : sCntF (sToP s mm) (q + 1) = sCntF (sToP s mm) q := sCntF_f (by simp [sToP, show q = s from (i32_nat (by omega) (by omega) b10)])
        have ec : (if ¬ q = s ∧ sBit mm q = true then xSend X o (mLog (xK X o) s q) else X) = X := if_neg (fun z => z.1 (i32_nat (by omega) (by omega) b10))
        rw [ec, ← e]
        refine AT.iinc3 M_26 rfl rfl (i32_succ _) ?_
        refine AT.goto M_26 rfl ?_
        exact l_26 ho hs n (q + 1) (by omega) _ hm hw hN
      · refine AT.aload_n M_26 rfl rfl ?_
        refine AT.iload_n M_26 rfl rfl ?_
        refine AT.cv2i M_26 rfl M_66 rfl (Nat.le_of_ble_eq_true rfl) (xKd.of (shp_sv (by assumption) (by assumption))) (by decide) (c_66 ho hs hq7 hm) ?_ (Nat.le_of_ble_eq_true rfl) rfl
        refine AT.if_eq M_26 rfl (fun b14 => ?_) (fun b14 => ?_)
        · have e : sCntF (sToP s mm) (q + 1) = sCntF (sToP s mm) q := sCntF_f (by simp [sToP, bI_eq0.mp b14])
          have ec : (if ¬ q = s ∧ sBit mm q = true then xSend X o (mLog (xK X o) s q) else X) = X := if_neg (fun z => by rw [bI_eq0.mp b14] at z; exact absurd z.2 (by decide))
          rw [ec, ← e]
          refine AT.iinc3 M_26 rfl rfl (i32_succ _) ?_
          refine AT.goto M_26 rfl ?_
          exact l_26 ho hs n (q + 1) (by omega) _ hm hw hN
        · refine AT.aload_n M_26 rfl rfl ?_
          refine AT.aload_n M_26 rfl rfl ?_
          refine AT.iload_n M_26 rfl rfl ?_
          refine AT.cv30 M_26 rfl M_27 rfl (Nat.le_of_ble_eq_true rfl) (xKd.of (shp_cl (by assumption))) (by decide) (c_27 ho hs hq7 hw (hN q hq7)) ?_ (Nat.le_of_ble_eq_true rfl) rfl
          refine AT.iinc2 M_26 rfl rfl rfl ?_
          have hne : ¬ q = s := fun z => b10 (by rw [z])
          have e : sCntF (sToP s mm) (q + 1) = sCntF (sToP s mm) q + Int32.ofInt 1 := sCntF_t (by simp [sToP, hne, bI_ne0.mp b14])
          have ec : (if ¬ q = s ∧ sBit mm q = true then xSend X o (mLog (xK X o) s q) else X) = xSend X o (mLog (xK X o) s q) := if_pos ⟨hne, bI_ne0.mp b14⟩
          rw [ec, ← e]
          refine AT.iinc3 M_26 rfl rfl (i32_succ _) ?_
          refine AT.goto M_26 rfl ?_
          exact l_26 ho hs n (q + 1) (by omega) _ (by rw [dV_send]; exact hm) (by rw [xK_send]; exact kSend_wf hw) (fun q2 h2 => by rw [xK_send]; exact kSend_nx (hN q2 h2))
theorem c_26 {X : XS} {o s : Nat} (ho : o < 2) (hs : s < 7) {mm : Int32} (hm : dV (xD X) o 10 s 0 = mm) (hw : kWf (xK X o) s) (hN : ∀ q, q < 7 → kNx (xK X o) s q) : RT 26 [some (.ref (aB o)), some (.ref (aS o s)), none, none] X (some (.int (sCntF (sToP s mm) 7))) (xAllF o s mm 7 0 X) := by
  refine AT.iconst M_26 rfl (v := 0) (by decide) ?_
  refine AT.ist2 M_26 rfl rfl ?_
  refine AT.iconst M_26 rfl (v := 0) (by decide) ?_
  refine AT.ist3 M_26 rfl rfl ?_
  exact l_26 ho hs 7 0 rfl X hm hw hN
