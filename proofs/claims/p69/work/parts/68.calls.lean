/-! ===== CALLS TO THE OTHERS ===== -/
/-- a call of server s to server q -/
def mAsk (K : KK) (s q : Nat) (kd tm : Int32) : MSG := mSet (mSet (mNew0 kd (Int32.ofNat s) (Int32.ofNat q) tm) 6 (sLast K s)) 7 (sLastT K s)
/-- the calls of server s to the servers from q on, n of them -/
def xAskF (o s : Nat) (mm kd tm : Int32) : Nat → Nat → XS → XS
  | 0, _, X => X
  | n + 1, q, X => xAskF o s mm kd tm n (q + 1) (if ¬ q = s ∧ sBit mm q = true then xSend X o (mAsk (xK X o) s q kd tm) else X)
theorem dV_send (X : XS) (o : Nat) (u : MSG) : dV (xD (xSend X o u)) = dV (xD X) := by
  unfold xSend
  split <;> rfl
theorem xPlace_K (X : XS) (o : Nat) (u : MSG) : ∃ l, xK (xPlace X o u) o = kNet (xK X o) l := by
  unfold xPlace xMsg xCnt kMsg
  simp only [xK_same, xSetK_idem, xD_setK, xK_setD, xD_setD, xSetD_setK, xSetD_idem]
  exact ⟨_, rfl⟩
theorem xPlace_last (X : XS) (o s : Nat) (u : MSG) : sLast (xK (xPlace X o u) o) s = sLast (xK X o) s ∧ sLastT (xK (xPlace X o u) o) s = sLastT (xK X o) s := by
  obtain ⟨l, h⟩ := xPlace_K X o u
  rw [h]
  exact ⟨rfl, rfl⟩
theorem i32_nat {a b : Nat} (ha : a < 2147483648) (hb : b < 2147483648) (h : Int32.ofNat a = Int32.ofNat b) : a = b := by
  have := congrArg Int32.toNatClampNeg h
  rw [(i32_ix ha).1, (i32_ix hb).1] at this
  exact this
theorem l_25 {o s : Nat} (ho : o < 2) (hs : s < 7) {mm kd tm : Int32} : ∀ n q : Nat, q + n = 7 → ∀ X : XS, dV (xD X) o 10 s 0 = mm → ∀ x5 : Option Value, AT 25 2 [some (.ref (aB o)), some (.ref (aS o s)), some (.int kd), some (.int tm), some (.int (Int32.ofNat q)), x5] [] X (fun o' Y => o' = .inl none ∧ Y = xAskF o s mm kd tm n q X)
  | 0, q, hq, X, hm, x5 => by
    refine AT.iload M_25 rfl rfl ?_
    refine AT.bipush M_25 rfl (v := 7) (by decide) ?_
    refine AT.icmp_ge M_25 rfl (fun b4 => ?_) (fun b4 => ?_)
    · refine AT.vret M_25 rfl rfl ?_
      exact ⟨rfl, rfl⟩
    · exact absurd (by rw [show q = 7 by omega]; exact Int32.le_refl _) b4
  | n + 1, q, hq, X, hm, x5 => by
    have hq7 : q < 7 := by omega
    unfold xAskF
    refine AT.iload M_25 rfl rfl ?_
    refine AT.bipush M_25 rfl (v := 7) (by decide) ?_
    refine AT.icmp_ge M_25 rfl (fun b4 => ?_) (fun b4 => ?_)
    · exact absurd ((i32_le (b := q) (a := 7) (by omega) (by omega)).mp b4) (by omega)
    · refine AT.iload M_25 rfl rfl ?_
      refine AT.aload_n M_25 rfl rfl ?_
      refine AT.f_6_0 M_25 rfl (by assumption) (by assumption) ?_
      refine AT.icmp_eq M_25 rfl (fun b8 => ?_) (fun b8 => ?_)
      · have ec : (if ¬ q = s ∧ sBit mm q = true then xSend X o (mAsk (xK X o) s q kd tm) else X) = X := if_neg (fun z => z.1 (i32_nat (by omega) (by omega) b8))
        rw [ec]
        refine AT.iinc4 M_25 rfl rfl (i32_succ _) ?_
        refine AT.goto M_25 rfl ?_
        exact l_25 ho hs n (q + 1) (by omega) _ hm _
      · refine AT.aload_n M_25 rfl rfl ?_
        refine AT.iload M_25 rfl rfl ?_
        refine AT.cv2i M_25 rfl M_66 rfl (Nat.le_of_ble_eq_true rfl) (xKd.of (shp_sv (by assumption) (by assumption))) (by decide) (c_66 ho hs hq7 hm) ?_ (Nat.le_of_ble_eq_true rfl) rfl
        refine AT.if_ne M_25 rfl (fun b12 => ?_) (fun b12 => ?_)
        · refine AT.aload_n M_25 rfl rfl ?_
          refine AT.f_1_2 M_25 rfl (by assumption) ?_
          refine AT.iload_n M_25 rfl rfl ?_
          refine AT.aload_n M_25 rfl rfl ?_
          refine AT.f_6_0 M_25 rfl (by assumption) (by assumption) ?_
          refine AT.iload M_25 rfl rfl ?_
          refine AT.iload_n M_25 rfl rfl ?_
          have ec : (if ¬ q = s ∧ sBit mm q = true then xSend X o (mAsk (xK X o) s q kd tm) else X) = xSend X o (mAsk (xK X o) s q kd tm) := if_pos ⟨fun z => b8 (by rw [z]), bI_ne0.mp b12⟩
          rw [ec]
          intro g0 hg0
          by_cases hn : (xK X o).2.2.length < 60
          · have e := hg0.send ho hn (mAsk (xK X o) s q kd tm)
            have hqn : qNext X o < 61 := hg0.next ho (by omega)
            revert g0
            refine AT.cv5i M_25 rfl M_52 rfl (Nat.le_of_ble_eq_true rfl) (xKd.of (shp_net (by assumption))) (by decide) (c_52w ho hn) ?_ (Nat.le_of_ble_eq_true rfl) rfl
            refine AT.ast5 M_25 rfl rfl ?_
            refine AT.aload M_25 rfl rfl ?_
            refine AT.ifnull1 M_25 rfl ?_
            refine AT.aload M_25 rfl rfl ?_
            refine AT.aload_n M_25 rfl rfl ?_
            refine AT.cv1i M_25 rfl M_62 rfl (Nat.le_of_ble_eq_true rfl) (xKd.of (shp_sv (by assumption) (by assumption))) (by decide) (c_62 ho hs) ?_ (Nat.le_of_ble_eq_true rfl) rfl
            rw [(xPlace_last X o s _).1]
            refine AT.p_3 (q := qNext X o) (k := 6) M_25 rfl ho hqn (by decide) (by decide) (by decide) rfl (fun z => absurd z (by decide)) ?_
            simp only [xPlace_msg, dH_place]
            refine AT.aload M_25 rfl rfl ?_
            refine AT.aload_n M_25 rfl rfl ?_
            refine AT.cv1i M_25 rfl M_63 rfl (Nat.le_of_ble_eq_true rfl) (xKd.of (shp_sv (by assumption) (by assumption))) (by decide) (c_63 ho hs) ?_ (Nat.le_of_ble_eq_true rfl) rfl
            rw [(xPlace_last X o s _).2]
            refine AT.p_3 (q := qNext X o) (k := 7) M_25 rfl ho hqn (by decide) (by decide) (by decide) rfl (fun z => absurd z (by decide)) ?_
            simp only [xPlace_msg, dH_place]
            rw [show mSet (mSet (mNew0 kd (Int32.ofNat s) (Int32.ofNat q) tm) 6 (sLast (xK X o) s)) 7 (sLastT (xK X o) s) = mAsk (xK X o) s q kd tm from rfl, e]
            refine AT.iinc4 M_25 rfl rfl (i32_succ _) ?_
            refine AT.goto M_25 rfl ?_
            exact l_25 ho hs n (q + 1) (by omega) _ (by rw [dV_send]; exact hm) _
          · have e : xSend X o (mAsk (xK X o) s q kd tm) = xSetK X o (kSet (xK X o) 32 0 0 ((xK X o).1 32 0 0 + 1)) := if_neg hn
            have hn60 := hg0.full ho hn
            revert g0
            refine AT.cv5i M_25 rfl M_52 rfl (Nat.le_of_ble_eq_true rfl) (xKd.of (shp_net (by assumption))) (by decide) (c_52f ho hn60) ?_ (Nat.le_of_ble_eq_true rfl) rfl
            refine AT.zst5 M_25 rfl rfl ?_
            refine AT.aload0 M_25 rfl rfl ?_
            refine AT.ifnull0 M_25 rfl ?_
            rw [← e]
            refine AT.iinc4 M_25 rfl rfl (i32_succ _) ?_
            refine AT.goto M_25 rfl ?_
            exact l_25 ho hs n (q + 1) (by omega) _ (by rw [dV_send]; exact hm) _
        · refine AT.goto M_25 rfl ?_
          have ec : (if ¬ q = s ∧ sBit mm q = true then xSend X o (mAsk (xK X o) s q kd tm) else X) = X := if_neg (fun z => by rw [bI_eq0.mp (Classical.not_not.mp b12)] at z; exact absurd z.2 (by decide))
          rw [ec]
          refine AT.iinc4 M_25 rfl rfl (i32_succ _) ?_
          refine AT.goto M_25 rfl ?_
          exact l_25 ho hs n (q + 1) (by omega) _ hm _
theorem c_25 {X : XS} {o s : Nat} (ho : o < 2) (hs : s < 7) {mm kd tm : Int32} (hm : dV (xD X) o 10 s 0 = mm) : RT 25 [some (.ref (aB o)), some (.ref (aS o s)), some (.int kd), some (.int tm), none, none] X none (xAskF o s mm kd tm 7 0 X) := by
  refine AT.iconst M_25 rfl (v := 0) (by decide) ?_
  refine AT.ist4 M_25 rfl rfl ?_
  exact l_25 ho hs 7 0 rfl X hm _
