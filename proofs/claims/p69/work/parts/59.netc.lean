/-! ===== THE NETWORK IS COPIED ===== -/
/-- Network.takeOut -/
theorem c_54w {X : XS} {o j : Nat} (ho : o < 2) (hj : j < (xK X o).2.2.length) : RT 54 [some (.ref (aB o + 3)), some (.int (Int32.ofNat j)), none, none] X (some (.ref (aM o (dP (xD X) o j)))) (xSetK (xSetD X (dSetP (xD X) o (fun k => dP (xD X) o (sgT (xK X o).2.2.length j k)))) o (kNet (xK X o) ((xK X o).2.2.eraseIdx j))) := by
  intro g0 hg0
  have e := lMsg_take hg0 ho hj
  rw [← e]
  exact c_54 ho hj g0 hg0
/-- the messages in the cells of state o -/
def dRowH (D : XD) (o : Nat) (hh : Nat → MSG) : XD := (D.1, D.2.1, D.2.2.1, D.2.2.2.1, D.2.2.2.2.1, D.2.2.2.2.2.1, fun a b => if a = o then hh b else D.2.2.2.2.2.2.1 a b, D.2.2.2.2.2.2.2)
def xRow (X : XS) (o : Nat) (K : KK) (hh : Nat → MSG) : XS := xSetK (xSetD X (dRowH (xD X) o hh)) o (kNet K (lMsg (dRowH (xD X) o hh) o K.2.2.length))
theorem dRowH_o {D : XD} {o o' : Nat} {hh : Nat → MSG} (h : ¬ o' = o) (q : Nat) : dH (dRowH D o hh) o' q = dH D o' q := if_neg h
theorem dRowH_s (D : XD) (o q : Nat) (hh : Nat → MSG) (u : MSG) : dSetH (dRowH D o hh) o q u = dRowH D o (fun b => if b = q then u else hh b) := by
  unfold dSetH dRowH
  refine Prod.ext rfl (Prod.ext rfl (Prod.ext rfl (Prod.ext rfl (Prod.ext rfl (Prod.ext rfl (Prod.ext (funext fun a => funext fun b => ?_) rfl))))))
  show (if a = o ∧ b = q then u else if a = o then hh b else _) = if a = o then (if b = q then u else hh b) else _
  by_cases h1 : a = o
  · rw [if_pos h1, if_pos h1]
    by_cases h2 : b = q
    · rw [if_pos ⟨h1, h2⟩, if_pos h2]
    · rw [if_neg (fun z => h2 z.2), if_neg h2]
  · rw [if_neg h1, if_neg h1, if_neg (fun z => h1 z.1)]
theorem xRow_s (X : XS) (o q : Nat) (K : KK) (hh : Nat → MSG) (u : MSG) : xMsg (xRow X o K hh) o q u = xRow X o K (fun b => if b = q then u else hh b) := by
  unfold xMsg xRow kMsg
  simp only [xK_same, xSetK_idem, xD_setK, xK_setD, xD_setD, xSetD_setK, xSetD_idem, dRowH_s]
  congr 1
  show kNet K (lMsg _ o (lMsg _ o K.2.2.length).length) = _
  rw [lMsg_len]
/-- the network of state o as that of K' -/
def kNetC (K K' : KK) : KK := kSet (kNet (fun a b c => if a = 30 ∧ b < 7 ∧ c = 0 then K'.1 30 b 0 else K.1 a b c, K.2) K'.2.2) 32 0 0 (K'.1 32 0 0)
def kCutC (K K' : KK) : KK := (fun a b c => if a = 30 ∧ b < 7 ∧ c = 0 then K'.1 30 b 0 else K.1 a b c, K.2)
def rNetC (X : XS) (o o' : Nat) (Y : XS) : Prop := ∃ hh, Y = xSetK (xSetD X (dSetV (dRowH (xD X) o hh) o 31 0 0 (dV (xD X) o' 31 0 0))) o (kNetC (xK X o) (xK X o'))
theorem xRow_len (X : XS) (o : Nat) (K : KK) (hh : Nat → MSG) : (xK (xRow X o K hh) o).2.2.length = K.2.2.length := by
  unfold xRow
  rw [xK_same]
  exact lMsg_len _ _ _
theorem xRow_o {X : XS} {o o' : Nat} {K : KK} {hh : Nat → MSG} (h : ¬ o' = o) : xK (xRow X o K hh) o' = xK X o' := if_neg h
