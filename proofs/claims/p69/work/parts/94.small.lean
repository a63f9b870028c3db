/-! ===== SMALL THINGS ===== -/
theorem sBit_nat : ∀ n, n < 128 → ∀ j, j < 7 → sBit (Int32.ofNat n) j = n.testBit j := by
  unfold sBit
  decide +kernel
theorem kAskF_1 (K : KK) (s : Nat) (mm kd tm : Int32) {f i j : Nat} (h : ¬ f = 32) : ∀ n q, (kAskF s mm kd tm n q K).1 f i j = K.1 f i j := by
  intro n
  induction n generalizing K with
  | zero => intro q; rfl
  | succ n ih =>
    intro q
    unfold kAskF
    split
    · rw [ih, kSend_1 _ _ h]
    · exact ih _ _
