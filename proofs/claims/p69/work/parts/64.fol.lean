/-! ===== WHO IS FOLLOWED ===== -/
def sAllF (p : Nat → Bool) : Nat → Bool
  | 0 => true
  | n + 1 => sAllF p n && p n
theorem sAllF_no {p : Nat → Bool} {q : Nat} (h : p q = false) : ∀ {n : Nat}, q < n → sAllF p n = false
  | 0, hn => by omega
  | n + 1, hn => by
    unfold sAllF
    by_cases e : q = n
    · subst e; rw [h]; simp
    · rw [sAllF_no h (n := n) (by omega)]; rfl
theorem sAllF_up {p : Nat → Bool} {q : Nat} (h : sAllF p q = true) (hq : p q = true) : sAllF p (q + 1) = true := by
  show (sAllF p q && p q) = true
  rw [h, hq]; rfl
def sFolP (K : KK) (s : Nat) (mm : Int32) (i : Nat) : Bool := decide (i = s) || decide (K.1 4 i 0 = 0) || !sBit mm i || decide (K.1 13 i 0 = Int32.ofNat s)
def sLedP (K : KK) (mm : Nat → Int32) (i : Nat) : Bool := decide (K.1 12 i 0 = 3) && sAllF (sFolP K i (mm i)) 7
