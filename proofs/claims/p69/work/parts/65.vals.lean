/-! ===== HOW MANY VALUES ===== -/
def sFirP (K : KK) (s ky j : Nat) : Bool := decide (K.1 4 j 0 = 0) || decide (¬ K.1 19 j ky = K.1 19 s ky)
def sValP (K : KK) (ky i : Nat) : Bool := decide (¬ K.1 4 i 0 = 0) && sAllF (sFirP K i ky) i
