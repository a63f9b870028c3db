/-! ===== AGREED, REACHED ===== -/
def sAgP (K : KK) (b : Nat) (mm : Int32) (i : Nat) : Bool := !(decide (i = b) || (decide (¬ K.1 4 i 0 = 0) && sBit mm i)) || decide (sLast K b ≤ K.1 15 i 0)
def sAgreed (K : KK) (mm : Nat → Int32) : Bool := match sNewL K 7 with | none => false | some b => sAllF (sAgP K b (mm b)) 7
/-- has that been reached which is waited for: kind x, client c -/
def sReach (K : KK) (mm : Nat → Int32) (x : Int32) (c : Nat) : Bool :=
  if x = 0 then !sAllF (fun i => !sLedP K mm i) 7 else if x = 1 then !(decide (¬ K.1 34 c 3 = 0) && decide (K.1 35 c 0 = 0)) else if x = 2 then sAgreed K mm else decide (¬ sCntF (fun i => decide (K.1 12 i 0 = 3)) 7 ≤ 0)
