/-! ===== WHAT THE DOCUMENT SAYS, over a state K ===== -/
def bI (b : Bool) : Int32 := if b = true then 1 else 0
theorem bI_01 (b : Bool) : bI b = 0 ∨ bI b = 1 := by cases b <;> simp [bI]
theorem bI_eq0 {b : Bool} : bI b = 0 ↔ b = false := by cases b <;> simp [bI]
theorem bI_ne0 {b : Bool} : ¬ bI b = 0 ↔ b = true := by cases b <;> simp [bI]
/-- a snapshot's index and the log behind it are small -/
def kWf (K : KK) (i : Nat) : Prop := ∃ a : Nat, K.1 18 i 0 = Int32.ofNat a ∧ a + (K.2.1 i).length < 16777216
/-- last index, last term, the entry with an index, its term -/
def sLast (K : KK) (i : Nat) : Int32 := K.1 18 i 0 + Int32.ofNat (K.2.1 i).length
def sLastT (K : KK) (i : Nat) : Int32 := match (K.2.1 i).getLast? with | some e => e 0 | none => K.1 18 i 1
def sEnt (K : KK) (i : Nat) (x : Int32) : Option ENT := if x ≤ K.1 18 i 0 then none else if x ≤ sLast K i then (K.2.1 i)[(x - K.1 18 i 0 - 1).toNatClampNeg]? else none
def sTix (K : KK) (i : Nat) (x : Int32) : Int32 := if x = K.1 18 i 0 then K.1 18 i 1 else match sEnt K i x with | some e => e 0 | none => -1
/-- the bits of a set of at most seven -/
def sCnt (x : Int32) : Int32 := (x &&& (1 : Int32)) + ((x >>> (1 : Int32)) &&& (1 : Int32)) + ((x >>> (2 : Int32)) &&& (1 : Int32)) + ((x >>> (3 : Int32)) &&& (1 : Int32)) + ((x >>> (4 : Int32)) &&& (1 : Int32)) + ((x >>> (5 : Int32)) &&& (1 : Int32)) + ((x >>> (6 : Int32)) &&& (1 : Int32))
def sBit (x : Int32) (j : Nat) : Bool := decide ((x >>> Int32.ofNat j) &&& (1 : Int32) = 1)
/-- the members that a server sees, the index of the entry that says so (-1: its snapshot does) -/
def sMemL : List ENT → Int32 → Int32
  | [], d => d
  | e :: t, d => sMemL t (if e 1 = 4 then e 6 else d)
def sMixL : List ENT → Nat → Int32 → Int32 → Int32
  | [], _, _, d => d
  | e :: t, j, a, d => sMixL t (j + 1) a (if e 1 = 4 then a + 1 + Int32.ofNat j else d)
def sMem (K : KK) (i : Nat) : Int32 := sMemL (K.2.1 i) (K.1 18 i 2)
def sMix (K : KK) (i : Nat) : Int32 := sMixL (K.2.1 i) 0 (K.1 18 i 0) (-1)
def sPat (i : Nat) (t : Int32) : Int32 := 6 + ((3 * Int32.ofNat i + 5 * t) - (3 * Int32.ofNat i + 5 * t) / 7 * 7)
/-- most of a set -/
def sMost (m y : Int32) : Bool := decide (sCnt m < 2 * sCnt (y &&& m))
/-- a log with this last term and index is as good -/
def sGood (K : KK) (i : Nat) (t x : Int32) : Bool := decide (sLastT K i < t ∨ (t = sLastT K i ∧ sLast K i ≤ x))
/-! numbers -/
theorem i32_lt {a b : Nat} (ha : a < 2147483648) (hb : b < 2147483648) : (Int32.ofNat a < Int32.ofNat b) ↔ a < b := Int32.ofNat_lt_iff_lt ha hb
theorem i32_le {a b : Nat} (ha : a < 2147483648) (hb : b < 2147483648) : (Int32.ofNat a ≤ Int32.ofNat b) ↔ a ≤ b := Int32.ofNat_le_ofNat ha hb
theorem i32_int {a : Nat} (ha : a < 2147483648) : (Int32.ofNat a).toInt = (a : Int) := Int32.toInt_ofNat_of_lt ha
theorem i32_eq {a b : Nat} (ha : a < 2147483648) (hb : b < 2147483648) : (Int32.ofNat a = Int32.ofNat b) ↔ a = b := by
  rw [← Int32.toInt_inj, i32_int ha, i32_int hb]; omega
theorem i32_sub3 (u v : Int32) : u + 1 + v - u - 1 = v := by grind
/-- an index between the snapshot's and the last one -/
theorem kWf.ix {K : KK} {i : Nat} (h : kWf K i) {x : Int32} (h1 : ¬ x ≤ K.1 18 i 0) (h2 : x ≤ sLast K i) : ∃ a j : Nat, K.1 18 i 0 = Int32.ofNat a ∧ a + (K.2.1 i).length < 16777216 ∧ j < (K.2.1 i).length ∧ x = Int32.ofNat (a + 1 + j) ∧ x - K.1 18 i 0 - 1 = Int32.ofNat j := by
  obtain ⟨a, h3, h4⟩ := h
  unfold sLast at h2
  rw [h3] at h1 h2
  rw [← Int32.ofNat_add] at h2
  rw [Int32.le_iff_toInt_le, i32_int (by omega)] at h1 h2
  obtain ⟨j, hj⟩ : ∃ j : Nat, j = (x.toInt - a - 1).toNat := ⟨_, rfl⟩
  have e : x = Int32.ofNat (a + 1 + j) := by
    rw [← Int32.toInt_inj, i32_int (by omega)]
    omega
  refine ⟨a, j, h3, h4, by omega, e, ?_⟩
  rw [h3, e, Int32.ofNat_add, Int32.ofNat_add]
  exact i32_sub3 _ _
