/-! ===== WHAT THE CELLS OF THE PURE HEAP SAY ===== -/
abbrev ENT : Type := Nat → Int32
/-- a message: its numbers (by the slots of the class), its snapshot, its entries -/
abbrev MSG : Type := (Nat → Int32) × Option ENT × List ENT
/-- a state of the servers: numbers by field, server and place; logs; messages under way -/
abbrev KK : Type := (Nat → Nat → Nat → Int32) × (Nat → List ENT) × List MSG
def kSet (K : KK) (f i j : Nat) (v : Int32) : KK := (fun a b c => if a = f ∧ b = i ∧ c = j then v else K.1 a b c, K.2)
def kRow (K : KK) (f i : Nat) (r : Nat → Int32) : KK := (fun a b c => if a = f ∧ b = i then r c else K.1 a b c, K.2)
def kLog (K : KK) (i : Nat) (l : List ENT) : KK := (K.1, fun b => if b = i then l else K.2.1 b, K.2.2)
def kNet (K : KK) (n : List MSG) : KK := (K.1, K.2.1, n)
/-- what goes with a state beside: objects made, where logs lie, their room, what lies there, private numbers, the order of the messages' cells, what is in them, cells and slots made -/
abbrev XD : Type := (Nat → Nat × ENT) × (Nat → Nat → Nat) × (Nat → Nat → Nat) × (Nat → Nat → Nat → Nat) × (Nat → Nat → Nat → Nat → Int32) × (Nat → Nat → Nat) × (Nat → Nat → MSG) × Nat × Nat
def dE (D : XD) : Nat → Nat × ENT := D.1
def dA (D : XD) : Nat → Nat → Nat := D.2.1
def dR (D : XD) : Nat → Nat → Nat := D.2.2.1
def dQ (D : XD) : Nat → Nat → Nat → Nat := D.2.2.2.1
def dV (D : XD) : Nat → Nat → Nat → Nat → Int32 := D.2.2.2.2.1
def dP (D : XD) : Nat → Nat → Nat := D.2.2.2.2.2.1
def dH (D : XD) : Nat → Nat → MSG := D.2.2.2.2.2.2.1
def dC (D : XD) : Nat := D.2.2.2.2.2.2.2.1
def dZ (D : XD) : Nat := D.2.2.2.2.2.2.2.2
/-- everything: states 0, 1 of the class, 2, 3 of the reference; what was thrown, the sum, the law's row; the script; what goes beside -/
abbrev XS : Type := (Nat → KK) × Int32 × Int64 × Int64 × (Nat × (Nat → Int32)) × XD
def xK (X : XS) : Nat → KK := X.1
def xT (X : XS) : Int32 := X.2.1
def xS (X : XS) : Int64 := X.2.2.1
def xO (X : XS) : Int64 := X.2.2.2.1
def xC (X : XS) : Nat × (Nat → Int32) := X.2.2.2.2.1
def xD (X : XS) : XD := X.2.2.2.2.2
def xSetK (X : XS) (o : Nat) (K : KK) : XS := (fun a => if a = o then K else X.1 a, X.2)
def xSetD (X : XS) (D : XD) : XS := (X.1, X.2.1, X.2.2.1, X.2.2.2.1, X.2.2.2.2.1, D)
def xSetT (X : XS) (t : Int32) : XS := (X.1, t, X.2.2)
def xSetS (X : XS) (t : Int64) : XS := (X.1, X.2.1, t, X.2.2.2)
def xSetO (X : XS) (t : Int64) : XS := (X.1, X.2.1, X.2.2.1, t, X.2.2.2.2)
/-- private numbers: what the class keeps beside (10 members, 11 their index, 31 cut links), what the reference does (20 applied, 40 told, 41 the row of messages, 42 the rows of the logs) -/
def xPriv (f : Nat) : Bool := f == 10 || (f == 11 || (f == 31 || (f == 20 || (f == 40 || (f == 41 || f == 42)))))
def xN (X : XS) (o f i j : Nat) : Int32 := if xPriv f = true then dV (xD X) o f i j else (xK X o).1 f i j
/-! places: the class's states o = 0, 1, the reference's o = 2, 3 -/
abbrev aB (o : Nat) : Nat := 2 + 193 * o
abbrev aS (o i : Nat) : Nat := 135 + 193 * o + 8 * i
abbrev aC (o c : Nat) : Nat := 191 + 193 * o + c
abbrev aM (o q : Nat) : Nat := 8 + 193 * o + 2 * q
abbrev bB (o : Nat) : Nat := 267 + 61 * o
/-- the number (f, i, j) of state o lies in cell a at place k -/
def locC (o f i j a k : Nat) : Prop :=
  (4 ≤ f ∧ f ≤ 17 ∧ f ≠ 7 ∧ f ≠ 8 ∧ f ≠ 9 ∧ i < 7 ∧ j = 0 ∧ a = aS o i ∧ k = f) ∨
  (f = 19 ∧ i < 7 ∧ j < 8 ∧ a = aS o i + 2 ∧ k = j) ∨ (f = 19 ∧ i < 7 ∧ 8 ≤ j ∧ j < 12 ∧ a = aS o i + 3 ∧ k + 8 = j) ∨ (f = 19 ∧ i < 7 ∧ 12 ≤ j ∧ j < 16 ∧ a = aS o i + 4 ∧ k + 12 = j) ∨
  (f = 2 ∧ i < 7 ∧ j < 7 ∧ a = aS o i + 5 ∧ k = j) ∨ (f = 3 ∧ i < 7 ∧ j < 7 ∧ a = aS o i + 6 ∧ k = j) ∨
  (f = 30 ∧ i < 7 ∧ j = 0 ∧ a = aB o + 5 ∧ k = i) ∨ (31 ≤ f ∧ f ≤ 32 ∧ i = 0 ∧ j = 0 ∧ a = aB o + 3 ∧ k + 27 = f) ∨
  (f = 33 ∧ i = 0 ∧ j = 0 ∧ a = aB o ∧ k = 3) ∨ (35 ≤ f ∧ f ≤ 36 ∧ i < 4 ∧ j = 0 ∧ a = aC o i ∧ k + 34 = f)
def locR (o f i j a k : Nat) : Prop :=
  (f = 33 ∧ i = 0 ∧ j = 0 ∧ a = bB o ∧ k = 0) ∨ (f = 32 ∧ i = 0 ∧ j = 0 ∧ a = bB o ∧ k = 1) ∨
  (4 ≤ f ∧ f ≤ 6 ∧ i < 7 ∧ j = 0 ∧ a + 3 = bB o + f ∧ k = i) ∨ (12 ≤ f ∧ f ≤ 15 ∧ i < 7 ∧ j = 0 ∧ a + 8 = bB o + f ∧ k = i) ∨
  (f = 20 ∧ i < 7 ∧ j = 0 ∧ a = bB o + 8 ∧ k = i) ∨ (f = 17 ∧ i < 7 ∧ j = 0 ∧ a = bB o + 9 ∧ k = i) ∨ (f = 16 ∧ i < 7 ∧ j = 0 ∧ a = bB o + 10 ∧ k = i) ∨ (f = 30 ∧ i < 7 ∧ j = 0 ∧ a = bB o + 11 ∧ k = i) ∨
  (f = 18 ∧ i < 7 ∧ j < 3 ∧ a = bB o + 12 + j ∧ k = i) ∨ (f = 18 ∧ i < 7 ∧ 3 ≤ j ∧ j < 19 ∧ a = bB o + 16 + i ∧ k + 3 = j) ∨ (f = 19 ∧ i < 7 ∧ j < 16 ∧ a = bB o + 24 + i ∧ k = j) ∨
  (f = 2 ∧ i < 7 ∧ j < 7 ∧ a = bB o + 41 + i ∧ k = j) ∨ (f = 3 ∧ i < 7 ∧ j < 7 ∧ a = bB o + 49 + i ∧ k = j) ∨
  (f = 41 ∧ i = 0 ∧ j < 2160 ∧ a = bB o + 56 ∧ k = j) ∨ (f = 40 ∧ i = 0 ∧ j < 36 ∧ a = bB o + 57 ∧ k = j) ∨
  (f = 34 ∧ i < 4 ∧ j < 7 ∧ a = bB o + 58 ∧ k = 7 * i + j) ∨ (35 ≤ f ∧ f ≤ 36 ∧ i < 4 ∧ j = 0 ∧ a + 35 = bB o + 59 + f ∧ k = i)
def loc (o f i j a k : Nat) : Prop := (o < 2 ∧ locC o f i j a k) ∨ (2 ≤ o ∧ o < 2 ∧ locR o f i j a k)
/-- a cell's kind, its length (an array's) -/
def shpC (o a kd ln : Nat) : Prop :=
  (a = aB o ∧ kd = 1 ∧ ln = 0) ∨ (a = aB o + 1 ∧ kd = 18 ∧ ln = 7) ∨ (a = aB o + 2 ∧ kd = 15 ∧ ln = 4) ∨ (a = aB o + 3 ∧ kd = 4 ∧ ln = 0) ∨ (a = aB o + 4 ∧ kd = 17 ∧ ln = 60) ∨ (a = aB o + 5 ∧ kd = 12 ∧ ln = 7) ∨
  (∃ q, q < 61 ∧ ((a = aM o q ∧ kd = 3 ∧ ln = 0) ∨ (a = aM o q + 1 ∧ kd = 16 ∧ ln = 4))) ∨
  (∃ i, i < 7 ∧ ((a = aS o i ∧ kd = 6 ∧ ln = 0) ∨ (a = aS o i + 1 ∧ kd = 8 ∧ ln = 0) ∨ (a = aS o i + 2 ∧ kd = 12 ∧ ln = 8) ∨ (a = aS o i + 3 ∧ kd = 12 ∧ ln = 4) ∨ (a = aS o i + 4 ∧ kd = 12 ∧ ln = 4) ∨ (a = aS o i + 5 ∧ kd = 12 ∧ ln = 7) ∨ (a = aS o i + 6 ∧ kd = 12 ∧ ln = 7))) ∨
  (∃ c, c < 4 ∧ a = aC o c ∧ kd = 0 ∧ ln = 0)
def shpR (o a kd ln : Nat) : Prop :=
  (a = bB o ∧ kd = 10 ∧ ln = 0) ∨ (a = bB o + 1 ∧ kd = 13 ∧ ln = 7) ∨ (bB o + 2 ≤ a ∧ a ≤ bB o + 14 ∧ kd = 12 ∧ ln = 7) ∨ (a = bB o + 15 ∧ kd = 19 ∧ ln = 7) ∨ (bB o + 16 ≤ a ∧ a ≤ bB o + 22 ∧ kd = 12 ∧ ln = 16) ∨
  (a = bB o + 23 ∧ kd = 19 ∧ ln = 7) ∨ (bB o + 24 ≤ a ∧ a ≤ bB o + 30 ∧ kd = 12 ∧ ln = 16) ∨ (a = bB o + 31 ∧ kd = 12 ∧ ln = 7) ∨ (a = bB o + 32 ∧ kd = 19 ∧ ln = 7) ∨
  (a = bB o + 40 ∧ kd = 19 ∧ ln = 7) ∨ (bB o + 41 ≤ a ∧ a ≤ bB o + 47 ∧ kd = 12 ∧ ln = 7) ∨ (a = bB o + 48 ∧ kd = 19 ∧ ln = 7) ∨ (bB o + 49 ≤ a ∧ a ≤ bB o + 55 ∧ kd = 12 ∧ ln = 7) ∨
  (a = bB o + 56 ∧ kd = 12 ∧ ln = 2160) ∨ (a = bB o + 57 ∧ kd = 12 ∧ ln = 36) ∨ (a = bB o + 58 ∧ kd = 12 ∧ ln = 28) ∨ (bB o + 59 ≤ a ∧ a ≤ bB o + 60 ∧ kd = 12 ∧ ln = 4)
def shp (a kd ln : Nat) : Prop := (∃ o, o < 2 ∧ shpC o a kd ln) ∨ (∃ o, 2 ≤ o ∧ o < 2 ∧ shpR o a kd ln) ∨ (a = 1 ∧ kd = 9 ∧ ln = 0) ∨ (a = 1 ∧ kd = 9 ∧ ln = 0) ∨ (a = 1 ∧ kd = 9 ∧ ln = 0)
/-- references that stay as they are -/
def srfC (o a k b : Nat) : Prop :=
  (a = aB o ∧ k < 3 ∧ b = aB o + 1 + k) ∨ (a = aB o + 1 ∧ k < 7 ∧ b = aS o k) ∨ (a = aB o + 2 ∧ k < 4 ∧ b = aC o k) ∨ (a = aB o + 3 ∧ k < 2 ∧ b = aB o + 4 + k) ∨
  (∃ q, q < 61 ∧ a = aM o q ∧ k = 0 ∧ b = aM o q + 1) ∨
  (∃ i, i < 7 ∧ ((a = aS o i ∧ k = 1 ∧ b = aS o i + 1) ∨ (a = aS o i ∧ k = 2 ∧ b = aS o i + 5) ∨ (a = aS o i ∧ k = 3 ∧ b = aS o i + 6) ∨ (a = aS o i + 1 ∧ k < 3 ∧ b = aS o i + 2 + k)))
def srfR (o a k b : Nat) : Prop :=
  (a = bB o ∧ 2 ≤ k ∧ k ≤ 16 ∧ b + 1 = bB o + k) ∨ (a = bB o ∧ k = 17 ∧ b = bB o + 23) ∨ (a = bB o ∧ 18 ≤ k ∧ k ≤ 19 ∧ b = bB o + 13 + k) ∨ (a = bB o ∧ k = 20 ∧ b = bB o + 40) ∨ (a = bB o ∧ k = 21 ∧ b = bB o + 48) ∨ (a = bB o ∧ 23 ≤ k ∧ k ≤ 27 ∧ b = bB o + 33 + k) ∨
  (a = bB o + 15 ∧ k < 7 ∧ b = bB o + 16 + k) ∨ (a = bB o + 23 ∧ k < 7 ∧ b = bB o + 24 + k) ∨ (a = bB o + 40 ∧ k < 7 ∧ b = bB o + 41 + k) ∨ (a = bB o + 48 ∧ k < 7 ∧ b = bB o + 49 + k)
def srf (a k b : Nat) : Prop := (∃ o, o < 2 ∧ srfC o a k b) ∨ (∃ o, 2 ≤ o ∧ o < 2 ∧ srfR o a k b) ∨ (a = 1 ∧ k < 2 ∧ b = 2 + 193 * k) ∨ (a = 1 ∧ k < 2 ∧ b = 2 + 193 * k)
/-- cells that are there from the beginning and may be written -/
def stat (a : Nat) : Prop := a < 388 ∧ ¬ (130 ≤ a ∧ a ≤ 134) ∧ ¬ (323 ≤ a ∧ a ≤ 327)
/-- an entry's numbers: 0 term, 1 kind, 2 client, 3 serial, 4 key, 5 value, 6 expected or members; is it a request -/
def eRq (e : ENT) : Prop := 1 ≤ e 1 ∧ e 1 ≤ 3
/-- a request's object, with the numbers of r -/
def dRq (D : XD) (q : Nat) (r : ENT) : Prop := ∃ r', dE D q = (2, r') ∧ ∀ k, 1 ≤ k → k ≤ 6 → r' k = r k
/-- a snapshot's object: 0 index, 1 term, 2 members, from 3 on the table -/
def dSn (D : XD) (p : Nat) (r : ENT) : Prop := ∃ r', dE D p = (3, r') ∧ ∀ k, k < 19 → r' k = r k
/-- what lies at a cell that was made: 1 an entry, 2 a request, 3 a snapshot (9: its parts), 10 + kind one that is being made, 100 + length a row of ints -/
def oOk (D : XD) (g : PS) (p : Nat) : Prop :=
  ((dE D p).1 = 1 → pK g p = 2 ∧ pM g p 0 = .int ((dE D p).2 0) ∧ pM g p 1 = .int ((dE D p).2 1) ∧
    ((eRq (dE D p).2 ∧ pM g p 3 = .int 0 ∧ ∃ q, pM g p 2 = .ref q ∧ dRq D q (dE D p).2) ∨ (¬ eRq (dE D p).2 ∧ pM g p 2 = .null ∧ pM g p 3 = .int ((dE D p).2 6) ∧ (dE D p).2 2 = -1 ∧ (dE D p).2 3 = 0 ∧ (dE D p).2 4 = 0 ∧ (dE D p).2 5 = 0))) ∧
  ((dE D p).1 = 2 → pK g p = 5 ∧ pM g p 0 = .int ((dE D p).2 2) ∧ pM g p 1 = .int ((dE D p).2 3) ∧ pM g p 2 = .int ((dE D p).2 1) ∧ pM g p 3 = .int ((dE D p).2 4) ∧ pM g p 4 = .int ((dE D p).2 6) ∧ pM g p 5 = .int ((dE D p).2 5)) ∧
  ((dE D p).1 = 3 → pK g p = 7 ∧ (∀ k, k < 3 → pM g p k = .int ((dE D p).2 k)) ∧ pM g p 3 = .ref (p + 1) ∧ pK g (p + 1) = 8 ∧ (∀ k, k < 3 → pM g (p + 1) k = .ref (p + 2 + k) ∧ pK g (p + 2 + k) = 12) ∧ pL g (p + 2) = 8 ∧ pL g (p + 3) = 4 ∧ pL g (p + 4) = 4 ∧
    (∀ k, k < 8 → pM g (p + 2) k = .int ((dE D p).2 (3 + k))) ∧ (∀ k, k < 4 → pM g (p + 3) k = .int ((dE D p).2 (11 + k)) ∧ pM g (p + 4) k = .int ((dE D p).2 (15 + k))) ∧ ∀ k, 1 ≤ k → k ≤ 4 → (dE D (p + k)).1 = 9) ∧
  (10 ≤ (dE D p).1 → (dE D p).1 < 100 → pK g p = (dE D p).1 - 10) ∧
  (100 ≤ (dE D p).1 → pK g p = 12 ∧ pL g p = (dE D p).1 - 100 ∧ ∀ k, k < (dE D p).1 - 100 → pM g p k = .int ((dE D p).2 k))
/-- what lies in a message's row of entries is nothing or an entry -/
def mSl (D : XD) (g : PS) (a : Nat) : Prop := ∀ j, j < 4 → pM g (a + 1) j = .null ∨ ∃ p e, pM g (a + 1) j = .ref p ∧ dE D p = (1, e)
theorem mSl.mv {D D' : XD} {g g' : PS} {a : Nat} (h : mSl D g a) (hM : ∀ j, pM g' (a + 1) j = pM g (a + 1) j) (hE : ∀ p e, dE D p = (1, e) → dE D' p = (1, e)) : mSl D' g' a := fun j hj => by
  rw [hM]
  rcases h j hj with z | ⟨p, e, z1, z2⟩
  · exact Or.inl z
  · exact Or.inr ⟨p, e, z1, hE p e z2⟩
/-- a message in the cells a, a + 1 -/
def mAt (D : XD) (g : PS) (a : Nat) (u : MSG) : Prop :=
  (∀ k, 1 ≤ k → k ≤ 9 → pM g a k = .int (u.1 k)) ∧ (u.1 5 = 0 ∨ u.1 5 = 1) ∧ (u.2.1 = none → pM g a 10 = .null) ∧ (∀ r, u.2.1 = some r → ∃ p, pM g a 10 = .ref p ∧ dSn D p r) ∧ (u.2.2.length ≤ 4 ∧ mSl D g a) ∧ ∀ j e, u.2.2[j]? = some e → ∃ p, pM g (a + 1) j = .ref p ∧ dE D p = (1, e)
/-- a message's row of numbers, as the reference has it -/
def mRow (u : MSG) (k : Nat) : Int32 :=
  if k < 4 then u.1 (k + 1) else if k = 4 then (if u.1 1 = 2 ∨ u.1 1 = 4 then u.1 5 else u.1 6)
  else if k = 5 then (if u.1 1 = 6 then u.1 5 else if u.1 1 = 7 then (u.2.1.getD (fun _ => 0)) 1 else u.1 7)
  else if k = 6 then (if u.1 1 = 7 then (u.2.1.getD (fun _ => 0)) 2 else u.1 8) else if k = 7 then u.1 9
  else if u.1 1 = 7 then (if k < 24 then (u.2.1.getD (fun _ => 0)) (k - 5) else 0) else (u.2.2.getD ((k - 8) / 7) (fun _ => 0)) ((k - 8) % 7)
/-- THE HEAP SAYS X: its parts -/
def rSz (X : XS) (g : PS) : Prop := 388 ≤ pN g ∧ pC g ≤ dC (xD X) ∧ pZ g ≤ dZ (xD X) ∧ pN g = dC (xD X) + 1
def rSh (g : PS) : Prop := ∀ a kd ln, shp a kd ln → pK g a = kd ∧ (12 ≤ kd → pL g a = ln)
def rNm (X : XS) (g : PS) : Prop := ∀ o f i j a k, loc o f i j a k → pM g a k = .int (xN X o f i j)
def rSf (g : PS) : Prop := ∀ a k b, srf a k b → pM g a k = .ref b
def rOn (X : XS) (g : PS) : Prop := pM g 1 2 = .null ∧ pM g 1 3 = .null ∧ pM g 1 4 = .null ∧ pK g 0 = 20 ∧ pL g 0 = (xC X).1 ∧ ∀ k, k < (xC X).1 → pM g 0 k = .int ((xC X).2 k)
def rCt (X : XS) (g : PS) : Prop :=
  (∀ o, o < 2 → pM g (aB o + 3) 3 = .int (Int32.ofNat (xK X o).2.2.length) ∧ ∀ i, i < 7 → pM g (aS o i) 8 = .int (Int32.ofNat ((xK X o).2.1 i).length) ∧ pM g (aS o i) 0 = .int (Int32.ofNat i)) ∧
  (∀ o, 2 ≤ o → o < 2 → pM g (bB o) 22 = .int (Int32.ofNat (xK X o).2.2.length) ∧ ∀ i, i < 7 → pM g (bB o + 31) i = .int (Int32.ofNat ((xK X o).2.1 i).length))
def rWf (X : XS) : Prop := ∀ o, o < 2 → (xK X o).2.2.length ≤ 60 ∧ (∀ i, i < 7 → ((xK X o).1 4 i 0 = 0 ∨ (xK X o).1 4 i 0 = 1)) ∧ ∀ c, c < 4 → ((xK X o).1 35 c 0 = 0 ∨ (xK X o).1 35 c 0 = 1)
def rLc (X : XS) (g : PS) : Prop := ∀ o i, o < 2 → i < 7 → pM g (aS o i) 7 = .ref (dA (xD X) o i) ∧ pK g (dA (xD X) o i) = 16 ∧ pL g (dA (xD X) o i) = dR (xD X) o i ∧ (dA (xD X) o i = aS o i + 7 ∨ 388 ≤ dA (xD X) o i) ∧
    ((xK X o).2.1 i).length ≤ dR (xD X) o i ∧ 64 ≤ dR (xD X) o i ∧ dR (xD X) o i ≤ 1048576 ∧ (∀ j, dQ (xD X) o i j ≠ 0 → j < dR (xD X) o i → pM g (dA (xD X) o i) j = .ref (dQ (xD X) o i j)) ∧ ∀ j e, ((xK X o).2.1 i)[j]? = some e → dE (xD X) (dQ (xD X) o i j) = (1, e) ∧ dQ (xD X) o i j ≠ 0
def rLr (X : XS) (g : PS) : Prop := ∀ o i, 2 ≤ o → o < 2 → i < 7 → pM g (bB o + 32) i = .ref (dA (xD X) o i) ∧ pK g (dA (xD X) o i) = 12 ∧ pL g (dA (xD X) o i) = dR (xD X) o i ∧ (dA (xD X) o i = bB o + 33 + i ∨ 388 ≤ dA (xD X) o i) ∧
    7 * ((xK X o).2.1 i).length ≤ dR (xD X) o i ∧ (∀ k, k < dR (xD X) o i → pM g (dA (xD X) o i) k = .int (dV (xD X) o 42 i k)) ∧ ∀ j e, ((xK X o).2.1 i)[j]? = some e → ∀ k, k < 7 → dV (xD X) o 42 i (7 * j + k) = e k
def rLa (X : XS) (g : PS) : Prop := ∀ o i, o < 2 → i < 7 → dA (xD X) o i < pN g ∧ (dE (xD X) (dA (xD X) o i)).1 = 0 ∧ ∀ o' i', o' < 2 → i' < 7 → dA (xD X) o i = dA (xD X) o' i' → o = o' ∧ i = i'
def rSn (X : XS) (g : PS) : Prop := ∀ o i, o < 2 → i < 7 → ∃ p, pM g (aS o i) 9 = .ref p ∧ dSn (xD X) p ((xK X o).1 18 i)
def rRq (X : XS) (g : PS) : Prop := ∀ o c, o < 2 → c < 4 → ((xK X o).1 34 c 3 = 0 → pM g (aC o c) 0 = .null) ∧ ((xK X o).1 34 c 3 ≠ 0 → ∃ q, pM g (aC o c) 0 = .ref q ∧ dRq (xD X) q ((xK X o).1 34 c))
def rNt (X : XS) (g : PS) : Prop := ∀ o, o < 2 → pM g (aB o + 3) 2 = .ref (aM o (dP (xD X) o 60)) ∧ (∀ j, j < 60 → pM g (aB o + 4) j = .ref (aM o (dP (xD X) o j))) ∧ (∀ j, j < 61 → dP (xD X) o j < 61) ∧ (∀ j j', j < 61 → j' < 61 → dP (xD X) o j = dP (xD X) o j' → j = j') ∧
    (∀ q, q < 61 → mAt (xD X) g (aM o q) (dH (xD X) o q)) ∧ ∀ j u, (xK X o).2.2[j]? = some u → dH (xD X) o (dP (xD X) o j) = u
def rPo (X : XS) : Prop := ∀ o, 2 ≤ o → o < 2 → ∀ j u, (xK X o).2.2[j]? = some u → ∀ k, k < 36 → dV (xD X) o 41 0 (36 * j + k) = mRow u k
def rOb (X : XS) (g : PS) : Prop := (dE (xD X) 0).1 = 0 ∧ ∀ p, (dE (xD X) p).1 ≠ 0 → p < pN g ∧ ¬ stat p ∧ oOk (xD X) g p
def Rep (X : XS) (g : PS) : Prop := rSz X g ∧ rSh g ∧ rNm X g ∧ rSf g ∧ rOn X g ∧ rCt X g ∧ rWf X ∧ rLc X g ∧ rLr X g ∧ rLa X g ∧ rSn X g ∧ rRq X g ∧ rNt X g ∧ rPo X ∧ rOb X g
/-! the places, told apart -/
theorem locC_rng {o f i j a k : Nat} (h : locC o f i j a k) : 2 + 193 * o ≤ a ∧ a < 195 + 193 * o := by
  dsimp only [locC, aB, aS, aC] at h
  rcases h with h | h | h | h | h | h | h | h | h | h <;> omega
theorem locR_rng {o f i j a k : Nat} (h : locR o f i j a k) : 267 + 61 * o ≤ a ∧ a < 328 + 61 * o := by
  dsimp only [locR, bB] at h
  rcases h with h | h | h | h | h | h | h | h | h | h | h | h | h | h | h | h | h <;> omega
theorem srfC_rng {o a k b : Nat} (h : srfC o a k b) : 2 + 193 * o ≤ a ∧ a < 195 + 193 * o := by
  rcases h with h | h | h | h | ⟨q, h⟩ | ⟨q, hq, h | h | h | h⟩ <;> dsimp only [aB, aS, aC, aM] at h <;> omega
theorem srfR_rng {o a k b : Nat} (h : srfR o a k b) : 267 + 61 * o ≤ a ∧ a < 328 + 61 * o := by
  dsimp only [srfR, bB] at h
  rcases h with h | h | h | h | h | h | h | h | h | h <;> omega
theorem loc_stat {o f i j a k : Nat} (h : loc o f i j a k) : stat a ∧ a ≠ 1 ∧ a ≠ 1 ∧ a ≠ 0 := by
  rcases h with ⟨ho, h⟩ | ⟨h1, h2, h⟩
  · rcases (show o = 0 ∨ o = 1 by omega) with rfl | rfl <;> dsimp only [locC, aB, aS, aC] at h <;> unfold stat <;> rcases h with h | h | h | h | h | h | h | h | h | h <;> omega
  · have := locR_rng h
    unfold stat
    omega
theorem loc_inj {o f i j a k o' f' i' j' : Nat} (h : loc o f i j a k) (h' : loc o' f' i' j' a k) : o = o' ∧ f = f' ∧ i = i' ∧ j = j' := by
  rcases h with ⟨ho, h⟩ | ⟨h1, h2, h⟩ <;> rcases h' with ⟨ho', h'⟩ | ⟨h1', h2', h'⟩
  · have z1 := locC_rng h
    have z2 := locC_rng h'
    have e : o' = o := by omega
    subst e
    refine ⟨rfl, ?_⟩
    clear z1 z2
    dsimp only [locC, aB, aS, aC] at h h'
    rcases h with h | h | h | h | h | h | h | h | h | h <;> rcases h' with h' | h' | h' | h' | h' | h' | h' | h' | h' | h' <;> omega
  · have z1 := locC_rng h
    have z2 := locR_rng h'
    omega
  · have z1 := locC_rng h'
    have z2 := locR_rng h
    omega
  · have z1 := locR_rng h
    have z2 := locR_rng h'
    have e : o' = o := by omega
    subst e
    refine ⟨rfl, ?_⟩
    clear z1 z2
    dsimp only [locR, bB] at h h'
    rcases h with h | h | h | h | h | h | h | h | h | h | h | h | h | h | h | h | h <;> rcases h' with h' | h' | h' | h' | h' | h' | h' | h' | h' | h' | h' | h' | h' | h' | h' | h' | h' <;> omega
theorem loc_fun {o f i j a k a' k' : Nat} (h : loc o f i j a k) (h' : loc o f i j a' k') : a = a' ∧ k = k' := by
  rcases h with ⟨ho, h⟩ | ⟨h1, h2, h⟩ <;> rcases h' with ⟨ho', h'⟩ | ⟨h1', h2', h'⟩
  · dsimp only [locC, aB, aS, aC] at h h'
    rcases h with h | h | h | h | h | h | h | h | h | h <;> rcases h' with h' | h' | h' | h' | h' | h' | h' | h' | h' | h' <;> omega
  · omega
  · omega
  · dsimp only [locR, bB] at h h'
    rcases h with h | h | h | h | h | h | h | h | h | h | h | h | h | h | h | h | h <;> rcases h' with h' | h' | h' | h' | h' | h' | h' | h' | h' | h' | h' | h' | h' | h' | h' | h' | h' <;> omega
theorem loc_srf {o f i j a k b : Nat} (h : loc o f i j a k) (h' : srf a k b) : False := by
  rcases h' with ⟨o', ho', h'⟩ | ⟨o', h1', h2', h'⟩ | h' | h'
  · rcases h with ⟨ho, h⟩ | ⟨h1, h2, h⟩
    · have z1 := locC_rng h
      have z2 := srfC_rng h'
      have e : o' = o := by omega
      subst e
      clear z1 z2
      dsimp only [locC, aB, aS, aC] at h
      rcases h' with h' | h' | h' | h' | ⟨q, h'⟩ | ⟨q, hq, h' | h' | h' | h'⟩ <;> dsimp only [aB, aS, aC, aM] at h' <;> rcases h with h | h | h | h | h | h | h | h | h | h <;> omega
    · have z1 := locR_rng h
      have z2 := srfC_rng h'
      omega
  · rcases h with ⟨ho, h⟩ | ⟨h1, h2, h⟩
    · have z1 := locC_rng h
      have z2 := srfR_rng h'
      omega
    · have z1 := locR_rng h
      have z2 := srfR_rng h'
      have e : o' = o := by omega
      subst e
      clear z1 z2
      dsimp only [locR, bB] at h
      dsimp only [srfR, bB] at h'
      rcases h with h | h | h | h | h | h | h | h | h | h | h | h | h | h | h | h | h <;> rcases h' with h' | h' | h' | h' | h' | h' | h' | h' | h' | h' <;> omega
  · rcases h with ⟨ho, h⟩ | ⟨h1, h2, h⟩
    · have := locC_rng h; omega
    · have := locR_rng h; omega
  · have := loc_stat h
    omega
/-- a place is none of: counts, logs, snapshots, requests, messages -/
def nOth (a k : Nat) : Prop := ∀ o' i', (o' < 2 → i' < 7 → ¬ (a = aS o' i' ∧ (k = 0 ∨ k = 7 ∨ k = 8 ∨ k = 9)) ∧ a ≠ aS o' i' + 7) ∧ (o' < 2 → i' < 4 → ¬ (a = aC o' i' ∧ k = 0)) ∧ (o' < 2 → ¬ (a = aB o' + 3 ∧ (k = 2 ∨ k = 3)) ∧ a ≠ aB o' + 4 ∧ (i' < 61 → a ≠ aM o' i' ∧ a ≠ aM o' i' + 1)) ∧
    (2 ≤ o' → o' < 2 → ¬ (a = bB o' ∧ k = 22) ∧ a ≠ bB o' + 31 ∧ a ≠ bB o' + 32 ∧ (i' < 7 → a ≠ bB o' + 33 + i'))
theorem loc_oth {o f i j a k : Nat} (h : loc o f i j a k) : nOth a k := by
  intro o' i'
  dsimp only [aB, aS, aC, aM, bB]
  rcases h with ⟨ho, h⟩ | ⟨h1, h2, h⟩
  · have z1 := locC_rng h
    refine ⟨fun y1 y2 => ⟨?_, ?_⟩, fun y1 y2 => ?_, fun y1 => ⟨?_, ?_, fun y2 => ⟨?_, ?_⟩⟩, fun y1 y2 => ⟨?_, ?_, ?_, fun y3 => ?_⟩⟩ <;> intro z <;> first | (exfalso; omega) | skip
    all_goals
      have e : o' = o := by omega
      subst e
      clear z1
      dsimp only [locC, aB, aS, aC] at h
      rcases h with h | h | h | h | h | h | h | h | h | h <;> omega
  · have z1 := locR_rng h
    refine ⟨fun y1 y2 => ⟨?_, ?_⟩, fun y1 y2 => ?_, fun y1 => ⟨?_, ?_, fun y2 => ⟨?_, ?_⟩⟩, fun y1 y2 => ⟨?_, ?_, ?_, fun y3 => ?_⟩⟩ <;> intro z <;> first | (exfalso; omega) | skip
    all_goals
      have e : o' = o := by omega
      subst e
      clear z1
      dsimp only [locR, bB] at h
      rcases h with h | h | h | h | h | h | h | h | h | h | h | h | h | h | h | h | h <;> omega
/-! a write, and what it leaves alone -/
/-- other contents, the rest as it was -/
def pSet (g : PS) (M : Nat → Nat → Value) : PS := (g.1, g.2.1, M, g.2.2.2)
def dSetV (D : XD) (o f i j : Nat) (v : Int32) : XD := (D.1, D.2.1, D.2.2.1, D.2.2.2.1, fun a b c d => if a = o ∧ b = f ∧ c = i ∧ d = j then v else D.2.2.2.2.1 a b c d, D.2.2.2.2.2)
section FRM
variable {X : XS} {g : PS} {M : Nat → Nat → Value} {P : Nat → Nat → Prop}
theorem rSz.frm (h : rSz X g) : rSz X (pSet g M) := h
theorem rSh.frm (h : rSh g) : rSh (pSet g M) := h
theorem rLa.frm (h : rLa X g) : rLa X (pSet g M) := h
theorem rNm.frm (h : rNm X g) (hM : ∀ a k, ¬ P a k → M a k = pM g a k) (hn : ∀ o f i j a k, loc o f i j a k → ¬ P a k) : rNm X (pSet g M) :=
  fun o f i j a k hl => (hM a k (hn o f i j a k hl)).trans (h o f i j a k hl)
theorem rSf.frm (h : rSf g) (hM : ∀ a k, ¬ P a k → M a k = pM g a k) (hn : ∀ a k b, srf a k b → ¬ P a k) : rSf (pSet g M) :=
  fun a k b hl => (hM a k (hn a k b hl)).trans (h a k b hl)
theorem rOn.frm (h : rOn X g) (hM : ∀ a k, ¬ P a k → M a k = pM g a k) (hn : ∀ k, ¬ P 1 k ∧ ¬ P 1 k ∧ ¬ P 0 k) : rOn X (pSet g M) := by
  obtain ⟨h1, h2, h3, h4, h5, h6⟩ := h
  exact ⟨(hM _ _ (hn 2).1).trans h1, (hM _ _ (hn 3).1).trans h2, (hM _ _ (hn 4).1).trans h3, h4, h5, fun q hq => (hM _ _ (hn q).2.2).trans (h6 q hq)⟩
theorem rCt.frm (h : rCt X g) (hM : ∀ a k, ¬ P a k → M a k = pM g a k) (hn : ∀ o i, (o < 2 → ¬ P (aB o + 3) 3) ∧ (o < 2 → i < 7 → ¬ P (aS o i) 8 ∧ ¬ P (aS o i) 0) ∧ (2 ≤ o → o < 2 → ¬ P (bB o) 22 ∧ (i < 7 → ¬ P (bB o + 31) i))) : rCt X (pSet g M) := by
  obtain ⟨h1, h2⟩ := h
  exact ⟨fun o ho => ⟨(hM _ _ ((hn o 0).1 ho)).trans (h1 o ho).1, fun i hi => ⟨(hM _ _ ((hn o i).2.1 ho hi).1).trans ((h1 o ho).2 i hi).1, (hM _ _ ((hn o i).2.1 ho hi).2).trans ((h1 o ho).2 i hi).2⟩⟩,
    fun o ho ho' => ⟨(hM _ _ ((hn o 0).2.2 ho ho').1).trans (h2 o ho ho').1, fun i hi => (hM _ _ (((hn o i).2.2 ho ho').2 hi)).trans ((h2 o ho ho').2 i hi)⟩⟩
theorem rLc.frm (h : rLc X g) (hM : ∀ a k, ¬ P a k → M a k = pM g a k) (hn : ∀ o i, o < 2 → i < 7 → ¬ P (aS o i) 7 ∧ ∀ k, ¬ P (dA (xD X) o i) k) : rLc X (pSet g M) := by
  intro o i ho hi
  obtain ⟨h1, h2, h3, h4, h5, h6, h7, h8, h9⟩ := h o i ho hi
  exact ⟨(hM _ _ (hn o i ho hi).1).trans h1, h2, h3, h4, h5, h6, h7, fun j hj hj2 => (hM _ _ ((hn o i ho hi).2 j)).trans (h8 j hj hj2), h9⟩
theorem rLr.frm (h : rLr X g) (hM : ∀ a k, ¬ P a k → M a k = pM g a k) (hn : ∀ o i, 2 ≤ o → o < 2 → i < 7 → ¬ P (bB o + 32) i ∧ ∀ k, ¬ P (dA (xD X) o i) k) : rLr X (pSet g M) := by
  intro o i ho ho' hi
  obtain ⟨h1, h2, h3, h4, h5, h6, h7⟩ := h o i ho ho' hi
  exact ⟨(hM _ _ (hn o i ho ho' hi).1).trans h1, h2, h3, h4, h5, fun q hq => (hM _ _ ((hn o i ho ho' hi).2 q)).trans (h6 q hq), h7⟩
theorem rSn.frm (h : rSn X g) (hM : ∀ a k, ¬ P a k → M a k = pM g a k) (hn : ∀ o i, o < 2 → i < 7 → ¬ P (aS o i) 9) : rSn X (pSet g M) := by
  intro o i ho hi
  obtain ⟨p, h1, h2⟩ := h o i ho hi
  exact ⟨p, (hM _ _ (hn o i ho hi)).trans h1, h2⟩
theorem rRq.frm (h : rRq X g) (hM : ∀ a k, ¬ P a k → M a k = pM g a k) (hn : ∀ o c, o < 2 → c < 4 → ¬ P (aC o c) 0) : rRq X (pSet g M) := by
  intro o c ho hc
  obtain ⟨h1, h2⟩ := h o c ho hc
  refine ⟨fun z => (hM _ _ (hn o c ho hc)).trans (h1 z), fun z => ?_⟩
  obtain ⟨q, h3, h4⟩ := h2 z
  exact ⟨q, (hM _ _ (hn o c ho hc)).trans h3, h4⟩
theorem mAt.frm {D : XD} {b : Nat} {u : MSG} (h : mAt D g b u) (hM : ∀ a k, ¬ P a k → M a k = pM g a k) (hn : ∀ k, ¬ P b k ∧ ¬ P (b + 1) k) : mAt D (pSet g M) b u := by
  obtain ⟨h1, h2, h3, h4, h5, h6⟩ := h
  refine ⟨fun q q1 q2 => (hM _ _ (hn q).1).trans (h1 q q1 q2), h2, fun z => (hM _ _ (hn 10).1).trans (h3 z), fun r hr => ?_, ⟨h5.1, h5.2.mv (fun j => hM _ _ (hn j).2) (fun _ _ z => z)⟩, fun j e he => ?_⟩
  · obtain ⟨p, h7, h8⟩ := h4 r hr
    exact ⟨p, (hM _ _ (hn 10).1).trans h7, h8⟩
  · obtain ⟨p, h7, h8⟩ := h6 j e he
    exact ⟨p, (hM _ _ (hn j).2).trans h7, h8⟩
theorem rNt.frm (h : rNt X g) (hw : rWf X) (hM : ∀ a k, ¬ P a k → M a k = pM g a k) (hn : ∀ o q, o < 2 → ¬ P (aB o + 3) 2 ∧ (q < 60 → ¬ P (aB o + 4) q) ∧ (q < 61 → ∀ k, ¬ P (aM o q) k ∧ ¬ P (aM o q + 1) k)) : rNt X (pSet g M) := by
  intro o ho
  obtain ⟨h1, h2, h3, h4, h5, h6⟩ := h o ho
  exact ⟨(hM _ _ (hn o 0 ho).1).trans h1, fun j hj => (hM _ _ ((hn o j ho).2.1 hj)).trans (h2 j hj), h3, h4, fun q hq => (h5 q hq).frm hM ((hn o q ho).2.2 hq), h6⟩
theorem oOk.frm {D : XD} {p : Nat} (h : oOk D g p) (hp : (dE D p).1 ≠ 0) (hM : ∀ a k, ¬ P a k → M a k = pM g a k) (hn : ∀ a, (dE D a).1 ≠ 0 → ∀ k, ¬ P a k) : oOk D (pSet g M) p := by
  obtain ⟨h1, h2, h3, h4, h5⟩ := h
  have e0 : ∀ q, pM (pSet g M) p q = pM g p q := fun q => hM _ _ (hn p hp q)
  have ek : pK (pSet g M) = pK g := rfl
  have el : pL (pSet g M) = pL g := rfl
  refine ⟨fun z => ?_, fun z => ?_, fun z => ?_, h4, fun z => ?_⟩
  · simp only [e0, ek]; exact h1 z
  · simp only [e0, ek]; exact h2 z
  · have h3 := h3 z
    have e1 : ∀ j q, 1 ≤ j → j ≤ 4 → pM (pSet g M) (p + j) q = pM g (p + j) q := fun j q j1 j2 => hM _ _ (hn _ (by rw [h3.2.2.2.2.2.2.2.2.2.2 j j1 j2]; omega) q)
    obtain ⟨a1, a2, a3, a4, a5, a6, a7, a8, a9, a10, a11⟩ := h3
    refine ⟨a1, fun k hk => (e0 k).trans (a2 k hk), (e0 3).trans a3, a4, fun k hk => ⟨(e1 1 k (by omega) (by omega)).trans (a5 k hk).1, (a5 k hk).2⟩, a6, a7, a8, fun k hk => (e1 2 k (by omega) (by omega)).trans (a9 k hk), fun k hk => ⟨(e1 3 k (by omega) (by omega)).trans (a10 k hk).1, (e1 4 k (by omega) (by omega)).trans (a10 k hk).2⟩, a11⟩
  · simp only [e0, ek, el]; exact h5 z
theorem rOb.frm (h : rOb X g) (hM : ∀ a k, ¬ P a k → M a k = pM g a k) (hn : ∀ a, (dE (xD X) a).1 ≠ 0 → ∀ k, ¬ P a k) : rOb X (pSet g M) :=
  ⟨h.1, fun p hp => ⟨(h.2 p hp).1, (h.2 p hp).2.1, (h.2 p hp).2.2.frm hp hM hn⟩⟩
theorem xK_setK (X : XS) (o : Nat) (K : KK) (o' : Nat) : xK (xSetK X o K) o' = if o' = o then K else xK X o' := rfl
/-- NUMBERS OF A STATE are written, all in one cell b -/
theorem Rep.num {o b : Nat} {Pk : Nat → Prop} {K' : KK} (h : Rep X g) (hM : ∀ a k, ¬ (a = b ∧ Pk k) → M a k = pM g a k) (hb : ∀ k, Pk k → ∃ f i j, loc o f i j b k) (hK : K'.2 = (xK X o).2)
    (hnum : ∀ f i j a k, loc o f i j a k → xPriv f = false → M a k = .int (K'.1 f i j)) (hpr : ∀ f i j k, loc o f i j b k → Pk k → xPriv f = false)
    (h18 : o < 2 → ∀ i k, K'.1 18 i k = (xK X o).1 18 i k ∧ K'.1 34 i k = (xK X o).1 34 i k) (h4 : o < 2 → (∀ i, i < 7 → K'.1 4 i 0 = 0 ∨ K'.1 4 i 0 = 1) ∧ ∀ c, c < 4 → K'.1 35 c 0 = 0 ∨ K'.1 35 c 0 = 1) : Rep (xSetK X o K') (pSet g M) := by
  obtain ⟨a1, a2, a3, a4, a5, a6, a7, a8, a9, a10, a11, a12, a13, a14, a15⟩ := h
  have e2 : ∀ o', (xK (xSetK X o K') o').2 = (xK X o').2 := fun o' => by
    rw [xK_setK]; split
    · rename_i z; rw [z]; exact hK
    · rfl
  have hM' : ∀ a k, ¬ (fun x y => x = b ∧ Pk y) a k → M a k = pM g a k := hM
  have st : ∀ k, Pk k → stat b ∧ b ≠ 1 ∧ b ≠ 1 ∧ b ≠ 0 := fun k hk => by obtain ⟨f, i, j, hl⟩ := hb k hk; exact loc_stat hl
  have ot : ∀ k, Pk k → nOth b k := fun k hk => by obtain ⟨f, i, j, hl⟩ := hb k hk; exact loc_oth hl
  have hA : ∀ o i, o < 2 → i < 7 → ∀ k, ¬ (dA (xD X) o i = b ∧ Pk k) := fun o' i ho' hi k z => by
    have q := ot k z.2 o' i
    have s := (st k z.2).1.1
    rcases Nat.lt_or_ge o' 2 with z2 | z2
    · rcases (a8 o' i z2 hi).2.2.2.1 with y | y
      · exact (q.1 z2 hi).2 (by rw [← z.1]; exact y)
      · omega
    · rcases (a9 o' i z2 ho' hi).2.2.2.1 with y | y
      · exact (q.2.2.2 z2 ho').2.2.2 hi (by rw [← z.1]; exact y)
      · omega
  refine ⟨a1, a2, fun o' f i j a k hl => ?_, a4.frm hM' (fun a k b' hs z => ?_), a5.frm hM' (fun k => ⟨fun z => ?_, fun z => ?_, fun z => ?_⟩), ?_, fun o' ho' => ?_, ?_, ?_, a10.frm, fun o' i ho' hi => ?_, fun o' c ho' hc => ?_, ?_, ?_, a15.frm hM' (fun a ha k z => ?_)⟩
  · by_cases hp : xPriv f = true
    · have z1 : xN (xSetK X o K') o' f i j = xN X o' f i j := by unfold xN; rw [if_pos hp, if_pos hp]; rfl
      rw [z1]
      refine (hM a k (fun z => ?_)).trans (a3 o' f i j a k hl)
      rw [z.1] at hl
      obtain ⟨f9, i9, j9, hl9⟩ := hb k z.2
      obtain ⟨q1, q2, q3, q4⟩ := loc_inj hl hl9
      rw [q2, hpr f9 i9 j9 k hl9 z.2] at hp
      cases hp
    · have hp' : xPriv f = false := by simpa using hp
      have z1 : xN (xSetK X o K') o' f i j = (if o' = o then K' else xK X o').1 f i j := by unfold xN; rw [if_neg hp]; rfl
      rw [z1]
      split
      · rename_i e
        subst e
        exact hnum f i j a k hl hp'
      · rename_i e
        have z2 : (xK X o').1 f i j = xN X o' f i j := by unfold xN; rw [if_neg hp]
        rw [z2]
        refine (hM a k (fun z => ?_)).trans (a3 o' f i j a k hl)
        rw [z.1] at hl
        obtain ⟨f9, i9, j9, hl9⟩ := hb k z.2
        exact e (loc_inj hl hl9).1
  · obtain ⟨f, i, j, hl⟩ := hb k z.2
    rw [← z.1] at hl
    exact loc_srf hl hs
  · exact (st k z.2).2.1 z.1.symm
  · exact (st k z.2).2.2.1 z.1.symm
  · exact (st k z.2).2.2.2 z.1.symm
  · have := a6.frm hM' (fun o' i => ⟨fun z1 z => ((ot 3 z.2 o' 0).2.2.1 z1).1 ⟨z.1.symm, Or.inr rfl⟩, fun z1 z2 => ⟨fun z => ((ot 8 z.2 o' i).1 z1 z2).1 ⟨z.1.symm, Or.inr (Or.inr (Or.inl rfl))⟩, fun z => ((ot 0 z.2 o' i).1 z1 z2).1 ⟨z.1.symm, Or.inl rfl⟩⟩,
      fun z1 z2 => ⟨fun z => ((ot 22 z.2 o' 0).2.2.2 z1 z2).1 ⟨z.1.symm, rfl⟩, fun _ z => ((ot i z.2 o' 0).2.2.2 z1 z2).2.1 z.1.symm⟩⟩)
    unfold rCt at this ⊢
    simp only [e2]
    exact this
  · rw [xK_setK]
    split
    · rename_i e
      subst e
      exact ⟨by rw [hK]; exact (a7 o' ho').1, (h4 ho').1, (h4 ho').2⟩
    · exact a7 o' ho'
  · have := a8.frm hM' (fun o' i ho' hi => ⟨fun z => ((ot 7 z.2 o' i).1 ho' hi).1 ⟨z.1.symm, Or.inr (Or.inl rfl)⟩, hA o' i (by omega) hi⟩)
    unfold rLc at this ⊢
    simp only [e2]
    exact this
  · have := a9.frm hM' (fun o' i ho' ho2 hi => ⟨fun z => ((ot i z.2 o' 0).2.2.2 ho' ho2).2.2.1 z.1.symm, hA o' i ho2 hi⟩)
    unfold rLr at this ⊢
    simp only [e2]
    exact this
  · obtain ⟨p, q1, q2⟩ := a11.frm hM' (fun o' i ho' hi z => ((ot 9 z.2 o' i).1 ho' hi).1 ⟨z.1.symm, Or.inr (Or.inr (Or.inr rfl))⟩) o' i ho' hi
    refine ⟨p, q1, ?_⟩
    rw [xK_setK]
    split
    · rename_i e
      subst e
      obtain ⟨r, r1, r2⟩ := q2
      exact ⟨r, r1, fun k hk => (r2 k hk).trans (h18 ho' i k).1.symm⟩
    · exact q2
  · have q := a12.frm hM' (fun o' i ho' hi z => ((ot 0 z.2 o' i).2.1 ho' hi) ⟨z.1.symm, rfl⟩) o' c ho' hc
    rw [xK_setK]
    split
    · rename_i e
      subst e
      refine ⟨fun z => q.1 (by rw [← (h18 ho' c 3).2]; exact z), fun z => ?_⟩
      obtain ⟨p, p1, r, r1, r2⟩ := q.2 (by rw [← (h18 ho' c 3).2]; exact z)
      exact ⟨p, p1, r, r1, fun k k1 k2 => (r2 k k1 k2).trans (h18 ho' c k).2.symm⟩
    · exact q
  · have := a13.frm a7 hM' (fun o' q ho' => ⟨fun z => ((ot 2 z.2 o' 0).2.2.1 ho').1 ⟨z.1.symm, Or.inl rfl⟩, fun _ z => ((ot q z.2 o' 0).2.2.1 ho').2.1 z.1.symm, fun hq k => ⟨fun z => (((ot k z.2 o' q).2.2.1 ho').2.2 hq).1 z.1.symm, fun z => (((ot k z.2 o' q).2.2.1 ho').2.2 hq).2 z.1.symm⟩⟩)
    unfold rNt at this ⊢
    simp only [e2]
    exact this
  · unfold rPo at a14 ⊢
    simp only [e2]
    exact a14
  · have := (a15.2 a ha).2.1
    rw [z.1] at this
    exact this (st k z.2).1
/-- one number of a state is written -/
theorem Rep.putK {o f i j a k : Nat} {v : Int32} (h : Rep X g) (hl : loc o f i j a k) (hp : xPriv f = false) (hv : f = 4 ∨ f = 35 → v = 0 ∨ v = 1) : Rep (xSetK X o (kSet (xK X o) f i j v)) (pPut g a k (.int v)) := by
  have hf : o < 2 → f ≠ 18 ∧ f ≠ 34 := fun ho => by
    rcases hl with ⟨-, hl⟩ | ⟨h1, h2, -⟩
    · unfold locC at hl; omega
    · omega
  have hw := h.2.2.2.2.2.2.1
  refine Rep.num (b := a) (Pk := fun q => q = k) h (fun x y z => if_neg z) (fun q hq => ⟨f, i, j, by rw [hq]; exact hl⟩) rfl (fun f' i' j' a' k' hl' hp' => ?_) (fun f' i' j' k' hl' hk' => ?_) (fun ho i' k' => ⟨?_, ?_⟩) (fun ho => ⟨fun i' hi' => ?_, fun c hc => ?_⟩)
  · show pU (pM g) a k (.int v) a' k' = .int (if f' = f ∧ i' = i ∧ j' = j then v else (xK X o).1 f' i' j')
    unfold pU
    by_cases e : a' = a ∧ k' = k
    · rw [if_pos e]
      rw [e.1, e.2] at hl'
      obtain ⟨q1, q2, q3, q4⟩ := loc_inj hl' hl
      rw [if_pos ⟨q2, q3, q4⟩]
    · rw [if_neg e, if_neg (fun z => e (by rw [z.1, z.2.1, z.2.2] at hl'; exact loc_fun hl' hl))]
      have := h.2.2.1 o f' i' j' a' k' hl'
      unfold xN at this
      rw [if_neg (by rw [hp']; decide)] at this
      exact this
  · rw [hk'] at hl'
    rw [(loc_inj hl' hl).2.1]; exact hp
  · exact if_neg (fun z => (hf ho).1 z.1.symm)
  · exact if_neg (fun z => (hf ho).2 z.1.symm)
  · show (if 4 = f ∧ i' = i ∧ 0 = j then v else _) = 0 ∨ (if 4 = f ∧ i' = i ∧ 0 = j then v else _) = 1
    split
    · rename_i z; exact hv (Or.inl z.1.symm)
    · exact (hw o ho).2.1 i' hi'
  · show (if 35 = f ∧ c = i ∧ 0 = j then v else _) = 0 ∨ (if 35 = f ∧ c = i ∧ 0 = j then v else _) = 1
    split
    · rename_i z; exact hv (Or.inr z.1.symm)
    · exact (hw o ho).2.2 c hc
end FRM
