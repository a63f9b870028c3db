/-! ===== THE BEGINNING: what the heap says ===== -/
def kZ (f _i j : Nat) : Int32 := if f = 4 then 1 else if f = 6 ∨ f = 13 then -1 else if f = 18 ∧ j = 2 then 7 else 0
def K0 : KK := (kZ, fun _ => [], [])
def vZ (_o f _i _j : Nat) : Int32 := if f = 10 then 7 else if f = 11 then -1 else 0
def eZ (p : Nat) : Nat × ENT := if p = 130 ∨ p = 323 then (3, kZ 18 0) else if (131 ≤ p ∧ p ≤ 134) ∨ (324 ≤ p ∧ p ≤ 327) then (9, fun _ => 0) else (0, fun _ => 0)
def D0 : XD := (eZ, fun o i => if o < 2 then aS o i + 7 else bB o + 33 + i, fun o _ => if o < 2 then 64 else 112, fun _ _ _ => 0, vZ, fun _ j => if j = 60 then 0 else j + 1, fun _ _ => (fun _ => 0, none, []), 387, 3688)
def X0 (L : Nat) (xs : Nat → Int32) : XS := (fun o => if o = 3 then (fun _ _ _ => 0, fun _ => [], []) else K0, 0, 0, 0, (L, xs), D0)
def xZ (o f i j : Nat) : Int32 := if xPriv f = true then vZ o f i j else if o = 3 then 0 else kZ f i j
theorem z_c1 : ∀ o, o < 2 → ∀ i, i < 7 → ∀ f, f < 7 → 4 ≤ f → oM (cAt (aS o i)) f = .int (xZ o f i 0) := by decide +kernel
theorem z_c0 : ∀ o, o < 2 → ∀ i, i < 7 → ∀ f, f < 18 → 10 ≤ f → oM (cAt (aS o i)) f = .int (xZ o f i 0) := by decide +kernel
theorem z_c2 : ∀ o, o < 2 → ∀ i, i < 7 → ∀ j, j < 8 → oM (cAt (aS o i + 2)) j = .int (xZ o 19 i j) := by decide +kernel
theorem z_c3 : ∀ o, o < 2 → ∀ i, i < 7 → ∀ j, j < 4 → oM (cAt (aS o i + 3)) j = .int (xZ o 19 i (j + 8)) ∧ oM (cAt (aS o i + 4)) j = .int (xZ o 19 i (j + 12)) := by decide +kernel
theorem z_c4 : ∀ o, o < 2 → ∀ i, i < 7 → ∀ j, j < 7 → oM (cAt (aS o i + 5)) j = .int (xZ o 2 i j) ∧ oM (cAt (aS o i + 6)) j = .int (xZ o 3 i j) := by decide +kernel
theorem z_c5 : ∀ o, o < 2 → ∀ i, i < 7 → oM (cAt (aB o + 5)) i = .int (xZ o 30 i 0) := by decide +kernel
theorem z_c6 : ∀ o, o < 2 → oM (cAt (aB o + 3)) 4 = .int (xZ o 31 0 0) ∧ oM (cAt (aB o + 3)) 5 = .int (xZ o 32 0 0) ∧ oM (cAt (aB o)) 3 = .int (xZ o 33 0 0) := by decide +kernel
theorem z_c7 : ∀ o, o < 2 → ∀ i, i < 4 → oM (cAt (aC o i)) 1 = .int (xZ o 35 i 0) ∧ oM (cAt (aC o i)) 2 = .int (xZ o 36 i 0) ∧ oM (cAt (aC o i)) 0 = .null ∧ oK (cAt (aC o i)) = 0 := by decide +kernel
theorem z_r1 : ∀ o, o < 2 → 2 ≤ o → oM (cAt (bB o)) 0 = .int (xZ o 33 0 0) ∧ oM (cAt (bB o)) 1 = .int (xZ o 32 0 0) ∧ oM (cAt (bB o)) 22 = .int 0 := by decide +kernel
theorem z_r2 : ∀ o, o < 2 → 2 ≤ o → ∀ i, i < 7 → oM (cAt (bB o + 1)) i = .int (xZ o 4 i 0) ∧ oM (cAt (bB o + 2)) i = .int (xZ o 5 i 0) ∧ oM (cAt (bB o + 3)) i = .int (xZ o 6 i 0) := by decide +kernel
theorem z_r3 : ∀ o, o < 2 → 2 ≤ o → ∀ i, i < 7 → oM (cAt (bB o + 4)) i = .int (xZ o 12 i 0) ∧ oM (cAt (bB o + 5)) i = .int (xZ o 13 i 0) ∧ oM (cAt (bB o + 6)) i = .int (xZ o 14 i 0) ∧ oM (cAt (bB o + 7)) i = .int (xZ o 15 i 0) := by decide +kernel
theorem z_r4 : ∀ o, o < 2 → 2 ≤ o → ∀ i, i < 7 → oM (cAt (bB o + 8)) i = .int (xZ o 20 i 0) ∧ oM (cAt (bB o + 9)) i = .int (xZ o 17 i 0) ∧ oM (cAt (bB o + 10)) i = .int (xZ o 16 i 0) ∧ oM (cAt (bB o + 11)) i = .int (xZ o 30 i 0) := by decide +kernel
theorem z_r5 : ∀ o, o < 2 → 2 ≤ o → ∀ i, i < 7 → ∀ j, j < 3 → oM (cAt (bB o + 12 + j)) i = .int (xZ o 18 i j) := by decide +kernel
theorem z_r6 : ∀ o, o < 2 → 2 ≤ o → ∀ i, i < 7 → ∀ k, k < 16 → oM (cAt (bB o + 16 + i)) k = .int (xZ o 18 i (k + 3)) ∧ oM (cAt (bB o + 24 + i)) k = .int (xZ o 19 i k) := by decide +kernel
theorem z_r7 : ∀ o, o < 2 → 2 ≤ o → ∀ i, i < 7 → ∀ j, j < 7 → oM (cAt (bB o + 41 + i)) j = .int (xZ o 2 i j) ∧ oM (cAt (bB o + 49 + i)) j = .int (xZ o 3 i j) := by decide +kernel
theorem z_r8 : ∀ o, o < 2 → 2 ≤ o → oK (cAt (bB o + 56)) = 12 ∧ oL (cAt (bB o + 56)) = 2160 ∧ ∀ j, j < 2160 → oM (cAt (bB o + 56)) j = .int 0 := by decide +kernel
theorem z_r9 : ∀ o, o < 2 → 2 ≤ o → oK (cAt (bB o + 57)) = 12 ∧ oL (cAt (bB o + 57)) = 36 ∧ ∀ j, j < 36 → oM (cAt (bB o + 57)) j = .int 0 := by decide +kernel
theorem z_ra : ∀ o, o < 2 → 2 ≤ o → ∀ i, i < 4 → ∀ j, j < 7 → oM (cAt (bB o + 58)) (7 * i + j) = .int (xZ o 34 i j) := by decide +kernel
theorem z_rb : ∀ o, o < 2 → 2 ≤ o → ∀ i, i < 4 → oM (cAt (bB o + 59)) i = .int (xZ o 35 i 0) ∧ oM (cAt (bB o + 60)) i = .int (xZ o 36 i 0) := by decide +kernel
theorem z_s1 : ∀ o, o < 2 → oK (cAt (aB o)) = 1 ∧ oK (cAt (aB o + 1)) = 18 ∧ oL (cAt (aB o + 1)) = 7 ∧ oK (cAt (aB o + 2)) = 15 ∧ oL (cAt (aB o + 2)) = 4 ∧ oK (cAt (aB o + 3)) = 4 := by decide +kernel
theorem z_s2 : ∀ o, o < 2 → oK (cAt (aB o + 4)) = 17 ∧ oL (cAt (aB o + 4)) = 60 ∧ oK (cAt (aB o + 5)) = 12 ∧ oL (cAt (aB o + 5)) = 7 := by decide +kernel
theorem z_s3 : ∀ o, o < 2 → ∀ q, q < 61 → oK (cAt (aM o q)) = 3 ∧ oK (cAt (aM o q + 1)) = 16 ∧ oL (cAt (aM o q + 1)) = 4 := by decide +kernel
theorem z_s4 : ∀ o, o < 2 → ∀ i, i < 7 → oK (cAt (aS o i)) = 6 ∧ oK (cAt (aS o i + 1)) = 8 ∧ oK (cAt (aS o i + 2)) = 12 ∧ oL (cAt (aS o i + 2)) = 8 := by decide +kernel
theorem z_s5 : ∀ o, o < 2 → ∀ i, i < 7 → oK (cAt (aS o i + 3)) = 12 ∧ oL (cAt (aS o i + 3)) = 4 ∧ oK (cAt (aS o i + 4)) = 12 ∧ oL (cAt (aS o i + 4)) = 4 := by decide +kernel
theorem z_s6 : ∀ o, o < 2 → ∀ i, i < 7 → oK (cAt (aS o i + 5)) = 12 ∧ oL (cAt (aS o i + 5)) = 7 ∧ oK (cAt (aS o i + 6)) = 12 ∧ oL (cAt (aS o i + 6)) = 7 := by decide +kernel
theorem z_q1 : ∀ o, o < 2 → 2 ≤ o → oK (cAt (bB o)) = 10 ∧ oK (cAt (bB o + 1)) = 13 ∧ oL (cAt (bB o + 1)) = 7 ∧ oK (cAt (bB o + 15)) = 19 ∧ oL (cAt (bB o + 15)) = 7 := by decide +kernel
theorem z_q2 : ∀ o, o < 2 → 2 ≤ o → oK (cAt (bB o + 23)) = 19 ∧ oL (cAt (bB o + 23)) = 7 ∧ oK (cAt (bB o + 31)) = 12 ∧ oL (cAt (bB o + 31)) = 7 := by decide +kernel
theorem z_q3 : ∀ o, o < 2 → 2 ≤ o → oK (cAt (bB o + 32)) = 19 ∧ oL (cAt (bB o + 32)) = 7 ∧ oK (cAt (bB o + 40)) = 19 ∧ oL (cAt (bB o + 40)) = 7 := by decide +kernel
theorem z_q4 : ∀ o, o < 2 → 2 ≤ o → oK (cAt (bB o + 48)) = 19 ∧ oL (cAt (bB o + 48)) = 7 ∧ oK (cAt (bB o + 58)) = 12 ∧ oL (cAt (bB o + 58)) = 28 := by decide +kernel
theorem z_q5 : ∀ o, o < 2 → 2 ≤ o → ∀ k, k < 13 → oK (cAt (bB o + 2 + k)) = 12 ∧ oL (cAt (bB o + 2 + k)) = 7 := by decide +kernel
theorem z_q6 : ∀ o, o < 2 → 2 ≤ o → ∀ k, k < 7 → oK (cAt (bB o + 16 + k)) = 12 ∧ oL (cAt (bB o + 16 + k)) = 16 ∧ oK (cAt (bB o + 24 + k)) = 12 ∧ oL (cAt (bB o + 24 + k)) = 16 := by decide +kernel
theorem z_q7 : ∀ o, o < 2 → 2 ≤ o → ∀ k, k < 7 → oK (cAt (bB o + 41 + k)) = 12 ∧ oL (cAt (bB o + 41 + k)) = 7 ∧ oK (cAt (bB o + 49 + k)) = 12 ∧ oL (cAt (bB o + 49 + k)) = 7 := by decide +kernel
theorem z_q8 : ∀ o, o < 2 → 2 ≤ o → ∀ k, k < 2 → oK (cAt (bB o + 59 + k)) = 12 ∧ oL (cAt (bB o + 59 + k)) = 4 := by decide +kernel
theorem z_h1 : oK (cAt 1) = 9 := by decide +kernel
theorem z_h2 : oM (cAt 1) 2 = .null ∧ oM (cAt 1) 3 = .null ∧ oM (cAt 1) 4 = .null := by decide +kernel
theorem z_f1 : ∀ o, o < 2 → ∀ k, k < 3 → oM (cAt (aB o)) k = .ref (aB o + 1 + k) := by decide +kernel
theorem z_f2 : ∀ o, o < 2 → ∀ k, k < 7 → oM (cAt (aB o + 1)) k = .ref (aS o k) := by decide +kernel
theorem z_f3 : ∀ o, o < 2 → ∀ k, k < 4 → oM (cAt (aB o + 2)) k = .ref (aC o k) := by decide +kernel
theorem z_f4 : ∀ o, o < 2 → ∀ k, k < 2 → oM (cAt (aB o + 3)) k = .ref (aB o + 4 + k) := by decide +kernel
theorem z_f5 : ∀ o, o < 2 → ∀ q, q < 61 → oM (cAt (aM o q)) 0 = .ref (aM o q + 1) := by decide +kernel
theorem z_f6 : ∀ o, o < 2 → ∀ i, i < 7 → oM (cAt (aS o i)) 1 = .ref (aS o i + 1) ∧ oM (cAt (aS o i)) 2 = .ref (aS o i + 5) ∧ oM (cAt (aS o i)) 3 = .ref (aS o i + 6) := by decide +kernel
theorem z_f7 : ∀ o, o < 2 → ∀ i, i < 7 → ∀ k, k < 3 → oM (cAt (aS o i + 1)) k = .ref (aS o i + 2 + k) := by decide +kernel
theorem z_g1 : ∀ o, o < 2 → 2 ≤ o → ∀ k, k < 17 → 2 ≤ k → oM (cAt (bB o)) k = .ref (bB o + k - 1) := by decide +kernel
theorem z_g2 : ∀ o, o < 2 → 2 ≤ o → oM (cAt (bB o)) 17 = .ref (bB o + 23) ∧ oM (cAt (bB o)) 20 = .ref (bB o + 40) ∧ oM (cAt (bB o)) 21 = .ref (bB o + 48) := by decide +kernel
theorem z_g3 : ∀ o, o < 2 → 2 ≤ o → ∀ k, k < 20 → 18 ≤ k → oM (cAt (bB o)) k = .ref (bB o + 13 + k) := by decide +kernel
theorem z_g4 : ∀ o, o < 2 → 2 ≤ o → ∀ k, k < 28 → 23 ≤ k → oM (cAt (bB o)) k = .ref (bB o + 33 + k) := by decide +kernel
theorem z_g5 : ∀ o, o < 2 → 2 ≤ o → ∀ k, k < 7 → oM (cAt (bB o + 15)) k = .ref (bB o + 16 + k) ∧ oM (cAt (bB o + 23)) k = .ref (bB o + 24 + k) := by decide +kernel
theorem z_g6 : ∀ o, o < 2 → 2 ≤ o → ∀ k, k < 7 → oM (cAt (bB o + 40)) k = .ref (bB o + 41 + k) ∧ oM (cAt (bB o + 48)) k = .ref (bB o + 49 + k) := by decide +kernel
theorem z_g7 : ∀ k, k < 2 → oM (cAt 1) k = .ref (2 + 193 * k) := by decide +kernel
theorem z_t1 : ∀ o, o < 2 → oM (cAt (aB o + 3)) 3 = .int 0 ∧ oM (cAt (aB o + 3)) 2 = .ref (aM o 0) := by decide +kernel
theorem z_t2 : ∀ o, o < 2 → ∀ j, j < 60 → oM (cAt (aB o + 4)) j = .ref (aM o (j + 1)) := by decide +kernel
theorem z_t3 : ∀ o, o < 2 → ∀ i, i < 7 → oM (cAt (aS o i)) 8 = .int 0 ∧ oM (cAt (aS o i)) 0 = .int (Int32.ofNat i) ∧ oM (cAt (aS o i)) 7 = .ref (aS o i + 7) := by decide +kernel
theorem z_t4 : ∀ o, o < 2 → ∀ i, i < 7 → oK (cAt (aS o i + 7)) = 16 ∧ oL (cAt (aS o i + 7)) = 64 ∧ oM (cAt (aS o i)) 9 = .ref (130 + 193 * o) := by decide +kernel
theorem z_t5 : ∀ o, o < 2 → ∀ q, q < 61 → ∀ k, k < 10 → 1 ≤ k → oM (cAt (aM o q)) k = .int 0 := by decide +kernel
theorem z_t6 : ∀ o, o < 2 → ∀ q, q < 61 → oM (cAt (aM o q)) 10 = .null ∧ ∀ j, j < 4 → oM (cAt (aM o q + 1)) j = .null := by decide +kernel
theorem z_t7 : ∀ o, o < 2 → 2 ≤ o → ∀ i, i < 7 → oM (cAt (bB o + 31)) i = .int 0 ∧ oM (cAt (bB o + 32)) i = .ref (bB o + 33 + i) ∧ oK (cAt (bB o + 33 + i)) = 12 := by decide +kernel
theorem z_t8 : ∀ o, o < 2 → 2 ≤ o → ∀ i, i < 7 → oL (cAt (bB o + 33 + i)) = 112 ∧ ∀ k, k < 112 → oM (cAt (bB o + 33 + i)) k = .int 0 := by decide +kernel
theorem z_o1 : ∀ o, o < 2 → oK (cAt (130 + 193 * o)) = 7 ∧ oM (cAt (130 + 193 * o)) 3 = .ref (130 + 193 * o + 1) ∧ oK (cAt (130 + 193 * o + 1)) = 8 ∧ oL (cAt (130 + 193 * o + 2)) = 8 := by decide +kernel
theorem z_o2 : ∀ o, o < 2 → oL (cAt (130 + 193 * o + 3)) = 4 ∧ oL (cAt (130 + 193 * o + 4)) = 4 ∧ ∀ k, k < 3 → oM (cAt (130 + 193 * o)) k = .int (kZ 18 0 k) := by decide +kernel
theorem z_o3 : ∀ o, o < 2 → ∀ k, k < 3 → oM (cAt (130 + 193 * o + 1)) k = .ref (130 + 193 * o + 2 + k) ∧ oK (cAt (130 + 193 * o + 2 + k)) = 12 := by decide +kernel
theorem z_o4 : ∀ o, o < 2 → ∀ k, k < 8 → oM (cAt (130 + 193 * o + 2)) k = .int (kZ 18 0 (3 + k)) := by decide +kernel
theorem z_o5 : ∀ o, o < 2 → ∀ k, k < 4 → oM (cAt (130 + 193 * o + 3)) k = .int (kZ 18 0 (11 + k)) ∧ oM (cAt (130 + 193 * o + 4)) k = .int (kZ 18 0 (15 + k)) := by decide +kernel
theorem z_o6 : ∀ o, o < 2 → ∀ k, k < 5 → 1 ≤ k → (eZ (130 + 193 * o + k)).1 = 9 := by decide +kernel
