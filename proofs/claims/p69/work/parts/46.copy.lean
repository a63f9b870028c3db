/-! ===== COPYING A SERVER ===== -/
/-- only the log of server s of state o grew, to n entries at most -/
def dGrow (D D' : XD) (o s n : Nat) : Prop :=
  dE D' = dE D ∧ dP D' = dP D ∧ dH D' = dH D ∧ (∀ a b, ¬ (a = o ∧ b = s) → dR D' a b = dR D a b) ∧ (∀ a f i j, ¬ (a = o ∧ i = s ∧ (f = 10 ∨ f = 11)) → dV D' a f i j = dV D a f i j) ∧
  dZ D' + 2 * dR D o s = dZ D + 2 * dR D' o s ∧ 64 * dC D' + dR D o s ≤ 64 * dC D + dR D' o s ∧ dR D o s ≤ dR D' o s ∧ (dR D' o s ≤ dR D o s ∨ dR D' o s ≤ 2 * n)
theorem dGrow.refl (D : XD) (o s n : Nat) : dGrow D D o s n := ⟨rfl, rfl, rfl, fun _ _ _ => rfl, fun _ _ _ _ _ => rfl, rfl, Nat.le_refl _, Nat.le_refl _, Or.inl (Nat.le_refl _)⟩
theorem dGrow.trans {D D1 D2 : XD} {o s n1 n2 n : Nat} (h : dGrow D D1 o s n1) (k : dGrow D1 D2 o s n2) (h1 : n1 ≤ n) (h2 : n2 ≤ n) : dGrow D D2 o s n := by
  obtain ⟨a1, a2, a3, a4, a5, a6, a7, a8, a9⟩ := h
  obtain ⟨b1, b2, b3, b4, b5, b6, b7, b8, b9⟩ := k
  exact ⟨b1.trans a1, b2.trans a2, b3.trans a3, fun a b z => (b4 a b z).trans (a4 a b z), fun a f i j z => (b5 a f i j z).trans (a5 a f i j z), by omega, by omega, by omega, by omega⟩
theorem dRoom.grow {D D' : XD} {o s n : Nat} (h : dRoom D D' o s n) (h64 : 64 ≤ dR D o s) : dGrow D D' o s n := by
  rcases h with ⟨-, rfl⟩ | ⟨h1, p, rfl⟩
  · exact dGrow.refl _ _ _ _
  · have e : dR (dWide D o s p (2 * dR D o s)) o s = 2 * dR D o s := dR_wide _ _ _ _ _
    refine ⟨rfl, rfl, rfl, fun a b z => if_neg z, fun _ _ _ _ _ => rfl, ?_, ?_, ?_, ?_⟩
    · rw [e]; show dZ D + 2 * dR D o s + 2 * dR D o s = _; omega
    · rw [e]; show 64 * (dC D + 1) + dR D o s ≤ _; omega
    · omega
    · omega
theorem dSetV.grow (D : XD) (o s n f : Nat) (v : Int32) (hf : f = 10 ∨ f = 11) : dGrow D (dSetV D o f s 0 v) o s n :=
  ⟨rfl, rfl, rfl, fun _ _ _ => rfl, fun a f' i j z => if_neg (fun y => z ⟨y.1, y.2.2.1, by rw [y.2.1]; exact hf⟩), rfl, Nat.le_refl _, Nat.le_refl _, Or.inl (Nat.le_refl _)⟩
theorem dSetQ.grow (D : XD) (o s n j p : Nat) : dGrow D (dSetQ D o s j p) o s n := ⟨rfl, rfl, rfl, fun _ _ _ => rfl, fun _ _ _ _ _ => rfl, rfl, Nat.le_refl _, Nat.le_refl _, Or.inl (Nat.le_refl _)⟩
theorem dApp.grow (D : XD) (o s n m : Nat) (a : Int32) (e : ENT) (q : Nat) : dGrow D (dApp D o s n a e q) o s m := by
  unfold dApp
  split
  · exact ((dSetQ.grow D o s m n q).trans (dSetV.grow _ o s m 10 _ (Or.inl rfl)) (Nat.le_refl _) (Nat.le_refl _)).trans (dSetV.grow _ o s m 11 _ (Or.inr rfl)) (Nat.le_refl _) (Nat.le_refl _)
  · exact dSetQ.grow D o s m n q
theorem kRowN_of (K : KK) (f s n : Nat) (r : Nat → Int32) : kRow K f s (fun j => if 0 ≤ j ∧ j < 0 + n then r j else K.1 f s j) = kRowN K f s n r := by
  unfold kRowN
  refine kRow_congr _ _ _ (fun j => ?_)
  by_cases h : j < n
  · rw [if_pos h, if_pos ⟨Nat.zero_le _, by omega⟩]
  · rw [if_neg h, if_neg (by omega)]
def kCopy (K K' : KK) (s t : Nat) : KK := (kSet (kSet (kSet (kSet (kSet (kSet (kRow (kSet (kSet (kSet (kRowN (kRowN (kRowN K 19 s 16 (K'.1 19 t)) 2 s 7 (K'.1 2 t)) 3 s 7 (K'.1 3 t)) 4 s 0 (K'.1 4 t 0)) 5 s 0 (K'.1 5 t 0)) 6 s 0 (K'.1 6 t 0)) 18 s (K'.1 18 t)) 12 s 0 (K'.1 12 t 0)) 13 s 0 (K'.1 13 t 0)) 14 s 0 (K'.1 14 t 0)) 15 s 0 (K'.1 15 t 0)) 16 s 0 (K'.1 16 t 0)) 17 s 0 (K'.1 17 t 0))
def rCopy (X : XS) (o s o' t : Nat) (K2 : KK) (Y : XS) : Prop := ∃ D', dGrow (xD X) D' o s ((xK X o').2.1 t).length ∧ dV D' o 10 s 0 = dV (xD X) o' 10 t 0 ∧ dV D' o 11 s 0 = dV (xD X) o' 11 t 0 ∧ Y = xSetK (xSetD X D') o (kLog K2 s ((xK X o').2.1 t))
