/-! ===== THE BEGINNING: a machine whose heap is a tree ===== -/
def TT (α : Type) : Nat → Type
  | 0 => Option α
  | d + 1 => TT α d × TT α d
def TT.E (α : Type) : (d : Nat) → TT α d
  | 0 => (none : Option α)
  | d + 1 => (TT.E α d, TT.E α d)
def TT.get {α : Type} : (d : Nat) → TT α d → Nat → Option α
  | 0, t, _ => t
  | d + 1, t, x => if x % 2 = 0 then TT.get d t.1 (x / 2) else TT.get d t.2 (x / 2)
def TT.set {α : Type} : (d : Nat) → TT α d → Nat → α → TT α d
  | 0, _, _, v => (some v : Option α)
  | d + 1, t, x, v => if x % 2 = 0 then (TT.set d t.1 (x / 2) v, t.2) else (t.1, TT.set d t.2 (x / 2) v)
theorem TT.get_E {α : Type} : ∀ (d x : Nat), TT.get d (TT.E α d) x = none
  | 0, _ => rfl
  | d + 1, x => by
    show (if x % 2 = 0 then TT.get d (TT.E α d) (x / 2) else TT.get d (TT.E α d) (x / 2)) = none
    rw [TT.get_E d]; split <;> rfl
theorem TT.get_set {α : Type} : ∀ (d : Nat) (t : TT α d) (x y : Nat) (v : α), x < 2 ^ d → y < 2 ^ d → TT.get d (TT.set d t x v) y = if y = x then some v else TT.get d t y
  | 0, t, x, y, v, hx, hy => by
    rw [if_pos (by rw [Nat.pow_zero] at hx hy; omega)]
    rfl
  | d + 1, t, x, y, v, hx, hy => by
    have hx2 : x / 2 < 2 ^ d := by rw [Nat.pow_succ] at hx; omega
    have hy2 : y / 2 < 2 ^ d := by rw [Nat.pow_succ] at hy; omega
    have ht : TT.get (d + 1) t y = if y % 2 = 0 then TT.get d t.1 (y / 2) else TT.get d t.2 (y / 2) := rfl
    have hs : TT.set (d + 1) t x v = if x % 2 = 0 then (TT.set d t.1 (x / 2) v, t.2) else (t.1, TT.set d t.2 (x / 2) v) := rfl
    rw [ht, hs]
    by_cases ex : x % 2 = 0
    · rw [if_pos ex]
      show (if y % 2 = 0 then TT.get d (TT.set d t.1 (x / 2) v) (y / 2) else TT.get d t.2 (y / 2)) = _
      by_cases ey : y % 2 = 0
      · rw [if_pos ey, if_pos ey, TT.get_set d t.1 (x / 2) (y / 2) v hx2 hy2]
        by_cases e : y = x
        · rw [if_pos e, if_pos (by omega)]
        · rw [if_neg e, if_neg (by omega)]
      · rw [if_neg ey, if_neg ey, if_neg (by omega)]
    · rw [if_neg ex]
      show (if y % 2 = 0 then TT.get d t.1 (y / 2) else TT.get d (TT.set d t.2 (x / 2) v) (y / 2)) = _
      by_cases ey : y % 2 = 0
      · rw [if_pos ey, if_pos ey, if_neg (by omega)]
      · rw [if_neg ey, if_neg ey, TT.get_set d t.2 (x / 2) (y / 2) v hx2 hy2]
        by_cases e : y = x
        · rw [if_pos e, if_pos (by omega)]
        · rw [if_neg e, if_neg (by omega)]
/-- a cell: its kind, its length, what its row is at first, what was written since -/
abbrev TC : Type := Nat × Nat × (Nat × Nat) × List (Nat × Value)
def cD (ln : Nat) (d : Nat × Nat) (k : Nat) : Value := if d.1 < 12 then defaultValue (pT d.1 k) else if d.1 = 12 then .int 0 else if d.1 = 14 then .long 0 else if d.1 = 15 then (if k < ln then .ref (d.2 + k) else .null) else .null
def cF : List (Nat × Value) → Nat → Option Value
  | [], _ => none
  | p :: t, k => if k = p.1 then some p.2 else cF t k
def cM (c : TC) (k : Nat) : Value := match cF c.2.2.2 k with | some v => v | none => cD c.2.1 c.2.2.1 k
abbrev TH : Type := TT TC 10 × Nat × Nat × Nat
def tC (t : TT TC 10) (a : Nat) : Option TC := if a < 1024 then TT.get 10 t a else none
theorem tC_set {t : TT TC 10} {a : Nat} {c : TC} (ha : a < 1024) (x : Nat) : tC (TT.set 10 t a c) x = if x = a then some c else tC t x := by
  unfold tC
  by_cases h : x < 1024
  · rw [if_pos h, if_pos h]; exact TT.get_set 10 t a x c ha h
  · rw [if_neg h, if_neg h, if_neg (by omega)]
theorem tC_lt {t : TT TC 10} {a : Nat} {c : TC} (h : tC t a = some c) : a < 1024 := by
  unfold tC at h
  by_cases z : a < 1024
  · exact z
  · rw [if_neg z] at h; cases h
def oK : Option TC → Nat | some c => c.1 | none => 50
def oL : Option TC → Nat | some c => c.2.1 | none => 0
def oM : Option TC → Nat → Value | some c, j => cM c j | none, _ => .null
/-- the heap of a tree; cell 0 is the script -/
def tS (L : Nat) (xs : Nat → Int32) (t : TH) : PS := (fun x => if x = 0 then 20 else oK (tC t.1 x), fun x => if x = 0 then L else oL (tC t.1 x), fun x j => if x = 0 then .int (xs j) else oM (tC t.1 x) j, t.2.1, t.2.2.1, t.2.2.2)
section TS
variable {L : Nat} {xs : Nat → Int32} {t : TH} {a : Nat} {c : TC}
theorem tS_K (h0 : ¬ a = 0) (h : tC t.1 a = some c) : pK (tS L xs t) a = c.1 := by show (if a = 0 then 20 else oK (tC t.1 a)) = _; rw [if_neg h0, h]; rfl
theorem tS_L (h0 : ¬ a = 0) (h : tC t.1 a = some c) : pL (tS L xs t) a = c.2.1 := by show (if a = 0 then L else oL (tC t.1 a)) = _; rw [if_neg h0, h]; rfl
theorem tS_M (h0 : ¬ a = 0) (h : tC t.1 a = some c) (k : Nat) : pM (tS L xs t) a k = cM c k := by show (if a = 0 then .int (xs k) else oM (tC t.1 a) k) = _; rw [if_neg h0, h]; rfl
/-- a cell's row is written -/
def tWr (t : TH) (a : Nat) (c : TC) (l : List (Nat × Value)) : TH := (TT.set 10 t.1 a (c.1, c.2.1, c.2.2.1, l ++ c.2.2.2), t.2)
theorem cF_app (l m : List (Nat × Value)) (k : Nat) : cF (l ++ m) k = match cF l k with | some v => some v | none => cF m k := by
  induction l with
  | nil => rfl
  | cons p l ih =>
    show (if k = p.1 then some p.2 else cF (l ++ m) k) = match (if k = p.1 then some p.2 else cF l k) with | some v => some v | none => cF m k
    by_cases e : k = p.1
    · rw [if_pos e, if_pos e]
    · rw [if_neg e, if_neg e]; exact ih
theorem tWr_eq {f : Nat → Value} {l : List (Nat × Value)} (h0 : ¬ a = 0) (h : tC t.1 a = some c) (hf : ∀ k, f k = match cF l k with | some v => v | none => cM c k) : tS L xs (tWr t a c l) = (pK (tS L xs t), pL (tS L xs t), fun x j => if x = a then f j else pM (tS L xs t) x j, (tS L xs t).2.2.2) := by
  have hl := tC_lt h
  refine Prod.ext (funext fun x => ?_) (Prod.ext (funext fun x => ?_) (Prod.ext (funext fun x => funext fun j => ?_) rfl))
  · show (if x = 0 then 20 else oK (tC (TT.set 10 t.1 a _) x)) = (if x = 0 then 20 else oK (tC t.1 x))
    rw [tC_set hl]
    by_cases e : x = a
    · rw [if_pos e, e, h]; rfl
    · rw [if_neg e]
  · show (if x = 0 then L else oL (tC (TT.set 10 t.1 a _) x)) = (if x = 0 then L else oL (tC t.1 x))
    rw [tC_set hl]
    by_cases e : x = a
    · rw [if_pos e, e, h]; rfl
    · rw [if_neg e]
  · show (if x = 0 then Value.int (xs j) else oM (tC (TT.set 10 t.1 a _) x) j) = if x = a then f j else (if x = 0 then Value.int (xs j) else oM (tC t.1 x) j)
    rw [tC_set hl]
    by_cases e : x = a
    · rw [if_pos e, if_pos e, e, if_neg h0, hf]
      show cM (c.1, c.2.1, c.2.2.1, l ++ c.2.2.2) j = _
      unfold cM
      show (match cF (l ++ c.2.2.2) j with | some v => v | none => cD c.2.1 c.2.2.1 j) = _
      rw [cF_app]
      cases cF l j <;> rfl
    · rw [if_neg e, if_neg e]
theorem tPut_eq {k : Nat} {v : Value} (h0 : ¬ a = 0) (h : tC t.1 a = some c) : tS L xs (tWr t a c [(k, v)]) = pPut (tS L xs t) a k v := by
  rw [tWr_eq (f := fun j => if j = k then v else cM c j) h0 h (fun j => by
    show (if j = k then v else cM c j) = match (if j = k then some v else none) with | some v => v | none => cM c j
    by_cases e : j = k
    · rw [if_pos e, if_pos e]
    · rw [if_neg e, if_neg e])]
  refine Prod.ext rfl (Prod.ext rfl (Prod.ext (funext fun x => funext fun j => ?_) rfl))
  show (if x = a then (if j = k then v else cM c j) else pM (tS L xs t) x j) = if x = a ∧ j = k then v else pM (tS L xs t) x j
  by_cases e : x = a
  · rw [if_pos e]
    by_cases e2 : j = k
    · rw [if_pos e2, if_pos ⟨e, e2⟩]
    · rw [if_neg e2, if_neg (fun z => e2 z.2), e, tS_M h0 h]
  · rw [if_neg e, if_neg (fun z => e z.1)]
/-- a cell is made -/
def tNw (t : TH) (kd ln : Nat) (d : Nat × Nat) (z : Nat) : TH := (TT.set 10 t.1 t.2.1 (kd, ln, d, []), t.2.1 + 1, t.2.2.1 + 1, t.2.2.2 + z)
theorem tNw_eq {kd ln z : Nat} {d : Nat × Nat} {row : Nat → Value} (h0 : ¬ t.2.1 = 0) (h : t.2.1 < 1024) (hr : ∀ k, row k = cD ln d k) : tS L xs (tNw t kd ln d z) = pNew (tS L xs t) kd ln z row := by
  refine Prod.ext (funext fun x => ?_) (Prod.ext (funext fun x => ?_) (Prod.ext (funext fun x => funext fun j => ?_) rfl))
  · show (if x = 0 then 20 else oK (tC (TT.set 10 t.1 t.2.1 _) x)) = if x = t.2.1 then kd else (if x = 0 then 20 else oK (tC t.1 x))
    rw [tC_set h]
    by_cases e : x = t.2.1
    · rw [if_neg (by omega), if_pos e, if_pos e]; rfl
    · rw [if_neg e, if_neg e]
  · show (if x = 0 then L else oL (tC (TT.set 10 t.1 t.2.1 _) x)) = if x = t.2.1 then ln else (if x = 0 then L else oL (tC t.1 x))
    rw [tC_set h]
    by_cases e : x = t.2.1
    · rw [if_neg (by omega), if_pos e, if_pos e]; rfl
    · rw [if_neg e, if_neg e]
  · show (if x = 0 then Value.int (xs j) else oM (tC (TT.set 10 t.1 t.2.1 _) x) j) = if x = t.2.1 then row j else (if x = 0 then Value.int (xs j) else oM (tC t.1 x) j)
    rw [tC_set h]
    by_cases e : x = t.2.1
    · rw [if_neg (by omega), if_pos e, if_pos e, hr]; rfl
    · rw [if_neg e, if_neg e]
/-- cells of rows are made, one behind the other -/
def tRows (k : Nat) : Nat → Nat → TT TC 10 → TT TC 10
  | 0, _, t => t
  | n + 1, b, t => tRows k n (b + 1) (TT.set 10 t b (12, k, (12, 0), []))
theorem tRows_eq (k : Nat) : ∀ (n b : Nat) (t : TT TC 10), b + n ≤ 1024 → ∀ x, tC (tRows k n b t) x = if b ≤ x ∧ x < b + n then some (12, k, (12, 0), []) else tC t x
  | 0, b, t, _, x => by rw [if_neg (by omega)]; rfl
  | n + 1, b, t, h, x => by
    show tC (tRows k n (b + 1) (TT.set 10 t b _)) x = _
    rw [tRows_eq k n (b + 1) _ (by omega), tC_set (by omega)]
    by_cases e : x = b
    · rw [if_neg (by omega), if_pos e, if_pos (by omega)]
    · by_cases e2 : b + 1 ≤ x ∧ x < b + 1 + n
      · rw [if_pos e2, if_pos (by omega)]
      · rw [if_neg e2, if_neg e, if_neg (by omega)]
def tMu (t : TH) (n k : Nat) : TH := (tRows k n (t.2.1 + 1) (TT.set 10 t.1 t.2.1 (19, n, (15, t.2.1 + 1), [])), t.2.1 + 1 + n, t.2.2.1 + (1 + n), t.2.2.2 + (n + n * k))
theorem tMu_eq {n k : Nat} (h0 : ¬ t.2.1 = 0) (h : t.2.1 + 1 + n ≤ 1024) : tS L xs (tMu t n k) = pMul (tS L xs t) n k := by
  have key : ∀ x, tC (tMu t n k).1 x = if t.2.1 < x ∧ x ≤ t.2.1 + n then some (12, k, (12, 0), []) else if x = t.2.1 then some (19, n, (15, t.2.1 + 1), []) else tC t.1 x := fun x => by
    show tC (tRows k n (t.2.1 + 1) (TT.set 10 t.1 t.2.1 _)) x = _
    rw [tRows_eq k n (t.2.1 + 1) _ (by omega), tC_set (by omega)]
    by_cases e : t.2.1 < x ∧ x ≤ t.2.1 + n
    · rw [if_pos e, if_pos (by omega)]
    · rw [if_neg e, if_neg (by omega)]
  refine Prod.ext (funext fun x => ?_) (Prod.ext (funext fun x => ?_) (Prod.ext (funext fun x => funext fun j => ?_) rfl))
  · show (if x = 0 then 20 else oK (tC (tMu t n k).1 x)) = if x = t.2.1 then 19 else if t.2.1 < x ∧ x ≤ t.2.1 + n then 12 else (if x = 0 then 20 else oK (tC t.1 x))
    rw [key]
    by_cases e : x = t.2.1
    · rw [if_neg (by omega), if_neg (by omega), if_pos e, if_pos e]; rfl
    · by_cases e2 : t.2.1 < x ∧ x ≤ t.2.1 + n
      · rw [if_neg (show ¬ x = 0 by omega), if_pos e2, if_neg e, if_pos e2]; rfl
      · rw [if_neg e2, if_neg e, if_neg e, if_neg e2]
  · show (if x = 0 then L else oL (tC (tMu t n k).1 x)) = if x = t.2.1 then n else if t.2.1 < x ∧ x ≤ t.2.1 + n then k else (if x = 0 then L else oL (tC t.1 x))
    rw [key]
    by_cases e : x = t.2.1
    · rw [if_neg (by omega), if_neg (by omega), if_pos e, if_pos e]; rfl
    · by_cases e2 : t.2.1 < x ∧ x ≤ t.2.1 + n
      · rw [if_neg (show ¬ x = 0 by omega), if_pos e2, if_neg e, if_pos e2]; rfl
      · rw [if_neg e2, if_neg e, if_neg e, if_neg e2]
  · show (if x = 0 then Value.int (xs j) else oM (tC (tMu t n k).1 x) j) = if x = t.2.1 then (if j < n then .ref (t.2.1 + 1 + j) else .null) else if t.2.1 < x ∧ x ≤ t.2.1 + n then .int 0 else (if x = 0 then Value.int (xs j) else oM (tC t.1 x) j)
    rw [key]
    by_cases e : x = t.2.1
    · rw [if_neg (by omega), if_neg (by omega), if_pos e, if_pos e]; rfl
    · by_cases e2 : t.2.1 < x ∧ x ≤ t.2.1 + n
      · rw [if_neg (show ¬ x = 0 by omega), if_pos e2, if_neg e, if_pos e2]; rfl
      · rw [if_neg e2, if_neg e, if_neg e, if_neg e2]
/-- a piece of a row -/
def tPc (c : TC) (i j : Nat) : Nat → List (Nat × Value)
  | 0 => []
  | n + 1 => (j, cM c i) :: tPc c (i + 1) (j + 1) n
theorem tPc_eq (c : TC) : ∀ (n i j k : Nat), cF (tPc c i j n) k = if j ≤ k ∧ k < j + n then some (cM c (i + (k - j))) else none
  | 0, i, j, k => by rw [if_neg (by omega)]; rfl
  | n + 1, i, j, k => by
    show (if k = j then some (cM c i) else cF (tPc c (i + 1) (j + 1) n) k) = _
    by_cases e : k = j
    · rw [if_pos e, if_pos (by omega), e, Nat.sub_self, Nat.add_zero]
    · rw [if_neg e, tPc_eq c n]
      by_cases e2 : j + 1 ≤ k ∧ k < j + 1 + n
      · rw [if_pos e2, if_pos (by omega), show i + 1 + (k - (j + 1)) = i + (k - j) by omega]
      · rw [if_neg e2, if_neg (by omega)]
theorem tCpy_eq {b i j n : Nat} {cb : TC} (h0 : ¬ a = 0) (h : tC t.1 a = some c) (h0' : ¬ b = 0) (h' : tC t.1 b = some cb) : tS L xs (tWr t b cb (tPc c i j n)) = pCpy (tS L xs t) a i b j n := by
  rw [tWr_eq (f := fun q => if j ≤ q ∧ q < j + n then cM c (i + (q - j)) else cM cb q) h0' h' (fun q => by
    rw [tPc_eq]
    by_cases e : j ≤ q ∧ q < j + n
    · rw [if_pos e, if_pos e]
    · rw [if_neg e, if_neg e])]
  refine Prod.ext rfl (Prod.ext rfl (Prod.ext (funext fun x => funext fun q => ?_) rfl))
  show (if x = b then (if j ≤ q ∧ q < j + n then cM c (i + (q - j)) else cM cb q) else pM (tS L xs t) x q) = if x = b ∧ j ≤ q ∧ q < j + n then pM (tS L xs t) a (i + (q - j)) else pM (tS L xs t) x q
  by_cases e : x = b
  · rw [if_pos e]
    by_cases e2 : j ≤ q ∧ q < j + n
    · rw [if_pos e2, if_pos ⟨e, e2⟩, tS_M h0 h]
    · rw [if_neg e2, if_neg (fun z => e2 z.2), e, tS_M h0' h']
  · rw [if_neg e, if_neg (fun z => e z.1)]
end TS
theorem tS_0 (L : Nat) (xs : Nat → Int32) : tS L xs (TT.E TC 10, 1, 0, 0) = qG0 L xs := by
  have hz : ∀ x, tC (TT.E TC 10) x = none := fun x => by
    unfold tC; split
    · exact TT.get_E 10 x
    · rfl
  refine Prod.ext (funext fun x => ?_) (Prod.ext (funext fun x => ?_) (Prod.ext (funext fun x => funext fun j => ?_) rfl))
  · show (if x = 0 then 20 else oK (tC (TT.E TC 10) x)) = _; rw [hz]; rfl
  · show (if x = 0 then L else oL (tC (TT.E TC 10) x)) = _; rw [hz]; rfl
  · show (if x = 0 then Value.int (xs j) else oM (tC (TT.E TC 10) x) j) = _; rw [hz]; rfl
