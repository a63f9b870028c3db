/-! ===== THE REFERENCE: it begins anew ===== -/
def kBegQ (r : ENT) : Nat → Nat → KK → KK
  | 0, _, K => K
  | n + 1, q, K => kBegQ r n (q + 1) (kRest (kSet (kNew K q r) 30 q 0 0) q)
def kZs (K : KK) (q n : Nat) : KK := (fun f i j => if f = 18 ∧ i = q ∧ 3 ≤ j ∧ j < 3 + n then 0 else K.1 f i j, K.2)
def kZr (K : KK) (n : Nat) : KK := (fun f i j => if f = 34 ∧ i < 4 ∧ j < 7 ∧ 7 * i + j < n then 0 else K.1 f i j, K.2)
def kZa (K : KK) (n : Nat) : KK := (fun f i j => if (f = 35 ∨ f = 36) ∧ i < n ∧ j = 0 then 0 else K.1 f i j, K.2)
theorem kZs_0 (K : KK) (q : Nat) : kZs K q 0 = K := Prod.ext (funext fun f => funext fun i => funext fun j => if_neg (by omega)) rfl
theorem kZr_0 (K : KK) : kZr K 0 = K := Prod.ext (funext fun f => funext fun i => funext fun j => if_neg (by omega)) rfl
theorem kZa_0 (K : KK) : kZa K 0 = K := Prod.ext (funext fun f => funext fun i => funext fun j => if_neg (by omega)) rfl
theorem kZs_s (K : KK) (q n : Nat) : kSet (kZs K q n) 18 q (3 + n) 0 = kZs K q (n + 1) := by
  refine Prod.ext (funext fun f => funext fun i => funext fun j => ?_) rfl
  show (if f = 18 ∧ i = q ∧ j = 3 + n then 0 else if f = 18 ∧ i = q ∧ 3 ≤ j ∧ j < 3 + n then 0 else K.1 f i j) = if f = 18 ∧ i = q ∧ 3 ≤ j ∧ j < 3 + (n + 1) then 0 else K.1 f i j
  by_cases h1 : f = 18 ∧ i = q ∧ j = 3 + n
  · rw [if_pos h1, if_pos (by omega)]
  · rw [if_neg h1]
    by_cases h2 : f = 18 ∧ i = q ∧ 3 ≤ j ∧ j < 3 + n
    · rw [if_pos h2, if_pos (by omega)]
    · rw [if_neg h2, if_neg (by omega)]
theorem kZr_s (K : KK) {c j : Nat} (hc : c < 4) (hj : j < 7) : kSet (kZr K (7 * c + j)) 34 c j 0 = kZr K (7 * c + j + 1) := by
  refine Prod.ext (funext fun f => funext fun i => funext fun k => ?_) rfl
  show (if f = 34 ∧ i = c ∧ k = j then 0 else if f = 34 ∧ i < 4 ∧ k < 7 ∧ 7 * i + k < 7 * c + j then 0 else K.1 f i k) = if f = 34 ∧ i < 4 ∧ k < 7 ∧ 7 * i + k < 7 * c + j + 1 then 0 else K.1 f i k
  by_cases h1 : f = 34 ∧ i = c ∧ k = j
  · rw [if_pos h1, if_pos (by omega)]
  · rw [if_neg h1]
    by_cases h2 : f = 34 ∧ i < 4 ∧ k < 7 ∧ 7 * i + k < 7 * c + j
    · rw [if_pos h2, if_pos (by omega)]
    · rw [if_neg h2, if_neg (by omega)]
theorem kZa_s (K : KK) (n : Nat) : kSet (kSet (kZa K n) 35 n 0 0) 36 n 0 0 = kZa K (n + 1) := by
  refine Prod.ext (funext fun f => funext fun i => funext fun k => ?_) rfl
  show (if f = 36 ∧ i = n ∧ k = 0 then 0 else if f = 35 ∧ i = n ∧ k = 0 then 0 else if (f = 35 ∨ f = 36) ∧ i < n ∧ k = 0 then 0 else K.1 f i k) = if (f = 35 ∨ f = 36) ∧ i < n + 1 ∧ k = 0 then 0 else K.1 f i k
  by_cases h1 : f = 36 ∧ i = n ∧ k = 0
  · rw [if_pos h1, if_pos (by omega)]
  · rw [if_neg h1]
    by_cases h3 : f = 35 ∧ i = n ∧ k = 0
    · rw [if_pos h3, if_pos (by omega)]
    · rw [if_neg h3]
      by_cases h2 : (f = 35 ∨ f = 36) ∧ i < n ∧ k = 0
      · rw [if_pos h2, if_pos (by omega)]
      · rw [if_neg h2, if_neg (by omega)]
/-- the same but for cuts, rounds, losses -/
def kG (K K' : KK) : Prop := (∀ f i j, ¬ (f = 30 ∨ f = 32 ∨ f = 33) → K.1 f i j = K'.1 f i j) ∧ K.2.1 = K'.2.1
theorem kRest_v (K : KK) (s f i j : Nat) : (kRest K s).1 f i j = if f = 19 ∧ i = s then (if j < 16 then K.1 18 s (3 + j) else K.1 19 s j) else if f = 15 ∧ i = s ∧ j = 0 then K.1 18 s 0 else if f = 14 ∧ i = s ∧ j = 0 then 0 else if f = 13 ∧ i = s ∧ j = 0 then -1 else if f = 12 ∧ i = s ∧ j = 0 then 0 else K.1 f i j := rfl
theorem kNew_v (K : KK) (s : Nat) (r : ENT) (f i j : Nat) : (kNew K s r).1 f i j = if f = 18 ∧ i = s then r j else if f = 6 ∧ i = s ∧ j = 0 then -1 else if f = 5 ∧ i = s ∧ j = 0 then 0 else if f = 4 ∧ i = s ∧ j = 0 then 1 else K.1 f i j := rfl
theorem kG.step {K K' : KK} (h : kG K K') (q : Nat) (r : ENT) : kG (kRest (kSet (kNew K q r) 30 q 0 0) q) (kRest (kNew K' q r) q) := by
  refine ⟨fun f i j hf => ?_, ?_⟩
  · have ef : ∀ a b c, ¬ (a = 30 ∨ a = 32 ∨ a = 33) → (kSet (kNew K q r) 30 q 0 0).1 a b c = (kNew K' q r).1 a b c := fun a b c ha => by
      rw [kSet_ne (by omega), kNew_v, kNew_v, h.1 a b c ha]
    rw [kRest_v, kRest_v, ef 18 q (3 + j) (by omega), ef 19 q j (by omega), ef 18 q 0 (by omega), ef f i j hf]
  · show (fun b => if b = q then [] else K.2.1 b) = (fun b => if b = q then [] else K'.2.1 b)
    rw [h.2]
theorem kG.beg (r : ENT) : ∀ (n q : Nat) (K K' : KK), kG K K' → kG (kBegQ r n q K) (kBegS r n q K')
  | 0, _, _, _, h => h
  | n + 1, q, K, K', h => kG.beg r n (q + 1) _ _ (h.step q r)
theorem kBegQ_30 (r : ENT) : ∀ (n q : Nat) (K : KK) (i : Nat), (q ≤ i ∧ i < q + n → (kBegQ r n q K).1 30 i 0 = 0) ∧ (¬ (q ≤ i ∧ i < q + n) → (kBegQ r n q K).1 30 i 0 = K.1 30 i 0)
  | 0, q, K, i => ⟨fun h => by omega, fun _ => rfl⟩
  | n + 1, q, K, i => by
    have ih := kBegQ_30 r n (q + 1) (kRest (kSet (kNew K q r) 30 q 0 0) q) i
    have e : (kRest (kSet (kNew K q r) 30 q 0 0) q).1 30 i 0 = if i = q then 0 else K.1 30 i 0 := by
      rw [kRest_v, if_neg (by omega), if_neg (by omega), if_neg (by omega), if_neg (by omega), if_neg (by omega)]
      by_cases z : i = q
      · rw [z, kSet_at, if_pos rfl]
      · rw [kSet_ne (by omega), if_neg z, kNew_v, if_neg (by omega), if_neg (by omega), if_neg (by omega), if_neg (by omega)]
    refine ⟨fun h => ?_, fun h => ?_⟩
    · by_cases z : i = q
      · exact (ih.2 (by omega)).trans (by rw [e, if_pos z])
      · exact ih.1 (by omega)
    · exact (ih.2 (by omega)).trans (by rw [e, if_neg (by omega)])
theorem kBegQ_3 (r : ENT) {f : Nat} (hf : f = 32 ∨ f = 33) : ∀ (n q : Nat) (K : KK) (i j : Nat), (kBegQ r n q K).1 f i j = K.1 f i j
  | 0, _, _, _, _ => rfl
  | n + 1, q, K, i, j => by
    show (kBegQ r n (q + 1) _).1 f i j = _
    rw [kBegQ_3 r hf n (q + 1), kRest_v, if_neg (by omega), if_neg (by omega), if_neg (by omega), if_neg (by omega), if_neg (by omega), kSet_ne (by omega), kNew_v, if_neg (by omega), if_neg (by omega), if_neg (by omega), if_neg (by omega)]
theorem kBegQ_22 (r : ENT) : ∀ (n q : Nat) (K : KK), (kBegQ r n q K).2.2 = K.2.2
  | 0, _, _ => rfl
  | n + 1, q, K => kBegQ_22 r n (q + 1) _
theorem kForget_v (K : KK) (s f i j : Nat) : (kForget K s).1 f i j = if f = 36 ∧ i = s ∧ j = 0 then 0 else if f = 35 ∧ i = s ∧ j = 0 then 0 else if f = 34 ∧ i = s then rNil (K.1 34 s) j else K.1 f i j := rfl
theorem kAgr_beg (K : KK) (x : Int32) : kAgr (kZa (kZr (kBegQ (sFirst x) 7 0 (kNet (kSet (kSet K 33 0 0 0) 32 0 0 0) [])) 28) 4) (kBegin K (sFirst x)) := by
  have hG : kG (kBegQ (sFirst x) 7 0 (kNet (kSet (kSet K 33 0 0 0) 32 0 0 0) [])) (kBegS (sFirst x) 7 0 K) := kG.beg _ 7 0 _ _ ⟨fun f i j hf => by
    show (kSet (kSet K 33 0 0 0) 32 0 0 0).1 f i j = _
    rw [kSet_ne (by omega), kSet_ne (by omega)], rfl⟩
  generalize hA : kBegQ (sFirst x) 7 0 (kNet (kSet (kSet K 33 0 0 0) 32 0 0 0) []) = A at hG
  have h30 : ∀ i, i < 7 → A.1 30 i 0 = 0 := fun i hi => by rw [← hA]; exact (kBegQ_30 _ 7 0 _ i).1 ⟨Nat.zero_le _, by omega⟩
  have h32 : A.1 32 0 0 = 0 := by
    rw [← hA, kBegQ_3 _ (Or.inl rfl)]
    show (kSet (kSet K 33 0 0 0) 32 0 0 0).1 32 0 0 = 0
    exact kSet_at _ _ _ _ _
  have h33 : A.1 33 0 0 = 0 := by
    rw [← hA, kBegQ_3 _ (Or.inr rfl)]
    show (kSet (kSet K 33 0 0 0) 32 0 0 0).1 33 0 0 = _
    rw [kSet_ne (by omega), kSet_at]
  have h22 : A.2.2 = [] := by rw [← hA, kBegQ_22]; rfl
  generalize hS : kBegS (sFirst x) 7 0 K = S at hG
  have eB : ∀ f i j, (kBegin K (sFirst x)).1 f i j = if f = 33 ∧ i = 0 ∧ j = 0 then 0 else if f = 32 ∧ i = 0 ∧ j = 0 then 0 else if f = 30 ∧ i < 7 ∧ j = 0 then 0 else (kForget (kForget (kForget (kForget S 0) 1) 2) 3).1 f i j := fun f i j => by rw [← hS]; rfl
  have hF : ∀ f i j, ¬ (f = 34 ∨ f = 35 ∨ f = 36) → (kForget (kForget (kForget (kForget S 0) 1) 2) 3).1 f i j = S.1 f i j := fun f i j hf => by
    rw [kForget_v, if_neg (by omega), if_neg (by omega), if_neg (by omega), kForget_v, if_neg (by omega), if_neg (by omega), if_neg (by omega), kForget_v, if_neg (by omega), if_neg (by omega), if_neg (by omega), kForget_v, if_neg (by omega), if_neg (by omega), if_neg (by omega)]
  have h34 : ∀ i j, i < 4 → j < 7 → (kForget (kForget (kForget (kForget S 0) 1) 2) 3).1 34 i j = 0 := fun i j hi hj => by
    rcases (by omega : i = 0 ∨ i = 1 ∨ i = 2 ∨ i = 3) with rfl | rfl | rfl | rfl <;> exact if_pos hj
  have h356 : ∀ f i, f = 35 ∨ f = 36 → i < 4 → (kForget (kForget (kForget (kForget S 0) 1) 2) 3).1 f i 0 = 0 := fun f i hf hi => by
    rcases hf with rfl | rfl <;> rcases (by omega : i = 0 ∨ i = 1 ∨ i = 2 ∨ i = 3) with rfl | rfl | rfl | rfl <;> rfl
  refine ⟨fun f i j h => ?_, fun i hi => ?_, ?_⟩
  · show (kBegin K (sFirst x)).1 f i j = (if (f = 35 ∨ f = 36) ∧ i < 4 ∧ j = 0 then 0 else if f = 34 ∧ i < 4 ∧ j < 7 ∧ 7 * i + j < 28 then 0 else A.1 f i j)
    rw [eB]
    unfold kRl at h
    by_cases c34 : f = 34
    · have hi : i < 4 ∧ j < 7 := by omega
      rw [if_neg (show ¬ (f = 33 ∧ i = 0 ∧ j = 0) by omega), if_neg (show ¬ (f = 32 ∧ i = 0 ∧ j = 0) by omega), if_neg (show ¬ (f = 30 ∧ i < 7 ∧ j = 0) by omega), if_neg (show ¬ ((f = 35 ∨ f = 36) ∧ i < 4 ∧ j = 0) by omega), if_pos (show f = 34 ∧ i < 4 ∧ j < 7 ∧ 7 * i + j < 28 by omega), c34]
      exact h34 i j hi.1 hi.2
    · rw [if_neg (show ¬ (f = 34 ∧ i < 4 ∧ j < 7 ∧ 7 * i + j < 28) by omega)]
      by_cases c35 : f = 35 ∨ f = 36
      · have hi : i < 4 ∧ j = 0 := by omega
        rw [if_neg (show ¬ (f = 33 ∧ i = 0 ∧ j = 0) by omega), if_neg (show ¬ (f = 32 ∧ i = 0 ∧ j = 0) by omega), if_neg (show ¬ (f = 30 ∧ i < 7 ∧ j = 0) by omega), if_pos (show (f = 35 ∨ f = 36) ∧ i < 4 ∧ j = 0 from ⟨c35, hi⟩), hi.2]
        exact h356 f i c35 hi.1
      · rw [if_neg (show ¬ ((f = 35 ∨ f = 36) ∧ i < 4 ∧ j = 0) from fun z => c35 z.1), hF f i j (by omega)]
        by_cases c33 : f = 33
        · have hi : i = 0 ∧ j = 0 := by omega
          rw [if_pos (show f = 33 ∧ i = 0 ∧ j = 0 from ⟨c33, hi⟩), c33, hi.1, hi.2, h33]
        · rw [if_neg (show ¬ (f = 33 ∧ i = 0 ∧ j = 0) from fun z => c33 z.1)]
          by_cases c32 : f = 32
          · have hi : i = 0 ∧ j = 0 := by omega
            rw [if_pos (show f = 32 ∧ i = 0 ∧ j = 0 from ⟨c32, hi⟩), c32, hi.1, hi.2, h32]
          · rw [if_neg (show ¬ (f = 32 ∧ i = 0 ∧ j = 0) from fun z => c32 z.1)]
            by_cases c30 : f = 30
            · have hi : i < 7 ∧ j = 0 := by omega
              rw [if_pos (show f = 30 ∧ i < 7 ∧ j = 0 from ⟨c30, hi⟩), c30, hi.2, h30 i hi.1]
            · rw [if_neg (show ¬ (f = 30 ∧ i < 7 ∧ j = 0) from fun z => c30 z.1)]
              exact (hG.1 f i j (by omega)).symm
  · show (kBegin K (sFirst x)).2.1 i = A.2.1 i
    rw [hG.2, ← hS]; rfl
  · show (kBegin K (sFirst x)).2.2 = A.2.2
    rw [h22]; rfl
