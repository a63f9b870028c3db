theorem qSpan_add {m a n : Nat} (h : qSpan m a n = true) : ∀ k, qSpan m (a + n) k = true → qSpan m a (n + k) = true
  | 0, _ => h
  | k + 1, hk => by
    have hk' : (qAt m (a + n + k) && qSpan m (a + n) k) = true := hk
    rw [Bool.and_eq_true] at hk'
    show (qAt m (a + (n + k)) && qSpan m a (n + k)) = true
    rw [Bool.and_eq_true, ← Nat.add_assoc]
    exact ⟨hk'.1, qSpan_add h k hk'.2⟩
