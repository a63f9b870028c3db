/-! ===== THE LAW: every eighth time all pairs; the loop ===== -/
theorem lg_cmp_s (x : Int64) : lg_cmp x x = 0 := by
  unfold lg_cmp
  simp
theorem i32_rem {a n : Nat} (ha : a < 2147483648) (hn : n < 2147483648) : Int32.ofNat a - Int32.ofNat a / Int32.ofNat n * Int32.ofNat n = Int32.ofNat (a % n) := by
  rw [i32_div ha hn, ← Int32.ofNat_mul, i32_subn (Nat.div_mul_le_self a n)]
  congr 1
  have := Nat.div_add_mod a n
  rw [Nat.mul_comm] at this
  omega
section OUT
variable {n0 : Nat} {sc : Nat → Int32} {c p1 p2 : Nat} {tl cl led : Nat → Nat} {X : XS} {W : LW} {i w v f : Int32} {Q : PO → XS → LW → Prop}
theorem LJ.agm (hL : LJ n0 sc c tl cl led X) {p q : Nat} (hp : p < 7) (hq : q < 7) : lAgr (xK X 0) p q := by
  obtain ⟨m0, G, A, g, z⟩ := hL.k
  exact NN.lagr g z hp hq
theorem LJ.sok (hL : LJ n0 sc c tl cl led X) : ∀ i, i < 7 → sOk (xK X 0) i := fun i hi => by
  obtain ⟨S, P, A, -, hg, -⟩ := hL.g
  exact (hg.ok hi).1
theorem l_136 {d : Int64} {p : Nat} (hp : p < 7) (hL : LJ n0 sc c tl cl led X) (k : ∀ y, LT 378 148 [some (.ref 0), some (.ref 1), some (.ref p1), some (.ref p2), some (.int i), some (.int w), some (.int v), some (.int f), some (.long d), none, some (.int (Int32.ofNat p)), y] [] X W Q) : ∀ n q : Nat, q + n = p → LT 378 136 [some (.ref 0), some (.ref 1), some (.ref p1), some (.ref p2), some (.int i), some (.int w), some (.int v), some (.int f), some (.long d), none, some (.int (Int32.ofNat p)), some (.int (Int32.ofNat q))] [] X W Q
  | 0, q, hq => by
    refine LT.iload M_378 rfl rfl ?_
    refine LT.iload M_378 rfl rfl ?_
    refine LT.icmp_ge M_378 rfl (fun b => k _) (fun b => absurd ((i32_le (by omega) (by omega)).mpr (by omega)) b)
  | n + 1, q, hq => by
    refine LT.iload M_378 rfl rfl ?_
    refine LT.iload M_378 rfl rfl ?_
    refine LT.icmp_ge M_378 rfl (fun b => absurd ((i32_le (by omega) (by omega)).mp b) (by omega)) (fun b => ?_)
    refine LT.aload_n M_378 rfl rfl ?_
    refine LT.iload M_378 rfl rfl ?_
    refine LT.iload M_378 rfl rfl ?_
    refine LT.cs3i M_378 rfl M_327 rfl (Nat.le_of_ble_eq_true rfl) rfl rfl (c_327 hp (by omega) (hL.agm hp (by omega))) ?_ (Nat.le_of_ble_eq_true rfl) rfl
    refine LT.if_ne M_378 rfl (fun b => ?_) (fun b => absurd (by decide) b)
    refine LT.plain (nx := 147) (ls' := [some (.ref 0), some (.ref 1), some (.ref p1), some (.ref p2), some (.int i), some (.int w), some (.int v), some (.int f), some (.long d), none, some (.int (Int32.ofNat p)), some (.int (Int32.ofNat (q + 1)))]) (st' := []) M_378 rfl rfl (fun _ => by rw [← i32_suc1 q]; rfl) ?_
    refine LT.goto M_378 rfl ?_
    exact l_136 hp hL k n (q + 1) (by omega)
theorem l_131 {d : Int64} (hL : LJ n0 sc c tl cl led X) (k : ∀ z y, LT 378 150 [some (.ref 0), some (.ref 1), some (.ref p1), some (.ref p2), some (.int i), some (.int w), some (.int v), some (.int f), some (.long d), none, z, y] [] X W Q) : ∀ (n p : Nat) (y : Option Value), p + n = 7 → LT 378 131 [some (.ref 0), some (.ref 1), some (.ref p1), some (.ref p2), some (.int i), some (.int w), some (.int v), some (.int f), some (.long d), none, some (.int (Int32.ofNat p)), y] [] X W Q
  | 0, p, y, hp => by
    refine LT.iload M_378 rfl rfl ?_
    refine LT.bipush M_378 rfl (v := 7) (by decide) ?_
    refine LT.icmp_ge M_378 rfl (fun b => k _ _) (fun b => absurd ((i32_le (a := 7) (by omega) (by omega)).mpr (by omega)) b)
  | n + 1, p, y, hp => by
    refine LT.iload M_378 rfl rfl ?_
    refine LT.bipush M_378 rfl (v := 7) (by decide) ?_
    refine LT.icmp_ge M_378 rfl (fun b => absurd ((i32_le (a := 7) (by omega) (by omega)).mp b) (by omega)) (fun b => ?_)
    refine LT.iconst M_378 rfl (v := 0) (by decide) ?_
    refine LT.plain (nx := 136) (ls' := [some (.ref 0), some (.ref 1), some (.ref p1), some (.ref p2), some (.int i), some (.int w), some (.int v), some (.int f), some (.long d), none, some (.int (Int32.ofNat p)), some (.int (Int32.ofNat 0))]) (st' := []) M_378 rfl rfl (fun _ => rfl) ?_
    refine l_136 (by omega) hL (fun y2 => ?_) p 0 (by omega)
    refine LT.plain (nx := 149) (ls' := [some (.ref 0), some (.ref 1), some (.ref p1), some (.ref p2), some (.int i), some (.int w), some (.int v), some (.int f), some (.long d), none, some (.int (Int32.ofNat (p + 1))), y2]) (st' := []) M_378 rfl rfl (fun _ => by rw [← i32_suc1 p]; rfl) ?_
    refine LT.goto M_378 rfl ?_
    exact l_131 hL k n (p + 1) y2 (by omega)
theorem l_120 (hL : LJ n0 sc c tl cl led X) {y : Int32} {l9 l10 l11 : Option Value} (k : ∀ l8 l9 l10 l11 : Option Value, LT 378 157 [some (.ref 0), some (.ref 1), some (.ref p1), some (.ref p2), some (.int i), some (.int w), some (.int v), some (.int f), l8, l9, l10, l11] [] X W Q) : LT 378 120 [some (.ref 0), some (.ref 1), some (.ref p1), some (.ref p2), some (.int i), some (.int w), some (.int v), some (.int f), some (.int y), l9, l10, l11] [] X W Q := by
  refine LT.iload M_378 rfl rfl ?_
  refine LT.bipush M_378 rfl (v := 8) (by decide) ?_
  refine LT.irem M_378 rfl (by decide) rfl ?_
  refine LT.bipush M_378 rfl (v := 7) (by decide) ?_
  refine LT.icmp_eq M_378 rfl (fun b => ?_) (fun b => by refine LT.goto M_378 rfl ?_; exact k _ _ _ _)
  refine LT.aload_n M_378 rfl rfl ?_
  refine LT.cv1i M_378 rfl M_160 rfl (Nat.le_of_ble_eq_true rfl) (xKd.of (Or.inr (Or.inr (Or.inl ⟨rfl, rfl, rfl⟩)))) (by decide) rfl (c_160 hL.2.1 hL.sok) ?_ (Nat.le_of_ble_eq_true rfl) rfl
  refine LT.lst8 M_378 rfl rfl ?_
  refine LT.iconst M_378 rfl (v := 0) (by decide) ?_
  refine LT.plain (nx := 131) (ls' := [some (.ref 0), some (.ref 1), some (.ref p1), some (.ref p2), some (.int i), some (.int w), some (.int v), some (.int f), some (.long (sDig (Int64.ofNat 2423) (dAll (xK X 0)))), none, some (.int (Int32.ofNat 0)), l11]) (st' := []) M_378 rfl rfl (fun _ => rfl) ?_
  refine l_131 hL (fun z y2 => ?_) 7 0 l11 (by omega)
  refine LT.aload_n M_378 rfl rfl ?_
  refine LT.cv1i M_378 rfl M_160 rfl (Nat.le_of_ble_eq_true rfl) (xKd.of (Or.inr (Or.inr (Or.inl ⟨rfl, rfl, rfl⟩)))) (by decide) rfl (c_160 hL.2.1 hL.sok) ?_ (Nat.le_of_ble_eq_true rfl) rfl
  refine LT.lload M_378 rfl rfl ?_
  refine LT.lcmp M_378 rfl ?_
  rw [lg_cmp_s]
  refine LT.if_eq M_378 rfl (fun b => k _ _ _ _) (fun b => absurd rfl b)
end OUT
