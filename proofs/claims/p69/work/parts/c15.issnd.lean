/-! ===== THE LAW: a server is sound ===== -/
section ISS
variable {X : XS} {s : Nat}
theorem i32_0le {n : Nat} (h : n < 2147483648) : ¬ Int32.ofNat n < 0 := fun z => by
  rw [show (0 : Int32) = Int32.ofNat 0 from rfl, i32_lt h (by omega)] at z; omega
theorem snd_150 {v : Option Value} : AT 326 150 [some (.ref 1), some (.int (Int32.ofNat s)), some (.int ((xK X 0).1 12 s 0)), some (.int (sLast (xK X 0) s)), v] [] X (fun o Y => o = .inl (some (.int 1)) ∧ Y = X) := by
  refine AT.iconst M_326 rfl (v := 1) (by decide) ?_
  refine AT.zret M_326 rfl rfl (Or.inr rfl) ?_
  exact ⟨rfl, rfl⟩
theorem snd_120 (hs : s < 7) (hS : lSnd (xK X 0) s) : ∀ n j : Nat, j + n = 7 → AT 326 120 [some (.ref 1), some (.int (Int32.ofNat s)), some (.int ((xK X 0).1 12 s 0)), some (.int (sLast (xK X 0) s)), some (.int (Int32.ofNat j))] [] X (fun o Y => o = .inl (some (.int 1)) ∧ Y = X)
  | 0, j, hj => by
    refine AT.iload M_326 rfl rfl ?_
    refine AT.bipush M_326 rfl (v := 7) (by decide) ?_
    refine AT.icmp_ge M_326 rfl (fun b => snd_150) (fun b => absurd ((i32_le (a := 7) (by omega) (by omega)).mpr (by omega)) b)
  | n + 1, j, hj => by
    obtain ⟨⟨r, r1, r2⟩, hdn, hfo, hvo, ⟨a, c, l, t, lt, e1, e2, e3, e4, e5, e6, e7, e8, e9, e10, -, -, -, e11, e12, e13⟩, hm7, hm1, hw⟩ := id hS
    refine AT.iload M_326 rfl rfl ?_
    refine AT.bipush M_326 rfl (v := 7) (by decide) ?_
    refine AT.icmp_ge M_326 rfl (fun b => absurd ((i32_le (a := 7) (by omega) (by omega)).mp b) (by omega)) (fun b => ?_)
    refine AT.iload_n M_326 rfl rfl ?_
    refine AT.iconst M_326 rfl (v := 3) (by decide) ?_
    refine AT.icmp_ne M_326 rfl (fun b => snd_150) (fun b => ?_)
    have hr3 := Classical.not_not.mp b
    refine AT.iload M_326 rfl rfl ?_
    refine AT.iload_n M_326 rfl rfl ?_
    have go : AT 326 148 [some (.ref 1), some (.int (Int32.ofNat s)), some (.int ((xK X 0).1 12 s 0)), some (.int (sLast (xK X 0) s)), some (.int (Int32.ofNat j))] [] X (fun o Y => o = .inl (some (.int 1)) ∧ Y = X) := by
      refine AT.iinc4 M_326 rfl rfl (i32_suc1 j) ?_
      refine AT.goto M_326 rfl ?_
      exact snd_120 hs hS n (j + 1) (by omega)
    refine AT.icmp_eq M_326 rfl (fun b => go) (fun b => ?_)
    rename_i b0
    have hne : ¬ s = j := fun z => b (by rw [z])
    obtain ⟨g1, g2⟩ := e13 hr3 j (by omega) (fun z => hne z.symm)
    refine AT.aload_n M_326 rfl rfl ?_
    refine AT.iload_n M_326 rfl rfl ?_
    refine AT.iload M_326 rfl rfl ?_
    refine AT.cv3i M_326 rfl M_146 rfl (Nat.le_of_ble_eq_true rfl) (xKd.of (Or.inr (Or.inr (Or.inl ⟨rfl, rfl, rfl⟩)))) (by decide) (c_146 hs (by omega) hne hr3) ?_ (Nat.le_of_ble_eq_true rfl) rfl
    refine AT.aload_n M_326 rfl rfl ?_
    refine AT.iload_n M_326 rfl rfl ?_
    refine AT.iload M_326 rfl rfl ?_
    refine AT.cv3i M_326 rfl M_145 rfl (Nat.le_of_ble_eq_true rfl) (xKd.of (Or.inr (Or.inr (Or.inl ⟨rfl, rfl, rfl⟩)))) (by decide) (c_145 hs (by omega) hne hr3) ?_ (Nat.le_of_ble_eq_true rfl) rfl
    refine AT.icmp_ge M_326 rfl (fun b => absurd b (Int32.not_le.mpr g1)) (fun b => ?_)
    refine AT.aload_n M_326 rfl rfl ?_
    refine AT.iload_n M_326 rfl rfl ?_
    refine AT.iload M_326 rfl rfl ?_
    refine AT.cv3i M_326 rfl M_145 rfl (Nat.le_of_ble_eq_true rfl) (xKd.of (Or.inr (Or.inr (Or.inl ⟨rfl, rfl, rfl⟩)))) (by decide) (c_145 hs (by omega) hne hr3) ?_ (Nat.le_of_ble_eq_true rfl) rfl
    refine AT.iload_n M_326 rfl rfl ?_
    refine AT.iconst M_326 rfl (v := 1) (by decide) ?_
    refine AT.iadd M_326 rfl (v := Int32.ofNat (l + 1)) (by rw [e3]; exact i32_suc1 l) ?_
    refine AT.icmp_le M_326 rfl (fun b => go) (fun b => absurd g2 b)
theorem snd_118 (hs : s < 7) (hS : lSnd (xK X 0) s) {v : Option Value} : AT 326 118 [some (.ref 1), some (.int (Int32.ofNat s)), some (.int ((xK X 0).1 12 s 0)), some (.int (sLast (xK X 0) s)), v] [] X (fun o Y => o = .inl (some (.int 1)) ∧ Y = X) := by
  refine AT.iconst M_326 rfl (v := 0) (by decide) ?_
  refine AT.ist4 M_326 rfl rfl ?_
  exact snd_120 hs hS 7 0 rfl
theorem snd_100 (hs : s < 7) (hS : lSnd (xK X 0) s) {L A : Nat} (hl : sLast (xK X 0) s = Int32.ofNat L) (ha : (xK X 0).1 18 s 0 = Int32.ofNat A) (hL : L ≤ 12400 ∧ A ≤ 12400) : ∀ n x : Nat, x + n = L + 1 → A < x → AT 326 100 [some (.ref 1), some (.int (Int32.ofNat s)), some (.int ((xK X 0).1 12 s 0)), some (.int (sLast (xK X 0) s)), some (.int (Int32.ofNat x))] [] X (fun o Y => o = .inl (some (.int 1)) ∧ Y = X)
  | 0, x, hx, hA => by
    refine AT.iload M_326 rfl rfl ?_
    refine AT.iload_n M_326 rfl rfl ?_
    refine AT.icmp_gt M_326 rfl (fun b => snd_118 hs hS) (fun b => absurd (by rw [hl, i32_lt (by omega) (by omega)]; omega) b)
  | n + 1, x, hx, hA => by
    obtain ⟨⟨r, r1, r2⟩, hdn, hfo, hvo, ⟨a, c, l, t, lt, e1, e2, e3, e4, e5, e6, e7, e8, e9, e10, -, -, -, e11, e12, e13⟩, hm7, hm1, hw⟩ := id hS
    have ll : l = L := by have z := e3.symm.trans hl; rwa [i32_eq (by omega) (by omega)] at z
    subst ll
    have aa : a = A := by have z := e1.symm.trans ha; rwa [i32_eq (by omega) (by omega)] at z
    subst aa
    refine AT.iload M_326 rfl rfl ?_
    refine AT.iload_n M_326 rfl rfl ?_
    refine AT.icmp_gt M_326 rfl (fun b => absurd b (by rw [hl, i32_lt (by omega) (by omega)]; omega)) (fun b => ?_)
    refine AT.aload_n M_326 rfl rfl ?_
    refine AT.iload_n M_326 rfl rfl ?_
    refine AT.iload M_326 rfl rfl ?_
    refine AT.cv3i M_326 rfl M_138 rfl (Nat.le_of_ble_eq_true rfl) (xKd.of (Or.inr (Or.inr (Or.inl ⟨rfl, rfl, rfl⟩)))) (by decide) (c_138 hs hw (e11 x (by omega) (by omega))) ?_ (Nat.le_of_ble_eq_true rfl) rfl
    refine AT.aload_n M_326 rfl rfl ?_
    refine AT.iload_n M_326 rfl rfl ?_
    refine AT.iload M_326 rfl rfl ?_
    refine AT.iconst M_326 rfl (v := 1) (by decide) ?_
    refine AT.isub M_326 rfl (i32_pred (by omega)) ?_
    refine AT.cv3i M_326 rfl M_138 rfl (Nat.le_of_ble_eq_true rfl) (xKd.of (Or.inr (Or.inr (Or.inl ⟨rfl, rfl, rfl⟩)))) (by decide) (c_138 hs hw (e11 (x - 1) (by omega) (by omega))) ?_ (Nat.le_of_ble_eq_true rfl) rfl
    refine AT.icmp_ge M_326 rfl (fun b => ?_) (fun b => absurd (by have z := e12 (x - 1) (by omega) (by omega); rwa [show x - 1 + 1 = x by omega] at z) b)
    refine AT.iinc4 M_326 rfl rfl (i32_suc1 x) ?_
    refine AT.goto M_326 rfl ?_
    exact snd_100 hs hS hl ha hL n (x + 1) (by omega) (by omega)
theorem snd_94 (hs : s < 7) (hS : lSnd (xK X 0) s) {v : Option Value} : AT 326 94 [some (.ref 1), some (.int (Int32.ofNat s)), some (.int ((xK X 0).1 12 s 0)), some (.int (sLast (xK X 0) s)), v] [] X (fun o Y => o = .inl (some (.int 1)) ∧ Y = X) := by
  obtain ⟨⟨r, r1, r2⟩, hdn, hfo, hvo, ⟨a, c, l, t, lt, e1, e2, e3, e4, e5, e6, e7, e8, e9, e10, -, -, -, e11, e12, e13⟩, hm7, hm1, hw⟩ := id hS
  refine AT.aload_n M_326 rfl rfl ?_
  refine AT.iload_n M_326 rfl rfl ?_
  refine AT.cv2i M_326 rfl M_132 rfl (Nat.le_of_ble_eq_true rfl) (xKd.of (Or.inr (Or.inr (Or.inl ⟨rfl, rfl, rfl⟩)))) (by decide) (c_132 hs) ?_ (Nat.le_of_ble_eq_true rfl) rfl
  refine AT.iconst M_326 rfl (v := 1) (by decide) ?_
  refine AT.iadd M_326 rfl (v := Int32.ofNat (a + 1)) (by rw [e1]; exact i32_suc1 a) ?_
  refine AT.ist4 M_326 rfl rfl ?_
  exact snd_100 hs hS e3 e1 ⟨by omega, by omega⟩ (l - a) (a + 1) (by omega) (by omega)
theorem snd_79 (hs : s < 7) (hS : lSnd (xK X 0) s) (hser : ∀ q, q < 4 → (xK X 0).1 19 s (8 + q) ≤ (xK X 0).1 34 q 3) : ∀ n j : Nat, j + n = 4 → AT 326 79 [some (.ref 1), some (.int (Int32.ofNat s)), some (.int ((xK X 0).1 12 s 0)), some (.int (sLast (xK X 0) s)), some (.int (Int32.ofNat j))] [] X (fun o Y => o = .inl (some (.int 1)) ∧ Y = X)
  | 0, j, hj => by
    refine AT.iload M_326 rfl rfl ?_
    refine AT.iconst M_326 rfl (v := 4) (by decide) ?_
    refine AT.icmp_ge M_326 rfl (fun b => snd_94 hs hS) (fun b => absurd ((i32_le (a := 4) (by omega) (by omega)).mpr (by omega)) b)
  | n + 1, j, hj => by
    refine AT.iload M_326 rfl rfl ?_
    refine AT.iconst M_326 rfl (v := 4) (by decide) ?_
    refine AT.icmp_ge M_326 rfl (fun b => absurd ((i32_le (a := 4) (by omega) (by omega)).mp b) (by omega)) (fun b => ?_)
    refine AT.aload_n M_326 rfl rfl ?_
    refine AT.iload_n M_326 rfl rfl ?_
    refine AT.iload M_326 rfl rfl ?_
    refine AT.cv3i M_326 rfl M_144 rfl (Nat.le_of_ble_eq_true rfl) (xKd.of (Or.inr (Or.inr (Or.inl ⟨rfl, rfl, rfl⟩)))) (by decide) (c_144 hs (by omega)) ?_ (Nat.le_of_ble_eq_true rfl) rfl
    refine AT.aload_n M_326 rfl rfl ?_
    refine AT.iload M_326 rfl rfl ?_
    refine AT.cv2i M_326 rfl M_120 rfl (Nat.le_of_ble_eq_true rfl) (xKd.of (Or.inr (Or.inr (Or.inl ⟨rfl, rfl, rfl⟩)))) (by decide) (c_120 (by omega)) ?_ (Nat.le_of_ble_eq_true rfl) rfl
    refine AT.icmp_le M_326 rfl (fun b => ?_) (fun b => absurd (hser j (by omega)) b)
    refine AT.iinc4 M_326 rfl rfl (i32_suc1 j) ?_
    refine AT.goto M_326 rfl ?_
    exact snd_79 hs hS hser n (j + 1) (by omega)
theorem snd_47 (hs : s < 7) (hS : lSnd (xK X 0) s) (hser : ∀ q, q < 4 → (xK X 0).1 19 s (8 + q) ≤ (xK X 0).1 34 q 3) (hp : mPr X 0) (h60 : (xK X 0).2.2.length ≤ 60) : AT 326 47 [some (.ref 1), some (.int (Int32.ofNat s)), some (.int ((xK X 0).1 12 s 0)), some (.int (sLast (xK X 0) s)), none] [] X (fun o Y => o = .inl (some (.int 1)) ∧ Y = X) := by
  obtain ⟨⟨r, r1, r2⟩, hdn, hfo, hvo, ⟨a, c, l, t, lt, e1, e2, e3, e4, e5, e6, e7, e8, e9, e10, -, -, -, e11, e12, e13⟩, hm7, hm1, hw⟩ := id hS
  refine AT.aload_n M_326 rfl rfl ?_
  refine AT.iload_n M_326 rfl rfl ?_
  refine AT.cv2i M_326 rfl M_132 rfl (Nat.le_of_ble_eq_true rfl) (xKd.of (Or.inr (Or.inr (Or.inl ⟨rfl, rfl, rfl⟩)))) (by decide) (c_132 hs) ?_ (Nat.le_of_ble_eq_true rfl) rfl
  refine AT.aload_n M_326 rfl rfl ?_
  refine AT.iload_n M_326 rfl rfl ?_
  refine AT.cv2i M_326 rfl M_135 rfl (Nat.le_of_ble_eq_true rfl) (xKd.of (Or.inr (Or.inr (Or.inl ⟨rfl, rfl, rfl⟩)))) (by decide) (c_135 hs) ?_ (Nat.le_of_ble_eq_true rfl) rfl
  refine AT.icmp_gt M_326 rfl (fun b => absurd b (by rw [e1, e2, i32_lt (by omega) (by omega)]; omega)) (fun b => ?_)
  refine AT.aload_n M_326 rfl rfl ?_
  refine AT.iload_n M_326 rfl rfl ?_
  refine AT.cv2i M_326 rfl M_135 rfl (Nat.le_of_ble_eq_true rfl) (xKd.of (Or.inr (Or.inr (Or.inl ⟨rfl, rfl, rfl⟩)))) (by decide) (c_135 hs) ?_ (Nat.le_of_ble_eq_true rfl) rfl
  refine AT.iload_n M_326 rfl rfl ?_
  refine AT.icmp_gt M_326 rfl (fun b => absurd b (by rw [e3, e2, i32_lt (by omega) (by omega)]; omega)) (fun b => ?_)
  refine AT.aload_n M_326 rfl rfl ?_
  refine AT.iload_n M_326 rfl rfl ?_
  refine AT.cv2i M_326 rfl M_134 rfl (Nat.le_of_ble_eq_true rfl) (xKd.of (Or.inr (Or.inr (Or.inl ⟨rfl, rfl, rfl⟩)))) (by decide) (c_134 hs) ?_ (Nat.le_of_ble_eq_true rfl) rfl
  refine AT.aload_n M_326 rfl rfl ?_
  refine AT.iload_n M_326 rfl rfl ?_
  refine AT.cv2i M_326 rfl M_127 rfl (Nat.le_of_ble_eq_true rfl) (xKd.of (Or.inr (Or.inr (Or.inl ⟨rfl, rfl, rfl⟩)))) (by decide) (c_127 hs) ?_ (Nat.le_of_ble_eq_true rfl) rfl
  refine AT.icmp_gt M_326 rfl (fun b => absurd b (by rw [e7, e8, i32_lt (by omega) (by omega)]; omega)) (fun b => ?_)
  refine AT.aload_n M_326 rfl rfl ?_
  refine AT.cv1i M_326 rfl M_107 rfl (Nat.le_of_ble_eq_true rfl) (xKd.of (Or.inr (Or.inr (Or.inl ⟨rfl, rfl, rfl⟩)))) (by decide) (c_107) ?_ (Nat.le_of_ble_eq_true rfl) rfl
  refine AT.bipush M_326 rfl (v := 60) (by decide) ?_
  refine AT.icmp_gt M_326 rfl (fun b => absurd ((i32_lt (a := 60) (by omega) (by omega)).mp b) (by omega)) (fun b => ?_)
  refine AT.aload_n M_326 rfl rfl ?_
  refine AT.iload_n M_326 rfl rfl ?_
  refine AT.cv2i M_326 rfl M_136 rfl (Nat.le_of_ble_eq_true rfl) (xKd.of (Or.inr (Or.inr (Or.inl ⟨rfl, rfl, rfl⟩)))) (by decide) (c_136 hs (hp s hs).1 hm7) ?_ (Nat.le_of_ble_eq_true rfl) rfl
  refine AT.iconst M_326 rfl (v := 1) (by decide) ?_
  refine AT.icmp_ge M_326 rfl (fun b => ?_) (fun b => absurd hm1 b)
  refine AT.iconst M_326 rfl (v := 0) (by decide) ?_
  refine AT.ist4 M_326 rfl rfl ?_
  exact snd_79 hs hS hser 4 0 rfl
theorem snd_37 (hs : s < 7) (hS : lSnd (xK X 0) s) (hser : ∀ q, q < 4 → (xK X 0).1 19 s (8 + q) ≤ (xK X 0).1 34 q 3) (hp : mPr X 0) (h60 : (xK X 0).2.2.length ≤ 60) : AT 326 37 [some (.ref 1), some (.int (Int32.ofNat s)), some (.int ((xK X 0).1 12 s 0)), some (.int (sLast (xK X 0) s)), none] [] X (fun o Y => o = .inl (some (.int 1)) ∧ Y = X) := by
  obtain ⟨⟨r, r1, r2⟩, hdn, hfo, hvo, ⟨a, c, l, t, lt, e1, e2, e3, e4, e5, e6, e7, e8, e9, e10, -, -, -, e11, e12, e13⟩, hm7, hm1, hw⟩ := id hS
  refine AT.iload_n M_326 rfl rfl ?_
  refine AT.iconst M_326 rfl (v := 1) (by decide) ?_
  refine AT.icmp_le M_326 rfl (fun b => snd_47 hs hS hser hp h60) (fun b => ?_)
  refine AT.aload_n M_326 rfl rfl ?_
  refine AT.iload_n M_326 rfl rfl ?_
  refine AT.cv2i M_326 rfl M_128 rfl (Nat.le_of_ble_eq_true rfl) (xKd.of (Or.inr (Or.inr (Or.inl ⟨rfl, rfl, rfl⟩)))) (by decide) (c_128 hs) ?_ (Nat.le_of_ble_eq_true rfl) rfl
  refine AT.iload_n M_326 rfl rfl ?_
  refine AT.icmp_eq M_326 rfl (fun b => snd_47 hs hS hser hp h60) (fun b => ?_)
  exfalso
  rename_i b0
  refine b (hvo ?_)
  rw [r2, show (1 : Int32) = Int32.ofNat 1 from rfl, i32_le (by omega) (by omega)] at b0
  rcases (show r = 2 ∨ r = 3 by omega) with rfl | rfl
  · exact Or.inl r2
  · exact Or.inr r2
theorem snd_30 (hs : s < 7) (hS : lSnd (xK X 0) s) (hser : ∀ q, q < 4 → (xK X 0).1 19 s (8 + q) ≤ (xK X 0).1 34 q 3) (hp : mPr X 0) (h60 : (xK X 0).2.2.length ≤ 60) : AT 326 30 [some (.ref 1), some (.int (Int32.ofNat s)), some (.int ((xK X 0).1 12 s 0)), some (.int (sLast (xK X 0) s)), none] [] X (fun o Y => o = .inl (some (.int 1)) ∧ Y = X) := by
  obtain ⟨⟨r, r1, r2⟩, hdn, hfo, hvo, ⟨a, c, l, t, lt, e1, e2, e3, e4, e5, e6, e7, e8, e9, e10, -, -, -, e11, e12, e13⟩, hm7, hm1, hw⟩ := id hS
  refine AT.iload_n M_326 rfl rfl ?_
  refine AT.if_le M_326 rfl (fun b => snd_37 hs hS hser hp h60) (fun b => ?_)
  have hr0 : ¬ (xK X 0).1 12 s 0 = 0 := fun z => b (by rw [z]; exact Int32.le_refl _)
  refine AT.aload_n M_326 rfl rfl ?_
  refine AT.iload_n M_326 rfl rfl ?_
  refine AT.cv2i M_326 rfl M_129 rfl (Nat.le_of_ble_eq_true rfl) (xKd.of (Or.inr (Or.inr (Or.inl ⟨rfl, rfl, rfl⟩)))) (by decide) (c_129 hs) ?_ (Nat.le_of_ble_eq_true rfl) rfl
  refine AT.iconst M_326 rfl (v := (-1)) (by decide) ?_
  refine AT.icmp_ne M_326 rfl (fun b => absurd (hfo hr0) b) (fun b => snd_37 hs hS hser hp h60)
theorem c_326 (hs : s < 7) (hS : lSnd (xK X 0) s) (hser : ∀ q, q < 4 → (xK X 0).1 19 s (8 + q) ≤ (xK X 0).1 34 q 3) (hp : mPr X 0) (h60 : (xK X 0).2.2.length ≤ 60) : RT 326 [some (.ref 1), some (.int (Int32.ofNat s)), none, none, none] X (some (.int 1)) X := by
  obtain ⟨⟨r, r1, r2⟩, hdn, hfo, hvo, ⟨a, c, l, t, lt, e1, e2, e3, e4, e5, e6, e7, e8, e9, e10, -, -, -, e11, e12, e13⟩, hm7, hm1, hw⟩ := id hS
  refine AT.aload_n M_326 rfl rfl ?_
  refine AT.iload_n M_326 rfl rfl ?_
  refine AT.cv2i M_326 rfl M_126 rfl (Nat.le_of_ble_eq_true rfl) (xKd.of (Or.inr (Or.inr (Or.inl ⟨rfl, rfl, rfl⟩)))) (by decide) (c_126 hs) ?_ (Nat.le_of_ble_eq_true rfl) rfl
  refine AT.ist2 M_326 rfl rfl ?_
  refine AT.aload_n M_326 rfl rfl ?_
  refine AT.iload_n M_326 rfl rfl ?_
  refine AT.cv2i M_326 rfl M_133 rfl (Nat.le_of_ble_eq_true rfl) (xKd.of (Or.inr (Or.inr (Or.inl ⟨rfl, rfl, rfl⟩)))) (by decide) (c_133 hs) ?_ (Nat.le_of_ble_eq_true rfl) rfl
  refine AT.ist3 M_326 rfl rfl ?_
  refine AT.iload_n M_326 rfl rfl ?_
  refine AT.if_lt M_326 rfl (fun b => absurd b (by rw [r2]; exact i32_0le (by omega))) (fun b => ?_)
  refine AT.iload_n M_326 rfl rfl ?_
  refine AT.iconst M_326 rfl (v := 3) (by decide) ?_
  refine AT.icmp_gt M_326 rfl (fun b => absurd b (by rw [r2, show (3 : Int32) = Int32.ofNat 3 from rfl, i32_lt (by omega) (by omega)]; omega)) (fun b => ?_)
  refine AT.aload_n M_326 rfl rfl ?_
  refine AT.iload_n M_326 rfl rfl ?_
  refine AT.cv2i M_326 rfl M_125 rfl (Nat.le_of_ble_eq_true rfl) (xKd.of (Or.inr (Or.inr (Or.inl ⟨rfl, rfl, rfl⟩)))) (by decide) (c_125 hs) ?_ (Nat.le_of_ble_eq_true rfl) rfl
  refine AT.if_ne M_326 rfl (fun b => snd_30 hs hS hser hp h60) (fun b => ?_)
  obtain ⟨d1, d2, d3⟩ := hdn (Classical.not_not.mp b)
  refine AT.iload_n M_326 rfl rfl ?_
  refine AT.if_ne M_326 rfl (fun b => absurd d1 b) (fun b => ?_)
  refine AT.aload_n M_326 rfl rfl ?_
  refine AT.iload_n M_326 rfl rfl ?_
  refine AT.cv2i M_326 rfl M_130 rfl (Nat.le_of_ble_eq_true rfl) (xKd.of (Or.inr (Or.inr (Or.inl ⟨rfl, rfl, rfl⟩)))) (by decide) (c_130 hs) ?_ (Nat.le_of_ble_eq_true rfl) rfl
  refine AT.if_ne M_326 rfl (fun b => absurd d2 b) (fun b => ?_)
  refine AT.aload_n M_326 rfl rfl ?_
  refine AT.iload_n M_326 rfl rfl ?_
  refine AT.cv2i M_326 rfl M_135 rfl (Nat.le_of_ble_eq_true rfl) (xKd.of (Or.inr (Or.inr (Or.inl ⟨rfl, rfl, rfl⟩)))) (by decide) (c_135 hs) ?_ (Nat.le_of_ble_eq_true rfl) rfl
  refine AT.aload_n M_326 rfl rfl ?_
  refine AT.iload_n M_326 rfl rfl ?_
  refine AT.cv2i M_326 rfl M_132 rfl (Nat.le_of_ble_eq_true rfl) (xKd.of (Or.inr (Or.inr (Or.inl ⟨rfl, rfl, rfl⟩)))) (by decide) (c_132 hs) ?_ (Nat.le_of_ble_eq_true rfl) rfl
  refine AT.icmp_ne M_326 rfl (fun b => absurd d3 b) (fun b => snd_30 hs hS hser hp h60)
end ISS
