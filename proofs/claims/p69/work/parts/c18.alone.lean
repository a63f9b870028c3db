/-! ===== THE LAW: one leader a term; one server's part of the check ===== -/
theorem LT.rep {m i : Nat} {ls : PV} {st : List Value} {X : XS} {W : LW} {Q : PO → XS → LW → Prop} (h : (∃ g, Rep X g) → LT m i ls st X W Q) : LT m i ls st X W Q := fun g hg => h ⟨g, hg.1⟩ g hg
/-- the row of leaders says led -/
def wLed (led : Nat → Nat) (W : LW) : Prop := ∀ t, t < 400 → W.2.2.1 t = Int32.ofNat (led t) ∧ led t ≤ 7
section LDA
variable {n0 : Nat} {sc : Nat → Int32} {c : Nat} {tl cl led : Nat → Nat} {X : XS} {W : LW} {s : Nat}
theorem LJ.lead (hL : LJ n0 sc c tl cl led X) (hs : s < 7) (hr : (xK X 0).1 12 s 0 = 3) (hn : ¬ led (kT (xK X 0) s) = 0) : led (kT (xK X 0) s) = s + 1 := by
  obtain ⟨m0, G, A, g, z⟩ := hL.k
  have h1 := ((g.1.2.2.1 s hs).1 (kR_of (r := 3) (by omega) hr)).1
  have h2 := z.2.2.2 _ hn
  rw [h1] at h2
  have := Option.some.inj h2
  omega
theorem LJ.led' (hL : LJ n0 sc c tl cl led X) (hs : s < 7) (hr : (xK X 0).1 12 s 0 = 3) : LJ n0 sc c tl cl (fun x => if x = kT (xK X 0) s then s + 1 else led x) X :=
  hL.bnd (fun m0 A G k g z => ⟨z.1, z.2.1, z.2.2.1, fun t ht => by
    by_cases e : t = kT (xK X 0) s
    · show gD G t = some ((if t = kT (xK X 0) s then s + 1 else led t) - 1)
      rw [if_pos e, e]
      exact ((g.1.2.2.1 s hs).1 (kR_of (r := 3) (by omega) hr)).1
    · have ht' : ¬ (if t = kT (xK X 0) s then s + 1 else led t) = 0 := ht
      rw [if_neg e] at ht'
      show gD G t = some ((if t = kT (xK X 0) s then s + 1 else led t) - 1)
      rw [if_neg e]
      exact z.2.2.2 t ht'⟩)
theorem LJ.ser (hL : LJ n0 sc c tl cl led X) (hs : s < 7) : ∀ q, q < 4 → (xK X 0).1 19 s (8 + q) ≤ (xK X 0).1 34 q 3 := fun q hq => by
  obtain ⟨m0, G, A, g, z⟩ := hL.k
  exact z.ser hs hq
theorem l_325 {p : Nat} (hp : p = W.1) (hs : s < 7) (hL : LJ n0 sc c tl cl led X) (hW : wLed led W) : LT 325 0 [some (.ref 1), some (.int (Int32.ofNat s)), some (.ref p), none] [] X W (fun o Y W2 => o = .inl (some (.int 1)) ∧ Y = X ∧ ∃ led2, W2.1 = W.1 ∧ W2.2.1 = W.2.1 ∧ W2.2.2.2 = W.2.2.2 ∧ wLed led2 W2 ∧ LJ n0 sc c tl cl led2 X) := by
  obtain ⟨-, -, -, -, ⟨a, c1, l, t, lt, e1, e2, e3, e4, e5, e6, e7, e8, e9, e10, -, -, et, -⟩, -⟩ := hL.lsnd hs
  have r13 : LT 325 13 [some (.ref 1), some (.int (Int32.ofNat s)), some (.ref p), some (.int ((xK X 0).1 5 s 0))] [] X W (fun o Y W2 => o = .inl (some (.int 1)) ∧ Y = X ∧ ∃ led2, W2.1 = W.1 ∧ W2.2.1 = W.2.1 ∧ W2.2.2.2 = W.2.2.2 ∧ wLed led2 W2 ∧ LJ n0 sc c tl cl led2 X) := by
    refine LT.iconst M_325 rfl (v := 1) (by decide) ?_
    refine LT.zret M_325 rfl rfl (Or.inr rfl) ?_
    exact ⟨rfl, rfl, led, rfl, rfl, rfl, hW, hL⟩
  refine LT.aload_n M_325 rfl rfl ?_
  refine LT.iload_n M_325 rfl rfl ?_
  refine LT.cv2i M_325 rfl M_127 rfl (Nat.le_of_ble_eq_true rfl) (xKd.of (Or.inr (Or.inr (Or.inl ⟨rfl, rfl, rfl⟩)))) (by decide) rfl (c_127 hs) ?_ (Nat.le_of_ble_eq_true rfl) rfl
  refine LT.ist3 M_325 rfl rfl ?_
  refine LT.aload_n M_325 rfl rfl ?_
  refine LT.iload_n M_325 rfl rfl ?_
  refine LT.cv2i M_325 rfl M_126 rfl (Nat.le_of_ble_eq_true rfl) (xKd.of (Or.inr (Or.inr (Or.inl ⟨rfl, rfl, rfl⟩)))) (by decide) rfl (c_126 hs) ?_ (Nat.le_of_ble_eq_true rfl) rfl
  refine LT.iconst M_325 rfl (v := 3) (by decide) ?_
  refine LT.icmp_ne M_325 rfl (fun b => r13) (fun b => ?_)
  have hr := Classical.not_not.mp b
  refine LT.iload_n M_325 rfl rfl ?_
  refine LT.aload_n M_325 rfl rfl ?_
  refine LT.ldn M_325 rfl hp ?_
  refine LT.icmp_lt M_325 rfl (fun b => ?_) (fun b => r13)
  rename_i b0
  have ht : t < 400 := (i32_lt (by omega) (by omega)).mp (by rw [← e7]; exact b)
  have r28 : LT 325 28 [some (.ref 1), some (.int (Int32.ofNat s)), some (.ref p), some (.int ((xK X 0).1 5 s 0))] [] X W (fun o Y W2 => o = .inl (some (.int 1)) ∧ Y = X ∧ ∃ led2, W2.1 = W.1 ∧ W2.2.1 = W.2.1 ∧ W2.2.2.2 = W.2.2.2 ∧ wLed led2 W2 ∧ LJ n0 sc c tl cl led2 X) := by
    refine LT.aload_n M_325 rfl rfl ?_
    refine LT.iload_n M_325 rfl rfl ?_
    refine LT.iload_n M_325 rfl rfl ?_
    refine LT.iconst M_325 rfl (v := 1) (by decide) ?_
    refine LT.iadd M_325 rfl (i32_suc1 s) ?_
    refine LT.sld M_325 rfl rfl hp e7 ht ?_
    refine LT.iconst M_325 rfl (v := 1) (by decide) ?_
    refine LT.zret M_325 rfl rfl (Or.inr rfl) ?_
    refine ⟨rfl, rfl, _, rfl, rfl, rfl, fun x hx => ?_, hL.led' hs hr⟩
    show fUp W.2.2.1 t (Int32.ofNat (s + 1)) x = Int32.ofNat (if x = kT (xK X 0) s then s + 1 else led x) ∧ (if x = kT (xK X 0) s then s + 1 else led x) ≤ 7
    rw [← et]
    unfold fUp
    by_cases e : x = t
    · rw [if_pos e, if_pos e]; exact ⟨rfl, by omega⟩
    · rw [if_neg e, if_neg e]; exact hW x hx
  refine LT.aload_n M_325 rfl rfl ?_
  refine LT.iload_n M_325 rfl rfl ?_
  refine LT.ld M_325 rfl hp e7 ht ?_
  refine LT.if_eq M_325 rfl (fun b => r28) (fun b => ?_)
  have hz : ¬ led t = 0 := fun z => b (by rw [(hW t ht).1, z]; rfl)
  refine LT.aload_n M_325 rfl rfl ?_
  refine LT.iload_n M_325 rfl rfl ?_
  refine LT.ld M_325 rfl hp e7 ht ?_
  refine LT.iload_n M_325 rfl rfl ?_
  refine LT.iconst M_325 rfl (v := 1) (by decide) ?_
  refine LT.iadd M_325 rfl (i32_suc1 s) ?_
  refine LT.icmp_eq M_325 rfl (fun b => r28) (fun b => absurd (by rw [(hW t ht).1, et, hL.lead hs hr (by rw [← et]; exact hz)]) b)
end LDA
section INN
variable {n0 : Nat} {sc : Nat → Int32} {c p1 p2 : Nat} {tl cl : Nat → Nat} {X : XS} {i w v f : Int32} {Q : PO → XS → LW → Prop} {l9 l10 l11 : Option Value}
/-- what of a server was before is not more than what is -/
def wOk (X : XS) (f : Int32) (W : LW) (i : Nat) : Prop := ¬ (xK X 0).1 5 i 0 < W.2.2.2 i ∧ (¬ (xK X 0).1 15 i 0 < W.2.2.2 (7 + i) ∨ (¬ f = 0 ∧ (xK X 0).1 4 i 0 = 0))
/-- what is of a server is written -/
def wNw (X : XS) (W : LW) (i : Nat) : Prop := W.2.2.2 i = (xK X 0).1 5 i 0 ∧ W.2.2.2 (7 + i) = (xK X 0).1 15 i 0
theorem l_66 (k : ∀ (W2 : LW) (led2 : Nat → Nat) (y : Int32), W2.1 = p1 → W2.2.1 = p2 → wLed led2 W2 → LJ n0 sc c tl cl led2 X → (∀ x, x < 7 → wNw X W2 x) → LT 378 120 [some (.ref 0), some (.ref 1), some (.ref p1), some (.ref p2), some (.int i), some (.int w), some (.int v), some (.int f), some (.int (y)), l9, l10, l11] [] X W2 Q) : ∀ (n j : Nat) (W : LW) (led : Nat → Nat), j + n = 7 → W.1 = p1 → W.2.1 = p2 → wLed led W → LJ n0 sc c tl cl led X → (∀ x, j ≤ x → x < 7 → wOk X f W x) → (∀ x, x < j → wNw X W x) → LT 378 66 [some (.ref 0), some (.ref 1), some (.ref p1), some (.ref p2), some (.int i), some (.int w), some (.int v), some (.int f), some (.int (Int32.ofNat j)), l9, l10, l11] [] X W Q
  | 0, j, W, led, hj, hp1, hp2, hW, hL, hO, hN => by
    refine LT.iload M_378 rfl rfl ?_
    refine LT.bipush M_378 rfl (v := 7) (by decide) ?_
    refine LT.icmp_ge M_378 rfl (fun b => k W led _ hp1 hp2 hW hL (fun x hx => hN x (by omega))) (fun b => absurd ((i32_le (a := 7) (by omega) (by omega)).mpr (by omega)) b)
  | n + 1, j, W, led, hj, hp1, hp2, hW, hL, hO, hN => by
    refine LT.rep (fun hr => ?_)
    have h60 := (hr.choose_spec.2.2.2.2.2.2.1 0 (by omega)).1
    have hs : j < 7 := by omega
    have hW2 : wLed led (W.1, W.2.1, W.2.2.1, fUp (fUp W.2.2.2 j ((xK X 0).1 5 j 0)) (7 + j) ((xK X 0).1 15 j 0)) := hW
    obtain ⟨ho1, ho2⟩ := hO j (Nat.le_refl _) hs
    refine LT.iload M_378 rfl rfl ?_
    refine LT.bipush M_378 rfl (v := 7) (by decide) ?_
    refine LT.icmp_ge M_378 rfl (fun b => absurd ((i32_le (a := 7) (by omega) (by omega)).mp b) (by omega)) (fun b => ?_)
    have go : LT 378 93 [some (.ref 0), some (.ref 1), some (.ref p1), some (.ref p2), some (.int i), some (.int w), some (.int v), some (.int f), some (.int (Int32.ofNat j)), l9, l10, l11] [] X W Q := by
      refine LT.aload_n M_378 rfl rfl ?_
      refine LT.iload M_378 rfl rfl ?_
      refine LT.aload_n M_378 rfl rfl ?_
      refine LT.iload M_378 rfl rfl ?_
      refine LT.cv2i M_378 rfl M_127 rfl (Nat.le_of_ble_eq_true rfl) (xKd.of (Or.inr (Or.inr (Or.inl ⟨rfl, rfl, rfl⟩)))) (by decide) rfl (c_127 hs) ?_ (Nat.le_of_ble_eq_true rfl) rfl
      refine LT.sbf M_378 rfl rfl hp2.symm rfl (by omega) ?_
      refine LT.aload_n M_378 rfl rfl ?_
      refine LT.bipush M_378 rfl (v := 7) (by decide) ?_
      refine LT.iload M_378 rfl rfl ?_
      refine LT.iadd M_378 rfl (Int32.ofNat_add 7 j).symm ?_
      refine LT.aload_n M_378 rfl rfl ?_
      refine LT.iload M_378 rfl rfl ?_
      refine LT.cv2i M_378 rfl M_135 rfl (Nat.le_of_ble_eq_true rfl) (xKd.of (Or.inr (Or.inr (Or.inl ⟨rfl, rfl, rfl⟩)))) (by decide) rfl (c_135 hs) ?_ (Nat.le_of_ble_eq_true rfl) rfl
      refine LT.sbf M_378 rfl rfl hp2.symm rfl (by omega) ?_
      refine LT.aload_n M_378 rfl rfl ?_
      refine LT.iload M_378 rfl rfl ?_
      refine LT.cs2i M_378 rfl M_326 rfl (Nat.le_of_ble_eq_true rfl) rfl rfl (c_326 hs (hL.lsnd hs) (hL.ser hs) hL.2.1 h60) ?_ (Nat.le_of_ble_eq_true rfl) rfl
      refine LT.if_eq M_378 rfl (fun b => absurd b (by decide)) (fun b => ?_)
      refine LT.aload_n M_378 rfl rfl ?_
      refine LT.iload M_378 rfl rfl ?_
      refine LT.aload_n M_378 rfl rfl ?_
      refine LT.cs3l M_378 rfl M_325 rfl (Nat.le_of_ble_eq_true rfl) rfl (l_325 (W := (W.1, W.2.1, W.2.2.1, fUp (fUp W.2.2.2 j ((xK X 0).1 5 j 0)) (7 + j) ((xK X 0).1 15 j 0))) hp1.symm hs hL hW2) (fun o Y W2 hP => ?_) (Nat.le_of_ble_eq_true rfl) rfl
      obtain ⟨ho, hY, led2, w1, w2, w3, w4, w5⟩ := hP
      rw [ho, hY]
      refine ⟨_, rfl, ?_⟩
      refine LT.if_ne M_378 rfl (fun b => ?_) (fun b => absurd (by decide) b)
      refine LT.iinc8 M_378 rfl rfl (i32_suc1 j) ?_
      refine LT.goto M_378 rfl ?_
      refine l_66 k n (j + 1) W2 led2 (by omega) (w1.trans hp1) (w2.trans hp2) w4 w5 (fun x hx hx7 => ?_) (fun x hx => ?_)
      · have h := hO x (by omega) hx7
        unfold wOk at h ⊢
        rw [w3]
        have q1 : fUp (fUp W.2.2.2 j ((xK X 0).1 5 j 0)) (7 + j) ((xK X 0).1 15 j 0) x = W.2.2.2 x := by
          unfold fUp
          rw [if_neg (by omega), if_neg (by omega)]
        have q2 : fUp (fUp W.2.2.2 j ((xK X 0).1 5 j 0)) (7 + j) ((xK X 0).1 15 j 0) (7 + x) = W.2.2.2 (7 + x) := by
          unfold fUp
          rw [if_neg (by omega), if_neg (by omega)]
        show ¬ (xK X 0).1 5 x 0 < fUp (fUp W.2.2.2 j ((xK X 0).1 5 j 0)) (7 + j) ((xK X 0).1 15 j 0) x ∧ (¬ (xK X 0).1 15 x 0 < fUp (fUp W.2.2.2 j ((xK X 0).1 5 j 0)) (7 + j) ((xK X 0).1 15 j 0) (7 + x) ∨ (¬ f = 0 ∧ (xK X 0).1 4 x 0 = 0))
        rw [q1, q2]
        exact h
      · unfold wNw
        rw [w3]
        show fUp (fUp W.2.2.2 j ((xK X 0).1 5 j 0)) (7 + j) ((xK X 0).1 15 j 0) x = (xK X 0).1 5 x 0 ∧ fUp (fUp W.2.2.2 j ((xK X 0).1 5 j 0)) (7 + j) ((xK X 0).1 15 j 0) (7 + x) = (xK X 0).1 15 x 0
        unfold fUp
        by_cases e : x = j
        · rw [if_neg (by omega), if_pos e, if_pos (by omega), e]; exact ⟨rfl, rfl⟩
        · rw [if_neg (by omega), if_neg e, if_neg (by omega), if_neg (by omega)]; exact hN x (by omega)
    refine LT.aload_n M_378 rfl rfl ?_
    refine LT.iload M_378 rfl rfl ?_
    refine LT.cv2i M_378 rfl M_127 rfl (Nat.le_of_ble_eq_true rfl) (xKd.of (Or.inr (Or.inr (Or.inl ⟨rfl, rfl, rfl⟩)))) (by decide) rfl (c_127 hs) ?_ (Nat.le_of_ble_eq_true rfl) rfl
    refine LT.aload_n M_378 rfl rfl ?_
    refine LT.iload M_378 rfl rfl ?_
    refine LT.bf M_378 rfl hp2.symm rfl (by omega) ?_
    refine LT.icmp_lt M_378 rfl (fun b => absurd b ho1) (fun b => ?_)
    refine LT.aload_n M_378 rfl rfl ?_
    refine LT.iload M_378 rfl rfl ?_
    refine LT.cv2i M_378 rfl M_135 rfl (Nat.le_of_ble_eq_true rfl) (xKd.of (Or.inr (Or.inr (Or.inl ⟨rfl, rfl, rfl⟩)))) (by decide) rfl (c_135 hs) ?_ (Nat.le_of_ble_eq_true rfl) rfl
    refine LT.aload_n M_378 rfl rfl ?_
    refine LT.bipush M_378 rfl (v := 7) (by decide) ?_
    refine LT.iload M_378 rfl rfl ?_
    refine LT.iadd M_378 rfl (Int32.ofNat_add 7 j).symm ?_
    refine LT.bf M_378 rfl hp2.symm rfl (by omega) ?_
    refine LT.icmp_ge M_378 rfl (fun b => go) (fun b => ?_)
    rcases ho2 with ho2 | ⟨f1, f2⟩
    · exact absurd (Int32.not_le.mp b) ho2
    · refine LT.iload M_378 rfl rfl ?_
      refine LT.if_eq M_378 rfl (fun b => absurd b f1) (fun b => ?_)
      refine LT.aload_n M_378 rfl rfl ?_
      refine LT.iload M_378 rfl rfl ?_
      refine LT.cv2i M_378 rfl M_125 rfl (Nat.le_of_ble_eq_true rfl) (xKd.of (Or.inr (Or.inr (Or.inl ⟨rfl, rfl, rfl⟩)))) (by decide) rfl (c_125 hs) ?_ (Nat.le_of_ble_eq_true rfl) rfl
      refine LT.if_eq M_378 rfl (fun b => go) (fun b => absurd f2 b)
end INN
