/-! ===== THE LAW'S act: one call, its exceptions caught ===== -/
section ACT
variable {X : XS} {Q : PO → XS → Prop}
/-- a call of the class's, in act: it returns, or throws and act answers -99 -/
theorem AT.cvo {i pc n ln r1 r3 : Nat} {ls : PV} {ls2 : PV} {av : List Value} {st : List Value} {Mc : PMet} {en : PV} {V : Int32 → Prop} {R : XS → Prop} (hr : rw_324[i]? = some (pc, .invokevirtual n, ln, r1, 0, r3)) (hMc : qPT (r1 - 10) = Mc) (ho : Mc.2.2.2.2.2 = 9) (hp : pPop Mc.2.2.1 st = some (.ref 1 :: av, [])) (he : (pEnt (.ref 1 :: av)).length ≤ Mc.2.1) (hen : pEntry Mc.2.1 (.ref 1 :: av) = en) (hc : aOut (r1 - 10) en X V R)
    (hh : ∀ e, e < 3 → pHand (qPT 324).2.2.2.1 pc e = some 136) (hcat : pCat (.astore 5) ls = some ls2) (k : ∀ v Y, V v → R Y → AT 324 (i + 1) ls [.int v] Y Q) (kx : Q (.inl (some (.int (-99)))) (xThr X)) : AT 324 i ls st X Q := by
  refine AT.call M_324 hr rfl hMc hp (Or.inl (Nat.zero_le _)) he (pRv_v (o := Mc.2.2.2.2.2) (by rw [ho]; exact (xKd.of (Or.inr (Or.inr (Or.inl ⟨rfl, rfl, rfl⟩))))) (by rw [ho]; decide)) ?_
  rw [hen]
  rcases hc with ⟨v, hv, hc⟩ | ⟨e, he3, hc⟩
  · refine AT.mono hc ?_
    rintro o Z ⟨rfl, hZ⟩
    exact k v Z hv hZ
  · refine AT.mono hc ?_
    rintro o Z ⟨rfl, rfl⟩
    refine ⟨rfl, Or.inr ⟨136, _, ls2, hh e he3, rfl, hcat, ?_⟩⟩
    refine AT.bipush M_324 rfl (v := -99) (by decide) ?_
    refine AT.iret M_324 rfl rfl ?_
    exact kx
end ACT
theorem lt3 {P : Nat → Prop} (h0 : P 0) (h1 : P 1) (h2 : P 2) : ∀ e, e < 3 → P e := fun e he => by
  rcases (show e = 0 ∨ e = 1 ∨ e = 2 by omega) with rfl | rfl | rfl
  · exact h0
  · exact h1
  · exact h2
/-- what act answers, and the state behind -/
def aQ (n0 : Nat) (sc : Nat → Int32) (c : Nat) (tl cl led : Nat → Nat) (w : Int32) (o : PO) (Y : XS) : Prop := ∃ v, o = .inl (some (.int v)) ∧ (LJ n0 sc (c + 1) tl cl led Y ∨ (bel w 16 = 0 ∧ ¬ v = -99 ∧ ∃ s, s < 7 ∧ (xK Y 0).1 4 s 0 = 0 ∧ LJ n0 sc (c + 1) tl (fun i => if i = s then 0 else cl i) led Y))
section ACT2
variable {n0 : Nat} {sc : Nat → Int32} {c : Nat} {tl cl led : Nat → Nat} {X : XS}
theorem act_0 (hL : LJ n0 sc c tl cl led X) (hc : c ≤ 200) {w : Int32} {s j q : Nat} (hs : s < 7) (hj : j < 7) (hq : q < 4) (hb : bel w 16 = 0) : AT 324 22 [some (.ref 1), some (.int w), some (.int (Int32.ofNat s)), some (.int (Int32.ofNat j)), some (.int (Int32.ofNat q)), none] [] X (aQ n0 sc c tl cl led w) := by
  refine AT.aload_n M_324 rfl rfl ?_
  refine AT.iload_n M_324 rfl rfl ?_
  refine AT.cvo rfl M_96 rfl rfl (Nat.le_of_ble_eq_true rfl) rfl (k_96 hL hc hs) (lt3 rfl rfl rfl) rfl (fun v Y hv hY => ?_) ⟨_, rfl, Or.inl hL.thr⟩
  refine AT.iret M_324 rfl rfl ?_
  exact ⟨v, rfl, Or.inr ⟨hb, hv, s, hs, hY.1, hY.2⟩⟩
theorem act_1 (hL : LJ n0 sc c tl cl led X) (hc : c ≤ 200) {w : Int32} {s j q : Nat} (hs : s < 7) (hj : j < 7) (hq : q < 4) : AT 324 26 [some (.ref 1), some (.int w), some (.int (Int32.ofNat s)), some (.int (Int32.ofNat j)), some (.int (Int32.ofNat q)), none] [] X (aQ n0 sc c tl cl led w) := by
  refine AT.aload_n M_324 rfl rfl ?_
  refine AT.iload_n M_324 rfl rfl ?_
  refine AT.cvo rfl M_97 rfl rfl (Nat.le_of_ble_eq_true rfl) rfl (k_97 hL hc hs) (lt3 rfl rfl rfl) rfl (fun v Y hv hY => ?_) ⟨_, rfl, Or.inl hL.thr⟩
  refine AT.iret M_324 rfl rfl ?_
  exact ⟨v, rfl, Or.inl hY⟩
theorem act_2 (hL : LJ n0 sc c tl cl led X) (hc : c ≤ 200) {w : Int32} {s j q : Nat} (hs : s < 7) (hj : j < 7) (hq : q < 4) : AT 324 30 [some (.ref 1), some (.int w), some (.int (Int32.ofNat s)), some (.int (Int32.ofNat j)), some (.int (Int32.ofNat q)), none] [] X (aQ n0 sc c tl cl led w) := by
  refine AT.aload_n M_324 rfl rfl ?_
  refine AT.iload_n M_324 rfl rfl ?_
  refine AT.iload_n M_324 rfl rfl ?_
  refine AT.cvo rfl M_98 rfl rfl (Nat.le_of_ble_eq_true rfl) rfl (k_98 hL hc hs hj) (lt3 rfl rfl rfl) rfl (fun v Y hv hY => ?_) ⟨_, rfl, Or.inl hL.thr⟩
  refine AT.iret M_324 rfl rfl ?_
  exact ⟨v, rfl, Or.inl hY⟩
theorem act_3 (hL : LJ n0 sc c tl cl led X) (hc : c ≤ 200) {w : Int32} {s j q : Nat} (hs : s < 7) (hj : j < 7) (hq : q < 4) : AT 324 35 [some (.ref 1), some (.int w), some (.int (Int32.ofNat s)), some (.int (Int32.ofNat j)), some (.int (Int32.ofNat q)), none] [] X (aQ n0 sc c tl cl led w) := by
  refine AT.aload_n M_324 rfl rfl ?_
  refine AT.iload_n M_324 rfl rfl ?_
  refine AT.iload_n M_324 rfl rfl ?_
  refine AT.cvo rfl M_99 rfl rfl (Nat.le_of_ble_eq_true rfl) rfl (k_99 hL hc hs hj) (lt3 rfl rfl rfl) rfl (fun v Y hv hY => ?_) ⟨_, rfl, Or.inl hL.thr⟩
  refine AT.iret M_324 rfl rfl ?_
  exact ⟨v, rfl, Or.inl hY⟩
theorem act_4 (hL : LJ n0 sc c tl cl led X) (hc : c ≤ 200) {w : Int32} {s j q : Nat} (hs : s < 7) (hj : j < 7) (hq : q < 4) : AT 324 40 [some (.ref 1), some (.int w), some (.int (Int32.ofNat s)), some (.int (Int32.ofNat j)), some (.int (Int32.ofNat q)), none] [] X (aQ n0 sc c tl cl led w) := by
  refine AT.aload_n M_324 rfl rfl ?_
  refine AT.iload_n M_324 rfl rfl ?_
  refine AT.cvo rfl M_101 rfl rfl (Nat.le_of_ble_eq_true rfl) rfl (k_101 hL hc hs) (lt3 rfl rfl rfl) rfl (fun v Y hv hY => ?_) ⟨_, rfl, Or.inl hL.thr⟩
  refine AT.iret M_324 rfl rfl ?_
  exact ⟨v, rfl, Or.inl hY⟩
theorem act_5 (hL : LJ n0 sc c tl cl led X) (hc : c ≤ 200) {w : Int32} {s j q : Nat} (hs : s < 7) (hj : j < 7) (hq : q < 4) : AT 324 44 [some (.ref 1), some (.int w), some (.int (Int32.ofNat s)), some (.int (Int32.ofNat j)), some (.int (Int32.ofNat q)), none] [] X (aQ n0 sc c tl cl led w) := by
  refine AT.aload_n M_324 rfl rfl ?_
  refine AT.aload_n M_324 rfl rfl ?_
  refine AT.cv1i M_324 rfl M_147 rfl (Nat.le_of_ble_eq_true rfl) (xKd.of (Or.inr (Or.inr (Or.inl ⟨rfl, rfl, rfl⟩)))) (by decide) c_147 ?_ (Nat.le_of_ble_eq_true rfl) rfl
  refine AT.cvo rfl M_102 rfl rfl (Nat.le_of_ble_eq_true rfl) rfl (k_102 hL hc _) (lt3 rfl rfl rfl) rfl (fun v Y hv hY => ?_) ⟨_, rfl, Or.inl hL.thr⟩
  refine AT.iret M_324 rfl rfl ?_
  exact ⟨v, rfl, Or.inl hY⟩
theorem act_6 (hL : LJ n0 sc c tl cl led X) (hc : c ≤ 200) {w : Int32} {s j q : Nat} (hs : s < 7) (hj : j < 7) (hq : q < 4) : AT 324 49 [some (.ref 1), some (.int w), some (.int (Int32.ofNat s)), some (.int (Int32.ofNat j)), some (.int (Int32.ofNat q)), none] [] X (aQ n0 sc c tl cl led w) := by
  refine AT.aload_n M_324 rfl rfl ?_
  refine AT.iload_n M_324 rfl rfl ?_
  refine AT.cvo rfl M_103 rfl rfl (Nat.le_of_ble_eq_true rfl) rfl (k_103 hL hc hs) (lt3 rfl rfl rfl) rfl (fun v Y hv hY => ?_) ⟨_, rfl, Or.inl hL.thr⟩
  refine AT.iret M_324 rfl rfl ?_
  exact ⟨v, rfl, Or.inl hY⟩
theorem act_7 (hL : LJ n0 sc c tl cl led X) (hc : c ≤ 200) {w : Int32} {s j q : Nat} (hs : s < 7) (hj : j < 7) (hq : q < 4) : AT 324 53 [some (.ref 1), some (.int w), some (.int (Int32.ofNat s)), some (.int (Int32.ofNat j)), some (.int (Int32.ofNat q)), none] [] X (aQ n0 sc c tl cl led w) := by
  refine AT.aload_n M_324 rfl rfl ?_
  refine AT.aload_n M_324 rfl rfl ?_
  refine AT.cv1i M_324 rfl M_147 rfl (Nat.le_of_ble_eq_true rfl) (xKd.of (Or.inr (Or.inr (Or.inl ⟨rfl, rfl, rfl⟩)))) (by decide) c_147 ?_ (Nat.le_of_ble_eq_true rfl) rfl
  refine AT.iload_n M_324 rfl rfl ?_
  refine AT.cvo rfl M_104 rfl rfl (Nat.le_of_ble_eq_true rfl) rfl (k_104 hL hc _ hj) (lt3 rfl rfl rfl) rfl (fun v Y hv hY => ?_) ⟨_, rfl, Or.inl hL.thr⟩
  refine AT.iret M_324 rfl rfl ?_
  exact ⟨v, rfl, Or.inl hY⟩
theorem act_8 (hL : LJ n0 sc c tl cl led X) (hc : c ≤ 200) {w : Int32} {s j q : Nat} (hs : s < 7) (hj : j < 7) (hq : q < 4) : AT 324 59 [some (.ref 1), some (.int w), some (.int (Int32.ofNat s)), some (.int (Int32.ofNat j)), some (.int (Int32.ofNat q)), none] [] X (aQ n0 sc c tl cl led w) := by
  refine AT.aload_n M_324 rfl rfl ?_
  refine AT.aload_n M_324 rfl rfl ?_
  refine AT.cv1i M_324 rfl M_147 rfl (Nat.le_of_ble_eq_true rfl) (xKd.of (Or.inr (Or.inr (Or.inl ⟨rfl, rfl, rfl⟩)))) (by decide) c_147 ?_ (Nat.le_of_ble_eq_true rfl) rfl
  refine AT.iload_n M_324 rfl rfl ?_
  refine AT.cvo rfl M_105 rfl rfl (Nat.le_of_ble_eq_true rfl) rfl (k_105 hL hc _ hj) (lt3 rfl rfl rfl) rfl (fun v Y hv hY => ?_) ⟨_, rfl, Or.inl hL.thr⟩
  refine AT.iret M_324 rfl rfl ?_
  exact ⟨v, rfl, Or.inl hY⟩
theorem act_9 (hL : LJ n0 sc c tl cl led X) (hc : c ≤ 200) {w : Int32} {s j q : Nat} (hs : s < 7) (hj : j < 7) (hq : q < 4) : AT 324 65 [some (.ref 1), some (.int w), some (.int (Int32.ofNat s)), some (.int (Int32.ofNat j)), some (.int (Int32.ofNat q)), none] [] X (aQ n0 sc c tl cl led w) := by
  refine AT.aload_n M_324 rfl rfl ?_
  refine AT.aload_n M_324 rfl rfl ?_
  refine AT.cv1i M_324 rfl M_147 rfl (Nat.le_of_ble_eq_true rfl) (xKd.of (Or.inr (Or.inr (Or.inl ⟨rfl, rfl, rfl⟩)))) (by decide) c_147 ?_ (Nat.le_of_ble_eq_true rfl) rfl
  refine AT.iload_n M_324 rfl rfl ?_
  refine AT.cvo rfl M_106 rfl rfl (Nat.le_of_ble_eq_true rfl) rfl (k_106 hL hc _ hj) (lt3 rfl rfl rfl) rfl (fun v Y hv hY => ?_) ⟨_, rfl, Or.inl hL.thr⟩
  refine AT.iret M_324 rfl rfl ?_
  exact ⟨v, rfl, Or.inl hY⟩
theorem act_10 (hL : LJ n0 sc c tl cl led X) (hc : c ≤ 200) {w : Int32} {s j q : Nat} (hs : s < 7) (hj : j < 7) (hq : q < 4) : AT 324 71 [some (.ref 1), some (.int w), some (.int (Int32.ofNat s)), some (.int (Int32.ofNat j)), some (.int (Int32.ofNat q)), none] [] X (aQ n0 sc c tl cl led w) := by
  refine AT.iload M_324 rfl rfl ?_
  refine AT.iconst M_324 rfl (v := 2) (by decide) ?_
  refine AT.irem M_324 rfl (by decide) rfl ?_
  refine AT.if_ne M_324 rfl (fun b => ?_) (fun b => ?_)
  · refine AT.aload_n M_324 rfl rfl ?_
    refine AT.iload M_324 rfl rfl ?_
    refine AT.iload_n M_324 rfl rfl ?_
    refine AT.iload_n M_324 rfl rfl ?_
    refine AT.sipush M_324 rfl (v := 10000) (by decide) ?_
    refine AT.irem M_324 rfl (by decide) rfl ?_
    refine AT.cvo rfl M_116 rfl rfl (Nat.le_of_ble_eq_true rfl) rfl (k_116 hL hc hq (Nat.lt_succ_of_lt hs) _) (lt3 rfl rfl rfl) rfl (fun v Y hv hY => ?_) ⟨_, rfl, Or.inl hL.thr⟩
    refine AT.iret M_324 rfl rfl ?_
    exact ⟨v, rfl, Or.inl hY⟩
  · refine AT.aload_n M_324 rfl rfl ?_
    refine AT.iload M_324 rfl rfl ?_
    refine AT.iload_n M_324 rfl rfl ?_
    refine AT.iload_n M_324 rfl rfl ?_
    refine AT.iconst M_324 rfl (v := 3) (by decide) ?_
    refine AT.isub M_324 rfl rfl ?_
    refine AT.cvo rfl M_117 rfl rfl (Nat.le_of_ble_eq_true rfl) rfl (k_117 hL hc hq (Nat.lt_succ_of_lt hs) _) (lt3 rfl rfl rfl) rfl (fun v Y hv hY => ?_) ⟨_, rfl, Or.inl hL.thr⟩
    refine AT.goto M_324 rfl ?_
    refine AT.iret M_324 rfl rfl ?_
    exact ⟨v, rfl, Or.inl hY⟩
theorem act_11 (hL : LJ n0 sc c tl cl led X) (hc : c ≤ 200) {w : Int32} {s j q : Nat} (hs : s < 7) (hj : j < 7) (hq : q < 4) : AT 324 91 [some (.ref 1), some (.int w), some (.int (Int32.ofNat s)), some (.int (Int32.ofNat j)), some (.int (Int32.ofNat q)), none] [] X (aQ n0 sc c tl cl led w) := by
  refine AT.aload_n M_324 rfl rfl ?_
  refine AT.iload M_324 rfl rfl ?_
  refine AT.aload_n M_324 rfl rfl ?_
  refine AT.cv1i M_324 rfl M_147 rfl (Nat.le_of_ble_eq_true rfl) (xKd.of (Or.inr (Or.inr (Or.inl ⟨rfl, rfl, rfl⟩)))) (by decide) c_147 ?_ (Nat.le_of_ble_eq_true rfl) rfl
  refine AT.cvo rfl M_119 rfl rfl (Nat.le_of_ble_eq_true rfl) rfl (k_119 hL hc hq _) (lt3 rfl rfl rfl) rfl (fun v Y hv hY => ?_) ⟨_, rfl, Or.inl hL.thr⟩
  refine AT.iret M_324 rfl rfl ?_
  exact ⟨v, rfl, Or.inl hY⟩
theorem act_12 (hL : LJ n0 sc c tl cl led X) (hc : c ≤ 200) {w : Int32} {s j q : Nat} (hs : s < 7) (hj : j < 7) (hq : q < 4) : AT 324 97 [some (.ref 1), some (.int w), some (.int (Int32.ofNat s)), some (.int (Int32.ofNat j)), some (.int (Int32.ofNat q)), none] [] X (aQ n0 sc c tl cl led w) := by
  refine AT.iload_n M_324 rfl rfl ?_
  refine AT.bipush M_324 rfl (v := 17) (by decide) ?_
  refine AT.ishr M_324 rfl rfl ?_
  refine AT.iconst M_324 rfl (v := 3) (by decide) ?_
  refine AT.cs2i M_324 rfl M_322 rfl (Nat.le_of_ble_eq_true rfl) rfl (c_322 _ (n := 3) (by decide) (by decide)) ?_ (Nat.le_of_ble_eq_true rfl) rfl
  refine AT.if_ne M_324 rfl (fun b => ?_) (fun b => ?_)
  · refine AT.iload_n M_324 rfl rfl ?_
    refine AT.bipush M_324 rfl (v := 17) (by decide) ?_
    refine AT.ishr M_324 rfl rfl ?_
    refine AT.iconst M_324 rfl (v := 3) (by decide) ?_
    refine AT.cs2i M_324 rfl M_322 rfl (Nat.le_of_ble_eq_true rfl) rfl (c_322 _ (n := 3) (by decide) (by decide)) ?_ (Nat.le_of_ble_eq_true rfl) rfl
    refine AT.iconst M_324 rfl (v := 1) (by decide) ?_
    refine AT.icmp_ne M_324 rfl (fun b => ?_) (fun b => ?_)
    · refine AT.aload_n M_324 rfl rfl ?_
      refine AT.iload_n M_324 rfl rfl ?_
      refine AT.cvo rfl M_108 rfl rfl (Nat.le_of_ble_eq_true rfl) rfl (k_108 hL hc _) (lt3 rfl rfl rfl) rfl (fun v Y hv hY => ?_) ⟨_, rfl, Or.inl hL.thr⟩
      refine AT.if_eq M_324 rfl (fun b => ?_) (fun b => ?_)
      · refine AT.iconst M_324 rfl (v := 0) (by decide) ?_
        refine AT.iret M_324 rfl rfl ?_
        exact ⟨_, rfl, Or.inl hY⟩
      · refine AT.iconst M_324 rfl (v := 1) (by decide) ?_
        refine AT.goto M_324 rfl ?_
        refine AT.iret M_324 rfl rfl ?_
        exact ⟨_, rfl, Or.inl hY⟩
    · refine AT.aload_n M_324 rfl rfl ?_
      refine AT.iload_n M_324 rfl rfl ?_
      refine AT.cvo rfl M_110 rfl rfl (Nat.le_of_ble_eq_true rfl) rfl (k_110 hL hc _) (lt3 rfl rfl rfl) rfl (fun v Y hv hY => ?_) ⟨_, rfl, Or.inl hL.thr⟩
      refine AT.goto M_324 rfl ?_
      refine AT.iret M_324 rfl rfl ?_
      exact ⟨v, rfl, Or.inl hY⟩
  · refine AT.aload_n M_324 rfl rfl ?_
    refine AT.iload_n M_324 rfl rfl ?_
    refine AT.cvo rfl M_109 rfl rfl (Nat.le_of_ble_eq_true rfl) rfl (k_109 hL hc _) (lt3 rfl rfl rfl) rfl (fun v Y hv hY => ?_) ⟨_, rfl, Or.inl hL.thr⟩
    refine AT.goto M_324 rfl ?_
    refine AT.iret M_324 rfl rfl ?_
    exact ⟨v, rfl, Or.inl hY⟩
theorem act_13 (hL : LJ n0 sc c tl cl led X) (hc : c ≤ 200) {w : Int32} {s j q : Nat} (hs : s < 7) (hj : j < 7) (hq : q < 4) : AT 324 126 [some (.ref 1), some (.int w), some (.int (Int32.ofNat s)), some (.int (Int32.ofNat j)), some (.int (Int32.ofNat q)), none] [] X (aQ n0 sc c tl cl led w) := by
  refine AT.aload_n M_324 rfl rfl ?_
  refine AT.iconst M_324 rfl (v := 1) (by decide) ?_
  refine AT.iload_n M_324 rfl rfl ?_
  refine AT.bipush M_324 rfl (v := 16) (by decide) ?_
  refine AT.ishr M_324 rfl rfl ?_
  refine AT.iconst M_324 rfl (v := 5) (by decide) ?_
  refine AT.cs2i M_324 rfl M_322 rfl (Nat.le_of_ble_eq_true rfl) rfl (c_322 _ (n := 5) (by decide) (by decide)) ?_ (Nat.le_of_ble_eq_true rfl) rfl
  refine AT.iadd M_324 rfl (Int32.ofNat_add 1 _).symm ?_
  refine AT.cvo rfl M_100 rfl rfl (Nat.le_of_ble_eq_true rfl) rfl (k_100 hL hc (Nat.le_add_right 1 _) (by have := bel_lt (x := w >>> (16 &&& 31)) (n := 5) (by omega); omega)) (lt3 rfl rfl rfl) rfl (fun v Y hv hY => ?_) ⟨_, rfl, Or.inl hL.thr⟩
  refine AT.iret M_324 rfl rfl ?_
  exact ⟨v, rfl, Or.inl hY⟩
theorem c_324 (hL : LJ n0 sc c tl cl led X) (hc : c ≤ 200) (w : Int32) : AT 324 0 [some (.ref 1), some (.int w), none, none, none, none] [] X (aQ n0 sc c tl cl led w) := by
  refine AT.iload_n M_324 rfl rfl ?_
  refine AT.iconst M_324 rfl (v := 4) (by decide) ?_
  refine AT.ishr M_324 rfl rfl ?_
  refine AT.bipush M_324 rfl (v := 7) (by decide) ?_
  refine AT.cs2i M_324 rfl M_322 rfl (Nat.le_of_ble_eq_true rfl) rfl (c_322 _ (n := 7) (by decide) (by decide)) ?_ (Nat.le_of_ble_eq_true rfl) rfl
  refine AT.ist2 M_324 rfl rfl ?_
  refine AT.iload_n M_324 rfl rfl ?_
  refine AT.bipush M_324 rfl (v := 8) (by decide) ?_
  refine AT.ishr M_324 rfl rfl ?_
  refine AT.bipush M_324 rfl (v := 7) (by decide) ?_
  refine AT.cs2i M_324 rfl M_322 rfl (Nat.le_of_ble_eq_true rfl) rfl (c_322 _ (n := 7) (by decide) (by decide)) ?_ (Nat.le_of_ble_eq_true rfl) rfl
  refine AT.ist3 M_324 rfl rfl ?_
  refine AT.iload_n M_324 rfl rfl ?_
  refine AT.bipush M_324 rfl (v := 13) (by decide) ?_
  refine AT.ishr M_324 rfl rfl ?_
  refine AT.iconst M_324 rfl (v := 4) (by decide) ?_
  refine AT.cs2i M_324 rfl M_322 rfl (Nat.le_of_ble_eq_true rfl) rfl (c_322 _ (n := 4) (by decide) (by decide)) ?_ (Nat.le_of_ble_eq_true rfl) rfl
  refine AT.ist4 M_324 rfl rfl ?_
  refine AT.iload_n M_324 rfl rfl ?_
  refine AT.bipush M_324 rfl (v := 16) (by decide) ?_
  refine AT.cs2i M_324 rfl M_322 rfl (Nat.le_of_ble_eq_true rfl) rfl (c_322 _ (n := 16) (by decide) (by decide)) ?_ (Nat.le_of_ble_eq_true rfl) rfl
  have hs := bel_lt (x := w >>> (4 &&& 31)) (n := 7) (by omega)
  have hj := bel_lt (x := w >>> (8 &&& 31)) (n := 7) (by omega)
  have hq := bel_lt (x := w >>> (13 &&& 31)) (n := 4) (by omega)
  have hb := bel_lt (x := w) (n := 16) (by omega)
  obtain ⟨b, hbe⟩ : ∃ b, b = bel w 16 := ⟨_, rfl⟩
  rw [← hbe] at hb ⊢
  rcases (show b = 0 ∨ b = 1 ∨ b = 2 ∨ b = 3 ∨ b = 4 ∨ b = 5 ∨ b = 6 ∨ b = 7 ∨ b = 8 ∨ b = 9 ∨ b = 10 ∨ b = 11 ∨ b = 12 ∨ b = 13 ∨ b = 14 ∨ b = 15 by omega) with rfl | rfl | rfl | rfl | rfl | rfl | rfl | rfl | rfl | rfl | rfl | rfl | rfl | rfl | rfl | rfl
  · exact AT.sw (h0 := 22) M_324 rfl rfl rfl rfl (act_0 hL hc hs hj hq hbe.symm)
  · exact AT.sw (h0 := 26) M_324 rfl rfl rfl rfl (act_1 hL hc hs hj hq)
  · exact AT.sw (h0 := 30) M_324 rfl rfl rfl rfl (act_2 hL hc hs hj hq)
  · exact AT.sw (h0 := 35) M_324 rfl rfl rfl rfl (act_3 hL hc hs hj hq)
  · exact AT.sw (h0 := 40) M_324 rfl rfl rfl rfl (act_4 hL hc hs hj hq)
  · exact AT.sw (h0 := 44) M_324 rfl rfl rfl rfl (act_5 hL hc hs hj hq)
  · exact AT.sw (h0 := 49) M_324 rfl rfl rfl rfl (act_6 hL hc hs hj hq)
  · exact AT.sw (h0 := 53) M_324 rfl rfl rfl rfl (act_7 hL hc hs hj hq)
  · exact AT.sw (h0 := 59) M_324 rfl rfl rfl rfl (act_8 hL hc hs hj hq)
  · exact AT.sw (h0 := 65) M_324 rfl rfl rfl rfl (act_9 hL hc hs hj hq)
  · exact AT.sw (h0 := 71) M_324 rfl rfl rfl rfl (act_10 hL hc hs hj hq)
  · exact AT.sw (h0 := 91) M_324 rfl rfl rfl rfl (act_11 hL hc hs hj hq)
  · exact AT.sw (h0 := 97) M_324 rfl rfl rfl rfl (act_12 hL hc hs hj hq)
  · exact AT.sw (h0 := 126) M_324 rfl rfl rfl rfl (act_13 hL hc hs hj hq)
  · exact AT.sw (h0 := 126) M_324 rfl rfl rfl rfl (act_13 hL hc hs hj hq)
  · exact AT.sw (h0 := 126) M_324 rfl rfl rfl rfl (act_13 hL hc hs hj hq)
end ACT2
