/-! ===== THE FACE OF THE CLASS: what is asked ===== -/
theorem c_126 {X : XS} {s : Nat} (hs : s < 7) : RT 126 [some (.ref 1), some (.int (Int32.ofNat s))] X (some (.int ((xK X 0).1 12 s 0))) X := by
  have ho : (0 : Nat) < 2 := by decide
  refine AT.aload_n M_126 rfl rfl ?_
  refine AT.iload_n M_126 rfl rfl ?_
  refine AT.cv2i M_126 rfl M_176 rfl (Nat.le_of_ble_eq_true rfl) (xKd.of (Or.inr (Or.inr (Or.inl ⟨rfl, rfl, rfl⟩)))) (by decide) (c_176 hs) ?_ (Nat.le_of_ble_eq_true rfl) rfl
  refine AT.f_6_12 M_126 rfl (by assumption) (by assumption) ?_
  refine AT.iret M_126 rfl rfl ?_
  exact ⟨rfl, rfl⟩
theorem c_126x {X : XS} {p : Int32} (hp : p < 0 ∨ ¬ p < 7) : RX 126 [some (.ref 1), some (.int p)] X 2 (xThr X) := by
  have ho : (0 : Nat) < 2 := by decide
  refine AT.aload_n M_126 rfl rfl ?_
  refine AT.iload_n M_126 rfl rfl ?_
  refine AT.cv2x M_126 rfl M_176 rfl (Nat.le_of_ble_eq_true rfl) (xKd.of (Or.inr (Or.inr (Or.inl ⟨rfl, rfl, rfl⟩)))) (by decide) (c_176x hp) rfl rfl ?_ (Nat.le_of_ble_eq_true rfl) rfl
  exact ⟨rfl, rfl⟩
theorem c_127 {X : XS} {s : Nat} (hs : s < 7) : RT 127 [some (.ref 1), some (.int (Int32.ofNat s))] X (some (.int ((xK X 0).1 5 s 0))) X := by
  have ho : (0 : Nat) < 2 := by decide
  refine AT.aload_n M_127 rfl rfl ?_
  refine AT.iload_n M_127 rfl rfl ?_
  refine AT.cv2i M_127 rfl M_176 rfl (Nat.le_of_ble_eq_true rfl) (xKd.of (Or.inr (Or.inr (Or.inl ⟨rfl, rfl, rfl⟩)))) (by decide) (c_176 hs) ?_ (Nat.le_of_ble_eq_true rfl) rfl
  refine AT.f_6_5 M_127 rfl (by assumption) (by assumption) ?_
  refine AT.iret M_127 rfl rfl ?_
  exact ⟨rfl, rfl⟩
theorem c_127x {X : XS} {p : Int32} (hp : p < 0 ∨ ¬ p < 7) : RX 127 [some (.ref 1), some (.int p)] X 2 (xThr X) := by
  have ho : (0 : Nat) < 2 := by decide
  refine AT.aload_n M_127 rfl rfl ?_
  refine AT.iload_n M_127 rfl rfl ?_
  refine AT.cv2x M_127 rfl M_176 rfl (Nat.le_of_ble_eq_true rfl) (xKd.of (Or.inr (Or.inr (Or.inl ⟨rfl, rfl, rfl⟩)))) (by decide) (c_176x hp) rfl rfl ?_ (Nat.le_of_ble_eq_true rfl) rfl
  exact ⟨rfl, rfl⟩
theorem c_128 {X : XS} {s : Nat} (hs : s < 7) : RT 128 [some (.ref 1), some (.int (Int32.ofNat s))] X (some (.int ((xK X 0).1 6 s 0))) X := by
  have ho : (0 : Nat) < 2 := by decide
  refine AT.aload_n M_128 rfl rfl ?_
  refine AT.iload_n M_128 rfl rfl ?_
  refine AT.cv2i M_128 rfl M_176 rfl (Nat.le_of_ble_eq_true rfl) (xKd.of (Or.inr (Or.inr (Or.inl ⟨rfl, rfl, rfl⟩)))) (by decide) (c_176 hs) ?_ (Nat.le_of_ble_eq_true rfl) rfl
  refine AT.f_6_6 M_128 rfl (by assumption) (by assumption) ?_
  refine AT.iret M_128 rfl rfl ?_
  exact ⟨rfl, rfl⟩
theorem c_128x {X : XS} {p : Int32} (hp : p < 0 ∨ ¬ p < 7) : RX 128 [some (.ref 1), some (.int p)] X 2 (xThr X) := by
  have ho : (0 : Nat) < 2 := by decide
  refine AT.aload_n M_128 rfl rfl ?_
  refine AT.iload_n M_128 rfl rfl ?_
  refine AT.cv2x M_128 rfl M_176 rfl (Nat.le_of_ble_eq_true rfl) (xKd.of (Or.inr (Or.inr (Or.inl ⟨rfl, rfl, rfl⟩)))) (by decide) (c_176x hp) rfl rfl ?_ (Nat.le_of_ble_eq_true rfl) rfl
  exact ⟨rfl, rfl⟩
theorem c_129 {X : XS} {s : Nat} (hs : s < 7) : RT 129 [some (.ref 1), some (.int (Int32.ofNat s))] X (some (.int ((xK X 0).1 13 s 0))) X := by
  have ho : (0 : Nat) < 2 := by decide
  refine AT.aload_n M_129 rfl rfl ?_
  refine AT.iload_n M_129 rfl rfl ?_
  refine AT.cv2i M_129 rfl M_176 rfl (Nat.le_of_ble_eq_true rfl) (xKd.of (Or.inr (Or.inr (Or.inl ⟨rfl, rfl, rfl⟩)))) (by decide) (c_176 hs) ?_ (Nat.le_of_ble_eq_true rfl) rfl
  refine AT.f_6_13 M_129 rfl (by assumption) (by assumption) ?_
  refine AT.iret M_129 rfl rfl ?_
  exact ⟨rfl, rfl⟩
theorem c_129x {X : XS} {p : Int32} (hp : p < 0 ∨ ¬ p < 7) : RX 129 [some (.ref 1), some (.int p)] X 2 (xThr X) := by
  have ho : (0 : Nat) < 2 := by decide
  refine AT.aload_n M_129 rfl rfl ?_
  refine AT.iload_n M_129 rfl rfl ?_
  refine AT.cv2x M_129 rfl M_176 rfl (Nat.le_of_ble_eq_true rfl) (xKd.of (Or.inr (Or.inr (Or.inl ⟨rfl, rfl, rfl⟩)))) (by decide) (c_176x hp) rfl rfl ?_ (Nat.le_of_ble_eq_true rfl) rfl
  exact ⟨rfl, rfl⟩
theorem c_130 {X : XS} {s : Nat} (hs : s < 7) : RT 130 [some (.ref 1), some (.int (Int32.ofNat s))] X (some (.int ((xK X 0).1 14 s 0))) X := by
  have ho : (0 : Nat) < 2 := by decide
  refine AT.aload_n M_130 rfl rfl ?_
  refine AT.iload_n M_130 rfl rfl ?_
  refine AT.cv2i M_130 rfl M_176 rfl (Nat.le_of_ble_eq_true rfl) (xKd.of (Or.inr (Or.inr (Or.inl ⟨rfl, rfl, rfl⟩)))) (by decide) (c_176 hs) ?_ (Nat.le_of_ble_eq_true rfl) rfl
  refine AT.f_6_14 M_130 rfl (by assumption) (by assumption) ?_
  refine AT.iret M_130 rfl rfl ?_
  exact ⟨rfl, rfl⟩
theorem c_130x {X : XS} {p : Int32} (hp : p < 0 ∨ ¬ p < 7) : RX 130 [some (.ref 1), some (.int p)] X 2 (xThr X) := by
  have ho : (0 : Nat) < 2 := by decide
  refine AT.aload_n M_130 rfl rfl ?_
  refine AT.iload_n M_130 rfl rfl ?_
  refine AT.cv2x M_130 rfl M_176 rfl (Nat.le_of_ble_eq_true rfl) (xKd.of (Or.inr (Or.inr (Or.inl ⟨rfl, rfl, rfl⟩)))) (by decide) (c_176x hp) rfl rfl ?_ (Nat.le_of_ble_eq_true rfl) rfl
  exact ⟨rfl, rfl⟩
theorem c_135 {X : XS} {s : Nat} (hs : s < 7) : RT 135 [some (.ref 1), some (.int (Int32.ofNat s))] X (some (.int ((xK X 0).1 15 s 0))) X := by
  have ho : (0 : Nat) < 2 := by decide
  refine AT.aload_n M_135 rfl rfl ?_
  refine AT.iload_n M_135 rfl rfl ?_
  refine AT.cv2i M_135 rfl M_176 rfl (Nat.le_of_ble_eq_true rfl) (xKd.of (Or.inr (Or.inr (Or.inl ⟨rfl, rfl, rfl⟩)))) (by decide) (c_176 hs) ?_ (Nat.le_of_ble_eq_true rfl) rfl
  refine AT.f_6_15 M_135 rfl (by assumption) (by assumption) ?_
  refine AT.iret M_135 rfl rfl ?_
  exact ⟨rfl, rfl⟩
theorem c_135x {X : XS} {p : Int32} (hp : p < 0 ∨ ¬ p < 7) : RX 135 [some (.ref 1), some (.int p)] X 2 (xThr X) := by
  have ho : (0 : Nat) < 2 := by decide
  refine AT.aload_n M_135 rfl rfl ?_
  refine AT.iload_n M_135 rfl rfl ?_
  refine AT.cv2x M_135 rfl M_176 rfl (Nat.le_of_ble_eq_true rfl) (xKd.of (Or.inr (Or.inr (Or.inl ⟨rfl, rfl, rfl⟩)))) (by decide) (c_176x hp) rfl rfl ?_ (Nat.le_of_ble_eq_true rfl) rfl
  exact ⟨rfl, rfl⟩
theorem c_125 {X : XS} {s : Nat} (hs : s < 7) : RT 125 [some (.ref 1), some (.int (Int32.ofNat s))] X (some (.int ((xK X 0).1 4 s 0))) X := by
  have ho : (0 : Nat) < 2 := by decide
  refine AT.rep (fun hr => ?_)
  have h01 := (hr.choose_spec.2.2.2.2.2.2.1 0 (by omega)).2.1 s hs
  refine AT.aload_n M_125 rfl rfl ?_
  refine AT.iload_n M_125 rfl rfl ?_
  refine AT.cv2i M_125 rfl M_176 rfl (Nat.le_of_ble_eq_true rfl) (xKd.of (Or.inr (Or.inr (Or.inl ⟨rfl, rfl, rfl⟩)))) (by decide) (c_176 hs) ?_ (Nat.le_of_ble_eq_true rfl) rfl
  refine AT.f_6_4 M_125 rfl (by assumption) (by assumption) ?_
  refine AT.zret M_125 rfl rfl (by first | exact Or.inl rfl | exact Or.inr rfl | assumption) ?_
  exact ⟨rfl, rfl⟩
theorem c_125x {X : XS} {p : Int32} (hp : p < 0 ∨ ¬ p < 7) : RX 125 [some (.ref 1), some (.int p)] X 2 (xThr X) := by
  have ho : (0 : Nat) < 2 := by decide
  refine AT.aload_n M_125 rfl rfl ?_
  refine AT.iload_n M_125 rfl rfl ?_
  refine AT.cv2x M_125 rfl M_176 rfl (Nat.le_of_ble_eq_true rfl) (xKd.of (Or.inr (Or.inr (Or.inl ⟨rfl, rfl, rfl⟩)))) (by decide) (c_176x hp) rfl rfl ?_ (Nat.le_of_ble_eq_true rfl) rfl
  exact ⟨rfl, rfl⟩
theorem c_132 {X : XS} {s : Nat} (hs : s < 7) : RT 132 [some (.ref 1), some (.int (Int32.ofNat s))] X (some (.int ((xK X 0).1 18 s 0))) X := by
  have ho : (0 : Nat) < 2 := by decide
  refine AT.aload_n M_132 rfl rfl ?_
  refine AT.iload_n M_132 rfl rfl ?_
  refine AT.cv2i M_132 rfl M_176 rfl (Nat.le_of_ble_eq_true rfl) (xKd.of (Or.inr (Or.inr (Or.inl ⟨rfl, rfl, rfl⟩)))) (by decide) (c_176 hs) ?_ (Nat.le_of_ble_eq_true rfl) rfl
  refine AT.f_6_9 M_132 rfl (by assumption) (by assumption) (fun p3 hp3 => ?_)
  refine AT.f_7_0 M_132 rfl (by assumption) ?_
  refine AT.iret M_132 rfl rfl ?_
  exact ⟨rfl, rfl⟩
theorem c_132x {X : XS} {p : Int32} (hp : p < 0 ∨ ¬ p < 7) : RX 132 [some (.ref 1), some (.int p)] X 2 (xThr X) := by
  have ho : (0 : Nat) < 2 := by decide
  refine AT.aload_n M_132 rfl rfl ?_
  refine AT.iload_n M_132 rfl rfl ?_
  refine AT.cv2x M_132 rfl M_176 rfl (Nat.le_of_ble_eq_true rfl) (xKd.of (Or.inr (Or.inr (Or.inl ⟨rfl, rfl, rfl⟩)))) (by decide) (c_176x hp) rfl rfl ?_ (Nat.le_of_ble_eq_true rfl) rfl
  exact ⟨rfl, rfl⟩
theorem c_133 {X : XS} {s : Nat} (hs : s < 7) : RT 133 [some (.ref 1), some (.int (Int32.ofNat s))] X (some (.int (sLast (xK X 0) s))) X := by
  have ho : (0 : Nat) < 2 := by decide
  refine AT.aload_n M_133 rfl rfl ?_
  refine AT.iload_n M_133 rfl rfl ?_
  refine AT.cv2i M_133 rfl M_176 rfl (Nat.le_of_ble_eq_true rfl) (xKd.of (Or.inr (Or.inr (Or.inl ⟨rfl, rfl, rfl⟩)))) (by decide) (c_176 hs) ?_ (Nat.le_of_ble_eq_true rfl) rfl
  refine AT.cv1i M_133 rfl M_62 rfl (Nat.le_of_ble_eq_true rfl) (xKd.of (shp_sv (by assumption) (by assumption))) (by decide) (c_62 ho hs) ?_ (Nat.le_of_ble_eq_true rfl) rfl
  refine AT.iret M_133 rfl rfl ?_
  exact ⟨rfl, rfl⟩
theorem c_133x {X : XS} {p : Int32} (hp : p < 0 ∨ ¬ p < 7) : RX 133 [some (.ref 1), some (.int p)] X 2 (xThr X) := by
  have ho : (0 : Nat) < 2 := by decide
  refine AT.aload_n M_133 rfl rfl ?_
  refine AT.iload_n M_133 rfl rfl ?_
  refine AT.cv2x M_133 rfl M_176 rfl (Nat.le_of_ble_eq_true rfl) (xKd.of (Or.inr (Or.inr (Or.inl ⟨rfl, rfl, rfl⟩)))) (by decide) (c_176x hp) rfl rfl ?_ (Nat.le_of_ble_eq_true rfl) rfl
  exact ⟨rfl, rfl⟩
theorem c_134 {X : XS} {s : Nat} (hs : s < 7) : RT 134 [some (.ref 1), some (.int (Int32.ofNat s))] X (some (.int (sLastT (xK X 0) s))) X := by
  have ho : (0 : Nat) < 2 := by decide
  refine AT.aload_n M_134 rfl rfl ?_
  refine AT.iload_n M_134 rfl rfl ?_
  refine AT.cv2i M_134 rfl M_176 rfl (Nat.le_of_ble_eq_true rfl) (xKd.of (Or.inr (Or.inr (Or.inl ⟨rfl, rfl, rfl⟩)))) (by decide) (c_176 hs) ?_ (Nat.le_of_ble_eq_true rfl) rfl
  refine AT.cv1i M_134 rfl M_63 rfl (Nat.le_of_ble_eq_true rfl) (xKd.of (shp_sv (by assumption) (by assumption))) (by decide) (c_63 ho hs) ?_ (Nat.le_of_ble_eq_true rfl) rfl
  refine AT.iret M_134 rfl rfl ?_
  exact ⟨rfl, rfl⟩
theorem c_134x {X : XS} {p : Int32} (hp : p < 0 ∨ ¬ p < 7) : RX 134 [some (.ref 1), some (.int p)] X 2 (xThr X) := by
  have ho : (0 : Nat) < 2 := by decide
  refine AT.aload_n M_134 rfl rfl ?_
  refine AT.iload_n M_134 rfl rfl ?_
  refine AT.cv2x M_134 rfl M_176 rfl (Nat.le_of_ble_eq_true rfl) (xKd.of (Or.inr (Or.inr (Or.inl ⟨rfl, rfl, rfl⟩)))) (by decide) (c_176x hp) rfl rfl ?_ (Nat.le_of_ble_eq_true rfl) rfl
  exact ⟨rfl, rfl⟩
theorem c_136 {X : XS} {s : Nat} (hs : s < 7) (hm : dV (xD X) 0 10 s 0 = sMem (xK X 0) s) (h7 : ∃ n : Nat, n < 128 ∧ sMem (xK X 0) s = Int32.ofNat n) : RT 136 [some (.ref 1), some (.int (Int32.ofNat s))] X (some (.int (sCnt (sMem (xK X 0) s)))) X := by
  have ho : (0 : Nat) < 2 := by decide
  refine AT.aload_n M_136 rfl rfl ?_
  refine AT.iload_n M_136 rfl rfl ?_
  refine AT.cv2i M_136 rfl M_176 rfl (Nat.le_of_ble_eq_true rfl) (xKd.of (Or.inr (Or.inr (Or.inl ⟨rfl, rfl, rfl⟩)))) (by decide) (c_176 hs) ?_ (Nat.le_of_ble_eq_true rfl) rfl
  refine AT.f_6_10 M_136 rfl ho hs ?_
  rw [hm]
  refine AT.cs1i M_136 rfl M_379 rfl (Nat.le_of_ble_eq_true rfl) rfl (c_379x h7) ?_ (Nat.le_of_ble_eq_true rfl) rfl
  refine AT.iret M_136 rfl rfl ?_
  exact ⟨rfl, rfl⟩
theorem c_136x {X : XS} {p : Int32} (hp : p < 0 ∨ ¬ p < 7) : RX 136 [some (.ref 1), some (.int p)] X 2 (xThr X) := by
  have ho : (0 : Nat) < 2 := by decide
  refine AT.aload_n M_136 rfl rfl ?_
  refine AT.iload_n M_136 rfl rfl ?_
  refine AT.cv2x M_136 rfl M_176 rfl (Nat.le_of_ble_eq_true rfl) (xKd.of (Or.inr (Or.inr (Or.inl ⟨rfl, rfl, rfl⟩)))) (by decide) (c_176x hp) rfl rfl ?_ (Nat.le_of_ble_eq_true rfl) rfl
  exact ⟨rfl, rfl⟩
theorem c_138 {X : XS} {s : Nat} (hs : s < 7) {x : Int32} (hw : kWf (xK X 0) s) (hx : ¬ sTix (xK X 0) s x < 0) : RT 138 [some (.ref 1), some (.int (Int32.ofNat s)), some (.int x), none] X (some (.int (sTix (xK X 0) s x))) X := by
  have ho : (0 : Nat) < 2 := by decide
  refine AT.aload_n M_138 rfl rfl ?_
  refine AT.iload_n M_138 rfl rfl ?_
  refine AT.cv2i M_138 rfl M_176 rfl (Nat.le_of_ble_eq_true rfl) (xKd.of (Or.inr (Or.inr (Or.inl ⟨rfl, rfl, rfl⟩)))) (by decide) (c_176 hs) ?_ (Nat.le_of_ble_eq_true rfl) rfl
  refine AT.iload_n M_138 rfl rfl ?_
  refine AT.cv2i M_138 rfl M_65 rfl (Nat.le_of_ble_eq_true rfl) (xKd.of (shp_sv (by assumption) (by assumption))) (by decide) (c_65 ho hs hw) ?_ (Nat.le_of_ble_eq_true rfl) rfl
  refine AT.ist3 M_138 rfl rfl ?_
  refine AT.iload_n M_138 rfl rfl ?_
  refine AT.if_ge M_138 rfl (fun b7 => ?_) (fun b7 => absurd (Int32.not_lt.mp hx) b7)
  refine AT.iload_n M_138 rfl rfl ?_
  refine AT.iret M_138 rfl rfl ?_
  exact ⟨rfl, rfl⟩
theorem c_138x1 {X : XS} {p : Int32} {x : Int32} (hp : p < 0 ∨ ¬ p < 7) : RX 138 [some (.ref 1), some (.int p), some (.int x), none] X 2 (xThr X) := by
  have ho : (0 : Nat) < 2 := by decide
  refine AT.aload_n M_138 rfl rfl ?_
  refine AT.iload_n M_138 rfl rfl ?_
  refine AT.cv2x M_138 rfl M_176 rfl (Nat.le_of_ble_eq_true rfl) (xKd.of (Or.inr (Or.inr (Or.inl ⟨rfl, rfl, rfl⟩)))) (by decide) (c_176x hp) rfl rfl ?_ (Nat.le_of_ble_eq_true rfl) rfl
  exact ⟨rfl, rfl⟩
theorem c_138x2 {X : XS} {s : Nat} (hs : s < 7) {x : Int32} (hw : kWf (xK X 0) s) (hx : sTix (xK X 0) s x < 0) : RX 138 [some (.ref 1), some (.int (Int32.ofNat s)), some (.int x), none] X 2 (xThr X) := by
  have ho : (0 : Nat) < 2 := by decide
  refine AT.aload_n M_138 rfl rfl ?_
  refine AT.iload_n M_138 rfl rfl ?_
  refine AT.cv2i M_138 rfl M_176 rfl (Nat.le_of_ble_eq_true rfl) (xKd.of (Or.inr (Or.inr (Or.inl ⟨rfl, rfl, rfl⟩)))) (by decide) (c_176 hs) ?_ (Nat.le_of_ble_eq_true rfl) rfl
  refine AT.iload_n M_138 rfl rfl ?_
  refine AT.cv2i M_138 rfl M_65 rfl (Nat.le_of_ble_eq_true rfl) (xKd.of (shp_sv (by assumption) (by assumption))) (by decide) (c_65 ho hs hw) ?_ (Nat.le_of_ble_eq_true rfl) rfl
  refine AT.ist3 M_138 rfl rfl ?_
  refine AT.iload_n M_138 rfl rfl ?_
  refine AT.if_ge M_138 rfl (fun b7 => absurd hx (Int32.not_lt.mpr b7)) (fun b7 => ?_)
  refine AT.thr M_138 rfl rfl (Nat.le_of_ble_eq_true rfl) rfl ?_
  exact ⟨rfl, rfl⟩
theorem c_139 {X : XS} {s : Nat} (hs : s < 7) {x : Int32} {e : ENT} (hx : sEnt (xK X 0) s x = some e) (hw : kWf (xK X 0) s) : RT 139 [some (.ref 1), some (.int (Int32.ofNat s)), some (.int x)] X (some (.int (e 1))) X := by
  have ho : (0 : Nat) < 2 := by decide
  refine AT.aload_n M_139 rfl rfl ?_
  refine AT.iload_n M_139 rfl rfl ?_
  refine AT.iload_n M_139 rfl rfl ?_
  refine AT.cv3p M_139 rfl M_178 rfl (Nat.le_of_ble_eq_true rfl) (xKd.of (Or.inr (Or.inr (Or.inl ⟨rfl, rfl, rfl⟩)))) (by decide) (c_178 hs hx hw) (fun p3 he3 => ?_) (Nat.le_of_ble_eq_true rfl) rfl
  refine AT.f_2_1 M_139 rfl (by assumption) ?_
  refine AT.iret M_139 rfl rfl ?_
  exact ⟨rfl, rfl⟩
theorem c_139x1 {X : XS} {p x : Int32} (hp : p < 0 ∨ ¬ p < 7) : RX 139 [some (.ref 1), some (.int p), some (.int x)] X 2 (xThr X) := by
  have ho : (0 : Nat) < 2 := by decide
  refine AT.aload_n M_139 rfl rfl ?_
  refine AT.iload_n M_139 rfl rfl ?_
  refine AT.iload_n M_139 rfl rfl ?_
  refine AT.cv3x M_139 rfl M_178 rfl (Nat.le_of_ble_eq_true rfl) (xKd.of (Or.inr (Or.inr (Or.inl ⟨rfl, rfl, rfl⟩)))) (by decide) (c_178x1 hp) rfl rfl ?_ (Nat.le_of_ble_eq_true rfl) rfl
  exact ⟨rfl, rfl⟩
theorem c_139x2 {X : XS} {s : Nat} (hs : s < 7) {x : Int32} (hx : sEnt (xK X 0) s x = none) (hw : kWf (xK X 0) s) : RX 139 [some (.ref 1), some (.int (Int32.ofNat s)), some (.int x)] X 2 (xThr X) := by
  have ho : (0 : Nat) < 2 := by decide
  refine AT.aload_n M_139 rfl rfl ?_
  refine AT.iload_n M_139 rfl rfl ?_
  refine AT.iload_n M_139 rfl rfl ?_
  refine AT.cv3x M_139 rfl M_178 rfl (Nat.le_of_ble_eq_true rfl) (xKd.of (Or.inr (Or.inr (Or.inl ⟨rfl, rfl, rfl⟩)))) (by decide) (c_178x2 hs hx hw) rfl rfl ?_ (Nat.le_of_ble_eq_true rfl) rfl
  exact ⟨rfl, rfl⟩
theorem c_140 {X : XS} {s : Nat} (hs : s < 7) {x : Int32} {e : ENT} (hx : sEnt (xK X 0) s x = some e) (hw : kWf (xK X 0) s) (h8 : e 1 = 4 → ∃ n : Nat, n < 128 ∧ e 6 = Int32.ofNat n) : RT 140 [some (.ref 1), some (.int (Int32.ofNat s)), some (.int x)] X (some (.int (sVal e))) X := by
  have ho : (0 : Nat) < 2 := by decide
  refine AT.aload_n M_140 rfl rfl ?_
  refine AT.iload_n M_140 rfl rfl ?_
  refine AT.iload_n M_140 rfl rfl ?_
  refine AT.cv3p M_140 rfl M_178 rfl (Nat.le_of_ble_eq_true rfl) (xKd.of (Or.inr (Or.inr (Or.inl ⟨rfl, rfl, rfl⟩)))) (by decide) (c_178 hs hx hw) (fun p3 he3 => ?_) (Nat.le_of_ble_eq_true rfl) rfl
  refine AT.cv1i M_140 rfl M_40 rfl (Nat.le_of_ble_eq_true rfl) (fun g hg => (dE.ent (by assumption) hg).1) (by decide) (c_40 he3 h8) ?_ (Nat.le_of_ble_eq_true rfl) rfl
  refine AT.iret M_140 rfl rfl ?_
  exact ⟨rfl, rfl⟩
theorem c_140x1 {X : XS} {p x : Int32} (hp : p < 0 ∨ ¬ p < 7) : RX 140 [some (.ref 1), some (.int p), some (.int x)] X 2 (xThr X) := by
  have ho : (0 : Nat) < 2 := by decide
  refine AT.aload_n M_140 rfl rfl ?_
  refine AT.iload_n M_140 rfl rfl ?_
  refine AT.iload_n M_140 rfl rfl ?_
  refine AT.cv3x M_140 rfl M_178 rfl (Nat.le_of_ble_eq_true rfl) (xKd.of (Or.inr (Or.inr (Or.inl ⟨rfl, rfl, rfl⟩)))) (by decide) (c_178x1 hp) rfl rfl ?_ (Nat.le_of_ble_eq_true rfl) rfl
  exact ⟨rfl, rfl⟩
theorem c_140x2 {X : XS} {s : Nat} (hs : s < 7) {x : Int32} (hx : sEnt (xK X 0) s x = none) (hw : kWf (xK X 0) s) : RX 140 [some (.ref 1), some (.int (Int32.ofNat s)), some (.int x)] X 2 (xThr X) := by
  have ho : (0 : Nat) < 2 := by decide
  refine AT.aload_n M_140 rfl rfl ?_
  refine AT.iload_n M_140 rfl rfl ?_
  refine AT.iload_n M_140 rfl rfl ?_
  refine AT.cv3x M_140 rfl M_178 rfl (Nat.le_of_ble_eq_true rfl) (xKd.of (Or.inr (Or.inr (Or.inl ⟨rfl, rfl, rfl⟩)))) (by decide) (c_178x2 hs hx hw) rfl rfl ?_ (Nat.le_of_ble_eq_true rfl) rfl
  exact ⟨rfl, rfl⟩
theorem c_141 {X : XS} {s : Nat} (hs : s < 7) {x : Int32} {e : ENT} (hx : sEnt (xK X 0) s x = some e) (hw : kWf (xK X 0) s) : RT 141 [some (.ref 1), some (.int (Int32.ofNat s)), some (.int x)] X (some (.int (e 2))) X := by
  have ho : (0 : Nat) < 2 := by decide
  refine AT.aload_n M_141 rfl rfl ?_
  refine AT.iload_n M_141 rfl rfl ?_
  refine AT.iload_n M_141 rfl rfl ?_
  refine AT.cv3p M_141 rfl M_178 rfl (Nat.le_of_ble_eq_true rfl) (xKd.of (Or.inr (Or.inr (Or.inl ⟨rfl, rfl, rfl⟩)))) (by decide) (c_178 hs hx hw) (fun p3 he3 => ?_) (Nat.le_of_ble_eq_true rfl) rfl
  refine AT.cv1i M_141 rfl M_41 rfl (Nat.le_of_ble_eq_true rfl) (fun g hg => (dE.ent (by assumption) hg).1) (by decide) (c_41 he3) ?_ (Nat.le_of_ble_eq_true rfl) rfl
  refine AT.iret M_141 rfl rfl ?_
  exact ⟨rfl, rfl⟩
theorem c_141x1 {X : XS} {p x : Int32} (hp : p < 0 ∨ ¬ p < 7) : RX 141 [some (.ref 1), some (.int p), some (.int x)] X 2 (xThr X) := by
  have ho : (0 : Nat) < 2 := by decide
  refine AT.aload_n M_141 rfl rfl ?_
  refine AT.iload_n M_141 rfl rfl ?_
  refine AT.iload_n M_141 rfl rfl ?_
  refine AT.cv3x M_141 rfl M_178 rfl (Nat.le_of_ble_eq_true rfl) (xKd.of (Or.inr (Or.inr (Or.inl ⟨rfl, rfl, rfl⟩)))) (by decide) (c_178x1 hp) rfl rfl ?_ (Nat.le_of_ble_eq_true rfl) rfl
  exact ⟨rfl, rfl⟩
theorem c_141x2 {X : XS} {s : Nat} (hs : s < 7) {x : Int32} (hx : sEnt (xK X 0) s x = none) (hw : kWf (xK X 0) s) : RX 141 [some (.ref 1), some (.int (Int32.ofNat s)), some (.int x)] X 2 (xThr X) := by
  have ho : (0 : Nat) < 2 := by decide
  refine AT.aload_n M_141 rfl rfl ?_
  refine AT.iload_n M_141 rfl rfl ?_
  refine AT.iload_n M_141 rfl rfl ?_
  refine AT.cv3x M_141 rfl M_178 rfl (Nat.le_of_ble_eq_true rfl) (xKd.of (Or.inr (Or.inr (Or.inl ⟨rfl, rfl, rfl⟩)))) (by decide) (c_178x2 hs hx hw) rfl rfl ?_ (Nat.le_of_ble_eq_true rfl) rfl
  exact ⟨rfl, rfl⟩
theorem c_142 {X : XS} {s : Nat} (hs : s < 7) {x : Int32} {e : ENT} (hx : sEnt (xK X 0) s x = some e) (hw : kWf (xK X 0) s) : RT 142 [some (.ref 1), some (.int (Int32.ofNat s)), some (.int x)] X (some (.int (e 3))) X := by
  have ho : (0 : Nat) < 2 := by decide
  refine AT.aload_n M_142 rfl rfl ?_
  refine AT.iload_n M_142 rfl rfl ?_
  refine AT.iload_n M_142 rfl rfl ?_
  refine AT.cv3p M_142 rfl M_178 rfl (Nat.le_of_ble_eq_true rfl) (xKd.of (Or.inr (Or.inr (Or.inl ⟨rfl, rfl, rfl⟩)))) (by decide) (c_178 hs hx hw) (fun p3 he3 => ?_) (Nat.le_of_ble_eq_true rfl) rfl
  refine AT.cv1i M_142 rfl M_42 rfl (Nat.le_of_ble_eq_true rfl) (fun g hg => (dE.ent (by assumption) hg).1) (by decide) (c_42 he3) ?_ (Nat.le_of_ble_eq_true rfl) rfl
  refine AT.iret M_142 rfl rfl ?_
  exact ⟨rfl, rfl⟩
theorem c_142x1 {X : XS} {p x : Int32} (hp : p < 0 ∨ ¬ p < 7) : RX 142 [some (.ref 1), some (.int p), some (.int x)] X 2 (xThr X) := by
  have ho : (0 : Nat) < 2 := by decide
  refine AT.aload_n M_142 rfl rfl ?_
  refine AT.iload_n M_142 rfl rfl ?_
  refine AT.iload_n M_142 rfl rfl ?_
  refine AT.cv3x M_142 rfl M_178 rfl (Nat.le_of_ble_eq_true rfl) (xKd.of (Or.inr (Or.inr (Or.inl ⟨rfl, rfl, rfl⟩)))) (by decide) (c_178x1 hp) rfl rfl ?_ (Nat.le_of_ble_eq_true rfl) rfl
  exact ⟨rfl, rfl⟩
theorem c_142x2 {X : XS} {s : Nat} (hs : s < 7) {x : Int32} (hx : sEnt (xK X 0) s x = none) (hw : kWf (xK X 0) s) : RX 142 [some (.ref 1), some (.int (Int32.ofNat s)), some (.int x)] X 2 (xThr X) := by
  have ho : (0 : Nat) < 2 := by decide
  refine AT.aload_n M_142 rfl rfl ?_
  refine AT.iload_n M_142 rfl rfl ?_
  refine AT.iload_n M_142 rfl rfl ?_
  refine AT.cv3x M_142 rfl M_178 rfl (Nat.le_of_ble_eq_true rfl) (xKd.of (Or.inr (Or.inr (Or.inl ⟨rfl, rfl, rfl⟩)))) (by decide) (c_178x2 hs hx hw) rfl rfl ?_ (Nat.le_of_ble_eq_true rfl) rfl
  exact ⟨rfl, rfl⟩
theorem c_143 {X : XS} {s : Nat} (hs : s < 7) {j : Nat} (hj : j < 8) : RT 143 [some (.ref 1), some (.int (Int32.ofNat s)), some (.int (Int32.ofNat j))] X (some (.int ((xK X 0).1 19 s j))) X := by
  have ho : (0 : Nat) < 2 := by decide
  refine AT.iload_n M_143 rfl rfl ?_
  refine AT.cs10 M_143 rfl M_172 rfl (Nat.le_of_ble_eq_true rfl) rfl (c_172 hj) ?_ (Nat.le_of_ble_eq_true rfl) rfl
  refine AT.aload_n M_143 rfl rfl ?_
  refine AT.iload_n M_143 rfl rfl ?_
  refine AT.cv2i M_143 rfl M_176 rfl (Nat.le_of_ble_eq_true rfl) (xKd.of (Or.inr (Or.inr (Or.inl ⟨rfl, rfl, rfl⟩)))) (by decide) (c_176 hs) ?_ (Nat.le_of_ble_eq_true rfl) rfl
  refine AT.f_6_1 M_143 rfl (by assumption) (by assumption) ?_
  refine AT.f_8_0 M_143 rfl (by assumption) (by assumption) ?_
  refine AT.iload_n M_143 rfl rfl ?_
  refine AT.a_val M_143 rfl rfl (by assumption) (by assumption) (by assumption) ?_
  refine AT.iret M_143 rfl rfl ?_
  exact ⟨rfl, rfl⟩
theorem c_143x1 {X : XS} {p q : Int32} (hp : q < 0 ∨ ¬ q < 8) : RX 143 [some (.ref 1), some (.int p), some (.int q)] X 2 (xThr X) := by
  have ho : (0 : Nat) < 2 := by decide
  refine AT.iload_n M_143 rfl rfl ?_
  refine AT.cs1x M_143 rfl M_172 rfl (Nat.le_of_ble_eq_true rfl) rfl (c_172x hp) rfl rfl ?_ (Nat.le_of_ble_eq_true rfl) rfl
  exact ⟨rfl, rfl⟩
theorem c_143x2 {X : XS} {p : Int32} {j : Nat} (hj : j < 8) (hp : p < 0 ∨ ¬ p < 7) : RX 143 [some (.ref 1), some (.int p), some (.int (Int32.ofNat j))] X 2 (xThr X) := by
  have ho : (0 : Nat) < 2 := by decide
  refine AT.iload_n M_143 rfl rfl ?_
  refine AT.cs10 M_143 rfl M_172 rfl (Nat.le_of_ble_eq_true rfl) rfl (c_172 hj) ?_ (Nat.le_of_ble_eq_true rfl) rfl
  refine AT.aload_n M_143 rfl rfl ?_
  refine AT.iload_n M_143 rfl rfl ?_
  refine AT.cv2x M_143 rfl M_176 rfl (Nat.le_of_ble_eq_true rfl) (xKd.of (Or.inr (Or.inr (Or.inl ⟨rfl, rfl, rfl⟩)))) (by decide) (c_176x hp) rfl rfl ?_ (Nat.le_of_ble_eq_true rfl) rfl
  exact ⟨rfl, rfl⟩
theorem c_144 {X : XS} {s : Nat} (hs : s < 7) {j : Nat} (hj : j < 4) : RT 144 [some (.ref 1), some (.int (Int32.ofNat s)), some (.int (Int32.ofNat j))] X (some (.int ((xK X 0).1 19 s (8 + j)))) X := by
  have ho : (0 : Nat) < 2 := by decide
  refine AT.iload_n M_144 rfl rfl ?_
  refine AT.cs10 M_144 rfl M_171 rfl (Nat.le_of_ble_eq_true rfl) rfl (c_171 hj) ?_ (Nat.le_of_ble_eq_true rfl) rfl
  refine AT.aload_n M_144 rfl rfl ?_
  refine AT.iload_n M_144 rfl rfl ?_
  refine AT.cv2i M_144 rfl M_176 rfl (Nat.le_of_ble_eq_true rfl) (xKd.of (Or.inr (Or.inr (Or.inl ⟨rfl, rfl, rfl⟩)))) (by decide) (c_176 hs) ?_ (Nat.le_of_ble_eq_true rfl) rfl
  refine AT.f_6_1 M_144 rfl (by assumption) (by assumption) ?_
  refine AT.f_8_1 M_144 rfl (by assumption) (by assumption) ?_
  refine AT.iload_n M_144 rfl rfl ?_
  refine AT.a_ser M_144 rfl rfl (by assumption) (by assumption) (by assumption) ?_
  refine AT.iret M_144 rfl rfl ?_
  exact ⟨rfl, rfl⟩
theorem c_144x1 {X : XS} {p q : Int32} (hp : q < 0 ∨ ¬ q < 4) : RX 144 [some (.ref 1), some (.int p), some (.int q)] X 2 (xThr X) := by
  have ho : (0 : Nat) < 2 := by decide
  refine AT.iload_n M_144 rfl rfl ?_
  refine AT.cs1x M_144 rfl M_171 rfl (Nat.le_of_ble_eq_true rfl) rfl (c_171x hp) rfl rfl ?_ (Nat.le_of_ble_eq_true rfl) rfl
  exact ⟨rfl, rfl⟩
theorem c_144x2 {X : XS} {p : Int32} {j : Nat} (hj : j < 4) (hp : p < 0 ∨ ¬ p < 7) : RX 144 [some (.ref 1), some (.int p), some (.int (Int32.ofNat j))] X 2 (xThr X) := by
  have ho : (0 : Nat) < 2 := by decide
  refine AT.iload_n M_144 rfl rfl ?_
  refine AT.cs10 M_144 rfl M_171 rfl (Nat.le_of_ble_eq_true rfl) rfl (c_171 hj) ?_ (Nat.le_of_ble_eq_true rfl) rfl
  refine AT.aload_n M_144 rfl rfl ?_
  refine AT.iload_n M_144 rfl rfl ?_
  refine AT.cv2x M_144 rfl M_176 rfl (Nat.le_of_ble_eq_true rfl) (xKd.of (Or.inr (Or.inr (Or.inl ⟨rfl, rfl, rfl⟩)))) (by decide) (c_176x hp) rfl rfl ?_ (Nat.le_of_ble_eq_true rfl) rfl
  exact ⟨rfl, rfl⟩
theorem c_145 {X : XS} {s : Nat} (hs : s < 7) {j : Nat} (hj : j < 7) (hne : ¬ s = j) (hr3 : (xK X 0).1 12 s 0 = 3) : RT 145 [some (.ref 1), some (.int (Int32.ofNat s)), some (.int (Int32.ofNat j))] X (some (.int ((xK X 0).1 2 s j))) X := by
  have ho : (0 : Nat) < 2 := by decide
  refine AT.iload_n M_145 rfl rfl ?_
  refine AT.iload_n M_145 rfl rfl ?_
  refine AT.cs20 M_145 rfl M_170 rfl (Nat.le_of_ble_eq_true rfl) rfl (c_170 hs hj hne) ?_ (Nat.le_of_ble_eq_true rfl) rfl
  refine AT.aload_n M_145 rfl rfl ?_
  refine AT.f_9_0 M_145 rfl ?_
  refine AT.f_1_0 M_145 rfl (by assumption) ?_
  refine AT.iload_n M_145 rfl rfl ?_
  refine AT.a_svs M_145 rfl rfl (by assumption) (by assumption) ?_
  refine AT.f_6_12 M_145 rfl (by assumption) (by assumption) ?_
  refine AT.iconst M_145 rfl (v := 3) (by decide) ?_
  refine AT.icmp_eq M_145 rfl (fun b10 => ?_) (fun b10 => absurd hr3 b10)
  refine AT.iconst M_145 rfl (v := 0) (by decide) ?_
  refine AT.cs10 M_145 rfl M_168 rfl (Nat.le_of_ble_eq_true rfl) rfl c_168 ?_ (Nat.le_of_ble_eq_true rfl) rfl
  refine AT.aload_n M_145 rfl rfl ?_
  refine AT.f_9_0 M_145 rfl ?_
  refine AT.f_1_0 M_145 rfl (by assumption) ?_
  refine AT.iload_n M_145 rfl rfl ?_
  refine AT.a_svs M_145 rfl rfl (by assumption) (by assumption) ?_
  refine AT.f_6_2 M_145 rfl (by assumption) (by assumption) ?_
  refine AT.iload_n M_145 rfl rfl ?_
  refine AT.a_nxt M_145 rfl rfl (by assumption) (by assumption) (by assumption) ?_
  refine AT.iret M_145 rfl rfl ?_
  exact ⟨rfl, rfl⟩
theorem c_145x4 {X : XS} {s : Nat} (hs : s < 7) {j : Nat} (hj : j < 7) (hne : ¬ s = j) (hr3 : ¬ (xK X 0).1 12 s 0 = 3) : RX 145 [some (.ref 1), some (.int (Int32.ofNat s)), some (.int (Int32.ofNat j))] X 1 (xThr X) := by
  have ho : (0 : Nat) < 2 := by decide
  refine AT.iload_n M_145 rfl rfl ?_
  refine AT.iload_n M_145 rfl rfl ?_
  refine AT.cs20 M_145 rfl M_170 rfl (Nat.le_of_ble_eq_true rfl) rfl (c_170 hs hj hne) ?_ (Nat.le_of_ble_eq_true rfl) rfl
  refine AT.aload_n M_145 rfl rfl ?_
  refine AT.f_9_0 M_145 rfl ?_
  refine AT.f_1_0 M_145 rfl (by assumption) ?_
  refine AT.iload_n M_145 rfl rfl ?_
  refine AT.a_svs M_145 rfl rfl (by assumption) (by assumption) ?_
  refine AT.f_6_12 M_145 rfl (by assumption) (by assumption) ?_
  refine AT.iconst M_145 rfl (v := 3) (by decide) ?_
  refine AT.icmp_eq M_145 rfl (fun b10 => absurd b10 hr3) (fun b10 => ?_)
  refine AT.iconst M_145 rfl (v := 1) (by decide) ?_
  refine AT.goto M_145 rfl ?_
  refine AT.cs1x M_145 rfl M_168 rfl (Nat.le_of_ble_eq_true rfl) rfl c_168x rfl rfl ?_ (Nat.le_of_ble_eq_true rfl) rfl
  exact ⟨rfl, rfl⟩
theorem c_145x1 {X : XS} {p q : Int32} (hp : p < 0 ∨ ¬ p < 7) : RX 145 [some (.ref 1), some (.int p), some (.int q)] X 2 (xThr X) := by
  refine AT.iload_n M_145 rfl rfl ?_
  refine AT.iload_n M_145 rfl rfl ?_
  refine AT.cs2x M_145 rfl M_170 rfl (Nat.le_of_ble_eq_true rfl) rfl (c_170x1 hp) rfl rfl ?_ (Nat.le_of_ble_eq_true rfl) rfl
  exact ⟨rfl, rfl⟩
theorem c_145x2 {X : XS} {s : Nat} (hs : s < 7) {q : Int32} (hp : q < 0 ∨ ¬ q < 7) : RX 145 [some (.ref 1), some (.int (Int32.ofNat s)), some (.int q)] X 2 (xThr X) := by
  refine AT.iload_n M_145 rfl rfl ?_
  refine AT.iload_n M_145 rfl rfl ?_
  refine AT.cs2x M_145 rfl M_170 rfl (Nat.le_of_ble_eq_true rfl) rfl (c_170x2 hs hp) rfl rfl ?_ (Nat.le_of_ble_eq_true rfl) rfl
  exact ⟨rfl, rfl⟩
theorem c_145x3 {X : XS} {s : Nat} (hs : s < 7) : RX 145 [some (.ref 1), some (.int (Int32.ofNat s)), some (.int (Int32.ofNat s))] X 0 (xThr X) := by
  refine AT.iload_n M_145 rfl rfl ?_
  refine AT.iload_n M_145 rfl rfl ?_
  refine AT.cs2x M_145 rfl M_170 rfl (Nat.le_of_ble_eq_true rfl) rfl (c_170x3 hs) rfl rfl ?_ (Nat.le_of_ble_eq_true rfl) rfl
  exact ⟨rfl, rfl⟩
theorem c_146 {X : XS} {s : Nat} (hs : s < 7) {j : Nat} (hj : j < 7) (hne : ¬ s = j) (hr3 : (xK X 0).1 12 s 0 = 3) : RT 146 [some (.ref 1), some (.int (Int32.ofNat s)), some (.int (Int32.ofNat j))] X (some (.int ((xK X 0).1 3 s j))) X := by
  have ho : (0 : Nat) < 2 := by decide
  refine AT.iload_n M_146 rfl rfl ?_
  refine AT.iload_n M_146 rfl rfl ?_
  refine AT.cs20 M_146 rfl M_170 rfl (Nat.le_of_ble_eq_true rfl) rfl (c_170 hs hj hne) ?_ (Nat.le_of_ble_eq_true rfl) rfl
  refine AT.aload_n M_146 rfl rfl ?_
  refine AT.f_9_0 M_146 rfl ?_
  refine AT.f_1_0 M_146 rfl (by assumption) ?_
  refine AT.iload_n M_146 rfl rfl ?_
  refine AT.a_svs M_146 rfl rfl (by assumption) (by assumption) ?_
  refine AT.f_6_12 M_146 rfl (by assumption) (by assumption) ?_
  refine AT.iconst M_146 rfl (v := 3) (by decide) ?_
  refine AT.icmp_eq M_146 rfl (fun b10 => ?_) (fun b10 => absurd hr3 b10)
  refine AT.iconst M_146 rfl (v := 0) (by decide) ?_
  refine AT.cs10 M_146 rfl M_168 rfl (Nat.le_of_ble_eq_true rfl) rfl c_168 ?_ (Nat.le_of_ble_eq_true rfl) rfl
  refine AT.aload_n M_146 rfl rfl ?_
  refine AT.f_9_0 M_146 rfl ?_
  refine AT.f_1_0 M_146 rfl (by assumption) ?_
  refine AT.iload_n M_146 rfl rfl ?_
  refine AT.a_svs M_146 rfl rfl (by assumption) (by assumption) ?_
  refine AT.f_6_3 M_146 rfl (by assumption) (by assumption) ?_
  refine AT.iload_n M_146 rfl rfl ?_
  refine AT.a_mat M_146 rfl rfl (by assumption) (by assumption) (by assumption) ?_
  refine AT.iret M_146 rfl rfl ?_
  exact ⟨rfl, rfl⟩
theorem c_146x4 {X : XS} {s : Nat} (hs : s < 7) {j : Nat} (hj : j < 7) (hne : ¬ s = j) (hr3 : ¬ (xK X 0).1 12 s 0 = 3) : RX 146 [some (.ref 1), some (.int (Int32.ofNat s)), some (.int (Int32.ofNat j))] X 1 (xThr X) := by
  have ho : (0 : Nat) < 2 := by decide
  refine AT.iload_n M_146 rfl rfl ?_
  refine AT.iload_n M_146 rfl rfl ?_
  refine AT.cs20 M_146 rfl M_170 rfl (Nat.le_of_ble_eq_true rfl) rfl (c_170 hs hj hne) ?_ (Nat.le_of_ble_eq_true rfl) rfl
  refine AT.aload_n M_146 rfl rfl ?_
  refine AT.f_9_0 M_146 rfl ?_
  refine AT.f_1_0 M_146 rfl (by assumption) ?_
  refine AT.iload_n M_146 rfl rfl ?_
  refine AT.a_svs M_146 rfl rfl (by assumption) (by assumption) ?_
  refine AT.f_6_12 M_146 rfl (by assumption) (by assumption) ?_
  refine AT.iconst M_146 rfl (v := 3) (by decide) ?_
  refine AT.icmp_eq M_146 rfl (fun b10 => absurd b10 hr3) (fun b10 => ?_)
  refine AT.iconst M_146 rfl (v := 1) (by decide) ?_
  refine AT.goto M_146 rfl ?_
  refine AT.cs1x M_146 rfl M_168 rfl (Nat.le_of_ble_eq_true rfl) rfl c_168x rfl rfl ?_ (Nat.le_of_ble_eq_true rfl) rfl
  exact ⟨rfl, rfl⟩
theorem c_146x1 {X : XS} {p q : Int32} (hp : p < 0 ∨ ¬ p < 7) : RX 146 [some (.ref 1), some (.int p), some (.int q)] X 2 (xThr X) := by
  refine AT.iload_n M_146 rfl rfl ?_
  refine AT.iload_n M_146 rfl rfl ?_
  refine AT.cs2x M_146 rfl M_170 rfl (Nat.le_of_ble_eq_true rfl) rfl (c_170x1 hp) rfl rfl ?_ (Nat.le_of_ble_eq_true rfl) rfl
  exact ⟨rfl, rfl⟩
theorem c_146x2 {X : XS} {s : Nat} (hs : s < 7) {q : Int32} (hp : q < 0 ∨ ¬ q < 7) : RX 146 [some (.ref 1), some (.int (Int32.ofNat s)), some (.int q)] X 2 (xThr X) := by
  refine AT.iload_n M_146 rfl rfl ?_
  refine AT.iload_n M_146 rfl rfl ?_
  refine AT.cs2x M_146 rfl M_170 rfl (Nat.le_of_ble_eq_true rfl) rfl (c_170x2 hs hp) rfl rfl ?_ (Nat.le_of_ble_eq_true rfl) rfl
  exact ⟨rfl, rfl⟩
theorem c_146x3 {X : XS} {s : Nat} (hs : s < 7) : RX 146 [some (.ref 1), some (.int (Int32.ofNat s)), some (.int (Int32.ofNat s))] X 0 (xThr X) := by
  refine AT.iload_n M_146 rfl rfl ?_
  refine AT.iload_n M_146 rfl rfl ?_
  refine AT.cs2x M_146 rfl M_170 rfl (Nat.le_of_ble_eq_true rfl) rfl (c_170x3 hs) rfl rfl ?_ (Nat.le_of_ble_eq_true rfl) rfl
  exact ⟨rfl, rfl⟩
theorem c_120 {X : XS} {c : Nat} (hc : c < 4) : RT 120 [some (.ref 1), some (.int (Int32.ofNat c))] X (some (.int ((xK X 0).1 34 c 3))) X := by
  have ho : (0 : Nat) < 2 := by decide
  refine AT.iload_n M_120 rfl rfl ?_
  refine AT.cs10 M_120 rfl M_171 rfl (Nat.le_of_ble_eq_true rfl) rfl (c_171 hc) ?_ (Nat.le_of_ble_eq_true rfl) rfl
  refine AT.aload_n M_120 rfl rfl ?_
  refine AT.f_9_0 M_120 rfl ?_
  refine AT.f_1_1 M_120 rfl (by assumption) ?_
  refine AT.iload_n M_120 rfl rfl ?_
  refine AT.a_cls M_120 rfl rfl (by assumption) (by assumption) ?_
  refine AT.cv1i M_120 rfl M_3 rfl (Nat.le_of_ble_eq_true rfl) (xKd.of (shp_cli (by assumption) (by assumption))) (by decide) (c_3 ho hc) ?_ (Nat.le_of_ble_eq_true rfl) rfl
  refine AT.iret M_120 rfl rfl ?_
  exact ⟨rfl, rfl⟩
theorem c_120x {X : XS} {p : Int32} (hp : p < 0 ∨ ¬ p < 4) : RX 120 [some (.ref 1), some (.int p)] X 2 (xThr X) := by
  refine AT.iload_n M_120 rfl rfl ?_
  refine AT.cs1x M_120 rfl M_171 rfl (Nat.le_of_ble_eq_true rfl) rfl (c_171x hp) rfl rfl ?_ (Nat.le_of_ble_eq_true rfl) rfl
  exact ⟨rfl, rfl⟩
theorem c_107 {X : XS} : RT 107 [some (.ref 1)] X (some (.int (Int32.ofNat (xK X 0).2.2.length))) X := by
  have ho : (0 : Nat) < 2 := by decide
  refine AT.aload_n M_107 rfl rfl ?_
  refine AT.f_9_0 M_107 rfl ?_
  refine AT.f_1_2 M_107 rfl (by assumption) ?_
  refine AT.f_4_3 M_107 rfl (by assumption) ?_
  refine AT.iret M_107 rfl rfl ?_
  exact ⟨rfl, rfl⟩
theorem c_123 {X : XS} : RT 123 [some (.ref 1)] X (some (.int ((xK X 0).1 33 0 0))) X := by
  have ho : (0 : Nat) < 2 := by decide
  refine AT.aload_n M_123 rfl rfl ?_
  refine AT.f_9_0 M_123 rfl ?_
  refine AT.f_1_3 M_123 rfl (by assumption) ?_
  refine AT.iret M_123 rfl rfl ?_
  exact ⟨rfl, rfl⟩
theorem c_124 {X : XS} : RT 124 [some (.ref 1)] X (some (.int ((xK X 0).1 32 0 0))) X := by
  have ho : (0 : Nat) < 2 := by decide
  refine AT.aload_n M_124 rfl rfl ?_
  refine AT.f_9_0 M_124 rfl ?_
  refine AT.f_1_2 M_124 rfl (by assumption) ?_
  refine AT.f_4_5 M_124 rfl (by assumption) ?_
  refine AT.iret M_124 rfl rfl ?_
  exact ⟨rfl, rfl⟩
theorem c_148 {X : XS} : RT 148 [some (.ref 1)] X (some (.int (sCntF (fun i => decide ((xK X 0).1 12 i 0 = 3)) 7))) X := by
  have ho : (0 : Nat) < 2 := by decide
  refine AT.aload_n M_148 rfl rfl ?_
  refine AT.f_9_0 M_148 rfl ?_
  refine AT.cv1i M_148 rfl M_11 rfl (Nat.le_of_ble_eq_true rfl) (xKd.of (shp_cl (by assumption))) (by decide) (c_11 ho) ?_ (Nat.le_of_ble_eq_true rfl) rfl
  refine AT.iret M_148 rfl rfl ?_
  exact ⟨rfl, rfl⟩
/-- how far two servers agree -/
def sAgr2 (K K' : KK) (s t a a2 : Nat) : Int32 := if min (a + (K.2.1 s).length) (a2 + (K'.2.1 t).length) ≤ max a a2 then Int32.ofNat (min (a + (K.2.1 s).length) (a2 + (K'.2.1 t).length)) else Int32.ofNat (sAgrN K K' s t (min (a + (K.2.1 s).length) (a2 + (K'.2.1 t).length) - max a a2) (max a a2))
def sAgr (K : KK) (s t : Nat) : Int32 := sAgr2 K K s t (kA K s) (kA K t)
theorem kWf.ka {K : KK} {s : Nat} (h : kWf K s) : K.1 18 s 0 = Int32.ofNat (kA K s) ∧ kA K s + (K.2.1 s).length < 16777216 := by
  obtain ⟨a, h1, h2⟩ := h
  have : kA K s = a := by unfold kA; rw [h1]; exact (i32_ix (by omega)).1
  rw [this]
  exact ⟨h1, h2⟩
theorem c_73k {X : XS} {o s o' t : Nat} (ho : o < 2) (hs : s < 7) (ho2 : o' < 2) (ht : t < 7) (hw : kWf (xK X o) s) (hw2 : kWf (xK X o') t) : RT 73 [some (.ref (aS o s)), some (.ref (aS o' t)), none, none] X (some (.int (sAgr2 (xK X o) (xK X o') s t (kA (xK X o) s) (kA (xK X o') t)))) X :=
  c_73 ho hs ho2 ht hw.ka.1 hw.ka.2 hw2.ka.1 hw2.ka.2
theorem c_150 {X : XS} {s : Nat} (hs : s < 7) {j : Nat} (hj : j < 7) (hw : kWf (xK X 0) s) (hwj : kWf (xK X 0) j) : RT 150 [some (.ref 1), some (.int (Int32.ofNat s)), some (.int (Int32.ofNat j))] X (some (.int (sAgr (xK X 0) s j))) X := by
  have ho : (0 : Nat) < 2 := by decide
  refine AT.iload_n M_150 rfl rfl ?_
  refine AT.cs10 M_150 rfl M_169 rfl (Nat.le_of_ble_eq_true rfl) rfl (c_169 hj) ?_ (Nat.le_of_ble_eq_true rfl) rfl
  refine AT.aload_n M_150 rfl rfl ?_
  refine AT.iload_n M_150 rfl rfl ?_
  refine AT.cv2i M_150 rfl M_176 rfl (Nat.le_of_ble_eq_true rfl) (xKd.of (Or.inr (Or.inr (Or.inl ⟨rfl, rfl, rfl⟩)))) (by decide) (c_176 hs) ?_ (Nat.le_of_ble_eq_true rfl) rfl
  refine AT.aload_n M_150 rfl rfl ?_
  refine AT.f_9_0 M_150 rfl ?_
  refine AT.f_1_0 M_150 rfl (by assumption) ?_
  refine AT.iload_n M_150 rfl rfl ?_
  refine AT.a_svs M_150 rfl rfl (by assumption) (by assumption) ?_
  refine AT.cv2i M_150 rfl M_73 rfl (Nat.le_of_ble_eq_true rfl) (xKd.of (shp_sv (by assumption) (by assumption))) (by decide) (c_73k ho hs ho hj hw hwj) ?_ (Nat.le_of_ble_eq_true rfl) rfl
  refine AT.iret M_150 rfl rfl ?_
  exact ⟨rfl, rfl⟩
theorem c_150x1 {X : XS} {p q : Int32} (hp : q < 0 ∨ ¬ q < 7) : RX 150 [some (.ref 1), some (.int p), some (.int q)] X 2 (xThr X) := by
  have ho : (0 : Nat) < 2 := by decide
  refine AT.iload_n M_150 rfl rfl ?_
  refine AT.cs1x M_150 rfl M_169 rfl (Nat.le_of_ble_eq_true rfl) rfl (c_169x hp) rfl rfl ?_ (Nat.le_of_ble_eq_true rfl) rfl
  exact ⟨rfl, rfl⟩
theorem c_150x2 {X : XS} {p : Int32} {j : Nat} (hj : j < 7) (hp : p < 0 ∨ ¬ p < 7) : RX 150 [some (.ref 1), some (.int p), some (.int (Int32.ofNat j))] X 2 (xThr X) := by
  have ho : (0 : Nat) < 2 := by decide
  refine AT.iload_n M_150 rfl rfl ?_
  refine AT.cs10 M_150 rfl M_169 rfl (Nat.le_of_ble_eq_true rfl) rfl (c_169 hj) ?_ (Nat.le_of_ble_eq_true rfl) rfl
  refine AT.aload_n M_150 rfl rfl ?_
  refine AT.iload_n M_150 rfl rfl ?_
  refine AT.cv2x M_150 rfl M_176 rfl (Nat.le_of_ble_eq_true rfl) (xKd.of (Or.inr (Or.inr (Or.inl ⟨rfl, rfl, rfl⟩)))) (by decide) (c_176x hp) rfl rfl ?_ (Nat.le_of_ble_eq_true rfl) rfl
  exact ⟨rfl, rfl⟩
def sLdr (K : KK) : Int32 := match sNewL K 7 with | none => -1 | some b => Int32.ofNat b
theorem c_147 {X : XS} : RT 147 [some (.ref 1), none] X (some (.int (sLdr (xK X 0)))) X := by
  have ho : (0 : Nat) < 2 := by decide
  refine AT.aload_n M_147 rfl rfl ?_
  refine AT.f_9_0 M_147 rfl ?_
  refine AT.cv1i M_147 rfl M_12 rfl (Nat.le_of_ble_eq_true rfl) (xKd.of (shp_cl (by assumption))) (by decide) (c_12 ho) ?_ (Nat.le_of_ble_eq_true rfl) rfl
  cases hn : sNewL (xK X 0) 7 with
  | none =>
    show AT 147 3 [some (.ref 1), none] [.null] X _
    refine AT.zst1 M_147 rfl rfl ?_
    refine AT.aload_n0 M_147 rfl rfl ?_
    refine AT.ifnn0 M_147 rfl ?_
    refine AT.iconst M_147 rfl (v := (-1)) (by decide) ?_
    refine AT.goto M_147 rfl ?_
    refine AT.iret M_147 rfl rfl ?_
    rw [show sLdr (xK X 0) = -1 from by unfold sLdr; rw [hn]]
    exact ⟨rfl, rfl⟩
  | some b =>
    have hb : b < 7 := sNew_lt hn
    show AT 147 3 [some (.ref 1), none] [.ref (aS 0 b)] X _
    refine AT.ast1 M_147 rfl rfl ?_
    refine AT.aload_n M_147 rfl rfl ?_
    refine AT.ifnn1 M_147 rfl ?_
    refine AT.aload_n M_147 rfl rfl ?_
    refine AT.f_6_0 M_147 rfl (by assumption) (by assumption) ?_
    refine AT.iret M_147 rfl rfl ?_
    rw [show sLdr (xK X 0) = Int32.ofNat b from by unfold sLdr; rw [hn]]
    exact ⟨rfl, rfl⟩
