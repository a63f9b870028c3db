/-! ===== THE FACE OF THE CLASS: moves ===== -/
def kApp (K : KK) (s : Nat) (e : ENT) : KK := kLog K s (K.2.1 s ++ [e])
theorem kApp_ok {K : KK} {s : Nat} {e : ENT} (h : sOk K s) (he : eOk e) (hB : kA K s + (K.2.1 s).length + 1 < 400000) : sOk (kApp K s e) s := by
  have e3 : (kApp K s e).2.1 s = K.2.1 s ++ [e] := if_pos rfl
  obtain ⟨h1, h2, h3, h4, h5, h6, h7⟩ := h
  unfold sOk
  rw [e3, List.length_append, List.length_singleton]
  refine ⟨h1, h2, h3, by show kC K s ≤ kA K s + _; omega, by show kA K s + _ < _; omega, fun x hx => ?_, h7⟩
  rcases List.mem_append.mp hx with z | z
  · exact h6 x z
  · rw [List.mem_singleton.mp z]; exact he
theorem c_28k {X : XS} {o s : Nat} (ho : o < 2) (hs : s < 7) (hp : mPr X o) (hk : sOk (xK X o) s) : RT 28 [some (.ref (aB o)), some (.ref (aS o s)), none] X none (xSetK X o (kLk (xK X o) s)) :=
  c_28 (a := kA (xK X o) s) (c := kC (xK X o) s) (n := kA (xK X o) s + ((xK X o).2.1 s).length - kC (xK X o) s) ho hs (hp s hs).1 (hp s hs).2 hk.1 hk.2.1 hk.2.2.1 (by have := hk.2.2.2.1; omega) (by have := hk.2.2.2.2.1; omega) hk.2.2.2.2.2.1
def sUp (K : KK) : Int32 := sCntF (fun i => decide (¬ K.1 4 i 0 = 0)) 7
def sMayS (K : KK) (s : Nat) : Bool := decide (¬ K.1 4 s 0 = 0) && (decide (¬ K.1 12 s 0 = 3) && sBit (sMem K s) s)
def sMayC (K : KK) (s : Nat) : Bool := decide (K.1 12 s 0 = 3) && (decide (sTix K s (K.1 15 s 0) = K.1 5 s 0) && (decide (¬ K.1 15 s 0 < sMix K s) && decide (¬ (40 : Int32) ≤ Int32.ofNat (K.2.1 s).length)))
def sHO (K : KK) (s j : Nat) : Bool := decide (K.1 12 s 0 = 3) && (sBit (sMem K s) j && decide (sLast K s ≤ K.1 3 s j))
def mHur (K : KK) (s j : Nat) : MSG := mNew0 8 (Int32.ofNat s) (Int32.ofNat j) (K.1 5 s 0)
def kAsk (K : KK) (c : Nat) (kd ky ex vl : Int32) : KK := kSet (kRow K 34 c (rAsk (Int32.ofNat c) (K.1 34 c 3 + 1) kd ky ex vl)) 35 c 0 0
def eReq (K : KK) (s c : Nat) : ENT := fun k => if k = 0 then K.1 5 s 0 else K.1 34 c k
def sFlip (m : Int32) (j : Nat) : Int32 := m ^^^ ((1 : Int32) <<< (Int32.ofNat j &&& 31))
def kJoin (K : KK) (s j : Nat) (e : ENT) : KK := kLk (kSet (kSet (kApp K s e) 2 s j (sLast (kApp K s e) s)) 3 s j 0) s
theorem sFlip_all : ∀ n, n < 128 → ∀ j, j < 7 → (∃ k, k < 128 ∧ sFlip (Int32.ofNat n) j = Int32.ofNat k) ∧ (sBit (Int32.ofNat n) j = false → Int32.ofNat n ||| ((1 : Int32) <<< (Int32.ofNat j &&& 31)) = sFlip (Int32.ofNat n) j) ∧ (sBit (Int32.ofNat n) j = true → Int32.ofNat n &&& (((1 : Int32) <<< (Int32.ofNat j &&& 31)) ^^^ (-1)) = sFlip (Int32.ofNat n) j) := by
  unfold sFlip sBit
  decide +kernel
theorem eMem_ok {t m : Int32} (h : ∃ n : Nat, n < 128 ∧ m = Int32.ofNat n) : eOk (eNil t 4 m) := ⟨fun _ => h, fun z => absurd (show (4 : Int32) ≤ 3 from z.2) (by decide)⟩
theorem dRq.new {D : XD} {q ci z : Nat} {r : ENT} (hz : (dE D (dC D + 1)).1 = 0) (h : dRq D q r) : dRq (dNew D (dC D + 1) ci z) q r := by
  obtain ⟨r', h1, h2⟩ := h
  refine ⟨r', ?_, h2⟩
  have hq : ¬ q = dC D + 1 := fun e => by rw [← e, h1] at hz; exact absurd hz (show ¬ (2 : Nat) = 0 by decide)
  show (if q = dC D + 1 then _ else dE D q) = _
  rw [if_neg hq]
  exact h1
theorem c_96 {X : XS} {s : Nat} (hs : s < 7) (hup : ¬ (xK X 0).1 4 s 0 = 0) : RT 96 [some (.ref 1), some (.int (Int32.ofNat s)), none] X (some (.int (sUp (kDown (xK X 0) s)))) (xSetK X 0 (kDown (xK X 0) s)) := by
  have ho : (0 : Nat) < 2 := by decide
  refine AT.aload_n M_96 rfl rfl ?_
  refine AT.iload_n M_96 rfl rfl ?_
  refine AT.cv2i M_96 rfl M_176 rfl (Nat.le_of_ble_eq_true rfl) (xKd.of (Or.inr (Or.inr (Or.inl ⟨rfl, rfl, rfl⟩)))) (by decide) (c_176 hs) ?_ (Nat.le_of_ble_eq_true rfl) rfl
  refine AT.ast2 M_96 rfl rfl ?_
  refine AT.aload_n M_96 rfl rfl ?_
  refine AT.f_6_4 M_96 rfl (by assumption) (by assumption) ?_
  refine AT.if_ne M_96 rfl (fun b6 => ?_) (fun b6 => absurd hup b6)
  refine AT.iconst M_96 rfl (v := 0) (by decide) ?_
  refine AT.cs10 M_96 rfl M_168 rfl (Nat.le_of_ble_eq_true rfl) rfl c_168 ?_ (Nat.le_of_ble_eq_true rfl) rfl
  refine AT.aload_n M_96 rfl rfl ?_
  refine AT.cv10 M_96 rfl M_59 rfl (Nat.le_of_ble_eq_true rfl) (xKd.of (shp_sv (by assumption) (by assumption))) (by decide) (c_59 ho hs) ?_ (Nat.le_of_ble_eq_true rfl) rfl
  refine AT.aload_n M_96 rfl rfl ?_
  refine AT.f_9_0 M_96 rfl ?_
  refine AT.cv1i M_96 rfl M_10 rfl (Nat.le_of_ble_eq_true rfl) (xKd.of (shp_cl (by assumption))) (by decide) (c_10 ho) ?_ (Nat.le_of_ble_eq_true rfl) rfl
  refine AT.iret M_96 rfl rfl ?_
  rw [xK_same]
  exact ⟨rfl, rfl⟩
theorem c_96x2 {X : XS} {s : Nat} (hs : s < 7) (hup : (xK X 0).1 4 s 0 = 0) : RX 96 [some (.ref 1), some (.int (Int32.ofNat s)), none] X 1 (xThr X) := by
  have ho : (0 : Nat) < 2 := by decide
  refine AT.aload_n M_96 rfl rfl ?_
  refine AT.iload_n M_96 rfl rfl ?_
  refine AT.cv2i M_96 rfl M_176 rfl (Nat.le_of_ble_eq_true rfl) (xKd.of (Or.inr (Or.inr (Or.inl ⟨rfl, rfl, rfl⟩)))) (by decide) (c_176 hs) ?_ (Nat.le_of_ble_eq_true rfl) rfl
  refine AT.ast2 M_96 rfl rfl ?_
  refine AT.aload_n M_96 rfl rfl ?_
  refine AT.f_6_4 M_96 rfl (by assumption) (by assumption) ?_
  refine AT.if_ne M_96 rfl (fun b6 => absurd hup b6) (fun b6 => ?_)
  refine AT.iconst M_96 rfl (v := 1) (by decide) ?_
  refine AT.goto M_96 rfl ?_
  refine AT.cs1x M_96 rfl M_168 rfl (Nat.le_of_ble_eq_true rfl) rfl c_168x rfl rfl ?_ (Nat.le_of_ble_eq_true rfl) rfl
  exact ⟨rfl, rfl⟩
theorem c_96x1 {X : XS} {p : Int32} (hp : p < 0 ∨ ¬ p < 7) : RX 96 [some (.ref 1), some (.int p), none] X 2 (xThr X) := by
  have ho : (0 : Nat) < 2 := by decide
  refine AT.aload_n M_96 rfl rfl ?_
  refine AT.iload_n M_96 rfl rfl ?_
  refine AT.cv2x M_96 rfl M_176 rfl (Nat.le_of_ble_eq_true rfl) (xKd.of (Or.inr (Or.inr (Or.inl ⟨rfl, rfl, rfl⟩)))) (by decide) (c_176x hp) rfl rfl ?_ (Nat.le_of_ble_eq_true rfl) rfl
  exact ⟨rfl, rfl⟩
theorem c_168z {X : XS} {x : Int32} (h : x = 0) : RT 168 [some (.int x)] X none X := by
  subst h; exact c_168
theorem c_168w {X : XS} {x : Int32} (h : x = 1) : RX 168 [some (.int x)] X 1 (xThr X) := by
  subst h; exact c_168x
theorem c_97 {X : XS} {s : Nat} (hs : s < 7) (hup : (xK X 0).1 4 s 0 = 0) : RT 97 [some (.ref 1), some (.int (Int32.ofNat s)), none] X (some (.int (sUp (kSet (xK X 0) 4 s 0 1)))) (xSetK X 0 (kSet (xK X 0) 4 s 0 1)) := by
  have ho : (0 : Nat) < 2 := by decide
  refine AT.aload_n M_97 rfl rfl ?_
  refine AT.iload_n M_97 rfl rfl ?_
  refine AT.cv2i M_97 rfl M_176 rfl (Nat.le_of_ble_eq_true rfl) (xKd.of (Or.inr (Or.inr (Or.inl ⟨rfl, rfl, rfl⟩)))) (by decide) (c_176 hs) ?_ (Nat.le_of_ble_eq_true rfl) rfl
  refine AT.ast2 M_97 rfl rfl ?_
  refine AT.aload_n M_97 rfl rfl ?_
  refine AT.f_6_4 M_97 rfl (by assumption) (by assumption) ?_
  refine AT.cs10 M_97 rfl M_168 rfl (Nat.le_of_ble_eq_true rfl) rfl (c_168z hup) ?_ (Nat.le_of_ble_eq_true rfl) rfl
  refine AT.aload_n M_97 rfl rfl ?_
  refine AT.iconst M_97 rfl (v := 1) (by decide) ?_
  refine AT.p_6_4 M_97 rfl (by assumption) (by assumption) (by first | exact Or.inl rfl | exact Or.inr rfl | assumption) ?_
  refine AT.aload_n M_97 rfl rfl ?_
  refine AT.f_9_0 M_97 rfl ?_
  refine AT.cv1i M_97 rfl M_10 rfl (Nat.le_of_ble_eq_true rfl) (xKd.of (shp_cl (by assumption))) (by decide) (c_10 ho) ?_ (Nat.le_of_ble_eq_true rfl) rfl
  refine AT.iret M_97 rfl rfl ?_
  rw [xK_same]
  exact ⟨rfl, rfl⟩
theorem c_97x2 {X : XS} {s : Nat} (hs : s < 7) (hup : (xK X 0).1 4 s 0 = 1) : RX 97 [some (.ref 1), some (.int (Int32.ofNat s)), none] X 1 (xThr X) := by
  have ho : (0 : Nat) < 2 := by decide
  refine AT.aload_n M_97 rfl rfl ?_
  refine AT.iload_n M_97 rfl rfl ?_
  refine AT.cv2i M_97 rfl M_176 rfl (Nat.le_of_ble_eq_true rfl) (xKd.of (Or.inr (Or.inr (Or.inl ⟨rfl, rfl, rfl⟩)))) (by decide) (c_176 hs) ?_ (Nat.le_of_ble_eq_true rfl) rfl
  refine AT.ast2 M_97 rfl rfl ?_
  refine AT.aload_n M_97 rfl rfl ?_
  refine AT.f_6_4 M_97 rfl (by assumption) (by assumption) ?_
  refine AT.cs1x M_97 rfl M_168 rfl (Nat.le_of_ble_eq_true rfl) rfl (c_168w hup) rfl rfl ?_ (Nat.le_of_ble_eq_true rfl) rfl
  exact ⟨rfl, rfl⟩
theorem c_97x1 {X : XS} {p : Int32} (hp : p < 0 ∨ ¬ p < 7) : RX 97 [some (.ref 1), some (.int p), none] X 2 (xThr X) := by
  have ho : (0 : Nat) < 2 := by decide
  refine AT.aload_n M_97 rfl rfl ?_
  refine AT.iload_n M_97 rfl rfl ?_
  refine AT.cv2x M_97 rfl M_176 rfl (Nat.le_of_ble_eq_true rfl) (xKd.of (Or.inr (Or.inr (Or.inl ⟨rfl, rfl, rfl⟩)))) (by decide) (c_176x hp) rfl rfl ?_ (Nat.le_of_ble_eq_true rfl) rfl
  exact ⟨rfl, rfl⟩
theorem c_98 {X : XS} {s : Nat} (hs : s < 7) {j : Nat} (hj : j < 7) (hne : ¬ s = j) (hb : sBit ((xK X 0).1 30 s 0) j = false) : RT 98 [some (.ref 1), some (.int (Int32.ofNat s)), some (.int (Int32.ofNat j))] X (some (.int (dV (xD X) 0 31 0 0 + (if sBit ((kTurn (xK X 0) s j).1 30 s 0) j = true then 1 else -1)))) (xSetK (xSetD X (dSetV (xD X) 0 31 0 0 (dV (xD X) 0 31 0 0 + (if sBit ((kTurn (xK X 0) s j).1 30 s 0) j = true then 1 else -1)))) 0 (kTurn (xK X 0) s j)) := by
  have ho : (0 : Nat) < 2 := by decide
  refine AT.iload_n M_98 rfl rfl ?_
  refine AT.iload_n M_98 rfl rfl ?_
  refine AT.cs20 M_98 rfl M_170 rfl (Nat.le_of_ble_eq_true rfl) rfl (c_170 hs hj hne) ?_ (Nat.le_of_ble_eq_true rfl) rfl
  refine AT.aload_n M_98 rfl rfl ?_
  refine AT.f_9_0 M_98 rfl ?_
  refine AT.f_1_2 M_98 rfl (by assumption) ?_
  refine AT.iload_n M_98 rfl rfl ?_
  refine AT.iload_n M_98 rfl rfl ?_
  refine AT.cv3i M_98 rfl M_50 rfl (Nat.le_of_ble_eq_true rfl) (xKd.of (shp_net ho)) (by decide) (c_50 ho hs hj) ?_ (Nat.le_of_ble_eq_true rfl) rfl
  refine AT.cs10 M_98 rfl M_168 rfl (Nat.le_of_ble_eq_true rfl) rfl (c_168z (bI_eq0.mpr hb)) ?_ (Nat.le_of_ble_eq_true rfl) rfl
  refine AT.aload_n M_98 rfl rfl ?_
  refine AT.f_9_0 M_98 rfl ?_
  refine AT.f_1_2 M_98 rfl (by assumption) ?_
  refine AT.iload_n M_98 rfl rfl ?_
  refine AT.iload_n M_98 rfl rfl ?_
  refine AT.cv3i M_98 rfl M_51 rfl (Nat.le_of_ble_eq_true rfl) (xKd.of (shp_net ho)) (by decide) (c_51 ho hs hj) ?_ (Nat.le_of_ble_eq_true rfl) rfl
  refine AT.iret M_98 rfl rfl ?_
  exact ⟨rfl, rfl⟩
theorem c_98x4 {X : XS} {s : Nat} (hs : s < 7) {j : Nat} (hj : j < 7) (hne : ¬ s = j) (hb : sBit ((xK X 0).1 30 s 0) j = true) : RX 98 [some (.ref 1), some (.int (Int32.ofNat s)), some (.int (Int32.ofNat j))] X 1 (xThr X) := by
  have ho : (0 : Nat) < 2 := by decide
  refine AT.iload_n M_98 rfl rfl ?_
  refine AT.iload_n M_98 rfl rfl ?_
  refine AT.cs20 M_98 rfl M_170 rfl (Nat.le_of_ble_eq_true rfl) rfl (c_170 hs hj hne) ?_ (Nat.le_of_ble_eq_true rfl) rfl
  refine AT.aload_n M_98 rfl rfl ?_
  refine AT.f_9_0 M_98 rfl ?_
  refine AT.f_1_2 M_98 rfl (by assumption) ?_
  refine AT.iload_n M_98 rfl rfl ?_
  refine AT.iload_n M_98 rfl rfl ?_
  refine AT.cv3i M_98 rfl M_50 rfl (Nat.le_of_ble_eq_true rfl) (xKd.of (shp_net ho)) (by decide) (c_50 ho hs hj) ?_ (Nat.le_of_ble_eq_true rfl) rfl
  refine AT.cs1x M_98 rfl M_168 rfl (Nat.le_of_ble_eq_true rfl) rfl (c_168w (by unfold bI; rw [if_pos hb])) rfl rfl ?_ (Nat.le_of_ble_eq_true rfl) rfl
  exact ⟨rfl, rfl⟩
theorem c_99 {X : XS} {s : Nat} (hs : s < 7) {j : Nat} (hj : j < 7) (hne : ¬ s = j) (hb : sBit ((xK X 0).1 30 s 0) j = true) : RT 99 [some (.ref 1), some (.int (Int32.ofNat s)), some (.int (Int32.ofNat j))] X (some (.int (dV (xD X) 0 31 0 0 + (if sBit ((kTurn (xK X 0) s j).1 30 s 0) j = true then 1 else -1)))) (xSetK (xSetD X (dSetV (xD X) 0 31 0 0 (dV (xD X) 0 31 0 0 + (if sBit ((kTurn (xK X 0) s j).1 30 s 0) j = true then 1 else -1)))) 0 (kTurn (xK X 0) s j)) := by
  have ho : (0 : Nat) < 2 := by decide
  refine AT.iload_n M_99 rfl rfl ?_
  refine AT.iload_n M_99 rfl rfl ?_
  refine AT.cs20 M_99 rfl M_170 rfl (Nat.le_of_ble_eq_true rfl) rfl (c_170 hs hj hne) ?_ (Nat.le_of_ble_eq_true rfl) rfl
  refine AT.aload_n M_99 rfl rfl ?_
  refine AT.f_9_0 M_99 rfl ?_
  refine AT.f_1_2 M_99 rfl (by assumption) ?_
  refine AT.iload_n M_99 rfl rfl ?_
  refine AT.iload_n M_99 rfl rfl ?_
  refine AT.cv3i M_99 rfl M_50 rfl (Nat.le_of_ble_eq_true rfl) (xKd.of (shp_net ho)) (by decide) (c_50 ho hs hj) ?_ (Nat.le_of_ble_eq_true rfl) rfl
  refine AT.if_ne M_99 rfl (fun b9 => ?_) (fun b9 => absurd (bI_ne0.mpr hb) b9)
  refine AT.iconst M_99 rfl (v := 0) (by decide) ?_
  refine AT.cs10 M_99 rfl M_168 rfl (Nat.le_of_ble_eq_true rfl) rfl c_168 ?_ (Nat.le_of_ble_eq_true rfl) rfl
  refine AT.aload_n M_99 rfl rfl ?_
  refine AT.f_9_0 M_99 rfl ?_
  refine AT.f_1_2 M_99 rfl (by assumption) ?_
  refine AT.iload_n M_99 rfl rfl ?_
  refine AT.iload_n M_99 rfl rfl ?_
  refine AT.cv3i M_99 rfl M_51 rfl (Nat.le_of_ble_eq_true rfl) (xKd.of (shp_net ho)) (by decide) (c_51 ho hs hj) ?_ (Nat.le_of_ble_eq_true rfl) rfl
  refine AT.iret M_99 rfl rfl ?_
  exact ⟨rfl, rfl⟩
theorem c_99x4 {X : XS} {s : Nat} (hs : s < 7) {j : Nat} (hj : j < 7) (hne : ¬ s = j) (hb : sBit ((xK X 0).1 30 s 0) j = false) : RX 99 [some (.ref 1), some (.int (Int32.ofNat s)), some (.int (Int32.ofNat j))] X 1 (xThr X) := by
  have ho : (0 : Nat) < 2 := by decide
  refine AT.iload_n M_99 rfl rfl ?_
  refine AT.iload_n M_99 rfl rfl ?_
  refine AT.cs20 M_99 rfl M_170 rfl (Nat.le_of_ble_eq_true rfl) rfl (c_170 hs hj hne) ?_ (Nat.le_of_ble_eq_true rfl) rfl
  refine AT.aload_n M_99 rfl rfl ?_
  refine AT.f_9_0 M_99 rfl ?_
  refine AT.f_1_2 M_99 rfl (by assumption) ?_
  refine AT.iload_n M_99 rfl rfl ?_
  refine AT.iload_n M_99 rfl rfl ?_
  refine AT.cv3i M_99 rfl M_50 rfl (Nat.le_of_ble_eq_true rfl) (xKd.of (shp_net ho)) (by decide) (c_50 ho hs hj) ?_ (Nat.le_of_ble_eq_true rfl) rfl
  refine AT.if_ne M_99 rfl (fun b9 => absurd (bI_eq0.mpr hb) b9) (fun b9 => ?_)
  refine AT.iconst M_99 rfl (v := 1) (by decide) ?_
  refine AT.goto M_99 rfl ?_
  refine AT.cs1x M_99 rfl M_168 rfl (Nat.le_of_ble_eq_true rfl) rfl c_168x rfl rfl ?_ (Nat.le_of_ble_eq_true rfl) rfl
  exact ⟨rfl, rfl⟩
theorem c_98x1 {X : XS} {p q : Int32} (hp : p < 0 ∨ ¬ p < 7) : RX 98 [some (.ref 1), some (.int p), some (.int q)] X 2 (xThr X) := by
  refine AT.iload_n M_98 rfl rfl ?_
  refine AT.iload_n M_98 rfl rfl ?_
  refine AT.cs2x M_98 rfl M_170 rfl (Nat.le_of_ble_eq_true rfl) rfl (c_170x1 hp) rfl rfl ?_ (Nat.le_of_ble_eq_true rfl) rfl
  exact ⟨rfl, rfl⟩
theorem c_98x2 {X : XS} {s : Nat} (hs : s < 7) {q : Int32} (hp : q < 0 ∨ ¬ q < 7) : RX 98 [some (.ref 1), some (.int (Int32.ofNat s)), some (.int q)] X 2 (xThr X) := by
  refine AT.iload_n M_98 rfl rfl ?_
  refine AT.iload_n M_98 rfl rfl ?_
  refine AT.cs2x M_98 rfl M_170 rfl (Nat.le_of_ble_eq_true rfl) rfl (c_170x2 hs hp) rfl rfl ?_ (Nat.le_of_ble_eq_true rfl) rfl
  exact ⟨rfl, rfl⟩
theorem c_98x3 {X : XS} {s : Nat} (hs : s < 7) : RX 98 [some (.ref 1), some (.int (Int32.ofNat s)), some (.int (Int32.ofNat s))] X 0 (xThr X) := by
  refine AT.iload_n M_98 rfl rfl ?_
  refine AT.iload_n M_98 rfl rfl ?_
  refine AT.cs2x M_98 rfl M_170 rfl (Nat.le_of_ble_eq_true rfl) rfl (c_170x3 hs) rfl rfl ?_ (Nat.le_of_ble_eq_true rfl) rfl
  exact ⟨rfl, rfl⟩
theorem c_99x1 {X : XS} {p q : Int32} (hp : p < 0 ∨ ¬ p < 7) : RX 99 [some (.ref 1), some (.int p), some (.int q)] X 2 (xThr X) := by
  refine AT.iload_n M_99 rfl rfl ?_
  refine AT.iload_n M_99 rfl rfl ?_
  refine AT.cs2x M_99 rfl M_170 rfl (Nat.le_of_ble_eq_true rfl) rfl (c_170x1 hp) rfl rfl ?_ (Nat.le_of_ble_eq_true rfl) rfl
  exact ⟨rfl, rfl⟩
theorem c_99x2 {X : XS} {s : Nat} (hs : s < 7) {q : Int32} (hp : q < 0 ∨ ¬ q < 7) : RX 99 [some (.ref 1), some (.int (Int32.ofNat s)), some (.int q)] X 2 (xThr X) := by
  refine AT.iload_n M_99 rfl rfl ?_
  refine AT.iload_n M_99 rfl rfl ?_
  refine AT.cs2x M_99 rfl M_170 rfl (Nat.le_of_ble_eq_true rfl) rfl (c_170x2 hs hp) rfl rfl ?_ (Nat.le_of_ble_eq_true rfl) rfl
  exact ⟨rfl, rfl⟩
theorem c_99x3 {X : XS} {s : Nat} (hs : s < 7) : RX 99 [some (.ref 1), some (.int (Int32.ofNat s)), some (.int (Int32.ofNat s))] X 0 (xThr X) := by
  refine AT.iload_n M_99 rfl rfl ?_
  refine AT.iload_n M_99 rfl rfl ?_
  refine AT.cs2x M_99 rfl M_170 rfl (Nat.le_of_ble_eq_true rfl) rfl (c_170x3 hs) rfl rfl ?_ (Nat.le_of_ble_eq_true rfl) rfl
  exact ⟨rfl, rfl⟩
theorem c_104x1 {X : XS} {p q : Int32} (hp : p < 0 ∨ ¬ p < 7) : RX 104 [some (.ref 1), some (.int p), some (.int q), none] X 2 (xThr X) := by
  refine AT.iload_n M_104 rfl rfl ?_
  refine AT.iload_n M_104 rfl rfl ?_
  refine AT.cs2x M_104 rfl M_170 rfl (Nat.le_of_ble_eq_true rfl) rfl (c_170x1 hp) rfl rfl ?_ (Nat.le_of_ble_eq_true rfl) rfl
  exact ⟨rfl, rfl⟩
theorem c_104x2 {X : XS} {s : Nat} (hs : s < 7) {q : Int32} (hp : q < 0 ∨ ¬ q < 7) : RX 104 [some (.ref 1), some (.int (Int32.ofNat s)), some (.int q), none] X 2 (xThr X) := by
  refine AT.iload_n M_104 rfl rfl ?_
  refine AT.iload_n M_104 rfl rfl ?_
  refine AT.cs2x M_104 rfl M_170 rfl (Nat.le_of_ble_eq_true rfl) rfl (c_170x2 hs hp) rfl rfl ?_ (Nat.le_of_ble_eq_true rfl) rfl
  exact ⟨rfl, rfl⟩
theorem c_104x3 {X : XS} {s : Nat} (hs : s < 7) : RX 104 [some (.ref 1), some (.int (Int32.ofNat s)), some (.int (Int32.ofNat s)), none] X 0 (xThr X) := by
  refine AT.iload_n M_104 rfl rfl ?_
  refine AT.iload_n M_104 rfl rfl ?_
  refine AT.cs2x M_104 rfl M_170 rfl (Nat.le_of_ble_eq_true rfl) rfl (c_170x3 hs) rfl rfl ?_ (Nat.le_of_ble_eq_true rfl) rfl
  exact ⟨rfl, rfl⟩
theorem c_95 {X : XS} {n : Nat} {m : Int32} (hp : mPr X 0) (hm : (1 : Int32) ≤ m ∧ m ≤ 7) : RU 95 [some (.ref 1), some (.int m)] X (some (.int (m / 2 + 1))) (fun Y => ∃ Z, cRel0 0 n 5 (pF 7 + pF 8 + 16) X Z (kBegC 4 0 (kBegS (sFirst m) 7 0 (xK X 0))) ∧ Y = xSetK (xCutL Z 0 0) 0 (kSet (kClr (xK Z 0)) 33 0 0 0)) := by
  have ho : (0 : Nat) < 2 := by decide
  refine AT.iload_n M_95 rfl rfl ?_
  refine AT.iconst M_95 rfl (v := 1) (by decide) ?_
  refine AT.icmp_lt M_95 rfl (fun b2 => absurd b2 (Int32.not_lt.mpr hm.1)) (fun b2 => ?_)
  refine AT.iload_n M_95 rfl rfl ?_
  refine AT.bipush M_95 rfl (v := 7) (by decide) ?_
  refine AT.icmp_le M_95 rfl (fun b5 => ?_) (fun b5 => absurd hm.2 b5)
  refine AT.aload_n M_95 rfl rfl ?_
  refine AT.f_9_0 M_95 rfl ?_
  refine AT.iload_n M_95 rfl rfl ?_
  refine AT.cv2w M_95 rfl M_8 rfl (Nat.le_of_ble_eq_true rfl) (xKd.of (shp_cl (by assumption))) (by decide) (c_8 (n := n) ho hp) (fun Y hc14 => ?_) (Nat.le_of_ble_eq_true rfl) rfl
  refine AT.iload_n M_95 rfl rfl ?_
  refine AT.iconst M_95 rfl (v := 2) (by decide) ?_
  refine AT.idiv M_95 rfl (by decide) rfl ?_
  refine AT.iconst M_95 rfl (v := 1) (by decide) ?_
  refine AT.iadd M_95 rfl rfl ?_
  refine AT.iret M_95 rfl rfl ?_
  exact ⟨rfl, hc14⟩
theorem c_95x {X : XS} {m : Int32} (hm : ¬ ((1 : Int32) ≤ m ∧ m ≤ 7)) : RX 95 [some (.ref 1), some (.int m)] X 0 (xThr X) := by
  have ho : (0 : Nat) < 2 := by decide
  refine AT.iload_n M_95 rfl rfl ?_
  refine AT.iconst M_95 rfl (v := 1) (by decide) ?_
  refine AT.icmp_lt M_95 rfl (fun b2 => ?_) (fun b2 => ?_)
  · refine AT.thr M_95 rfl rfl (Nat.le_of_ble_eq_true rfl) rfl ?_
    exact ⟨rfl, rfl⟩
  · refine AT.iload_n M_95 rfl rfl ?_
    refine AT.bipush M_95 rfl (v := 7) (by decide) ?_
    refine AT.icmp_le M_95 rfl (fun b5 => absurd b5 (fun z => hm ⟨Int32.not_lt.mp b2, z⟩)) (fun b5 => ?_)
    refine AT.thr M_95 rfl rfl (Nat.le_of_ble_eq_true rfl) rfl ?_
    exact ⟨rfl, rfl⟩
theorem c_101 {X : XS} {s : Nat} (hs : s < 7) {n : Nat} (hp : mPr X 0) (hk : sOk (xK X 0) s) (hB : kA (xK X 0) s + ((xK X 0).2.1 s).length + 1 < 400000) (hn : ((xK X 0).2.1 s).length ≤ n) (hb : sMayS (xK X 0) s = true) : RU 101 [some (.ref 1), some (.int (Int32.ofNat s)), none] X (some (.int ((kSoundA (xK X 0) s).1 12 s 0))) (fun Y => cRel 0 n (kSoundN (xK X 0) s) (kSoundN (xK X 0) s * pF 2) X Y (kSoundA (xK X 0) s)) := by
  have ho : (0 : Nat) < 2 := by decide
  have hB0 := hb
  unfold sMayS at hB0
  rw [← (hp s hs).1] at hB0
  refine AT.aload_n M_101 rfl rfl ?_
  refine AT.iload_n M_101 rfl rfl ?_
  refine AT.cv2i M_101 rfl M_176 rfl (Nat.le_of_ble_eq_true rfl) (xKd.of (Or.inr (Or.inr (Or.inl ⟨rfl, rfl, rfl⟩)))) (by decide) (c_176 hs) ?_ (Nat.le_of_ble_eq_true rfl) rfl
  refine AT.ast2 M_101 rfl rfl ?_
  refine AT.aload_n M_101 rfl rfl ?_
  refine AT.cv1i M_101 rfl M_70 rfl (Nat.le_of_ble_eq_true rfl) (xKd.of (shp_sv (by assumption) (by assumption))) (by decide) (c_70 ho hs) ?_ (Nat.le_of_ble_eq_true rfl) rfl
  refine AT.if_ne M_101 rfl (fun b6 => ?_) (fun b6 => absurd (bI_ne0.mpr hB0) b6)
  refine AT.iconst M_101 rfl (v := 0) (by decide) ?_
  refine AT.cs10 M_101 rfl M_168 rfl (Nat.le_of_ble_eq_true rfl) rfl c_168 ?_ (Nat.le_of_ble_eq_true rfl) rfl
  refine AT.aload_n M_101 rfl rfl ?_
  refine AT.f_9_0 M_101 rfl ?_
  refine AT.aload_n M_101 rfl rfl ?_
  refine AT.iconst M_101 rfl (v := 1) (by decide) ?_
  refine AT.cv3w M_101 rfl M_22 rfl (Nat.le_of_ble_eq_true rfl) (xKd.of (shp_cl (by assumption))) (by decide) (c_22 (n := n) ho hs hp hk hB hn) (fun Y hc15 => ?_) (Nat.le_of_ble_eq_true rfl) rfl
  refine AT.aload_n M_101 rfl rfl ?_
  refine AT.f_6_12 M_101 rfl (by assumption) (by assumption) ?_
  refine AT.iret M_101 rfl rfl ?_
  rw [kRiseN_1, show kRise (xK X 0) s 1 = kSoundA (xK X 0) s from rfl] at hc15
  rw [hc15.k]
  exact ⟨rfl, hc15⟩
theorem c_101x2 {X : XS} {s : Nat} (hs : s < 7) (hp : mPr X 0) (hb : sMayS (xK X 0) s = false) : RX 101 [some (.ref 1), some (.int (Int32.ofNat s)), none] X 1 (xThr X) := by
  have ho : (0 : Nat) < 2 := by decide
  have hB0 := hb
  unfold sMayS at hB0
  rw [← (hp s hs).1] at hB0
  refine AT.aload_n M_101 rfl rfl ?_
  refine AT.iload_n M_101 rfl rfl ?_
  refine AT.cv2i M_101 rfl M_176 rfl (Nat.le_of_ble_eq_true rfl) (xKd.of (Or.inr (Or.inr (Or.inl ⟨rfl, rfl, rfl⟩)))) (by decide) (c_176 hs) ?_ (Nat.le_of_ble_eq_true rfl) rfl
  refine AT.ast2 M_101 rfl rfl ?_
  refine AT.aload_n M_101 rfl rfl ?_
  refine AT.cv1i M_101 rfl M_70 rfl (Nat.le_of_ble_eq_true rfl) (xKd.of (shp_sv (by assumption) (by assumption))) (by decide) (c_70 ho hs) ?_ (Nat.le_of_ble_eq_true rfl) rfl
  refine AT.if_ne M_101 rfl (fun b6 => absurd (bI_eq0.mpr hB0) b6) (fun b6 => ?_)
  refine AT.iconst M_101 rfl (v := 1) (by decide) ?_
  refine AT.goto M_101 rfl ?_
  refine AT.cs1x M_101 rfl M_168 rfl (Nat.le_of_ble_eq_true rfl) rfl c_168x rfl rfl ?_ (Nat.le_of_ble_eq_true rfl) rfl
  exact ⟨rfl, rfl⟩
theorem c_101x1 {X : XS} {p : Int32} (hp : p < 0 ∨ ¬ p < 7) : RX 101 [some (.ref 1), some (.int p), none] X 2 (xThr X) := by
  have ho : (0 : Nat) < 2 := by decide
  refine AT.aload_n M_101 rfl rfl ?_
  refine AT.iload_n M_101 rfl rfl ?_
  refine AT.cv2x M_101 rfl M_176 rfl (Nat.le_of_ble_eq_true rfl) (xKd.of (Or.inr (Or.inr (Or.inl ⟨rfl, rfl, rfl⟩)))) (by decide) (c_176x hp) rfl rfl ?_ (Nat.le_of_ble_eq_true rfl) rfl
  exact ⟨rfl, rfl⟩
theorem c_102 {X : XS} {s : Nat} (hs : s < 7) {n : Nat} (hp : mPr X 0) (hk : sOk (xK X 0) s) (hr : (xK X 0).1 12 s 0 = 3) (hN : ∀ q, q < 7 → kNx (xK X 0) s q) : RU 102 [some (.ref 1), some (.int (Int32.ofNat s)), none] X (some (.int (sCntF (sToP s (sMem (xK X 0) s)) 7))) (fun Y => cRel 0 n 0 0 X Y (kSnd (xK X 0) s)) := by
  have ho : (0 : Nat) < 2 := by decide
  refine AT.aload_n M_102 rfl rfl ?_
  refine AT.iload_n M_102 rfl rfl ?_
  refine AT.cv2i M_102 rfl M_176 rfl (Nat.le_of_ble_eq_true rfl) (xKd.of (Or.inr (Or.inr (Or.inl ⟨rfl, rfl, rfl⟩)))) (by decide) (c_176 hs) ?_ (Nat.le_of_ble_eq_true rfl) rfl
  refine AT.ast2 M_102 rfl rfl ?_
  refine AT.aload_n M_102 rfl rfl ?_
  refine AT.f_6_12 M_102 rfl (by assumption) (by assumption) ?_
  refine AT.iconst M_102 rfl (v := 3) (by decide) ?_
  refine AT.icmp_eq M_102 rfl (fun b7 => ?_) (fun b7 => absurd hr b7)
  refine AT.iconst M_102 rfl (v := 0) (by decide) ?_
  refine AT.cs10 M_102 rfl M_168 rfl (Nat.le_of_ble_eq_true rfl) rfl c_168 ?_ (Nat.le_of_ble_eq_true rfl) rfl
  refine AT.aload_n M_102 rfl rfl ?_
  refine AT.f_9_0 M_102 rfl ?_
  refine AT.aload_n M_102 rfl rfl ?_
  refine AT.cv2i M_102 rfl M_26 rfl (Nat.le_of_ble_eq_true rfl) (xKd.of (shp_cl (by assumption))) (by decide) (c_26 ho hs (hp s hs).1 hk.wf hN) ?_ (Nat.le_of_ble_eq_true rfl) rfl
  refine AT.iret M_102 rfl rfl ?_
  exact ⟨rfl, cRel.all (n := n) 7 0 hp⟩
theorem c_102x2 {X : XS} {s : Nat} (hs : s < 7) (hr : ¬ (xK X 0).1 12 s 0 = 3) : RX 102 [some (.ref 1), some (.int (Int32.ofNat s)), none] X 1 (xThr X) := by
  have ho : (0 : Nat) < 2 := by decide
  refine AT.aload_n M_102 rfl rfl ?_
  refine AT.iload_n M_102 rfl rfl ?_
  refine AT.cv2i M_102 rfl M_176 rfl (Nat.le_of_ble_eq_true rfl) (xKd.of (Or.inr (Or.inr (Or.inl ⟨rfl, rfl, rfl⟩)))) (by decide) (c_176 hs) ?_ (Nat.le_of_ble_eq_true rfl) rfl
  refine AT.ast2 M_102 rfl rfl ?_
  refine AT.aload_n M_102 rfl rfl ?_
  refine AT.f_6_12 M_102 rfl (by assumption) (by assumption) ?_
  refine AT.iconst M_102 rfl (v := 3) (by decide) ?_
  refine AT.icmp_eq M_102 rfl (fun b7 => absurd b7 hr) (fun b7 => ?_)
  refine AT.iconst M_102 rfl (v := 1) (by decide) ?_
  refine AT.goto M_102 rfl ?_
  refine AT.cs1x M_102 rfl M_168 rfl (Nat.le_of_ble_eq_true rfl) rfl c_168x rfl rfl ?_ (Nat.le_of_ble_eq_true rfl) rfl
  exact ⟨rfl, rfl⟩
theorem c_102x1 {X : XS} {p : Int32} (hp : p < 0 ∨ ¬ p < 7) : RX 102 [some (.ref 1), some (.int p), none] X 2 (xThr X) := by
  have ho : (0 : Nat) < 2 := by decide
  refine AT.aload_n M_102 rfl rfl ?_
  refine AT.iload_n M_102 rfl rfl ?_
  refine AT.cv2x M_102 rfl M_176 rfl (Nat.le_of_ble_eq_true rfl) (xKd.of (Or.inr (Or.inr (Or.inl ⟨rfl, rfl, rfl⟩)))) (by decide) (c_176x hp) rfl rfl ?_ (Nat.le_of_ble_eq_true rfl) rfl
  exact ⟨rfl, rfl⟩
theorem i32_subn {a c : Nat} (h : a ≤ c) : Int32.ofNat c - Int32.ofNat a = Int32.ofNat (c - a) := by
  obtain ⟨d, rfl⟩ := Nat.exists_eq_add_of_le h
  rw [Nat.add_sub_cancel_left, Int32.ofNat_add]
  exact (by grind : ∀ u v : Int32, u + v - u = v) _ _
theorem c_103 {X : XS} {s : Nat} (hs : s < 7) {n : Nat} (hp : mPr X 0) (hk : sOk (xK X 0) s) (hup : ¬ (xK X 0).1 4 s 0 = 0) (hc : (xK X 0).1 18 s 0 < (xK X 0).1 15 s 0) : RU 103 [some (.ref 1), some (.int (Int32.ofNat s)), none] X (some (.int (Int32.ofNat (kC (xK X 0) s - kA (xK X 0) s)))) (fun Y => cRel 0 n 5 (pF 7 + pF 8 + 16) X Y (kCut (xK X 0) s (kC (xK X 0) s - kA (xK X 0) s) (sSnap (xK X 0) s (kC (xK X 0) s - kA (xK X 0) s)))) := by
  have ho : (0 : Nat) < 2 := by decide
  refine AT.aload_n M_103 rfl rfl ?_
  refine AT.iload_n M_103 rfl rfl ?_
  refine AT.cv2i M_103 rfl M_176 rfl (Nat.le_of_ble_eq_true rfl) (xKd.of (Or.inr (Or.inr (Or.inl ⟨rfl, rfl, rfl⟩)))) (by decide) (c_176 hs) ?_ (Nat.le_of_ble_eq_true rfl) rfl
  refine AT.ast2 M_103 rfl rfl ?_
  refine AT.aload_n M_103 rfl rfl ?_
  refine AT.f_6_4 M_103 rfl (by assumption) (by assumption) ?_
  refine AT.if_eq M_103 rfl (fun b6 => absurd b6 hup) (fun b6 => ?_)
  refine AT.aload_n M_103 rfl rfl ?_
  refine AT.f_6_15 M_103 rfl (by assumption) (by assumption) ?_
  refine AT.aload_n M_103 rfl rfl ?_
  refine AT.f_6_9 M_103 rfl (by assumption) (by assumption) (fun p10 hp10 => ?_)
  refine AT.f_7_0 M_103 rfl (by assumption) ?_
  refine AT.icmp_gt M_103 rfl (fun b12 => ?_) (fun b12 => absurd hc b12)
  refine AT.iconst M_103 rfl (v := 0) (by decide) ?_
  refine AT.cs10 M_103 rfl M_168 rfl (Nat.le_of_ble_eq_true rfl) rfl c_168 ?_ (Nat.le_of_ble_eq_true rfl) rfl
  refine AT.aload_n M_103 rfl rfl ?_
  refine AT.cv1u M_103 rfl M_78 rfl (Nat.le_of_ble_eq_true rfl) (xKd.of (shp_sv (by assumption) (by assumption))) (by decide) (c_78 (gn := (kC (xK X 0) s - kA (xK X 0) s)) ho hs hk.wf (by have := hk.2.2.2.2.1; omega) (by have := hk.2.2.2.1; omega) (by rw [hk.2.1, hk.1]; exact i32_subn hk.2.2.1)) (fun Y hc18 => ?_) (Nat.le_of_ble_eq_true rfl) rfl
  refine AT.iret M_103 rfl rfl ?_
  obtain ⟨qf, rfl⟩ := hc18
  have r0 : cRel 0 n 5 (pF 7 + pF 8 + 16) X (xSetD X (dSnp1 (xD X) (sSnap (xK X 0) s (kC (xK X 0) s - kA (xK X 0) s)))) (xK X 0) := ⟨⟨rfl, fun a => by by_cases e : a = 0; (rw [if_pos e, e]; rfl); (rw [if_neg e]; rfl), dRel_snp1 0 n _ _, hp⟩, dHnd.of rfl rfl⟩
  have r1 := cRel.mem (n := n) (s := s) (D := dWithQ (dSnp1 (xD X) (sSnap (xK X 0) s (kC (xK X 0) s - kA (xK X 0) s))) qf) (K1 := kCut (xK X 0) s (kC (xK X 0) s - kA (xK X 0) s) (sSnap (xK X 0) s (kC (xK X 0) s - kA (xK X 0) s))) (K2 := kCut (xK X 0) s (kC (xK X 0) s - kA (xK X 0) s) (sSnap (xK X 0) s (kC (xK X 0) s - kA (xK X 0) s))) r0.pr rfl rfl rfl rfl rfl rfl (fun i _ hi => sSame.cut hi) (fun i _ => sSame.rf _ _)
  exact ⟨rfl, (r0.tr r1).up (by omega) (by omega)⟩
theorem c_103x2 {X : XS} {s : Nat} (hs : s < 7) (hup : (xK X 0).1 4 s 0 = 0) : RX 103 [some (.ref 1), some (.int (Int32.ofNat s)), none] X 1 (xThr X) := by
  have ho : (0 : Nat) < 2 := by decide
  refine AT.aload_n M_103 rfl rfl ?_
  refine AT.iload_n M_103 rfl rfl ?_
  refine AT.cv2i M_103 rfl M_176 rfl (Nat.le_of_ble_eq_true rfl) (xKd.of (Or.inr (Or.inr (Or.inl ⟨rfl, rfl, rfl⟩)))) (by decide) (c_176 hs) ?_ (Nat.le_of_ble_eq_true rfl) rfl
  refine AT.ast2 M_103 rfl rfl ?_
  refine AT.aload_n M_103 rfl rfl ?_
  refine AT.f_6_4 M_103 rfl (by assumption) (by assumption) ?_
  refine AT.if_eq M_103 rfl (fun b6 => ?_) (fun b6 => absurd hup b6)
  refine AT.iconst M_103 rfl (v := 1) (by decide) ?_
  refine AT.goto M_103 rfl ?_
  refine AT.cs1x M_103 rfl M_168 rfl (Nat.le_of_ble_eq_true rfl) rfl c_168x rfl rfl ?_ (Nat.le_of_ble_eq_true rfl) rfl
  exact ⟨rfl, rfl⟩
theorem c_103x3 {X : XS} {s : Nat} (hs : s < 7) (hup : ¬ (xK X 0).1 4 s 0 = 0) (hc : ¬ (xK X 0).1 18 s 0 < (xK X 0).1 15 s 0) : RX 103 [some (.ref 1), some (.int (Int32.ofNat s)), none] X 1 (xThr X) := by
  have ho : (0 : Nat) < 2 := by decide
  refine AT.aload_n M_103 rfl rfl ?_
  refine AT.iload_n M_103 rfl rfl ?_
  refine AT.cv2i M_103 rfl M_176 rfl (Nat.le_of_ble_eq_true rfl) (xKd.of (Or.inr (Or.inr (Or.inl ⟨rfl, rfl, rfl⟩)))) (by decide) (c_176 hs) ?_ (Nat.le_of_ble_eq_true rfl) rfl
  refine AT.ast2 M_103 rfl rfl ?_
  refine AT.aload_n M_103 rfl rfl ?_
  refine AT.f_6_4 M_103 rfl (by assumption) (by assumption) ?_
  refine AT.if_eq M_103 rfl (fun b6 => absurd b6 hup) (fun b6 => ?_)
  refine AT.aload_n M_103 rfl rfl ?_
  refine AT.f_6_15 M_103 rfl (by assumption) (by assumption) ?_
  refine AT.aload_n M_103 rfl rfl ?_
  refine AT.f_6_9 M_103 rfl (by assumption) (by assumption) (fun p10 hp10 => ?_)
  refine AT.f_7_0 M_103 rfl (by assumption) ?_
  refine AT.icmp_gt M_103 rfl (fun b12 => absurd b12 hc) (fun b12 => ?_)
  refine AT.iconst M_103 rfl (v := 1) (by decide) ?_
  refine AT.goto M_103 rfl ?_
  refine AT.cs1x M_103 rfl M_168 rfl (Nat.le_of_ble_eq_true rfl) rfl c_168x rfl rfl ?_ (Nat.le_of_ble_eq_true rfl) rfl
  exact ⟨rfl, rfl⟩
theorem c_103x1 {X : XS} {p : Int32} (hp : p < 0 ∨ ¬ p < 7) : RX 103 [some (.ref 1), some (.int p), none] X 2 (xThr X) := by
  have ho : (0 : Nat) < 2 := by decide
  refine AT.aload_n M_103 rfl rfl ?_
  refine AT.iload_n M_103 rfl rfl ?_
  refine AT.cv2x M_103 rfl M_176 rfl (Nat.le_of_ble_eq_true rfl) (xKd.of (Or.inr (Or.inr (Or.inl ⟨rfl, rfl, rfl⟩)))) (by decide) (c_176x hp) rfl rfl ?_ (Nat.le_of_ble_eq_true rfl) rfl
  exact ⟨rfl, rfl⟩
