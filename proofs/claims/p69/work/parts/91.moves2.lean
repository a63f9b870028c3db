/-! ===== THE FACE OF THE CLASS: messages, clients, changes of members ===== -/
theorem dRq_req {D : XD} {q : Nat} {K : KK} {s c : Nat} (h : dRq D q (K.1 34 c)) : dRq D q (eReq K s c) := by
  obtain ⟨r', h1, h2⟩ := h
  exact ⟨r', h1, fun k a b => (h2 k a b).trans (if_neg (by omega)).symm⟩
theorem c_104 {X : XS} {s : Nat} (hs : s < 7) {j : Nat} (hj : j < 7) {n : Nat} (hne : ¬ s = j) (hp : mPr X 0) (hb : ((xK X 0).1 12 s 0 = 3 ∧ sBit (sMem (xK X 0) s) j = true ∧ sLast (xK X 0) s ≤ (xK X 0).1 3 s j)) : RU 104 [some (.ref 1), some (.int (Int32.ofNat s)), some (.int (Int32.ofNat j)), none] X (some (.int (Int32.ofNat (kSend (xK X 0) (mHur (xK X 0) s j)).2.2.length))) (fun Y => cRel 0 n 0 0 X Y (kSend (xK X 0) (mHur (xK X 0) s j))) := by
  have ho : (0 : Nat) < 2 := by decide
  refine AT.iload_n M_104 rfl rfl ?_
  refine AT.iload_n M_104 rfl rfl ?_
  refine AT.cs20 M_104 rfl M_170 rfl (Nat.le_of_ble_eq_true rfl) rfl (c_170 hs hj hne) ?_ (Nat.le_of_ble_eq_true rfl) rfl
  refine AT.aload_n M_104 rfl rfl ?_
  refine AT.f_9_0 M_104 rfl ?_
  refine AT.f_1_0 M_104 rfl (by assumption) ?_
  refine AT.iload_n M_104 rfl rfl ?_
  refine AT.a_svs M_104 rfl rfl (by assumption) (by assumption) ?_
  refine AT.ast3 M_104 rfl rfl ?_
  refine AT.aload_n M_104 rfl rfl ?_
  refine AT.f_6_12 M_104 rfl (by assumption) (by assumption) ?_
  refine AT.iconst M_104 rfl (v := 3) (by decide) ?_
  refine AT.icmp_ne M_104 rfl (fun b12 => absurd hb.1 b12) (fun b12 => ?_)
  refine AT.aload_n M_104 rfl rfl ?_
  refine AT.iload_n M_104 rfl rfl ?_
  refine AT.cv2i M_104 rfl M_66 rfl (Nat.le_of_ble_eq_true rfl) (xKd.of (shp_sv (by assumption) (by assumption))) (by decide) (c_66 ho hs hj (hp s hs).1) ?_ (Nat.le_of_ble_eq_true rfl) rfl
  refine AT.if_eq M_104 rfl (fun b16 => absurd b16 (bI_ne0.mpr hb.2.1)) (fun b16 => ?_)
  refine AT.aload_n M_104 rfl rfl ?_
  refine AT.f_6_3 M_104 rfl (by assumption) (by assumption) ?_
  refine AT.iload_n M_104 rfl rfl ?_
  refine AT.a_mat M_104 rfl rfl (by assumption) (by assumption) (by assumption) ?_
  refine AT.aload_n M_104 rfl rfl ?_
  refine AT.cv1i M_104 rfl M_62 rfl (Nat.le_of_ble_eq_true rfl) (xKd.of (shp_sv (by assumption) (by assumption))) (by decide) (c_62 ho hs) ?_ (Nat.le_of_ble_eq_true rfl) rfl
  refine AT.icmp_ge M_104 rfl (fun b23 => ?_) (fun b23 => absurd hb.2.2 b23)
  refine AT.iconst M_104 rfl (v := 0) (by decide) ?_
  refine AT.cs10 M_104 rfl M_168 rfl (Nat.le_of_ble_eq_true rfl) rfl c_168 ?_ (Nat.le_of_ble_eq_true rfl) rfl
  refine AT.aload_n M_104 rfl rfl ?_
  refine AT.f_9_0 M_104 rfl ?_
  refine AT.f_1_2 M_104 rfl (by assumption) ?_
  refine AT.bipush M_104 rfl (v := 8) (by decide) ?_
  refine AT.iload_n M_104 rfl rfl ?_
  refine AT.iload_n M_104 rfl rfl ?_
  refine AT.aload_n M_104 rfl rfl ?_
  refine AT.f_6_5 M_104 rfl (by assumption) (by assumption) ?_
  intro g0 hg0
  by_cases hn : (xK X 0).2.2.length < 60
  · have e := hg0.send ho hn (mHur (xK X 0) s j)
    revert g0
    refine AT.cv5i M_104 rfl M_52 rfl (Nat.le_of_ble_eq_true rfl) (xKd.of (shp_net ho)) (by decide) (c_52w ho hn) ?_ (Nat.le_of_ble_eq_true rfl) rfl
    refine AT.popr M_104 rfl ?_
    refine AT.aload_n M_104 rfl rfl ?_
    refine AT.f_9_0 M_104 rfl ?_
    refine AT.f_1_2 M_104 rfl (by assumption) ?_
    refine AT.f_4_3 M_104 rfl (by assumption) ?_
    refine AT.iret M_104 rfl rfl ?_
    have e2 : xPlace X 0 (mHur (xK X 0) s j) = xSend X 0 (mHur (xK X 0) s j) := e
    rw [show mNew0 8 (Int32.ofNat s) (Int32.ofNat j) ((xK X 0).1 5 s 0) = mHur (xK X 0) s j from rfl, e2, xK_send]
    exact ⟨rfl, cRel.send _ hp⟩
  · have e : xSend X 0 (mHur (xK X 0) s j) = xSetK X 0 (kSet (xK X 0) 32 0 0 ((xK X 0).1 32 0 0 + 1)) := if_neg hn
    have hn60 := hg0.full ho hn
    revert g0
    refine AT.cv5i M_104 rfl M_52 rfl (Nat.le_of_ble_eq_true rfl) (xKd.of (shp_net ho)) (by decide) (c_52f ho hn60) ?_ (Nat.le_of_ble_eq_true rfl) rfl
    refine AT.pop0 M_104 rfl ?_
    refine AT.aload_n M_104 rfl rfl ?_
    refine AT.f_9_0 M_104 rfl ?_
    refine AT.f_1_2 M_104 rfl (by assumption) ?_
    refine AT.f_4_3 M_104 rfl (by assumption) ?_
    refine AT.iret M_104 rfl rfl ?_
    rw [show kSet (xK X 0) 32 0 0 ((xK X 0).1 32 0 0 + 1) = kSend (xK X 0) (mHur (xK X 0) s j) from (if_neg hn).symm] at e ⊢
    rw [xK_same]
    refine ⟨rfl, ?_⟩
    rw [← e]
    exact cRel.send _ hp
theorem c_104x4 {X : XS} {s : Nat} (hs : s < 7) {j : Nat} (hj : j < 7) (hne : ¬ s = j) (hp : mPr X 0) (hr : ¬ (xK X 0).1 12 s 0 = 3) : RX 104 [some (.ref 1), some (.int (Int32.ofNat s)), some (.int (Int32.ofNat j)), none] X 1 (xThr X) := by
  have ho : (0 : Nat) < 2 := by decide
  refine AT.iload_n M_104 rfl rfl ?_
  refine AT.iload_n M_104 rfl rfl ?_
  refine AT.cs20 M_104 rfl M_170 rfl (Nat.le_of_ble_eq_true rfl) rfl (c_170 hs hj hne) ?_ (Nat.le_of_ble_eq_true rfl) rfl
  refine AT.aload_n M_104 rfl rfl ?_
  refine AT.f_9_0 M_104 rfl ?_
  refine AT.f_1_0 M_104 rfl (by assumption) ?_
  refine AT.iload_n M_104 rfl rfl ?_
  refine AT.a_svs M_104 rfl rfl (by assumption) (by assumption) ?_
  refine AT.ast3 M_104 rfl rfl ?_
  refine AT.aload_n M_104 rfl rfl ?_
  refine AT.f_6_12 M_104 rfl (by assumption) (by assumption) ?_
  refine AT.iconst M_104 rfl (v := 3) (by decide) ?_
  refine AT.icmp_ne M_104 rfl (fun b12 => ?_) (fun b12 => absurd hr b12)
  refine AT.iconst M_104 rfl (v := 1) (by decide) ?_
  refine AT.goto M_104 rfl ?_
  refine AT.cs1x M_104 rfl M_168 rfl (Nat.le_of_ble_eq_true rfl) rfl c_168x rfl rfl ?_ (Nat.le_of_ble_eq_true rfl) rfl
  exact ⟨rfl, rfl⟩
theorem c_104x5 {X : XS} {s : Nat} (hs : s < 7) {j : Nat} (hj : j < 7) (hne : ¬ s = j) (hp : mPr X 0) (hr : (xK X 0).1 12 s 0 = 3) (hb : sBit (sMem (xK X 0) s) j = false) : RX 104 [some (.ref 1), some (.int (Int32.ofNat s)), some (.int (Int32.ofNat j)), none] X 1 (xThr X) := by
  have ho : (0 : Nat) < 2 := by decide
  refine AT.iload_n M_104 rfl rfl ?_
  refine AT.iload_n M_104 rfl rfl ?_
  refine AT.cs20 M_104 rfl M_170 rfl (Nat.le_of_ble_eq_true rfl) rfl (c_170 hs hj hne) ?_ (Nat.le_of_ble_eq_true rfl) rfl
  refine AT.aload_n M_104 rfl rfl ?_
  refine AT.f_9_0 M_104 rfl ?_
  refine AT.f_1_0 M_104 rfl (by assumption) ?_
  refine AT.iload_n M_104 rfl rfl ?_
  refine AT.a_svs M_104 rfl rfl (by assumption) (by assumption) ?_
  refine AT.ast3 M_104 rfl rfl ?_
  refine AT.aload_n M_104 rfl rfl ?_
  refine AT.f_6_12 M_104 rfl (by assumption) (by assumption) ?_
  refine AT.iconst M_104 rfl (v := 3) (by decide) ?_
  refine AT.icmp_ne M_104 rfl (fun b12 => absurd hr b12) (fun b12 => ?_)
  refine AT.aload_n M_104 rfl rfl ?_
  refine AT.iload_n M_104 rfl rfl ?_
  refine AT.cv2i M_104 rfl M_66 rfl (Nat.le_of_ble_eq_true rfl) (xKd.of (shp_sv (by assumption) (by assumption))) (by decide) (c_66 ho hs hj (hp s hs).1) ?_ (Nat.le_of_ble_eq_true rfl) rfl
  refine AT.if_eq M_104 rfl (fun b16 => ?_) (fun b16 => absurd (bI_eq0.mpr hb) b16)
  refine AT.iconst M_104 rfl (v := 1) (by decide) ?_
  refine AT.goto M_104 rfl ?_
  refine AT.cs1x M_104 rfl M_168 rfl (Nat.le_of_ble_eq_true rfl) rfl c_168x rfl rfl ?_ (Nat.le_of_ble_eq_true rfl) rfl
  exact ⟨rfl, rfl⟩
theorem c_104x6 {X : XS} {s : Nat} (hs : s < 7) {j : Nat} (hj : j < 7) (hne : ¬ s = j) (hp : mPr X 0) (hr : (xK X 0).1 12 s 0 = 3) (hb : sBit (sMem (xK X 0) s) j = true) (hl : ¬ sLast (xK X 0) s ≤ (xK X 0).1 3 s j) : RX 104 [some (.ref 1), some (.int (Int32.ofNat s)), some (.int (Int32.ofNat j)), none] X 1 (xThr X) := by
  have ho : (0 : Nat) < 2 := by decide
  refine AT.iload_n M_104 rfl rfl ?_
  refine AT.iload_n M_104 rfl rfl ?_
  refine AT.cs20 M_104 rfl M_170 rfl (Nat.le_of_ble_eq_true rfl) rfl (c_170 hs hj hne) ?_ (Nat.le_of_ble_eq_true rfl) rfl
  refine AT.aload_n M_104 rfl rfl ?_
  refine AT.f_9_0 M_104 rfl ?_
  refine AT.f_1_0 M_104 rfl (by assumption) ?_
  refine AT.iload_n M_104 rfl rfl ?_
  refine AT.a_svs M_104 rfl rfl (by assumption) (by assumption) ?_
  refine AT.ast3 M_104 rfl rfl ?_
  refine AT.aload_n M_104 rfl rfl ?_
  refine AT.f_6_12 M_104 rfl (by assumption) (by assumption) ?_
  refine AT.iconst M_104 rfl (v := 3) (by decide) ?_
  refine AT.icmp_ne M_104 rfl (fun b12 => absurd hr b12) (fun b12 => ?_)
  refine AT.aload_n M_104 rfl rfl ?_
  refine AT.iload_n M_104 rfl rfl ?_
  refine AT.cv2i M_104 rfl M_66 rfl (Nat.le_of_ble_eq_true rfl) (xKd.of (shp_sv (by assumption) (by assumption))) (by decide) (c_66 ho hs hj (hp s hs).1) ?_ (Nat.le_of_ble_eq_true rfl) rfl
  refine AT.if_eq M_104 rfl (fun b16 => absurd b16 (bI_ne0.mpr hb)) (fun b16 => ?_)
  refine AT.aload_n M_104 rfl rfl ?_
  refine AT.f_6_3 M_104 rfl (by assumption) (by assumption) ?_
  refine AT.iload_n M_104 rfl rfl ?_
  refine AT.a_mat M_104 rfl rfl (by assumption) (by assumption) (by assumption) ?_
  refine AT.aload_n M_104 rfl rfl ?_
  refine AT.cv1i M_104 rfl M_62 rfl (Nat.le_of_ble_eq_true rfl) (xKd.of (shp_sv (by assumption) (by assumption))) (by decide) (c_62 ho hs) ?_ (Nat.le_of_ble_eq_true rfl) rfl
  refine AT.icmp_ge M_104 rfl (fun b23 => absurd b23 hl) (fun b23 => ?_)
  refine AT.iconst M_104 rfl (v := 1) (by decide) ?_
  refine AT.goto M_104 rfl ?_
  refine AT.cs1x M_104 rfl M_168 rfl (Nat.le_of_ble_eq_true rfl) rfl c_168x rfl rfl ?_ (Nat.le_of_ble_eq_true rfl) rfl
  exact ⟨rfl, rfl⟩
theorem c_108x1 {X : XS} {p : Int32} (hp : p < 0 ∨ ¬ p < Int32.ofNat (xK X 0).2.2.length) : RX 108 [some (.ref 1), some (.int p)] X 2 (xThr X) := by
  have ho : (0 : Nat) < 2 := by decide
  refine AT.aload_n M_108 rfl rfl ?_
  refine AT.iload_n M_108 rfl rfl ?_
  refine AT.cv2x M_108 rfl M_173 rfl (Nat.le_of_ble_eq_true rfl) (xKd.of (Or.inr (Or.inr (Or.inl ⟨rfl, rfl, rfl⟩)))) (by decide) (c_173x hp) rfl rfl ?_ (Nat.le_of_ble_eq_true rfl) rfl
  exact ⟨rfl, rfl⟩
theorem c_109x1 {X : XS} {p : Int32} (hp : p < 0 ∨ ¬ p < Int32.ofNat (xK X 0).2.2.length) : RX 109 [some (.ref 1), some (.int p)] X 2 (xThr X) := by
  have ho : (0 : Nat) < 2 := by decide
  refine AT.aload_n M_109 rfl rfl ?_
  refine AT.iload_n M_109 rfl rfl ?_
  refine AT.cv2x M_109 rfl M_173 rfl (Nat.le_of_ble_eq_true rfl) (xKd.of (Or.inr (Or.inr (Or.inl ⟨rfl, rfl, rfl⟩)))) (by decide) (c_173x hp) rfl rfl ?_ (Nat.le_of_ble_eq_true rfl) rfl
  exact ⟨rfl, rfl⟩
theorem c_110x1 {X : XS} {p : Int32} (hp : p < 0 ∨ ¬ p < Int32.ofNat (xK X 0).2.2.length) : RX 110 [some (.ref 1), some (.int p)] X 2 (xThr X) := by
  have ho : (0 : Nat) < 2 := by decide
  refine AT.aload_n M_110 rfl rfl ?_
  refine AT.iload_n M_110 rfl rfl ?_
  refine AT.cv2x M_110 rfl M_173 rfl (Nat.le_of_ble_eq_true rfl) (xKd.of (Or.inr (Or.inr (Or.inl ⟨rfl, rfl, rfl⟩)))) (by decide) (c_173x hp) rfl rfl ?_ (Nat.le_of_ble_eq_true rfl) rfl
  exact ⟨rfl, rfl⟩
theorem c_108 {X : XS} {j : Nat} {u : MSG} (hu : (xK X 0).2.2[j]? = some u) {n : Nat} (hp : mPr X 0) (h7 : mWf u) (hk : sOk (xK X 0) (mS u)) (hB : kA (xK X 0) (mS u) + ((xK X 0).2.1 (mS u)).length + 1 < 400000) (hn : ((xK X 0).2.1 (mS u)).length ≤ n) (hG : goOk n (kEnter (kDrop (xK X 0) j) (mS u) u) (mS u) (mF u) u) : RU 108 [some (.ref 1), some (.int (Int32.ofNat j))] X (some (.int (bI (kArr (xK X 0) (mS u) (mF u))))) (fun Y => cRel0 0 n (kHandN (xK X 0) j (mS u) (mF u) u) (kHandN (xK X 0) j (mS u) (mF u) u * pF 2) X Y (kHand (xK X 0) j (mS u) (mF u) u)) := by
  have ho : (0 : Nat) < 2 := by decide
  have hj : j < (xK X 0).2.2.length := (List.getElem?_eq_some_iff.mp hu).1
  have h01 := bI_01 (kArr (xK X 0) (mS u) (mF u))
  refine AT.aload_n M_108 rfl rfl ?_
  refine AT.iload_n M_108 rfl rfl ?_
  refine AT.cv20 M_108 rfl M_173 rfl (Nat.le_of_ble_eq_true rfl) (xKd.of (Or.inr (Or.inr (Or.inl ⟨rfl, rfl, rfl⟩)))) (by decide) (c_173 hj) ?_ (Nat.le_of_ble_eq_true rfl) rfl
  refine AT.aload_n M_108 rfl rfl ?_
  refine AT.f_9_0 M_108 rfl ?_
  refine AT.iload_n M_108 rfl rfl ?_
  refine AT.cv2u M_108 rfl M_30 rfl (Nat.le_of_ble_eq_true rfl) (xKd.of (shp_cl (by assumption))) (by decide) (c_30 (n := n) ho h7.2.1 hp hk hB hn hj hu h7.1 h7.2.2.1 h7.2.2.2.1 hG h7.2.2.2.2) (fun Y hc6 => ?_) (Nat.le_of_ble_eq_true rfl) rfl
  refine AT.zret M_108 rfl rfl (by first | exact Or.inl rfl | exact Or.inr rfl | assumption) ?_
  exact ⟨rfl, hc6⟩
theorem c_109 {X : XS} {j n : Nat} (hj : j < (xK X 0).2.2.length) (hp : mPr X 0) : RU 109 [some (.ref 1), some (.int (Int32.ofNat j))] X (some (.int (Int32.ofNat (kLose (kDrop (xK X 0) j)).2.2.length))) (fun Y => cRel0 0 n 0 0 X Y (kLose (kDrop (xK X 0) j))) := by
  have ho : (0 : Nat) < 2 := by decide
  refine AT.aload_n M_109 rfl rfl ?_
  refine AT.iload_n M_109 rfl rfl ?_
  refine AT.cv20 M_109 rfl M_173 rfl (Nat.le_of_ble_eq_true rfl) (xKd.of (Or.inr (Or.inr (Or.inl ⟨rfl, rfl, rfl⟩)))) (by decide) (c_173 hj) ?_ (Nat.le_of_ble_eq_true rfl) rfl
  refine AT.aload_n M_109 rfl rfl ?_
  refine AT.f_9_0 M_109 rfl ?_
  refine AT.f_1_2 M_109 rfl (by assumption) ?_
  refine AT.iload_n M_109 rfl rfl ?_
  refine AT.cv2i M_109 rfl M_54 rfl (Nat.le_of_ble_eq_true rfl) (xKd.of (shp_net ho)) (by decide) (c_54w ho hj) ?_ (Nat.le_of_ble_eq_true rfl) rfl
  refine AT.popr M_109 rfl ?_
  refine AT.aload_n M_109 rfl rfl ?_
  refine AT.f_9_0 M_109 rfl ?_
  refine AT.f_1_2 M_109 rfl (by assumption) ?_
  refine AT.dup M_109 rfl ?_
  refine AT.f_4_5 M_109 rfl ho ?_
  rw [xK_same]
  refine AT.iconst M_109 rfl (v := 1) (by decide) ?_
  refine AT.iadd M_109 rfl rfl ?_
  refine AT.p_4_5 M_109 rfl ho ?_
  rw [xK_same, xSetK_idem]
  refine AT.aload_n M_109 rfl rfl ?_
  refine AT.f_9_0 M_109 rfl ?_
  refine AT.f_1_2 M_109 rfl (by assumption) ?_
  refine AT.f_4_3 M_109 rfl ho ?_
  rw [xK_same]
  refine AT.iret M_109 rfl rfl ?_
  refine ⟨rfl, rfl, fun a => rfl, ⟨fun _ _ _ => rfl, fun _ _ _ _ _ => rfl, Nat.le_refl _, Nat.le_refl _, fun _ _ => ⟨Nat.le_refl _, Or.inl (Nat.le_refl _)⟩⟩, fun i hi => ?_⟩
  rw [xK_same]
  exact hp i hi
theorem c_110 {X : XS} {j : Nat} {u : MSG} (hu : (xK X 0).2.2[j]? = some u) {n : Nat} (hp : mPr X 0) (hn : (xK X 0).2.2.length < 60) : RU 110 [some (.ref 1), some (.int (Int32.ofNat j))] X (some (.int (Int32.ofNat (kSend (xK X 0) u).2.2.length))) (fun Y => cRel 0 n 0 0 X Y (kSend (xK X 0) u)) := by
  have ho : (0 : Nat) < 2 := by decide
  have hj : j < (xK X 0).2.2.length := (List.getElem?_eq_some_iff.mp hu).1
  refine AT.aload_n M_110 rfl rfl ?_
  refine AT.iload_n M_110 rfl rfl ?_
  refine AT.cv20 M_110 rfl M_173 rfl (Nat.le_of_ble_eq_true rfl) (xKd.of (Or.inr (Or.inr (Or.inl ⟨rfl, rfl, rfl⟩)))) (by decide) (c_173 hj) ?_ (Nat.le_of_ble_eq_true rfl) rfl
  refine AT.aload_n M_110 rfl rfl ?_
  refine AT.f_9_0 M_110 rfl ?_
  refine AT.f_1_2 M_110 rfl (by assumption) ?_
  refine AT.f_4_3 M_110 rfl (by assumption) ?_
  refine AT.bipush M_110 rfl (v := 60) (by decide) ?_
  refine AT.icmp_lt M_110 rfl (fun b8 => ?_) (fun b8 => absurd ((i32_lt (b := 60) (by omega) (by omega)).mpr hn) b8)
  refine AT.iconst M_110 rfl (v := 0) (by decide) ?_
  refine AT.cs10 M_110 rfl M_168 rfl (Nat.le_of_ble_eq_true rfl) rfl c_168 ?_ (Nat.le_of_ble_eq_true rfl) rfl
  refine AT.aload_n M_110 rfl rfl ?_
  refine AT.f_9_0 M_110 rfl ?_
  refine AT.f_1_2 M_110 rfl (by assumption) ?_
  refine AT.iload_n M_110 rfl rfl ?_
  intro g0 hg0
  have e := hg0.send ho hn u
  revert g0
  refine AT.cv2i M_110 rfl M_53 rfl (Nat.le_of_ble_eq_true rfl) (xKd.of (shp_net ho)) (by decide) (c_53w ho hu hn) ?_ (Nat.le_of_ble_eq_true rfl) rfl
  refine AT.iret M_110 rfl rfl ?_
  rw [e]
  refine ⟨?_, cRel.send _ hp⟩
  rw [show (kSend (xK X 0) u).2.2.length = (xK X 0).2.2.length + 1 from by unfold kSend; rw [if_pos hn]; show ((xK X 0).2.2 ++ [u]).length = _; rw [List.length_append, List.length_singleton]]
theorem c_110x2 {X : XS} {j : Nat} (hj : j < (xK X 0).2.2.length) (hn : ¬ (xK X 0).2.2.length < 60) : RX 110 [some (.ref 1), some (.int (Int32.ofNat j))] X 1 (xThr X) := by
  have ho : (0 : Nat) < 2 := by decide
  refine AT.rep (fun hr => ?_)
  have hn60 := hr.choose_spec.n60 (o := 0) (by omega)
  refine AT.aload_n M_110 rfl rfl ?_
  refine AT.iload_n M_110 rfl rfl ?_
  refine AT.cv20 M_110 rfl M_173 rfl (Nat.le_of_ble_eq_true rfl) (xKd.of (Or.inr (Or.inr (Or.inl ⟨rfl, rfl, rfl⟩)))) (by decide) (c_173 hj) ?_ (Nat.le_of_ble_eq_true rfl) rfl
  refine AT.aload_n M_110 rfl rfl ?_
  refine AT.f_9_0 M_110 rfl ?_
  refine AT.f_1_2 M_110 rfl (by assumption) ?_
  refine AT.f_4_3 M_110 rfl (by assumption) ?_
  refine AT.bipush M_110 rfl (v := 60) (by decide) ?_
  refine AT.icmp_lt M_110 rfl (fun b8 => absurd ((i32_lt (b := 60) (by omega) (by omega)).mp b8) hn) (fun b8 => ?_)
  refine AT.iconst M_110 rfl (v := 1) (by decide) ?_
  refine AT.goto M_110 rfl ?_
  refine AT.cs1x M_110 rfl M_168 rfl (Nat.le_of_ble_eq_true rfl) rfl c_168x rfl rfl ?_ (Nat.le_of_ble_eq_true rfl) rfl
  exact ⟨rfl, rfl⟩
theorem c_116 {X : XS} {c k : Nat} {vl : Int32} (hc : c < 4) (hk : k < 8) (hv : ((-9999 : Int32) ≤ vl ∧ vl ≤ 9999)) (hwt : (xK X 0).1 34 c 3 = 0 ∨ ¬ (xK X 0).1 35 c 0 = 0) (h3 : ¬ (xK X 0).1 34 c 3 + 1 = 0) : RT 116 [some (.ref 1), some (.int (Int32.ofNat c)), some (.int (Int32.ofNat k)), some (.int vl)] X (some (.int ((xK X 0).1 34 c 3 + 1))) (xSetK (xSetD X (dReq1 (xD X) (rAsk (Int32.ofNat c) ((xK X 0).1 34 c 3 + 1) 1 (Int32.ofNat k) 0 vl))) 0 (kAsk (xK X 0) c 1 (Int32.ofNat k) 0 vl)) := by
  have ho : (0 : Nat) < 2 := by decide
  refine AT.aload_n M_116 rfl rfl ?_
  refine AT.iload_n M_116 rfl rfl ?_
  refine AT.iload_n M_116 rfl rfl ?_
  refine AT.iconst M_116 rfl (v := 0) (by decide) ?_
  refine AT.iload_n M_116 rfl rfl ?_
  refine AT.cv50 M_116 rfl M_174 rfl (Nat.le_of_ble_eq_true rfl) (xKd.of (Or.inr (Or.inr (Or.inl ⟨rfl, rfl, rfl⟩)))) (by decide) (c_174 hc hk (⟨by decide, by decide⟩) hv hwt) ?_ (Nat.le_of_ble_eq_true rfl) rfl
  refine AT.aload_n M_116 rfl rfl ?_
  refine AT.f_9_0 M_116 rfl ?_
  refine AT.f_1_1 M_116 rfl (by assumption) ?_
  refine AT.iload_n M_116 rfl rfl ?_
  refine AT.a_cls M_116 rfl rfl (by assumption) (by assumption) ?_
  refine AT.iload_n M_116 rfl rfl ?_
  refine AT.iconst M_116 rfl (v := 1) (by decide) ?_
  refine AT.iload_n M_116 rfl rfl ?_
  refine AT.iconst M_116 rfl (v := 0) (by decide) ?_
  refine AT.iload_n M_116 rfl rfl ?_
  refine AT.cv6i M_116 rfl M_5 rfl (Nat.le_of_ble_eq_true rfl) (xKd.of (shp_cli ho hc)) (by decide) (c_5 ho hc h3) ?_ (Nat.le_of_ble_eq_true rfl) rfl
  refine AT.iret M_116 rfl rfl ?_
  exact ⟨rfl, rfl⟩
theorem c_116x1 {X : XS} {p q vl : Int32} (hp : p < 0 ∨ ¬ p < 4) : RX 116 [some (.ref 1), some (.int p), some (.int q), some (.int vl)] X 2 (xThr X) := by
  have ho : (0 : Nat) < 2 := by decide
  refine AT.aload_n M_116 rfl rfl ?_
  refine AT.iload_n M_116 rfl rfl ?_
  refine AT.iload_n M_116 rfl rfl ?_
  refine AT.iconst M_116 rfl (v := 0) (by decide) ?_
  refine AT.iload_n M_116 rfl rfl ?_
  refine AT.cv5x M_116 rfl M_174 rfl (Nat.le_of_ble_eq_true rfl) (xKd.of (Or.inr (Or.inr (Or.inl ⟨rfl, rfl, rfl⟩)))) (by decide) (c_174x1 hp) rfl rfl ?_ (Nat.le_of_ble_eq_true rfl) rfl
  exact ⟨rfl, rfl⟩
theorem c_116x2 {X : XS} {c : Nat} {q vl : Int32} (hc : c < 4) (hp : q < 0 ∨ ¬ q < 8) : RX 116 [some (.ref 1), some (.int (Int32.ofNat c)), some (.int q), some (.int vl)] X 2 (xThr X) := by
  have ho : (0 : Nat) < 2 := by decide
  refine AT.aload_n M_116 rfl rfl ?_
  refine AT.iload_n M_116 rfl rfl ?_
  refine AT.iload_n M_116 rfl rfl ?_
  refine AT.iconst M_116 rfl (v := 0) (by decide) ?_
  refine AT.iload_n M_116 rfl rfl ?_
  refine AT.cv5x M_116 rfl M_174 rfl (Nat.le_of_ble_eq_true rfl) (xKd.of (Or.inr (Or.inr (Or.inl ⟨rfl, rfl, rfl⟩)))) (by decide) (c_174x2 hc hp) rfl rfl ?_ (Nat.le_of_ble_eq_true rfl) rfl
  exact ⟨rfl, rfl⟩
theorem c_116x4 {X : XS} {c k : Nat} {vl : Int32} (hc : c < 4) (hk : k < 8) (hv : ¬ ((-9999 : Int32) ≤ vl ∧ vl ≤ 9999)) : RX 116 [some (.ref 1), some (.int (Int32.ofNat c)), some (.int (Int32.ofNat k)), some (.int vl)] X 0 (xThr X) := by
  have ho : (0 : Nat) < 2 := by decide
  refine AT.aload_n M_116 rfl rfl ?_
  refine AT.iload_n M_116 rfl rfl ?_
  refine AT.iload_n M_116 rfl rfl ?_
  refine AT.iconst M_116 rfl (v := 0) (by decide) ?_
  refine AT.iload_n M_116 rfl rfl ?_
  refine AT.cv5x M_116 rfl M_174 rfl (Nat.le_of_ble_eq_true rfl) (xKd.of (Or.inr (Or.inr (Or.inl ⟨rfl, rfl, rfl⟩)))) (by decide) (c_174x4 hc hk (⟨by decide, by decide⟩) hv) rfl rfl ?_ (Nat.le_of_ble_eq_true rfl) rfl
  exact ⟨rfl, rfl⟩
theorem c_116x5 {X : XS} {c k : Nat} {vl : Int32} (hc : c < 4) (hk : k < 8) (hv : ((-9999 : Int32) ≤ vl ∧ vl ≤ 9999)) (hwt : ¬ (xK X 0).1 34 c 3 = 0 ∧ (xK X 0).1 35 c 0 = 0) : RX 116 [some (.ref 1), some (.int (Int32.ofNat c)), some (.int (Int32.ofNat k)), some (.int vl)] X 1 (xThr X) := by
  have ho : (0 : Nat) < 2 := by decide
  refine AT.aload_n M_116 rfl rfl ?_
  refine AT.iload_n M_116 rfl rfl ?_
  refine AT.iload_n M_116 rfl rfl ?_
  refine AT.iconst M_116 rfl (v := 0) (by decide) ?_
  refine AT.iload_n M_116 rfl rfl ?_
  refine AT.cv5x M_116 rfl M_174 rfl (Nat.le_of_ble_eq_true rfl) (xKd.of (Or.inr (Or.inr (Or.inl ⟨rfl, rfl, rfl⟩)))) (by decide) (c_174x5 hc hk (⟨by decide, by decide⟩) hv hwt) rfl rfl ?_ (Nat.le_of_ble_eq_true rfl) rfl
  exact ⟨rfl, rfl⟩
theorem c_117 {X : XS} {c k : Nat} {vl : Int32} (hc : c < 4) (hk : k < 8) (hv : ((-9999 : Int32) ≤ vl ∧ vl ≤ 9999)) (hwt : (xK X 0).1 34 c 3 = 0 ∨ ¬ (xK X 0).1 35 c 0 = 0) (h3 : ¬ (xK X 0).1 34 c 3 + 1 = 0) : RT 117 [some (.ref 1), some (.int (Int32.ofNat c)), some (.int (Int32.ofNat k)), some (.int vl)] X (some (.int ((xK X 0).1 34 c 3 + 1))) (xSetK (xSetD X (dReq1 (xD X) (rAsk (Int32.ofNat c) ((xK X 0).1 34 c 3 + 1) 2 (Int32.ofNat k) 0 vl))) 0 (kAsk (xK X 0) c 2 (Int32.ofNat k) 0 vl)) := by
  have ho : (0 : Nat) < 2 := by decide
  refine AT.aload_n M_117 rfl rfl ?_
  refine AT.iload_n M_117 rfl rfl ?_
  refine AT.iload_n M_117 rfl rfl ?_
  refine AT.iconst M_117 rfl (v := 0) (by decide) ?_
  refine AT.iload_n M_117 rfl rfl ?_
  refine AT.cv50 M_117 rfl M_174 rfl (Nat.le_of_ble_eq_true rfl) (xKd.of (Or.inr (Or.inr (Or.inl ⟨rfl, rfl, rfl⟩)))) (by decide) (c_174 hc hk (⟨by decide, by decide⟩) hv hwt) ?_ (Nat.le_of_ble_eq_true rfl) rfl
  refine AT.aload_n M_117 rfl rfl ?_
  refine AT.f_9_0 M_117 rfl ?_
  refine AT.f_1_1 M_117 rfl (by assumption) ?_
  refine AT.iload_n M_117 rfl rfl ?_
  refine AT.a_cls M_117 rfl rfl (by assumption) (by assumption) ?_
  refine AT.iload_n M_117 rfl rfl ?_
  refine AT.iconst M_117 rfl (v := 2) (by decide) ?_
  refine AT.iload_n M_117 rfl rfl ?_
  refine AT.iconst M_117 rfl (v := 0) (by decide) ?_
  refine AT.iload_n M_117 rfl rfl ?_
  refine AT.cv6i M_117 rfl M_5 rfl (Nat.le_of_ble_eq_true rfl) (xKd.of (shp_cli ho hc)) (by decide) (c_5 ho hc h3) ?_ (Nat.le_of_ble_eq_true rfl) rfl
  refine AT.iret M_117 rfl rfl ?_
  exact ⟨rfl, rfl⟩
theorem c_117x1 {X : XS} {p q vl : Int32} (hp : p < 0 ∨ ¬ p < 4) : RX 117 [some (.ref 1), some (.int p), some (.int q), some (.int vl)] X 2 (xThr X) := by
  have ho : (0 : Nat) < 2 := by decide
  refine AT.aload_n M_117 rfl rfl ?_
  refine AT.iload_n M_117 rfl rfl ?_
  refine AT.iload_n M_117 rfl rfl ?_
  refine AT.iconst M_117 rfl (v := 0) (by decide) ?_
  refine AT.iload_n M_117 rfl rfl ?_
  refine AT.cv5x M_117 rfl M_174 rfl (Nat.le_of_ble_eq_true rfl) (xKd.of (Or.inr (Or.inr (Or.inl ⟨rfl, rfl, rfl⟩)))) (by decide) (c_174x1 hp) rfl rfl ?_ (Nat.le_of_ble_eq_true rfl) rfl
  exact ⟨rfl, rfl⟩
theorem c_117x2 {X : XS} {c : Nat} {q vl : Int32} (hc : c < 4) (hp : q < 0 ∨ ¬ q < 8) : RX 117 [some (.ref 1), some (.int (Int32.ofNat c)), some (.int q), some (.int vl)] X 2 (xThr X) := by
  have ho : (0 : Nat) < 2 := by decide
  refine AT.aload_n M_117 rfl rfl ?_
  refine AT.iload_n M_117 rfl rfl ?_
  refine AT.iload_n M_117 rfl rfl ?_
  refine AT.iconst M_117 rfl (v := 0) (by decide) ?_
  refine AT.iload_n M_117 rfl rfl ?_
  refine AT.cv5x M_117 rfl M_174 rfl (Nat.le_of_ble_eq_true rfl) (xKd.of (Or.inr (Or.inr (Or.inl ⟨rfl, rfl, rfl⟩)))) (by decide) (c_174x2 hc hp) rfl rfl ?_ (Nat.le_of_ble_eq_true rfl) rfl
  exact ⟨rfl, rfl⟩
theorem c_117x4 {X : XS} {c k : Nat} {vl : Int32} (hc : c < 4) (hk : k < 8) (hv : ¬ ((-9999 : Int32) ≤ vl ∧ vl ≤ 9999)) : RX 117 [some (.ref 1), some (.int (Int32.ofNat c)), some (.int (Int32.ofNat k)), some (.int vl)] X 0 (xThr X) := by
  have ho : (0 : Nat) < 2 := by decide
  refine AT.aload_n M_117 rfl rfl ?_
  refine AT.iload_n M_117 rfl rfl ?_
  refine AT.iload_n M_117 rfl rfl ?_
  refine AT.iconst M_117 rfl (v := 0) (by decide) ?_
  refine AT.iload_n M_117 rfl rfl ?_
  refine AT.cv5x M_117 rfl M_174 rfl (Nat.le_of_ble_eq_true rfl) (xKd.of (Or.inr (Or.inr (Or.inl ⟨rfl, rfl, rfl⟩)))) (by decide) (c_174x4 hc hk (⟨by decide, by decide⟩) hv) rfl rfl ?_ (Nat.le_of_ble_eq_true rfl) rfl
  exact ⟨rfl, rfl⟩
theorem c_117x5 {X : XS} {c k : Nat} {vl : Int32} (hc : c < 4) (hk : k < 8) (hv : ((-9999 : Int32) ≤ vl ∧ vl ≤ 9999)) (hwt : ¬ (xK X 0).1 34 c 3 = 0 ∧ (xK X 0).1 35 c 0 = 0) : RX 117 [some (.ref 1), some (.int (Int32.ofNat c)), some (.int (Int32.ofNat k)), some (.int vl)] X 1 (xThr X) := by
  have ho : (0 : Nat) < 2 := by decide
  refine AT.aload_n M_117 rfl rfl ?_
  refine AT.iload_n M_117 rfl rfl ?_
  refine AT.iload_n M_117 rfl rfl ?_
  refine AT.iconst M_117 rfl (v := 0) (by decide) ?_
  refine AT.iload_n M_117 rfl rfl ?_
  refine AT.cv5x M_117 rfl M_174 rfl (Nat.le_of_ble_eq_true rfl) (xKd.of (Or.inr (Or.inr (Or.inl ⟨rfl, rfl, rfl⟩)))) (by decide) (c_174x5 hc hk (⟨by decide, by decide⟩) hv hwt) rfl rfl ?_ (Nat.le_of_ble_eq_true rfl) rfl
  exact ⟨rfl, rfl⟩
theorem c_119 {X : XS} {s : Nat} (hs : s < 7) {c n : Nat} (hc : c < 4) (hp : mPr X 0) (hk : sOk (xK X 0) s) (hB : kA (xK X 0) s + ((xK X 0).2.1 s).length + 1 < 400000) (hn : ((xK X 0).2.1 s).length ≤ n) (h3 : ¬ (xK X 0).1 34 c 3 = 0) (h35 : (xK X 0).1 35 c 0 = 0) (hr3 : (xK X 0).1 12 s 0 = 3) (hl : ((xK X 0).2.1 s).length < 40) (hE1 : eRq (eReq (xK X 0) s c)) (hE : eOk (eReq (xK X 0) s c)) : RU 119 [some (.ref 1), some (.int (Int32.ofNat c)), some (.int (Int32.ofNat s)), none, none, none] X (some (.int (sLast (kApp (xK X 0) s (eReq (xK X 0) s c)) s))) (fun Y => cRel 0 n 1 (pF 2) X Y (kLk (kApp (xK X 0) s (eReq (xK X 0) s c)) s)) := by
  have ho : (0 : Nat) < 2 := by decide
  refine AT.rep (fun hr => ?_)
  have h64 : ∀ i, i < 7 → 64 ≤ dR (xD X) 0 i := fun i hi => hr.choose_spec.d64 ho hi
  refine AT.iload_n M_119 rfl rfl ?_
  refine AT.cs10 M_119 rfl M_171 rfl (Nat.le_of_ble_eq_true rfl) rfl (c_171 hc) ?_ (Nat.le_of_ble_eq_true rfl) rfl
  refine AT.aload_n M_119 rfl rfl ?_
  refine AT.iload_n M_119 rfl rfl ?_
  refine AT.cv2i M_119 rfl M_176 rfl (Nat.le_of_ble_eq_true rfl) (xKd.of (Or.inr (Or.inr (Or.inl ⟨rfl, rfl, rfl⟩)))) (by decide) (c_176 hs) ?_ (Nat.le_of_ble_eq_true rfl) rfl
  refine AT.ast3 M_119 rfl rfl ?_
  refine AT.aload_n M_119 rfl rfl ?_
  refine AT.f_9_0 M_119 rfl ?_
  refine AT.f_1_1 M_119 rfl (by assumption) ?_
  refine AT.iload_n M_119 rfl rfl ?_
  refine AT.a_cls M_119 rfl rfl (by assumption) (by assumption) ?_
  refine AT.f_0_0s M_119 rfl ho hc h3 (fun q11 hq11 => ?_)
  refine AT.ast4 M_119 rfl rfl ?_
  refine AT.aload M_119 rfl rfl ?_
  refine AT.ifnull1 M_119 rfl ?_
  refine AT.aload_n M_119 rfl rfl ?_
  refine AT.f_9_0 M_119 rfl ?_
  refine AT.f_1_1 M_119 rfl (by assumption) ?_
  refine AT.iload_n M_119 rfl rfl ?_
  refine AT.a_cls M_119 rfl rfl (by assumption) (by assumption) ?_
  refine AT.f_0_1 M_119 rfl (by assumption) (by assumption) ?_
  refine AT.if_eq M_119 rfl (fun b21 => ?_) (fun b21 => absurd h35 b21)
  refine AT.aload_n M_119 rfl rfl ?_
  refine AT.f_6_12 M_119 rfl (by assumption) (by assumption) ?_
  refine AT.iconst M_119 rfl (v := 3) (by decide) ?_
  refine AT.icmp_ne M_119 rfl (fun b30 => absurd hr3 b30) (fun b30 => ?_)
  refine AT.aload_n M_119 rfl rfl ?_
  refine AT.f_6_8 M_119 rfl (by assumption) (by assumption) ?_
  refine AT.bipush M_119 rfl (v := 40) (by decide) ?_
  refine AT.icmp_lt M_119 rfl (fun b34 => ?_) (fun b34 => absurd ((i32_lt (b := 40) (by omega) (by omega)).mpr hl) b34)
  refine AT.iconst M_119 rfl (v := 0) (by decide) ?_
  refine AT.cs10 M_119 rfl M_168 rfl (Nat.le_of_ble_eq_true rfl) rfl c_168 ?_ (Nat.le_of_ble_eq_true rfl) rfl
  refine AT.aload_n M_119 rfl rfl ?_
  refine AT.newx M_119 rfl (by decide) (fun hz40 => ?_)
  refine AT.dup M_119 rfl ?_
  refine AT.aload_n M_119 rfl rfl ?_
  refine AT.f_6_5 M_119 rfl ho hs ?_
  change AT 119 _ _ (.int ((xK X 0).1 5 s 0) :: _) _ _
  refine AT.aload M_119 rfl rfl ?_
  refine AT.f_5_2 M_119 rfl (dRq.new hz40 hq11) ?_
  refine AT.aload M_119 rfl rfl ?_
  refine AT.iconst M_119 rfl (v := 0) (by decide) ?_
  refine AT.cp50 M_119 rfl M_39 rfl (Nat.le_of_ble_eq_true rfl) rfl (c_39 (e := (eReq (xK X 0) s c)) (dNew_E _ _ _ _) rfl rfl (Or.inl ⟨hE1, rfl, q11, rfl, dRq_req (dRq.new hz40 hq11)⟩)) ?_ (Nat.le_of_ble_eq_true rfl) rfl
  refine AT.cv2w M_119 rfl M_74 rfl (Nat.le_of_ble_eq_true rfl) (xKd.of (shp_sv (by assumption) (by assumption))) (by decide) (c_74 ho hs (dEnt1_E (xD X) (eReq (xK X 0) s c)) (by show ((xK X 0).2.1 s).length < 500000; have := hk.2.2.2.2.1; omega)) (fun Y hc49 => ?_) (Nat.le_of_ble_eq_true rfl) rfl
  have r1 : cRel 0 n 1 (pF 2) X Y (kApp (xK X 0) s (eReq (xK X 0) s c)) := by
    have := cRel.app (n := n) (c := 1) (z := pF 2) hs hp (fun i _ => sSame.rf (xK X 0) i) (h64 s hs) hn (dRel_ent1 0 n (xD X) _) (dHnd.of rfl rfl) rfl hc49
    exact this
  have q1 : sOk (xK Y 0) s := by rw [r1.k]; exact kApp_ok hk hE hB
  refine AT.aload_n M_119 rfl rfl ?_
  refine AT.cv1i M_119 rfl M_62 rfl (Nat.le_of_ble_eq_true rfl) (xKd.of (shp_sv (by assumption) (by assumption))) (by decide) (c_62 ho hs) ?_ (Nat.le_of_ble_eq_true rfl) rfl
  refine AT.ist5 M_119 rfl rfl ?_
  refine AT.aload_n M_119 rfl rfl ?_
  refine AT.f_9_0 M_119 rfl ?_
  refine AT.aload_n M_119 rfl rfl ?_
  refine AT.cv20 M_119 rfl M_28 rfl (Nat.le_of_ble_eq_true rfl) (xKd.of (shp_cl (by assumption))) (by decide) (c_28k ho hs r1.pr q1) ?_ (Nat.le_of_ble_eq_true rfl) rfl
  refine AT.iload M_119 rfl rfl ?_
  refine AT.iret M_119 rfl rfl ?_
  rw [r1.k]
  have e9 : xK Y 0 = kApp (xK X 0) s (eReq (xK X 0) s c) := r1.k
  refine ⟨rfl, ?_⟩
  rw [← r1.k]
  exact (r1.tr (cRel.set (n := n) r1.pr (fun i _ => sSame.lk _ _ _))).up (by omega) (by omega)
theorem c_119x1 {X : XS} {p q : Int32} (hp : p < 0 ∨ ¬ p < 4) : RX 119 [some (.ref 1), some (.int p), some (.int q), none, none, none] X 2 (xThr X) := by
  have ho : (0 : Nat) < 2 := by decide
  refine AT.iload_n M_119 rfl rfl ?_
  refine AT.cs1x M_119 rfl M_171 rfl (Nat.le_of_ble_eq_true rfl) rfl (c_171x hp) rfl rfl ?_ (Nat.le_of_ble_eq_true rfl) rfl
  exact ⟨rfl, rfl⟩
theorem c_119x2 {X : XS} {c : Nat} {p : Int32} (hc : c < 4) (hp : p < 0 ∨ ¬ p < 7) : RX 119 [some (.ref 1), some (.int (Int32.ofNat c)), some (.int p), none, none, none] X 2 (xThr X) := by
  have ho : (0 : Nat) < 2 := by decide
  refine AT.iload_n M_119 rfl rfl ?_
  refine AT.cs10 M_119 rfl M_171 rfl (Nat.le_of_ble_eq_true rfl) rfl (c_171 hc) ?_ (Nat.le_of_ble_eq_true rfl) rfl
  refine AT.aload_n M_119 rfl rfl ?_
  refine AT.iload_n M_119 rfl rfl ?_
  refine AT.cv2x M_119 rfl M_176 rfl (Nat.le_of_ble_eq_true rfl) (xKd.of (Or.inr (Or.inr (Or.inl ⟨rfl, rfl, rfl⟩)))) (by decide) (c_176x hp) rfl rfl ?_ (Nat.le_of_ble_eq_true rfl) rfl
  exact ⟨rfl, rfl⟩
theorem c_119x3 {X : XS} {s : Nat} (hs : s < 7) {c : Nat} (hc : c < 4) (h3 : (xK X 0).1 34 c 3 = 0) : RX 119 [some (.ref 1), some (.int (Int32.ofNat c)), some (.int (Int32.ofNat s)), none, none, none] X 1 (xThr X) := by
  have ho : (0 : Nat) < 2 := by decide
  refine AT.iload_n M_119 rfl rfl ?_
  refine AT.cs10 M_119 rfl M_171 rfl (Nat.le_of_ble_eq_true rfl) rfl (c_171 hc) ?_ (Nat.le_of_ble_eq_true rfl) rfl
  refine AT.aload_n M_119 rfl rfl ?_
  refine AT.iload_n M_119 rfl rfl ?_
  refine AT.cv2i M_119 rfl M_176 rfl (Nat.le_of_ble_eq_true rfl) (xKd.of (Or.inr (Or.inr (Or.inl ⟨rfl, rfl, rfl⟩)))) (by decide) (c_176 hs) ?_ (Nat.le_of_ble_eq_true rfl) rfl
  refine AT.ast3 M_119 rfl rfl ?_
  refine AT.aload_n M_119 rfl rfl ?_
  refine AT.f_9_0 M_119 rfl ?_
  refine AT.f_1_1 M_119 rfl (by assumption) ?_
  refine AT.iload_n M_119 rfl rfl ?_
  refine AT.a_cls M_119 rfl rfl (by assumption) (by assumption) ?_
  refine AT.f_0_0n M_119 rfl ho hc h3 ?_
  refine AT.zst4 M_119 rfl rfl ?_
  refine AT.aload0 M_119 rfl rfl ?_
  refine AT.ifnull0 M_119 rfl ?_
  refine AT.thr M_119 rfl rfl (Nat.le_of_ble_eq_true rfl) rfl ?_
  exact ⟨rfl, rfl⟩
theorem c_119x4 {X : XS} {s : Nat} (hs : s < 7) {c : Nat} (hc : c < 4) (h3 : ¬ (xK X 0).1 34 c 3 = 0) (h35 : ¬ (xK X 0).1 35 c 0 = 0) : RX 119 [some (.ref 1), some (.int (Int32.ofNat c)), some (.int (Int32.ofNat s)), none, none, none] X 1 (xThr X) := by
  have ho : (0 : Nat) < 2 := by decide
  refine AT.iload_n M_119 rfl rfl ?_
  refine AT.cs10 M_119 rfl M_171 rfl (Nat.le_of_ble_eq_true rfl) rfl (c_171 hc) ?_ (Nat.le_of_ble_eq_true rfl) rfl
  refine AT.aload_n M_119 rfl rfl ?_
  refine AT.iload_n M_119 rfl rfl ?_
  refine AT.cv2i M_119 rfl M_176 rfl (Nat.le_of_ble_eq_true rfl) (xKd.of (Or.inr (Or.inr (Or.inl ⟨rfl, rfl, rfl⟩)))) (by decide) (c_176 hs) ?_ (Nat.le_of_ble_eq_true rfl) rfl
  refine AT.ast3 M_119 rfl rfl ?_
  refine AT.aload_n M_119 rfl rfl ?_
  refine AT.f_9_0 M_119 rfl ?_
  refine AT.f_1_1 M_119 rfl (by assumption) ?_
  refine AT.iload_n M_119 rfl rfl ?_
  refine AT.a_cls M_119 rfl rfl (by assumption) (by assumption) ?_
  refine AT.f_0_0s M_119 rfl ho hc h3 (fun q11 hq11 => ?_)
  refine AT.ast4 M_119 rfl rfl ?_
  refine AT.aload M_119 rfl rfl ?_
  refine AT.ifnull1 M_119 rfl ?_
  refine AT.aload_n M_119 rfl rfl ?_
  refine AT.f_9_0 M_119 rfl ?_
  refine AT.f_1_1 M_119 rfl (by assumption) ?_
  refine AT.iload_n M_119 rfl rfl ?_
  refine AT.a_cls M_119 rfl rfl (by assumption) (by assumption) ?_
  refine AT.f_0_1 M_119 rfl (by assumption) (by assumption) ?_
  refine AT.if_eq M_119 rfl (fun b21 => absurd b21 h35) (fun b21 => ?_)
  refine AT.thr M_119 rfl rfl (Nat.le_of_ble_eq_true rfl) rfl ?_
  exact ⟨rfl, rfl⟩
theorem c_119x5 {X : XS} {s : Nat} (hs : s < 7) {c : Nat} (hc : c < 4) (h3 : ¬ (xK X 0).1 34 c 3 = 0) (h35 : (xK X 0).1 35 c 0 = 0) (hr3 : ¬ (xK X 0).1 12 s 0 = 3) : RX 119 [some (.ref 1), some (.int (Int32.ofNat c)), some (.int (Int32.ofNat s)), none, none, none] X 1 (xThr X) := by
  have ho : (0 : Nat) < 2 := by decide
  refine AT.iload_n M_119 rfl rfl ?_
  refine AT.cs10 M_119 rfl M_171 rfl (Nat.le_of_ble_eq_true rfl) rfl (c_171 hc) ?_ (Nat.le_of_ble_eq_true rfl) rfl
  refine AT.aload_n M_119 rfl rfl ?_
  refine AT.iload_n M_119 rfl rfl ?_
  refine AT.cv2i M_119 rfl M_176 rfl (Nat.le_of_ble_eq_true rfl) (xKd.of (Or.inr (Or.inr (Or.inl ⟨rfl, rfl, rfl⟩)))) (by decide) (c_176 hs) ?_ (Nat.le_of_ble_eq_true rfl) rfl
  refine AT.ast3 M_119 rfl rfl ?_
  refine AT.aload_n M_119 rfl rfl ?_
  refine AT.f_9_0 M_119 rfl ?_
  refine AT.f_1_1 M_119 rfl (by assumption) ?_
  refine AT.iload_n M_119 rfl rfl ?_
  refine AT.a_cls M_119 rfl rfl (by assumption) (by assumption) ?_
  refine AT.f_0_0s M_119 rfl ho hc h3 (fun q11 hq11 => ?_)
  refine AT.ast4 M_119 rfl rfl ?_
  refine AT.aload M_119 rfl rfl ?_
  refine AT.ifnull1 M_119 rfl ?_
  refine AT.aload_n M_119 rfl rfl ?_
  refine AT.f_9_0 M_119 rfl ?_
  refine AT.f_1_1 M_119 rfl (by assumption) ?_
  refine AT.iload_n M_119 rfl rfl ?_
  refine AT.a_cls M_119 rfl rfl (by assumption) (by assumption) ?_
  refine AT.f_0_1 M_119 rfl (by assumption) (by assumption) ?_
  refine AT.if_eq M_119 rfl (fun b21 => ?_) (fun b21 => absurd h35 b21)
  refine AT.aload_n M_119 rfl rfl ?_
  refine AT.f_6_12 M_119 rfl (by assumption) (by assumption) ?_
  refine AT.iconst M_119 rfl (v := 3) (by decide) ?_
  refine AT.icmp_ne M_119 rfl (fun b30 => ?_) (fun b30 => absurd hr3 b30)
  refine AT.iconst M_119 rfl (v := 1) (by decide) ?_
  refine AT.goto M_119 rfl ?_
  refine AT.cs1x M_119 rfl M_168 rfl (Nat.le_of_ble_eq_true rfl) rfl c_168x rfl rfl ?_ (Nat.le_of_ble_eq_true rfl) rfl
  exact ⟨rfl, rfl⟩
theorem c_119x6 {X : XS} {s : Nat} (hs : s < 7) {c : Nat} (hc : c < 4) (h3 : ¬ (xK X 0).1 34 c 3 = 0) (h35 : (xK X 0).1 35 c 0 = 0) (hr3 : (xK X 0).1 12 s 0 = 3) (hl : ¬ ((xK X 0).2.1 s).length < 40) (hl9 : ((xK X 0).2.1 s).length < 400000) : RX 119 [some (.ref 1), some (.int (Int32.ofNat c)), some (.int (Int32.ofNat s)), none, none, none] X 1 (xThr X) := by
  have ho : (0 : Nat) < 2 := by decide
  refine AT.iload_n M_119 rfl rfl ?_
  refine AT.cs10 M_119 rfl M_171 rfl (Nat.le_of_ble_eq_true rfl) rfl (c_171 hc) ?_ (Nat.le_of_ble_eq_true rfl) rfl
  refine AT.aload_n M_119 rfl rfl ?_
  refine AT.iload_n M_119 rfl rfl ?_
  refine AT.cv2i M_119 rfl M_176 rfl (Nat.le_of_ble_eq_true rfl) (xKd.of (Or.inr (Or.inr (Or.inl ⟨rfl, rfl, rfl⟩)))) (by decide) (c_176 hs) ?_ (Nat.le_of_ble_eq_true rfl) rfl
  refine AT.ast3 M_119 rfl rfl ?_
  refine AT.aload_n M_119 rfl rfl ?_
  refine AT.f_9_0 M_119 rfl ?_
  refine AT.f_1_1 M_119 rfl (by assumption) ?_
  refine AT.iload_n M_119 rfl rfl ?_
  refine AT.a_cls M_119 rfl rfl (by assumption) (by assumption) ?_
  refine AT.f_0_0s M_119 rfl ho hc h3 (fun q11 hq11 => ?_)
  refine AT.ast4 M_119 rfl rfl ?_
  refine AT.aload M_119 rfl rfl ?_
  refine AT.ifnull1 M_119 rfl ?_
  refine AT.aload_n M_119 rfl rfl ?_
  refine AT.f_9_0 M_119 rfl ?_
  refine AT.f_1_1 M_119 rfl (by assumption) ?_
  refine AT.iload_n M_119 rfl rfl ?_
  refine AT.a_cls M_119 rfl rfl (by assumption) (by assumption) ?_
  refine AT.f_0_1 M_119 rfl (by assumption) (by assumption) ?_
  refine AT.if_eq M_119 rfl (fun b21 => ?_) (fun b21 => absurd h35 b21)
  refine AT.aload_n M_119 rfl rfl ?_
  refine AT.f_6_12 M_119 rfl (by assumption) (by assumption) ?_
  refine AT.iconst M_119 rfl (v := 3) (by decide) ?_
  refine AT.icmp_ne M_119 rfl (fun b30 => absurd hr3 b30) (fun b30 => ?_)
  refine AT.aload_n M_119 rfl rfl ?_
  refine AT.f_6_8 M_119 rfl (by assumption) (by assumption) ?_
  refine AT.bipush M_119 rfl (v := 40) (by decide) ?_
  refine AT.icmp_lt M_119 rfl (fun b34 => absurd ((i32_lt (b := 40) (by omega) (by omega)).mp b34) hl) (fun b34 => ?_)
  refine AT.iconst M_119 rfl (v := 1) (by decide) ?_
  refine AT.goto M_119 rfl ?_
  refine AT.cs1x M_119 rfl M_168 rfl (Nat.le_of_ble_eq_true rfl) rfl c_168x rfl rfl ?_ (Nat.le_of_ble_eq_true rfl) rfl
  exact ⟨rfl, rfl⟩
theorem c_105 {X : XS} {s : Nat} (hs : s < 7) {j : Nat} (hj : j < 7) {n : Nat} (hp : mPr X 0) (hk : sOk (xK X 0) s) (hB : kA (xK X 0) s + ((xK X 0).2.1 s).length + 1 < 400000) (hn : ((xK X 0).2.1 s).length ≤ n) (hb : sMayC (xK X 0) s = true) (hs2 : sBit (sMem (xK X 0) s) j = false) : RU 105 [some (.ref 1), some (.int (Int32.ofNat s)), some (.int (Int32.ofNat j)), none, none] X (some (.int (sLast (kApp (xK X 0) s (eNil ((xK X 0).1 5 s 0) 4 (sFlip (sMem (xK X 0) s) j))) s))) (fun Y => cRel 0 n 1 (pF 2) X Y (kJoin (xK X 0) s j (eNil ((xK X 0).1 5 s 0) 4 (sFlip (sMem (xK X 0) s) j)))) := by
  have ho : (0 : Nat) < 2 := by decide
  refine AT.rep (fun hr => ?_)
  have h64 : ∀ i, i < 7 → 64 ≤ dR (xD X) 0 i := fun i hi => hr.choose_spec.d64 ho hi
  have hB0 := hb
  unfold sMayC at hB0
  rw [← (hp s hs).2] at hB0
  obtain ⟨m, hm, hmm⟩ := hk.m128
  have hfl : sMem (xK X 0) s ||| ((1 : Int32) <<< (Int32.ofNat j &&& 31)) = sFlip (sMem (xK X 0) s) j := by
    rw [hmm] at hs2 ⊢
    exact (sFlip_all m hm j hj).2.1 hs2
  have hE : eOk (eNil ((xK X 0).1 5 s 0) 4 (sFlip (sMem (xK X 0) s) j)) := eMem_ok (by rw [hmm]; exact (sFlip_all m hm j hj).1)
  refine AT.aload_n M_105 rfl rfl ?_
  refine AT.iload_n M_105 rfl rfl ?_
  refine AT.cv2i M_105 rfl M_176 rfl (Nat.le_of_ble_eq_true rfl) (xKd.of (Or.inr (Or.inr (Or.inl ⟨rfl, rfl, rfl⟩)))) (by decide) (c_176 hs) ?_ (Nat.le_of_ble_eq_true rfl) rfl
  refine AT.ast3 M_105 rfl rfl ?_
  refine AT.iload_n M_105 rfl rfl ?_
  refine AT.cs10 M_105 rfl M_169 rfl (Nat.le_of_ble_eq_true rfl) rfl (c_169 hj) ?_ (Nat.le_of_ble_eq_true rfl) rfl
  refine AT.aload_n M_105 rfl rfl ?_
  refine AT.cv1i M_105 rfl M_71 rfl (Nat.le_of_ble_eq_true rfl) (xKd.of (shp_sv (by assumption) (by assumption))) (by decide) (c_71 ho hs hk.wf) ?_ (Nat.le_of_ble_eq_true rfl) rfl
  refine AT.if_eq M_105 rfl (fun b8 => absurd b8 (bI_ne0.mpr hB0)) (fun b8 => ?_)
  refine AT.aload_n M_105 rfl rfl ?_
  refine AT.iload_n M_105 rfl rfl ?_
  refine AT.cv2i M_105 rfl M_66 rfl (Nat.le_of_ble_eq_true rfl) (xKd.of (shp_sv (by assumption) (by assumption))) (by decide) (c_66 ho hs hj (hp s hs).1) ?_ (Nat.le_of_ble_eq_true rfl) rfl
  refine AT.if_eq M_105 rfl (fun b12 => ?_) (fun b12 => absurd (bI_eq0.mpr hs2) b12)
  refine AT.iconst M_105 rfl (v := 0) (by decide) ?_
  refine AT.cs10 M_105 rfl M_168 rfl (Nat.le_of_ble_eq_true rfl) rfl c_168 ?_ (Nat.le_of_ble_eq_true rfl) rfl
  refine AT.aload_n M_105 rfl rfl ?_
  refine AT.newx M_105 rfl (by decide) (fun hz18 => ?_)
  refine AT.dup M_105 rfl ?_
  refine AT.aload_n M_105 rfl rfl ?_
  refine AT.f_6_5 M_105 rfl ho hs ?_
  change AT 105 _ _ (.int ((xK X 0).1 5 s 0) :: _) _ _
  refine AT.iconst M_105 rfl (v := 4) (by decide) ?_
  refine AT.anull M_105 rfl ?_
  refine AT.aload_n M_105 rfl rfl ?_
  refine AT.f_6_10 M_105 rfl ho hs ?_
  rw [show dV (xD (xSetD X (dNew (xD X) (dC (xD X) + 1) 2 (pF 2)))) 0 10 s 0 = sMem (xK X 0) s from (hp s hs).1]
  refine AT.iconst M_105 rfl (v := 1) (by decide) ?_
  refine AT.iload_n M_105 rfl rfl ?_
  refine AT.ishl M_105 rfl rfl ?_
  refine AT.ior M_105 rfl rfl ?_
  refine AT.cp50 M_105 rfl M_39 rfl (Nat.le_of_ble_eq_true rfl) rfl (c_39 (e := (eNil ((xK X 0).1 5 s 0) 4 (sFlip (sMem (xK X 0) s) j))) (dNew_E _ _ _ _) rfl rfl (Or.inr ⟨(by intro z; exact absurd (show (4 : Int32) ≤ 3 from z.2) (by decide)), rfl, hfl, rfl, rfl, rfl, rfl⟩)) ?_ (Nat.le_of_ble_eq_true rfl) rfl
  refine AT.cv2w M_105 rfl M_74 rfl (Nat.le_of_ble_eq_true rfl) (xKd.of (shp_sv (by assumption) (by assumption))) (by decide) (c_74 ho hs (dEnt1_E (xD X) (eNil ((xK X 0).1 5 s 0) 4 (sFlip (sMem (xK X 0) s) j))) (by show ((xK X 0).2.1 s).length < 500000; have := hk.2.2.2.2.1; omega)) (fun Y hc31 => ?_) (Nat.le_of_ble_eq_true rfl) rfl
  have r1 : cRel 0 n 1 (pF 2) X Y (kApp (xK X 0) s (eNil ((xK X 0).1 5 s 0) 4 (sFlip (sMem (xK X 0) s) j))) := by
    have := cRel.app (n := n) (c := 1) (z := pF 2) hs hp (fun i _ => sSame.rf (xK X 0) i) (h64 s hs) hn (dRel_ent1 0 n (xD X) _) (dHnd.of rfl rfl) rfl hc31
    exact this
  have q1 : sOk (xK Y 0) s := by rw [r1.k]; exact kApp_ok hk hE hB
  refine AT.aload_n M_105 rfl rfl ?_
  refine AT.cv1i M_105 rfl M_62 rfl (Nat.le_of_ble_eq_true rfl) (xKd.of (shp_sv (by assumption) (by assumption))) (by decide) (c_62 ho hs) ?_ (Nat.le_of_ble_eq_true rfl) rfl
  refine AT.ist4 M_105 rfl rfl ?_
  refine AT.aload_n M_105 rfl rfl ?_
  refine AT.f_6_2 M_105 rfl (by assumption) (by assumption) ?_
  refine AT.iload_n M_105 rfl rfl ?_
  refine AT.iload M_105 rfl rfl ?_
  refine AT.s_nxt M_105 rfl rfl (by assumption) (by assumption) (by assumption) ?_
  refine AT.aload_n M_105 rfl rfl ?_
  refine AT.f_6_3 M_105 rfl (by assumption) (by assumption) ?_
  refine AT.iload_n M_105 rfl rfl ?_
  refine AT.iconst M_105 rfl (v := 0) (by decide) ?_
  refine AT.s_mat M_105 rfl rfl ho hs hj ?_
  simp only [xK_same, xSetK_idem]
  have r2 := cRel.set (n := n) (K := (kSet (kSet (xK Y 0) 2 s j (sLast (xK Y 0) s)) 3 s j 0)) r1.pr (fun i _ => (sSame.set (by decide) i).tr (sSame.set (by decide) i))
  have q2 : sOk (xK (xSetK Y 0 (kSet (kSet (xK Y 0) 2 s j (sLast (xK Y 0) s)) 3 s j 0)) 0) s := by rw [xK_same]; exact ((sSame.set (by decide) s).tr (sSame.set (by decide) s)).ok ((kSet_ne (by omega)).trans (kSet_ne (by omega))) q1
  refine AT.aload_n M_105 rfl rfl ?_
  refine AT.f_9_0 M_105 rfl ?_
  refine AT.aload_n M_105 rfl rfl ?_
  refine AT.cv20 M_105 rfl M_28 rfl (Nat.le_of_ble_eq_true rfl) (xKd.of (shp_cl (by assumption))) (by decide) (c_28k ho hs r2.pr q2) ?_ (Nat.le_of_ble_eq_true rfl) rfl
  refine AT.iload M_105 rfl rfl ?_
  refine AT.iret M_105 rfl rfl ?_
  rw [xK_same, xSetK_idem]
  have r3 := cRel.set (n := n) (K := kLk (kSet (kSet (xK Y 0) 2 s j (sLast (xK Y 0) s)) 3 s j 0) s) r2.pr (fun i _ => by rw [xK_same]; exact sSame.lk _ _ _)
  rw [xSetK_idem] at r3
  refine ⟨by rw [r1.k], ?_⟩
  rw [show kJoin (xK X 0) s j (eNil ((xK X 0).1 5 s 0) 4 (sFlip (sMem (xK X 0) s) j)) = kLk (kSet (kSet (xK Y 0) 2 s j (sLast (xK Y 0) s)) 3 s j 0) s from by rw [r1.k]; rfl]
  exact ((r1.tr r2).tr r3).up (by omega) (by omega)
theorem c_105x1 {X : XS} {p q : Int32} (hp : p < 0 ∨ ¬ p < 7) : RX 105 [some (.ref 1), some (.int p), some (.int q), none, none] X 2 (xThr X) := by
  have ho : (0 : Nat) < 2 := by decide
  refine AT.aload_n M_105 rfl rfl ?_
  refine AT.iload_n M_105 rfl rfl ?_
  refine AT.cv2x M_105 rfl M_176 rfl (Nat.le_of_ble_eq_true rfl) (xKd.of (Or.inr (Or.inr (Or.inl ⟨rfl, rfl, rfl⟩)))) (by decide) (c_176x hp) rfl rfl ?_ (Nat.le_of_ble_eq_true rfl) rfl
  exact ⟨rfl, rfl⟩
theorem c_105x2 {X : XS} {s : Nat} (hs : s < 7) {q : Int32} (hp : q < 0 ∨ ¬ q < 7) : RX 105 [some (.ref 1), some (.int (Int32.ofNat s)), some (.int q), none, none] X 2 (xThr X) := by
  have ho : (0 : Nat) < 2 := by decide
  refine AT.aload_n M_105 rfl rfl ?_
  refine AT.iload_n M_105 rfl rfl ?_
  refine AT.cv2i M_105 rfl M_176 rfl (Nat.le_of_ble_eq_true rfl) (xKd.of (Or.inr (Or.inr (Or.inl ⟨rfl, rfl, rfl⟩)))) (by decide) (c_176 hs) ?_ (Nat.le_of_ble_eq_true rfl) rfl
  refine AT.ast3 M_105 rfl rfl ?_
  refine AT.iload_n M_105 rfl rfl ?_
  refine AT.cs1x M_105 rfl M_169 rfl (Nat.le_of_ble_eq_true rfl) rfl (c_169x hp) rfl rfl ?_ (Nat.le_of_ble_eq_true rfl) rfl
  exact ⟨rfl, rfl⟩
theorem c_106x1 {X : XS} {p q : Int32} (hp : p < 0 ∨ ¬ p < 7) : RX 106 [some (.ref 1), some (.int p), some (.int q), none, none, none] X 2 (xThr X) := by
  have ho : (0 : Nat) < 2 := by decide
  refine AT.aload_n M_106 rfl rfl ?_
  refine AT.iload_n M_106 rfl rfl ?_
  refine AT.cv2x M_106 rfl M_176 rfl (Nat.le_of_ble_eq_true rfl) (xKd.of (Or.inr (Or.inr (Or.inl ⟨rfl, rfl, rfl⟩)))) (by decide) (c_176x hp) rfl rfl ?_ (Nat.le_of_ble_eq_true rfl) rfl
  exact ⟨rfl, rfl⟩
theorem c_106x2 {X : XS} {s : Nat} (hs : s < 7) {q : Int32} (hp : q < 0 ∨ ¬ q < 7) : RX 106 [some (.ref 1), some (.int (Int32.ofNat s)), some (.int q), none, none, none] X 2 (xThr X) := by
  have ho : (0 : Nat) < 2 := by decide
  refine AT.aload_n M_106 rfl rfl ?_
  refine AT.iload_n M_106 rfl rfl ?_
  refine AT.cv2i M_106 rfl M_176 rfl (Nat.le_of_ble_eq_true rfl) (xKd.of (Or.inr (Or.inr (Or.inl ⟨rfl, rfl, rfl⟩)))) (by decide) (c_176 hs) ?_ (Nat.le_of_ble_eq_true rfl) rfl
  refine AT.ast3 M_106 rfl rfl ?_
  refine AT.iload_n M_106 rfl rfl ?_
  refine AT.cs1x M_106 rfl M_169 rfl (Nat.le_of_ble_eq_true rfl) rfl (c_169x hp) rfl rfl ?_ (Nat.le_of_ble_eq_true rfl) rfl
  exact ⟨rfl, rfl⟩
theorem c_105x3 {X : XS} {s : Nat} (hs : s < 7) {j : Nat} (hj : j < 7) (hp : mPr X 0) (hk : sOk (xK X 0) s) (hb : sMayC (xK X 0) s = false) : RX 105 [some (.ref 1), some (.int (Int32.ofNat s)), some (.int (Int32.ofNat j)), none, none] X 1 (xThr X) := by
  have ho : (0 : Nat) < 2 := by decide
  have hB0 := hb
  unfold sMayC at hB0
  rw [← (hp s hs).2] at hB0
  refine AT.aload_n M_105 rfl rfl ?_
  refine AT.iload_n M_105 rfl rfl ?_
  refine AT.cv2i M_105 rfl M_176 rfl (Nat.le_of_ble_eq_true rfl) (xKd.of (Or.inr (Or.inr (Or.inl ⟨rfl, rfl, rfl⟩)))) (by decide) (c_176 hs) ?_ (Nat.le_of_ble_eq_true rfl) rfl
  refine AT.ast3 M_105 rfl rfl ?_
  refine AT.iload_n M_105 rfl rfl ?_
  refine AT.cs10 M_105 rfl M_169 rfl (Nat.le_of_ble_eq_true rfl) rfl (c_169 hj) ?_ (Nat.le_of_ble_eq_true rfl) rfl
  refine AT.aload_n M_105 rfl rfl ?_
  refine AT.cv1i M_105 rfl M_71 rfl (Nat.le_of_ble_eq_true rfl) (xKd.of (shp_sv (by assumption) (by assumption))) (by decide) (c_71 ho hs hk.wf) ?_ (Nat.le_of_ble_eq_true rfl) rfl
  refine AT.if_eq M_105 rfl (fun b8 => ?_) (fun b8 => absurd (bI_eq0.mpr hB0) b8)
  refine AT.iconst M_105 rfl (v := 1) (by decide) ?_
  refine AT.goto M_105 rfl ?_
  refine AT.cs1x M_105 rfl M_168 rfl (Nat.le_of_ble_eq_true rfl) rfl c_168x rfl rfl ?_ (Nat.le_of_ble_eq_true rfl) rfl
  exact ⟨rfl, rfl⟩
theorem c_105x4 {X : XS} {s : Nat} (hs : s < 7) {j : Nat} (hj : j < 7) (hp : mPr X 0) (hk : sOk (xK X 0) s) (hb : sMayC (xK X 0) s = true) (hs2 : sBit (sMem (xK X 0) s) j = true) : RX 105 [some (.ref 1), some (.int (Int32.ofNat s)), some (.int (Int32.ofNat j)), none, none] X 1 (xThr X) := by
  have ho : (0 : Nat) < 2 := by decide
  have hB0 := hb
  unfold sMayC at hB0
  rw [← (hp s hs).2] at hB0
  refine AT.aload_n M_105 rfl rfl ?_
  refine AT.iload_n M_105 rfl rfl ?_
  refine AT.cv2i M_105 rfl M_176 rfl (Nat.le_of_ble_eq_true rfl) (xKd.of (Or.inr (Or.inr (Or.inl ⟨rfl, rfl, rfl⟩)))) (by decide) (c_176 hs) ?_ (Nat.le_of_ble_eq_true rfl) rfl
  refine AT.ast3 M_105 rfl rfl ?_
  refine AT.iload_n M_105 rfl rfl ?_
  refine AT.cs10 M_105 rfl M_169 rfl (Nat.le_of_ble_eq_true rfl) rfl (c_169 hj) ?_ (Nat.le_of_ble_eq_true rfl) rfl
  refine AT.aload_n M_105 rfl rfl ?_
  refine AT.cv1i M_105 rfl M_71 rfl (Nat.le_of_ble_eq_true rfl) (xKd.of (shp_sv (by assumption) (by assumption))) (by decide) (c_71 ho hs hk.wf) ?_ (Nat.le_of_ble_eq_true rfl) rfl
  refine AT.if_eq M_105 rfl (fun b8 => absurd b8 (bI_ne0.mpr hB0)) (fun b8 => ?_)
  refine AT.aload_n M_105 rfl rfl ?_
  refine AT.iload_n M_105 rfl rfl ?_
  refine AT.cv2i M_105 rfl M_66 rfl (Nat.le_of_ble_eq_true rfl) (xKd.of (shp_sv (by assumption) (by assumption))) (by decide) (c_66 ho hs hj (hp s hs).1) ?_ (Nat.le_of_ble_eq_true rfl) rfl
  refine AT.if_eq M_105 rfl (fun b12 => absurd b12 (bI_ne0.mpr hs2)) (fun b12 => ?_)
  refine AT.iconst M_105 rfl (v := 1) (by decide) ?_
  refine AT.goto M_105 rfl ?_
  refine AT.cs1x M_105 rfl M_168 rfl (Nat.le_of_ble_eq_true rfl) rfl c_168x rfl rfl ?_ (Nat.le_of_ble_eq_true rfl) rfl
  exact ⟨rfl, rfl⟩
theorem c_106 {X : XS} {s : Nat} (hs : s < 7) {j : Nat} (hj : j < 7) {n : Nat} (hp : mPr X 0) (hk : sOk (xK X 0) s) (hB : kA (xK X 0) s + ((xK X 0).2.1 s).length + 1 < 400000) (hn : ((xK X 0).2.1 s).length ≤ n) (hb : sMayC (xK X 0) s = true) (hs2 : sBit (sMem (xK X 0) s) j = true) (h0 : ¬ sFlip (sMem (xK X 0) s) j = 0) : RU 106 [some (.ref 1), some (.int (Int32.ofNat s)), some (.int (Int32.ofNat j)), none, none, none] X (some (.int (sLast (kApp (xK X 0) s (eNil ((xK X 0).1 5 s 0) 4 (sFlip (sMem (xK X 0) s) j))) s))) (fun Y => cRel 0 n 1 (pF 2) X Y (kLk (kApp (xK X 0) s (eNil ((xK X 0).1 5 s 0) 4 (sFlip (sMem (xK X 0) s) j))) s)) := by
  have ho : (0 : Nat) < 2 := by decide
  refine AT.rep (fun hr => ?_)
  have h64 : ∀ i, i < 7 → 64 ≤ dR (xD X) 0 i := fun i hi => hr.choose_spec.d64 ho hi
  have hB0 := hb
  unfold sMayC at hB0
  rw [← (hp s hs).2] at hB0
  obtain ⟨m, hm, hmm⟩ := hk.m128
  have hfl : sMem (xK X 0) s &&& (((1 : Int32) <<< (Int32.ofNat j &&& 31)) ^^^ (-1)) = sFlip (sMem (xK X 0) s) j := by
    rw [hmm] at hs2 ⊢
    exact (sFlip_all m hm j hj).2.2 hs2
  have hE : eOk (eNil ((xK X 0).1 5 s 0) 4 (sFlip (sMem (xK X 0) s) j)) := eMem_ok (by rw [hmm]; exact (sFlip_all m hm j hj).1)
  refine AT.aload_n M_106 rfl rfl ?_
  refine AT.iload_n M_106 rfl rfl ?_
  refine AT.cv2i M_106 rfl M_176 rfl (Nat.le_of_ble_eq_true rfl) (xKd.of (Or.inr (Or.inr (Or.inl ⟨rfl, rfl, rfl⟩)))) (by decide) (c_176 hs) ?_ (Nat.le_of_ble_eq_true rfl) rfl
  refine AT.ast3 M_106 rfl rfl ?_
  refine AT.iload_n M_106 rfl rfl ?_
  refine AT.cs10 M_106 rfl M_169 rfl (Nat.le_of_ble_eq_true rfl) rfl (c_169 hj) ?_ (Nat.le_of_ble_eq_true rfl) rfl
  refine AT.aload_n M_106 rfl rfl ?_
  refine AT.f_6_10 M_106 rfl ho hs ?_
  rw [(hp s hs).1]
  refine AT.iconst M_106 rfl (v := 1) (by decide) ?_
  refine AT.iload_n M_106 rfl rfl ?_
  refine AT.ishl M_106 rfl rfl ?_
  refine AT.iconst M_106 rfl (v := (-1)) (by decide) ?_
  refine AT.ixor M_106 rfl rfl ?_
  refine AT.iand M_106 rfl rfl ?_
  refine AT.ist4 M_106 rfl rfl ?_
  refine AT.aload_n M_106 rfl rfl ?_
  refine AT.cv1i M_106 rfl M_71 rfl (Nat.le_of_ble_eq_true rfl) (xKd.of (shp_sv (by assumption) (by assumption))) (by decide) (c_71 ho hs hk.wf) ?_ (Nat.le_of_ble_eq_true rfl) rfl
  refine AT.if_eq M_106 rfl (fun b17 => absurd b17 (bI_ne0.mpr hB0)) (fun b17 => ?_)
  refine AT.aload_n M_106 rfl rfl ?_
  refine AT.iload_n M_106 rfl rfl ?_
  refine AT.cv2i M_106 rfl M_66 rfl (Nat.le_of_ble_eq_true rfl) (xKd.of (shp_sv (by assumption) (by assumption))) (by decide) (c_66 ho hs hj (hp s hs).1) ?_ (Nat.le_of_ble_eq_true rfl) rfl
  refine AT.if_eq M_106 rfl (fun b21 => absurd b21 (bI_ne0.mpr hs2)) (fun b21 => ?_)
  refine AT.iload M_106 rfl rfl ?_
  refine AT.if_ne M_106 rfl (fun b23 => ?_) (fun b23 => absurd (by rw [hfl]; exact h0) b23)
  refine AT.iconst M_106 rfl (v := 0) (by decide) ?_
  refine AT.cs10 M_106 rfl M_168 rfl (Nat.le_of_ble_eq_true rfl) rfl c_168 ?_ (Nat.le_of_ble_eq_true rfl) rfl
  refine AT.aload_n M_106 rfl rfl ?_
  refine AT.newx M_106 rfl (by decide) (fun hz29 => ?_)
  refine AT.dup M_106 rfl ?_
  refine AT.aload_n M_106 rfl rfl ?_
  refine AT.f_6_5 M_106 rfl ho hs ?_
  change AT 106 _ _ (.int ((xK X 0).1 5 s 0) :: _) _ _
  refine AT.iconst M_106 rfl (v := 4) (by decide) ?_
  refine AT.anull M_106 rfl ?_
  refine AT.iload M_106 rfl rfl ?_
  refine AT.cp50 M_106 rfl M_39 rfl (Nat.le_of_ble_eq_true rfl) rfl (c_39 (e := (eNil ((xK X 0).1 5 s 0) 4 (sFlip (sMem (xK X 0) s) j))) (dNew_E _ _ _ _) rfl rfl (Or.inr ⟨(by intro z; exact absurd (show (4 : Int32) ≤ 3 from z.2) (by decide)), rfl, hfl, rfl, rfl, rfl, rfl⟩)) ?_ (Nat.le_of_ble_eq_true rfl) rfl
  refine AT.cv2w M_106 rfl M_74 rfl (Nat.le_of_ble_eq_true rfl) (xKd.of (shp_sv (by assumption) (by assumption))) (by decide) (c_74 ho hs (dEnt1_E (xD X) (eNil ((xK X 0).1 5 s 0) 4 (sFlip (sMem (xK X 0) s) j))) (by show ((xK X 0).2.1 s).length < 500000; have := hk.2.2.2.2.1; omega)) (fun Y hc37 => ?_) (Nat.le_of_ble_eq_true rfl) rfl
  have r1 : cRel 0 n 1 (pF 2) X Y (kApp (xK X 0) s (eNil ((xK X 0).1 5 s 0) 4 (sFlip (sMem (xK X 0) s) j))) := by
    have := cRel.app (n := n) (c := 1) (z := pF 2) hs hp (fun i _ => sSame.rf (xK X 0) i) (h64 s hs) hn (dRel_ent1 0 n (xD X) _) (dHnd.of rfl rfl) rfl hc37
    exact this
  have q1 : sOk (xK Y 0) s := by rw [r1.k]; exact kApp_ok hk hE hB
  refine AT.aload_n M_106 rfl rfl ?_
  refine AT.cv1i M_106 rfl M_62 rfl (Nat.le_of_ble_eq_true rfl) (xKd.of (shp_sv (by assumption) (by assumption))) (by decide) (c_62 ho hs) ?_ (Nat.le_of_ble_eq_true rfl) rfl
  refine AT.ist5 M_106 rfl rfl ?_
  refine AT.aload_n M_106 rfl rfl ?_
  refine AT.f_9_0 M_106 rfl ?_
  refine AT.aload_n M_106 rfl rfl ?_
  refine AT.cv20 M_106 rfl M_28 rfl (Nat.le_of_ble_eq_true rfl) (xKd.of (shp_cl (by assumption))) (by decide) (c_28k ho hs r1.pr q1) ?_ (Nat.le_of_ble_eq_true rfl) rfl
  refine AT.iload M_106 rfl rfl ?_
  refine AT.iret M_106 rfl rfl ?_
  rw [r1.k]
  have e9 : xK Y 0 = kApp (xK X 0) s (eNil ((xK X 0).1 5 s 0) 4 (sFlip (sMem (xK X 0) s) j)) := r1.k
  refine ⟨rfl, ?_⟩
  rw [← r1.k]
  exact (r1.tr (cRel.set (n := n) r1.pr (fun i _ => sSame.lk _ _ _))).up (by omega) (by omega)
theorem c_106x3 {X : XS} {s : Nat} (hs : s < 7) {j : Nat} (hj : j < 7) (hp : mPr X 0) (hk : sOk (xK X 0) s) (hb : sMayC (xK X 0) s = false) : RX 106 [some (.ref 1), some (.int (Int32.ofNat s)), some (.int (Int32.ofNat j)), none, none, none] X 1 (xThr X) := by
  have ho : (0 : Nat) < 2 := by decide
  have hB0 := hb
  unfold sMayC at hB0
  rw [← (hp s hs).2] at hB0
  refine AT.aload_n M_106 rfl rfl ?_
  refine AT.iload_n M_106 rfl rfl ?_
  refine AT.cv2i M_106 rfl M_176 rfl (Nat.le_of_ble_eq_true rfl) (xKd.of (Or.inr (Or.inr (Or.inl ⟨rfl, rfl, rfl⟩)))) (by decide) (c_176 hs) ?_ (Nat.le_of_ble_eq_true rfl) rfl
  refine AT.ast3 M_106 rfl rfl ?_
  refine AT.iload_n M_106 rfl rfl ?_
  refine AT.cs10 M_106 rfl M_169 rfl (Nat.le_of_ble_eq_true rfl) rfl (c_169 hj) ?_ (Nat.le_of_ble_eq_true rfl) rfl
  refine AT.aload_n M_106 rfl rfl ?_
  refine AT.f_6_10 M_106 rfl ho hs ?_
  rw [(hp s hs).1]
  refine AT.iconst M_106 rfl (v := 1) (by decide) ?_
  refine AT.iload_n M_106 rfl rfl ?_
  refine AT.ishl M_106 rfl rfl ?_
  refine AT.iconst M_106 rfl (v := (-1)) (by decide) ?_
  refine AT.ixor M_106 rfl rfl ?_
  refine AT.iand M_106 rfl rfl ?_
  refine AT.ist4 M_106 rfl rfl ?_
  refine AT.aload_n M_106 rfl rfl ?_
  refine AT.cv1i M_106 rfl M_71 rfl (Nat.le_of_ble_eq_true rfl) (xKd.of (shp_sv (by assumption) (by assumption))) (by decide) (c_71 ho hs hk.wf) ?_ (Nat.le_of_ble_eq_true rfl) rfl
  refine AT.if_eq M_106 rfl (fun b17 => ?_) (fun b17 => absurd (bI_eq0.mpr hB0) b17)
  refine AT.iconst M_106 rfl (v := 1) (by decide) ?_
  refine AT.goto M_106 rfl ?_
  refine AT.cs1x M_106 rfl M_168 rfl (Nat.le_of_ble_eq_true rfl) rfl c_168x rfl rfl ?_ (Nat.le_of_ble_eq_true rfl) rfl
  exact ⟨rfl, rfl⟩
theorem c_106x4 {X : XS} {s : Nat} (hs : s < 7) {j : Nat} (hj : j < 7) (hp : mPr X 0) (hk : sOk (xK X 0) s) (hb : sMayC (xK X 0) s = true) (hs2 : sBit (sMem (xK X 0) s) j = false) : RX 106 [some (.ref 1), some (.int (Int32.ofNat s)), some (.int (Int32.ofNat j)), none, none, none] X 1 (xThr X) := by
  have ho : (0 : Nat) < 2 := by decide
  have hB0 := hb
  unfold sMayC at hB0
  rw [← (hp s hs).2] at hB0
  refine AT.aload_n M_106 rfl rfl ?_
  refine AT.iload_n M_106 rfl rfl ?_
  refine AT.cv2i M_106 rfl M_176 rfl (Nat.le_of_ble_eq_true rfl) (xKd.of (Or.inr (Or.inr (Or.inl ⟨rfl, rfl, rfl⟩)))) (by decide) (c_176 hs) ?_ (Nat.le_of_ble_eq_true rfl) rfl
  refine AT.ast3 M_106 rfl rfl ?_
  refine AT.iload_n M_106 rfl rfl ?_
  refine AT.cs10 M_106 rfl M_169 rfl (Nat.le_of_ble_eq_true rfl) rfl (c_169 hj) ?_ (Nat.le_of_ble_eq_true rfl) rfl
  refine AT.aload_n M_106 rfl rfl ?_
  refine AT.f_6_10 M_106 rfl ho hs ?_
  rw [(hp s hs).1]
  refine AT.iconst M_106 rfl (v := 1) (by decide) ?_
  refine AT.iload_n M_106 rfl rfl ?_
  refine AT.ishl M_106 rfl rfl ?_
  refine AT.iconst M_106 rfl (v := (-1)) (by decide) ?_
  refine AT.ixor M_106 rfl rfl ?_
  refine AT.iand M_106 rfl rfl ?_
  refine AT.ist4 M_106 rfl rfl ?_
  refine AT.aload_n M_106 rfl rfl ?_
  refine AT.cv1i M_106 rfl M_71 rfl (Nat.le_of_ble_eq_true rfl) (xKd.of (shp_sv (by assumption) (by assumption))) (by decide) (c_71 ho hs hk.wf) ?_ (Nat.le_of_ble_eq_true rfl) rfl
  refine AT.if_eq M_106 rfl (fun b17 => absurd b17 (bI_ne0.mpr hB0)) (fun b17 => ?_)
  refine AT.aload_n M_106 rfl rfl ?_
  refine AT.iload_n M_106 rfl rfl ?_
  refine AT.cv2i M_106 rfl M_66 rfl (Nat.le_of_ble_eq_true rfl) (xKd.of (shp_sv (by assumption) (by assumption))) (by decide) (c_66 ho hs hj (hp s hs).1) ?_ (Nat.le_of_ble_eq_true rfl) rfl
  refine AT.if_eq M_106 rfl (fun b21 => ?_) (fun b21 => absurd (bI_eq0.mpr hs2) b21)
  refine AT.iconst M_106 rfl (v := 1) (by decide) ?_
  refine AT.goto M_106 rfl ?_
  refine AT.cs1x M_106 rfl M_168 rfl (Nat.le_of_ble_eq_true rfl) rfl c_168x rfl rfl ?_ (Nat.le_of_ble_eq_true rfl) rfl
  exact ⟨rfl, rfl⟩
theorem c_106x5 {X : XS} {s : Nat} (hs : s < 7) {j : Nat} (hj : j < 7) (hp : mPr X 0) (hk : sOk (xK X 0) s) (hb : sMayC (xK X 0) s = true) (hs2 : sBit (sMem (xK X 0) s) j = true) (h0 : sFlip (sMem (xK X 0) s) j = 0) : RX 106 [some (.ref 1), some (.int (Int32.ofNat s)), some (.int (Int32.ofNat j)), none, none, none] X 1 (xThr X) := by
  have ho : (0 : Nat) < 2 := by decide
  have hB0 := hb
  unfold sMayC at hB0
  rw [← (hp s hs).2] at hB0
  obtain ⟨m, hm, hmm⟩ := hk.m128
  have hfl : sMem (xK X 0) s &&& (((1 : Int32) <<< (Int32.ofNat j &&& 31)) ^^^ (-1)) = sFlip (sMem (xK X 0) s) j := by
    rw [hmm] at hs2 ⊢
    exact (sFlip_all m hm j hj).2.2 hs2
  have hE : eOk (eNil ((xK X 0).1 5 s 0) 4 (sFlip (sMem (xK X 0) s) j)) := eMem_ok (by rw [hmm]; exact (sFlip_all m hm j hj).1)
  refine AT.aload_n M_106 rfl rfl ?_
  refine AT.iload_n M_106 rfl rfl ?_
  refine AT.cv2i M_106 rfl M_176 rfl (Nat.le_of_ble_eq_true rfl) (xKd.of (Or.inr (Or.inr (Or.inl ⟨rfl, rfl, rfl⟩)))) (by decide) (c_176 hs) ?_ (Nat.le_of_ble_eq_true rfl) rfl
  refine AT.ast3 M_106 rfl rfl ?_
  refine AT.iload_n M_106 rfl rfl ?_
  refine AT.cs10 M_106 rfl M_169 rfl (Nat.le_of_ble_eq_true rfl) rfl (c_169 hj) ?_ (Nat.le_of_ble_eq_true rfl) rfl
  refine AT.aload_n M_106 rfl rfl ?_
  refine AT.f_6_10 M_106 rfl ho hs ?_
  rw [(hp s hs).1]
  refine AT.iconst M_106 rfl (v := 1) (by decide) ?_
  refine AT.iload_n M_106 rfl rfl ?_
  refine AT.ishl M_106 rfl rfl ?_
  refine AT.iconst M_106 rfl (v := (-1)) (by decide) ?_
  refine AT.ixor M_106 rfl rfl ?_
  refine AT.iand M_106 rfl rfl ?_
  refine AT.ist4 M_106 rfl rfl ?_
  refine AT.aload_n M_106 rfl rfl ?_
  refine AT.cv1i M_106 rfl M_71 rfl (Nat.le_of_ble_eq_true rfl) (xKd.of (shp_sv (by assumption) (by assumption))) (by decide) (c_71 ho hs hk.wf) ?_ (Nat.le_of_ble_eq_true rfl) rfl
  refine AT.if_eq M_106 rfl (fun b17 => absurd b17 (bI_ne0.mpr hB0)) (fun b17 => ?_)
  refine AT.aload_n M_106 rfl rfl ?_
  refine AT.iload_n M_106 rfl rfl ?_
  refine AT.cv2i M_106 rfl M_66 rfl (Nat.le_of_ble_eq_true rfl) (xKd.of (shp_sv (by assumption) (by assumption))) (by decide) (c_66 ho hs hj (hp s hs).1) ?_ (Nat.le_of_ble_eq_true rfl) rfl
  refine AT.if_eq M_106 rfl (fun b21 => absurd b21 (bI_ne0.mpr hs2)) (fun b21 => ?_)
  refine AT.iload M_106 rfl rfl ?_
  refine AT.if_ne M_106 rfl (fun b23 => absurd (hfl.trans h0) b23) (fun b23 => ?_)
  refine AT.iconst M_106 rfl (v := 1) (by decide) ?_
  refine AT.goto M_106 rfl ?_
  refine AT.cs1x M_106 rfl M_168 rfl (Nat.le_of_ble_eq_true rfl) rfl c_168x rfl rfl ?_ (Nat.le_of_ble_eq_true rfl) rfl
  exact ⟨rfl, rfl⟩
