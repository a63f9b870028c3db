/-! ===== FILLING, SNAPSHOTS, LEADING ===== -/
section ATM
variable {m i pc ln r1 r2 r3 : Nat} {ls : PV} {st : List Value} {X : XS} {Q : PO → XS → Prop} {M : PMet}
theorem AT.newx {n : Nat} (hM : qPT m = M) (hr : M.1[i]? = some (pc, .new n, ln, r1, r2, r3)) (h12 : r1 < 12) (k : (dE (xD X) (dC (xD X) + 1)).1 = 0 → AT m (i + 1) ls (.ref (dC (xD X) + 1) :: st) (xSetD X (dNew (xD X) (dC (xD X) + 1) r1 (pF r1))) Q) : AT m i ls st X Q := by
  intro g hg
  have hN : pN g = dC (xD X) + 1 := hg.1.2.2.2
  have h0 : (dE (xD X) (pN g)).1 = 0 := by
    rcases Nat.eq_zero_or_pos (dE (xD X) (pN g)).1 with z | z
    · exact z
    · have := (hg.2.2.2.2.2.2.2.2.2.2.2.2.2.2.2 (pN g) (by omega)).1
      omega
  rw [hN] at h0
  have hR := hg.new (kd := r1) (ln := 0) (z := pF r1) (row := fun k => defaultValue (pT r1 k)) h12
  rw [hN] at hR
  refine PW.plain hM hr (by unfold pKind; dsimp only; rw [if_pos h12]) (q := (i + 1, ls, .ref (dC (xD X) + 1) :: st, pNew g r1 0 (pF r1) (fun k => defaultValue (pT r1 k)))) ?_ (k h0 _ hR)
  show (if r1 < 12 then some (i + 1, ls, Value.ref (pN g) :: st, pNew g r1 0 (pF r1) (fun k => defaultValue (pT r1 k))) else none) = _
  rw [if_pos h12, hN]
theorem AT.cv2j {n : Nat} {a0 : Nat} {a1 : Value} {en : PV} {Mc : PMet} {x : Value} {Y : XS} (hM : qPT m = M) (hr : M.1[i]? = some (pc, .invokevirtual n, ln, r1, r2, r3)) (hMc : qPT (r1 - 10) = Mc) (hn : Mc.2.2.1 = 2) (hs : st.length ≤ 4 ∨ (st.map fun v => v.category).sum ≤ 8) (hx : xKd X a0 Mc.2.2.2.2.2) (ho : Mc.2.2.2.2.2 < 12) (hc : RT (r1 - 10) en X (some x) Y) (k : AT m (i + 1) ls (x :: st) Y Q) (he : (pEnt [.ref a0, a1]).length ≤ Mc.2.1) (hen : pEntry Mc.2.1 [.ref a0, a1] = en) : AT m i ls (a1 :: .ref a0 :: st) X Q := AT.call hM hr rfl hMc (by rw [hn]; unfold pPop; rw [if_pos (by simp)]; rfl) hs he (pRv_v hx ho) (by rw [hen]; refine AT.mono hc ?_; rintro o Z ⟨rfl, rfl⟩; exact k)
end ATM
theorem l_380 {X : XS} {o a f : Nat} {fi fj : Nat → Nat} {v : Int32} {Kq : Nat → KK} (ho : o < 2) (hsh : shp a 12 7) (hl : ∀ q, q < 7 → loc o f (fi q) (fj q) a q) (hp : xPriv f = false) (hf : ¬ (f = 4 ∨ f = 35)) (hKs : ∀ q, q < 7 → kSet (Kq q) f (fi q) (fj q) v = Kq (q + 1)) : ∀ n q : Nat, q + n = 7 → AT 380 5 [some (.ref a), some (.int v), some (.int (Int32.ofNat q)), some (.int (Int32.ofNat 7))] [] (xSetK X o (Kq q)) (fun o' Y => o' = .inl none ∧ Y = xSetK X o (Kq 7))
  | 0, q, hq => by
    refine AT.iload_n M_380 rfl rfl ?_
    refine AT.iload_n M_380 rfl rfl ?_
    refine AT.icmp_ge M_380 rfl (fun b7 => ?_) (fun b7 => ?_)
    · refine AT.vret M_380 rfl rfl ?_
      exact ⟨rfl, by rw [show q = 7 by omega]⟩
    · exact absurd (by rw [i32_le (by omega) (by omega)]; omega) b7
  | n + 1, q, hq => by
    refine AT.iload_n M_380 rfl rfl ?_
    refine AT.iload_n M_380 rfl rfl ?_
    refine AT.icmp_ge M_380 rfl (fun b7 => ?_) (fun b7 => ?_)
    · exact absurd b7 (by rw [i32_le (by omega) (by omega)]; omega)
    · refine AT.aload_n M_380 rfl rfl ?_
      refine AT.iload_n M_380 rfl rfl ?_
      refine AT.iload_n M_380 rfl rfl ?_
      refine AT.sn M_380 rfl rfl hsh (by omega) (by omega) (hl q (by omega)) hp (fun z => absurd z hf) rfl ?_
      simp only [xK_same, xSetK_idem]
      rw [hKs q (by omega)]
      refine AT.iinc2 M_380 rfl rfl (i32_succ _) ?_
      refine AT.goto M_380 rfl ?_
      exact l_380 ho hsh hl hp hf hKs n (q + 1) (by omega)
theorem c_380 {X : XS} {o a f : Nat} {fi fj : Nat → Nat} {v : Int32} {Kq : Nat → KK} (ho : o < 2) (hsh : shp a 12 7) (hl : ∀ q, q < 7 → loc o f (fi q) (fj q) a q) (hp : xPriv f = false) (hf : ¬ (f = 4 ∨ f = 35)) (hKs : ∀ q, q < 7 → kSet (Kq q) f (fi q) (fj q) v = Kq (q + 1)) (hK0 : Kq 0 = xK X o) : RT 380 [some (.ref a), some (.int v), none, none] X none (xSetK X o (Kq 7)) := by
  refine AT.iconst M_380 rfl (v := 0) (by decide) ?_
  refine AT.ist2 M_380 rfl rfl ?_
  refine AT.aload_n M_380 rfl rfl ?_
  refine AT.aln M_380 rfl hsh (by omega) ?_
  refine AT.ist3 M_380 rfl rfl ?_
  have h := l_380 (X := X) ho hsh hl hp hf hKs 7 0 rfl
  rw [hK0, xSetK_self] at h
  exact h
/-- all seven numbers of a row -/
def kFil (K : KK) (f s : Nat) (v : Int32) (q : Nat) : KK := kRow K f s (fun j => if j < q then v else K.1 f s j)
theorem kFil_0 (K : KK) (f s : Nat) (v : Int32) : kFil K f s v 0 = K := by
  refine Prod.ext (funext fun a => funext fun b => funext fun c => ?_) rfl
  show (if a = f ∧ b = s then (if c < 0 then v else K.1 f s c) else K.1 a b c) = K.1 a b c
  split
  · rename_i h
    rw [if_neg (Nat.not_lt_zero c), h.1, h.2]
  · rfl
theorem kFil_s (K : KK) (f s : Nat) (v : Int32) (q : Nat) : kSet (kFil K f s v q) f s q v = kFil K f s v (q + 1) := by
  refine Prod.ext (funext fun a => funext fun b => funext fun c => ?_) rfl
  show (if a = f ∧ b = s ∧ c = q then v else if a = f ∧ b = s then (if c < q then v else K.1 f s c) else K.1 a b c) = if a = f ∧ b = s then (if c < q + 1 then v else K.1 f s c) else K.1 a b c
  by_cases h : a = f ∧ b = s
  · rw [if_pos h, if_pos h]
    by_cases h2 : c = q
    · rw [if_pos ⟨h.1, h.2, h2⟩, if_pos (by omega)]
    · rw [if_neg (fun z => h2 z.2.2)]
      by_cases h3 : c < q
      · rw [if_pos h3, if_pos (by omega)]
      · rw [if_neg h3, if_neg (by omega)]
  · rw [if_neg h, if_neg h, if_neg (fun z => h ⟨z.1, z.2.1⟩)]
theorem c_380n {X : XS} {o s : Nat} (ho : o < 2) (hs : s < 7) {v : Int32} : RT 380 [some (.ref (aS o s + 5)), some (.int v), none, none] X none (xSetK X o (kFil (xK X o) 2 s v 7)) :=
  c_380 (fi := fun _ => s) (fj := fun q => q) ho (shp_nxt ho hs) (fun q hq => loc_nxt ho hs hq) rfl (by decide) (fun q hq => kFil_s _ _ _ _ q) (kFil_0 _ _ _ _)
theorem c_380m {X : XS} {o s : Nat} (ho : o < 2) (hs : s < 7) {v : Int32} : RT 380 [some (.ref (aS o s + 6)), some (.int v), none, none] X none (xSetK X o (kFil (xK X o) 3 s v 7)) :=
  c_380 (fi := fun _ => s) (fj := fun q => q) ho (shp_mat ho hs) (fun q hq => loc_mat ho hs hq) rfl (by decide) (fun q hq => kFil_s _ _ _ _ q) (kFil_0 _ _ _ _)
/-- a snapshot that is made now -/
def dSnp1 (D : XD) (r : ENT) : XD := dSnap (dNew D (dC D + 1) 7 (pF 7)) (dC D + 1) r
theorem dSnp1_sn (D : XD) (r : ENT) : dSn (dSnp1 D r) (dC D + 1) r := ⟨r, if_pos rfl, fun _ _ => rfl⟩
theorem dNew_E (D : XD) (p ci z : Nat) : (dE (dNew D p ci z) p).1 = 10 + ci := congrArg Prod.fst (if_pos rfl : (if p = p then ((10 + ci, fun _ => 0) : Nat × ENT) else dE D p) = _)
def sSnap (K : KK) (s gn : Nat) : ENT := sSnp (K.1 15 s 0) (sTix K s (K.1 15 s 0)) (sMemL ((K.2.1 s).take gn) (K.1 18 s 2)) (K.1 19 s)
theorem c_78 {X : XS} {o s : Nat} (ho : o < 2) (hs : s < 7) {gn : Nat} (hw : kWf (xK X o) s) (hlen : ((xK X o).2.1 s).length < 16777216) (hg : gn ≤ ((xK X o).2.1 s).length) (hgn : (xK X o).1 15 s 0 - (xK X o).1 18 s 0 = Int32.ofNat gn) : RU 78 [some (.ref (aS o s)), none] X (some (.int (Int32.ofNat gn))) (fun Y => ∃ qf, Y = xSetK (xSetD X (dMem (dWithQ (dSnp1 (xD X) (sSnap (xK X o) s gn)) qf) o s (kCut (xK X o) s gn (sSnap (xK X o) s gn)))) o (kCut (xK X o) s gn (sSnap (xK X o) s gn))) := by
  refine AT.aload_n M_78 rfl rfl ?_
  refine AT.f_6_15 M_78 rfl (by assumption) (by assumption) ?_
  refine AT.aload_n M_78 rfl rfl ?_
  refine AT.f_6_9 M_78 rfl (by assumption) (by assumption) (fun p3 hp3 => ?_)
  refine AT.f_7_0 M_78 rfl (by assumption) ?_
  refine AT.isub M_78 rfl hgn ?_
  refine AT.ist1 M_78 rfl rfl ?_
  refine AT.aload_n M_78 rfl rfl ?_
  refine AT.newx M_78 rfl (by decide) (fun hz8 => ?_)
  try simp only [xK_same, xSetK_idem, xD_setK, xK_setD, xD_setD, xSetD_setK, xSetD_idem, kSet_1, kSet_2, kRow_1, kRow_2, kLog_1, kLog_2, kLog_l, kLog_idem, List.take_zero, if_true]
  refine AT.dup M_78 rfl ?_
  refine AT.aload_n M_78 rfl rfl ?_
  refine AT.f_6_15 M_78 rfl (by assumption) (by assumption) ?_
  refine AT.aload_n M_78 rfl rfl ?_
  refine AT.aload_n M_78 rfl rfl ?_
  refine AT.f_6_15 M_78 rfl (by assumption) (by assumption) ?_
  refine AT.cv2i M_78 rfl M_65 rfl (Nat.le_of_ble_eq_true rfl) (xKd.of (shp_sv (by assumption) (by assumption))) (by decide) (c_65 ho hs (by exact hw)) ?_ (Nat.le_of_ble_eq_true rfl) rfl
  try simp only [xK_same, xSetK_idem, xD_setK, xK_setD, xD_setD, xSetD_setK, xSetD_idem, kSet_1, kSet_2, kRow_1, kRow_2, kLog_1, kLog_2, kLog_l, kLog_idem, List.take_zero, if_true]
  refine AT.aload_n M_78 rfl rfl ?_
  refine AT.aload_n M_78 rfl rfl ?_
  refine AT.f_6_15 M_78 rfl (by assumption) (by assumption) ?_
  refine AT.cv2j M_78 rfl M_77 rfl (Or.inr (Nat.le_of_ble_eq_true rfl)) (xKd.of (shp_sv ho hs)) (by decide) (c_77 ho hs (n := gn) (by exact hlen) (by exact hg) (by show (xK X o).1 15 s 0 - (xK X o).1 18 s 0 - 1 = _; rw [hgn])) ?_ (Nat.le_of_ble_eq_true rfl) rfl
  refine AT.aload_n M_78 rfl rfl ?_
  refine AT.f_6_1 M_78 rfl (by assumption) (by assumption) ?_
  refine AT.cp50 M_78 rfl M_90 rfl (Nat.le_of_ble_eq_true rfl) rfl (c_90t ho hs (dNew_E _ _ _ _) rfl) ?_ (Nat.le_of_ble_eq_true rfl) rfl
  try simp only [xK_same, xSetK_idem, xD_setK, xK_setD, xD_setD, xSetD_setK, xSetD_idem, kSet_1, kSet_2, kRow_1, kRow_2, kLog_1, kLog_2, kLog_l, kLog_idem, List.take_zero, if_true]
  refine AT.iload_n M_78 rfl rfl ?_
  refine AT.cv3w M_78 rfl M_80 rfl (Nat.le_of_ble_eq_true rfl) (xKd.of (shp_sv ho hs)) (by decide) (c_80 (p := dC (xD X) + 1) (gn := gn) (r := sSnap (xK X o) s gn) ho hs ?_ hg hlen) (fun Y hY => ?_) (Nat.le_of_ble_eq_true rfl) rfl
  · exact dSnp1_sn (xD X) (sSnap (xK X o) s gn)
  obtain ⟨qf, rfl⟩ := hY
  refine AT.iload_n M_78 rfl rfl ?_
  refine AT.iret M_78 rfl rfl ?_
  exact ⟨rfl, qf, rfl⟩
