/-! ===== WHAT CHANGES A SERVER OF THE CLASS ===== -/
def kTerm (K : KK) (s : Nat) (t : Int32) : KK := kSet (kSet (kSet (kSet K 5 s 0 t) 6 s 0 (-1)) 12 s 0 0) 13 s 0 (-1)
def kObey (K : KK) (s : Nat) (l : Int32) : KK := kSet (kSet (kSet K 12 s 0 0) 13 s 0 l) 14 s 0 0
def kStart (K : KK) (s : Nat) (r : Int32) : KK := kSet (kSet (kSet (kSet K 12 s 0 r) 13 s 0 (-1)) 14 s 0 0) 16 s 0 (1 <<< Int32.ofNat s)
def kLearn (K : KK) (s j : Nat) (x : Int32) : KK := if x ≤ K.1 3 s j then K else kSet (kSet K 3 s j x) 2 s j (x + 1)
theorem i32_shl {x : Int32} {j : Nat} (h : j < 7) : x <<< (Int32.ofNat j &&& 31) = x <<< Int32.ofNat j := by rw [i32_31 h]
theorem c_85 {X : XS} {o s : Nat} (ho : o < 2) (hs : s < 7) {t : Int32} : RT 85 [some (.ref (aS o s)), some (.int t)] X none (xSetK X o (kTerm (xK X o) s t)) := by
  refine AT.aload_n M_85 rfl rfl ?_
  refine AT.iload_n M_85 rfl rfl ?_
  refine AT.p_6_5 M_85 rfl (by assumption) (by assumption) ?_
  try simp only [xK_same, xSetK_idem, xD_setK, xK_setD, xD_setD, xSetD_setK, xSetD_idem, kSet_1, kSet_2, kRow_1, kRow_2, kLog_1, kLog_2]
  refine AT.aload_n M_85 rfl rfl ?_
  refine AT.iconst M_85 rfl (v := (-1)) (by decide) ?_
  refine AT.p_6_6 M_85 rfl (by assumption) (by assumption) ?_
  try simp only [xK_same, xSetK_idem, xD_setK, xK_setD, xD_setD, xSetD_setK, xSetD_idem, kSet_1, kSet_2, kRow_1, kRow_2, kLog_1, kLog_2]
  refine AT.aload_n M_85 rfl rfl ?_
  refine AT.iconst M_85 rfl (v := 0) (by decide) ?_
  refine AT.p_6_12 M_85 rfl (by assumption) (by assumption) ?_
  try simp only [xK_same, xSetK_idem, xD_setK, xK_setD, xD_setD, xSetD_setK, xSetD_idem, kSet_1, kSet_2, kRow_1, kRow_2, kLog_1, kLog_2]
  refine AT.aload_n M_85 rfl rfl ?_
  refine AT.iconst M_85 rfl (v := (-1)) (by decide) ?_
  refine AT.p_6_13 M_85 rfl (by assumption) (by assumption) ?_
  try simp only [xK_same, xSetK_idem, xD_setK, xK_setD, xD_setD, xSetD_setK, xSetD_idem, kSet_1, kSet_2, kRow_1, kRow_2, kLog_1, kLog_2]
  refine AT.vret M_85 rfl rfl ?_
  exact ⟨rfl, rfl⟩
theorem c_86 {X : XS} {o s : Nat} (ho : o < 2) (hs : s < 7) {t : Int32} : RT 86 [some (.ref (aS o s)), some (.int t)] X none (xSetK X o (kObey (xK X o) s t)) := by
  refine AT.aload_n M_86 rfl rfl ?_
  refine AT.iconst M_86 rfl (v := 0) (by decide) ?_
  refine AT.p_6_12 M_86 rfl (by assumption) (by assumption) ?_
  try simp only [xK_same, xSetK_idem, xD_setK, xK_setD, xD_setD, xSetD_setK, xSetD_idem, kSet_1, kSet_2, kRow_1, kRow_2, kLog_1, kLog_2]
  refine AT.aload_n M_86 rfl rfl ?_
  refine AT.iload_n M_86 rfl rfl ?_
  refine AT.p_6_13 M_86 rfl (by assumption) (by assumption) ?_
  try simp only [xK_same, xSetK_idem, xD_setK, xK_setD, xD_setD, xSetD_setK, xSetD_idem, kSet_1, kSet_2, kRow_1, kRow_2, kLog_1, kLog_2]
  refine AT.aload_n M_86 rfl rfl ?_
  refine AT.iconst M_86 rfl (v := 0) (by decide) ?_
  refine AT.p_6_14 M_86 rfl (by assumption) (by assumption) ?_
  try simp only [xK_same, xSetK_idem, xD_setK, xK_setD, xD_setD, xSetD_setK, xSetD_idem, kSet_1, kSet_2, kRow_1, kRow_2, kLog_1, kLog_2]
  refine AT.vret M_86 rfl rfl ?_
  exact ⟨rfl, rfl⟩
theorem c_87 {X : XS} {o s : Nat} (ho : o < 2) (hs : s < 7) {t : Int32} : RT 87 [some (.ref (aS o s)), some (.int t)] X none (xSetK X o (kStart (xK X o) s t)) := by
  refine AT.aload_n M_87 rfl rfl ?_
  refine AT.iload_n M_87 rfl rfl ?_
  refine AT.p_6_12 M_87 rfl (by assumption) (by assumption) ?_
  try simp only [xK_same, xSetK_idem, xD_setK, xK_setD, xD_setD, xSetD_setK, xSetD_idem, kSet_1, kSet_2, kRow_1, kRow_2, kLog_1, kLog_2]
  refine AT.aload_n M_87 rfl rfl ?_
  refine AT.iconst M_87 rfl (v := (-1)) (by decide) ?_
  refine AT.p_6_13 M_87 rfl (by assumption) (by assumption) ?_
  try simp only [xK_same, xSetK_idem, xD_setK, xK_setD, xD_setD, xSetD_setK, xSetD_idem, kSet_1, kSet_2, kRow_1, kRow_2, kLog_1, kLog_2]
  refine AT.aload_n M_87 rfl rfl ?_
  refine AT.iconst M_87 rfl (v := 0) (by decide) ?_
  refine AT.p_6_14 M_87 rfl (by assumption) (by assumption) ?_
  try simp only [xK_same, xSetK_idem, xD_setK, xK_setD, xD_setD, xSetD_setK, xSetD_idem, kSet_1, kSet_2, kRow_1, kRow_2, kLog_1, kLog_2]
  refine AT.aload_n M_87 rfl rfl ?_
  refine AT.iconst M_87 rfl (v := 1) (by decide) ?_
  refine AT.aload_n M_87 rfl rfl ?_
  refine AT.f_6_0 M_87 rfl (by assumption) (by assumption) ?_
  refine AT.ishl M_87 rfl (i32_shl hs) ?_
  refine AT.p_6_16 M_87 rfl (by assumption) (by assumption) ?_
  try simp only [xK_same, xSetK_idem, xD_setK, xK_setD, xD_setD, xSetD_setK, xSetD_idem, kSet_1, kSet_2, kRow_1, kRow_2, kLog_1, kLog_2]
  refine AT.vret M_87 rfl rfl ?_
  exact ⟨rfl, rfl⟩
theorem c_89 {X : XS} {o s : Nat} (ho : o < 2) (hs : s < 7) {j : Nat} (hj : j < 7) {x : Int32} : RT 89 [some (.ref (aS o s)), some (.int (Int32.ofNat j)), some (.int x)] X none (xSetK X o (kLearn (xK X o) s j x)) := by
  refine AT.iload_n M_89 rfl rfl ?_
  refine AT.aload_n M_89 rfl rfl ?_
  refine AT.f_6_3 M_89 rfl (by assumption) (by assumption) ?_
  refine AT.iload_n M_89 rfl rfl ?_
  refine AT.a_mat M_89 rfl rfl (by assumption) (by assumption) (by assumption) ?_
  refine AT.icmp_le M_89 rfl (fun b5 => ?_) (fun b5 => ?_)
  · refine AT.vret M_89 rfl rfl ?_
    exact ⟨rfl, by unfold kLearn; rw [if_pos b5, xSetK_self]⟩
  · refine AT.aload_n M_89 rfl rfl ?_
    refine AT.f_6_3 M_89 rfl (by assumption) (by assumption) ?_
    refine AT.iload_n M_89 rfl rfl ?_
    refine AT.iload_n M_89 rfl rfl ?_
    refine AT.s_mat M_89 rfl rfl (by assumption) (by assumption) (by assumption) ?_
    try simp only [xK_same, xSetK_idem, xD_setK, xK_setD, xD_setD, xSetD_setK, xSetD_idem, kSet_1, kSet_2, kRow_1, kRow_2, kLog_1, kLog_2]
    refine AT.aload_n M_89 rfl rfl ?_
    refine AT.f_6_2 M_89 rfl (by assumption) (by assumption) ?_
    refine AT.iload_n M_89 rfl rfl ?_
    refine AT.iload_n M_89 rfl rfl ?_
    refine AT.iconst M_89 rfl (v := 1) (by decide) ?_
    refine AT.iadd M_89 rfl rfl ?_
    refine AT.s_nxt M_89 rfl rfl (by assumption) (by assumption) (by assumption) ?_
    try simp only [xK_same, xSetK_idem, xD_setK, xK_setD, xD_setD, xSetD_setK, xSetD_idem, kSet_1, kSet_2, kRow_1, kRow_2, kLog_1, kLog_2]
    refine AT.vret M_89 rfl rfl ?_
    exact ⟨rfl, by unfold kLearn; rw [if_neg b5]⟩
/-- the table of a snapshot becomes a server's -/
def kTab (K : KK) (s : Nat) (r : ENT) : KK := kRow K 19 s (fun q => if q < 16 then r (3 + q) else K.1 19 s q)
theorem kRow_idem (K : KK) (f i : Nat) (r r' : Nat → Int32) : kRow (kRow K f i r) f i r' = kRow K f i r' := by
  refine Prod.ext (funext fun a => funext fun b => funext fun c => ?_) rfl
  show (if a = f ∧ b = i then r' c else if a = f ∧ b = i then r c else K.1 a b c) = if a = f ∧ b = i then r' c else K.1 a b c
  split <;> rfl
theorem kRow_congr (K : KK) (f i : Nat) {r r' : Nat → Int32} (h : ∀ c, r c = r' c) : kRow K f i r = kRow K f i r' := by rw [funext h]
section ATS
variable {m i pc ln r1 r2 r3 : Nat} {ls : PV} {st : List Value} {X : XS} {Q : PO → XS → Prop} {M : PMet} {p : Nat} {r : ENT}
theorem AT.f_8s_0 {n : Nat} (hM : qPT m = M) (hr : M.1[i]? = some (pc, .getfield n, ln, 8, 0, r3)) (hp : dSn (xD X) p r) (k : AT m (i + 1) ls (.ref (p + 2) :: st) X Q) : AT m i ls (.ref (p + 1) :: st) X Q := AT.gf hM hr (fun g hg => (hp.ob hg).2.2.2.1) (by decide) (fun g hg => ((hp.ob hg).2.2.2.2.1 0 (by omega)).1) k
theorem AT.f_8s_1 {n : Nat} (hM : qPT m = M) (hr : M.1[i]? = some (pc, .getfield n, ln, 8, 1, r3)) (hp : dSn (xD X) p r) (k : AT m (i + 1) ls (.ref (p + 3) :: st) X Q) : AT m i ls (.ref (p + 1) :: st) X Q := AT.gf hM hr (fun g hg => (hp.ob hg).2.2.2.1) (by decide) (fun g hg => ((hp.ob hg).2.2.2.2.1 1 (by omega)).1) k
theorem AT.f_8s_2 {n : Nat} (hM : qPT m = M) (hr : M.1[i]? = some (pc, .getfield n, ln, 8, 2, r3)) (hp : dSn (xD X) p r) (k : AT m (i + 1) ls (.ref (p + 4) :: st) X Q) : AT m i ls (.ref (p + 1) :: st) X Q := AT.gf hM hr (fun g hg => (hp.ob hg).2.2.2.1) (by decide) (fun g hg => ((hp.ob hg).2.2.2.2.1 2 (by omega)).1) k
end ATS
theorem c_92 {X : XS} {o s : Nat} (ho : o < 2) (hs : s < 7) {p : Nat} {r : ENT} (hp : dSn (xD X) p r) : RT 92 [some (.ref (aS o s + 1)), some (.ref (p + 1))] X none (xSetK X o (kTab (xK X o) s r)) := by
  refine AT.aload_n M_92 rfl rfl ?_
  refine AT.f_8s_0 M_92 rfl (by exact hp) ?_
  refine AT.iconst M_92 rfl (v := 0) (by decide) ?_
  refine AT.aload_n M_92 rfl rfl ?_
  refine AT.f_8_0 M_92 rfl (by assumption) (by assumption) ?_
  refine AT.iconst M_92 rfl (v := 0) (by decide) ?_
  refine AT.bipush M_92 rfl (v := 8) (by decide) ?_
  refine AT.acpT M_92 rfl rfl (by exact Nat.le_of_ble_eq_true rfl) ho hs (by exact hp) (kl := 8) (ck := 0) (sk := 3) (c := 2) (Or.inl ⟨rfl, rfl, rfl, rfl⟩) rfl ?_
  try simp only [xK_same, xSetK_idem, xD_setK, xK_setD, xD_setD, xSetD_setK, xSetD_idem, kSet_1, kSet_2, kRow_1, kRow_2, kLog_1, kLog_2]
  refine AT.aload_n M_92 rfl rfl ?_
  refine AT.f_8s_1 M_92 rfl (by exact hp) ?_
  refine AT.iconst M_92 rfl (v := 0) (by decide) ?_
  refine AT.aload_n M_92 rfl rfl ?_
  refine AT.f_8_1 M_92 rfl (by assumption) (by assumption) ?_
  refine AT.iconst M_92 rfl (v := 0) (by decide) ?_
  refine AT.iconst M_92 rfl (v := 4) (by decide) ?_
  refine AT.acpT M_92 rfl rfl (by exact Nat.le_of_ble_eq_true rfl) ho hs (by exact hp) (kl := 4) (ck := 8) (sk := 11) (c := 3) (Or.inr (Or.inl ⟨rfl, rfl, rfl, rfl⟩)) rfl ?_
  try simp only [xK_same, xSetK_idem, xD_setK, xK_setD, xD_setD, xSetD_setK, xSetD_idem, kSet_1, kSet_2, kRow_1, kRow_2, kLog_1, kLog_2]
  refine AT.aload_n M_92 rfl rfl ?_
  refine AT.f_8s_2 M_92 rfl (by exact hp) ?_
  refine AT.iconst M_92 rfl (v := 0) (by decide) ?_
  refine AT.aload_n M_92 rfl rfl ?_
  refine AT.f_8_2 M_92 rfl (by assumption) (by assumption) ?_
  refine AT.iconst M_92 rfl (v := 0) (by decide) ?_
  refine AT.iconst M_92 rfl (v := 4) (by decide) ?_
  refine AT.acpT M_92 rfl rfl (by exact Nat.le_of_ble_eq_true rfl) ho hs (by exact hp) (kl := 4) (ck := 12) (sk := 15) (c := 4) (Or.inr (Or.inr ⟨rfl, rfl, rfl, rfl⟩)) rfl ?_
  try simp only [xK_same, xSetK_idem, xD_setK, xK_setD, xD_setD, xSetD_setK, xSetD_idem, kSet_1, kSet_2, kRow_1, kRow_2, kLog_1, kLog_2]
  refine AT.vret M_92 rfl rfl ?_
  refine ⟨rfl, congrArg (xSetK X o) ?_⟩
  rw [kRow_idem, kRow_idem]
  unfold kTab
  refine kRow_congr _ _ _ (fun c => ?_)
  try simp only [true_and, and_self, if_true]
  by_cases h1 : c < 8
  · rw [if_neg (by omega), if_neg (by omega), if_pos (by omega), if_pos (by omega)]; congr 1
  · by_cases h2 : c < 12
    · rw [if_neg (by omega), if_pos (by omega), if_pos (by omega)]; congr 1; omega
    · by_cases h3 : c < 16
      · rw [if_pos (by omega), if_pos (by omega)]; congr 1; omega
      · rw [if_neg (by omega), if_neg (by omega), if_neg (by omega), if_neg (by omega)]
/-- as a server that has just begun from its snapshot -/
def kRest (K : KK) (s : Nat) : KK := kTab (kSet (kSet (kSet (kSet K 12 s 0 0) 13 s 0 (-1)) 14 s 0 0) 15 s 0 (K.1 18 s 0)) s (K.1 18 s)
def kDown (K : KK) (s : Nat) : KK := kRest (kSet K 4 s 0 0) s
theorem c_58 {X : XS} {o s : Nat} (ho : o < 2) (hs : s < 7) : RT 58 [some (.ref (aS o s))] X none (xSetK X o (kRest (xK X o) s)) := by
  refine AT.aload_n M_58 rfl rfl ?_
  refine AT.iconst M_58 rfl (v := 0) (by decide) ?_
  refine AT.p_6_12 M_58 rfl (by assumption) (by assumption) ?_
  try simp only [xK_same, xSetK_idem, xD_setK, xK_setD, xD_setD, xSetD_setK, xSetD_idem, kSet_1, kSet_2, kRow_1, kRow_2, kLog_1, kLog_2]
  refine AT.aload_n M_58 rfl rfl ?_
  refine AT.iconst M_58 rfl (v := (-1)) (by decide) ?_
  refine AT.p_6_13 M_58 rfl (by assumption) (by assumption) ?_
  try simp only [xK_same, xSetK_idem, xD_setK, xK_setD, xD_setD, xSetD_setK, xSetD_idem, kSet_1, kSet_2, kRow_1, kRow_2, kLog_1, kLog_2]
  refine AT.aload_n M_58 rfl rfl ?_
  refine AT.iconst M_58 rfl (v := 0) (by decide) ?_
  refine AT.p_6_14 M_58 rfl (by assumption) (by assumption) ?_
  try simp only [xK_same, xSetK_idem, xD_setK, xK_setD, xD_setD, xSetD_setK, xSetD_idem, kSet_1, kSet_2, kRow_1, kRow_2, kLog_1, kLog_2]
  refine AT.aload_n M_58 rfl rfl ?_
  refine AT.aload_n M_58 rfl rfl ?_
  refine AT.f_6_9 M_58 rfl (by assumption) (by assumption) (fun p11 hp11 => ?_)
  refine AT.f_7_0 M_58 rfl (by assumption) ?_
  refine AT.p_6_15 M_58 rfl (by assumption) (by assumption) ?_
  try simp only [xK_same, xSetK_idem, xD_setK, xK_setD, xD_setD, xSetD_setK, xSetD_idem, kSet_1, kSet_2, kRow_1, kRow_2, kLog_1, kLog_2]
  refine AT.aload_n M_58 rfl rfl ?_
  refine AT.f_6_1 M_58 rfl (by assumption) (by assumption) ?_
  refine AT.aload_n M_58 rfl rfl ?_
  refine AT.f_6_9 M_58 rfl (by assumption) (by assumption) (fun p17 hp17 => ?_)
  refine AT.f_7_3 M_58 rfl (by assumption) ?_
  refine AT.cv20 M_58 rfl M_92 rfl (Nat.le_of_ble_eq_true rfl) (xKd.of (shp_tab (by assumption) (by assumption))) (by decide) (c_92 ho hs (by assumption)) ?_ (Nat.le_of_ble_eq_true rfl) rfl
  try simp only [xK_same, xSetK_idem, xD_setK, xK_setD, xD_setD, xSetD_setK, xSetD_idem, kSet_1, kSet_2, kRow_1, kRow_2, kLog_1, kLog_2]
  refine AT.vret M_58 rfl rfl ?_
  exact ⟨rfl, rfl⟩
theorem c_59 {X : XS} {o s : Nat} (ho : o < 2) (hs : s < 7) : RT 59 [some (.ref (aS o s))] X none (xSetK X o (kDown (xK X o) s)) := by
  refine AT.aload_n M_59 rfl rfl ?_
  refine AT.iconst M_59 rfl (v := 0) (by decide) ?_
  refine AT.p_6_4 M_59 rfl (by assumption) (by assumption) (by first | exact Or.inl rfl | exact Or.inr rfl | assumption) ?_
  try simp only [xK_same, xSetK_idem, xD_setK, xK_setD, xD_setD, xSetD_setK, xSetD_idem, kSet_1, kSet_2, kRow_1, kRow_2, kLog_1, kLog_2]
  refine AT.aload_n M_59 rfl rfl ?_
  refine AT.cv10 M_59 rfl M_58 rfl (Nat.le_of_ble_eq_true rfl) (xKd.of (shp_sv (by assumption) (by assumption))) (by decide) (c_58 ho hs) ?_ (Nat.le_of_ble_eq_true rfl) rfl
  try simp only [xK_same, xSetK_idem, xD_setK, xK_setD, xD_setD, xSetD_setK, xSetD_idem, kSet_1, kSet_2, kRow_1, kRow_2, kLog_1, kLog_2]
  refine AT.vret M_59 rfl rfl ?_
  exact ⟨rfl, rfl⟩
