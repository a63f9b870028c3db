/-! ===== CLIENTS, THE FIRST SNAPSHOT ===== -/
def kForget (K : KK) (s : Nat) : KK := kSet (kSet (kRow K 34 s (rNil (K.1 34 s))) 35 s 0 0) 36 s 0 0
theorem c_1 {X : XS} {o s : Nat} (ho : o < 2) (hs : s < 4) : RT 1 [some (.ref (aC o s))] X none (xSetK X o (kForget (xK X o) s)) := by
  refine AT.aload_n M_1 rfl rfl ?_
  refine AT.anull M_1 rfl ?_
  refine AT.p_0_0n M_1 rfl ho hs ?_
  try simp only [xK_same, xSetK_idem, xD_setK, xK_setD, xD_setD, xSetD_setK, xSetD_idem, kSet_1, kSet_2, kRow_1, kRow_2, kLog_1, kLog_2, kLog_l, kLog_idem, List.take_zero, if_true]
  refine AT.aload_n M_1 rfl rfl ?_
  refine AT.iconst M_1 rfl (v := 0) (by decide) ?_
  refine AT.p_0_1 M_1 rfl (by assumption) (by assumption) (by first | exact Or.inl rfl | exact Or.inr rfl | assumption) ?_
  try simp only [xK_same, xSetK_idem, xD_setK, xK_setD, xD_setD, xSetD_setK, xSetD_idem, kSet_1, kSet_2, kRow_1, kRow_2, kLog_1, kLog_2, kLog_l, kLog_idem, List.take_zero, if_true]
  refine AT.aload_n M_1 rfl rfl ?_
  refine AT.iconst M_1 rfl (v := 0) (by decide) ?_
  refine AT.p_0_2 M_1 rfl (by assumption) (by assumption) ?_
  try simp only [xK_same, xSetK_idem, xD_setK, xK_setD, xD_setD, xSetD_setK, xSetD_idem, kSet_1, kSet_2, kRow_1, kRow_2, kLog_1, kLog_2, kLog_l, kLog_idem, List.take_zero, if_true]
  refine AT.vret M_1 rfl rfl ?_
  exact ⟨rfl, rfl⟩
def kCli (K K' : KK) (s t : Nat) : KK := kSet (kSet (kRow K 34 s (if K'.1 34 t 3 = 0 then rNil (K.1 34 s) else K'.1 34 t)) 35 s 0 (K'.1 35 t 0)) 36 s 0 (K'.1 36 t 0)
def rAsk (c ser kd ky ex vl : Int32) : ENT := fun j => if j = 1 then kd else if j = 2 then c else if j = 3 then ser else if j = 4 then ky else if j = 5 then vl else if j = 6 then ex else 0
def dReq1 (D : XD) (r : ENT) : XD := dMk (dNew D (dC D + 1) 5 (pF 5)) (dC D + 1) 2 r
theorem dReq1_E (D : XD) (r : ENT) : dRq (dReq1 D r) (dC D + 1) r := ⟨r, if_pos rfl, fun _ _ _ => rfl⟩
theorem c_5 {X : XS} {o s : Nat} (ho : o < 2) (hs : s < 4) {c kd ky ex vl : Int32} (h3 : ¬ (xK X o).1 34 s 3 + 1 = 0) : RT 5 [some (.ref (aC o s)), some (.int c), some (.int kd), some (.int ky), some (.int ex), some (.int vl)] X (some (.int ((xK X o).1 34 s 3 + 1))) (xSetK (xSetD X (dReq1 (xD X) (rAsk c ((xK X o).1 34 s 3 + 1) kd ky ex vl))) o (kSet (kRow (xK X o) 34 s (rAsk c ((xK X o).1 34 s 3 + 1) kd ky ex vl)) 35 s 0 0)) := by
  have hser : ∀ r : ENT, (kSet (kRow (xK X o) 34 s r) 35 s 0 0).1 34 s 3 = r 3 := fun r => if_pos ⟨rfl, rfl⟩
  refine AT.aload_n M_5 rfl rfl ?_
  refine AT.newx M_5 rfl (by decide) (fun hz1 => ?_)
  try simp only [xK_same, xSetK_idem, xD_setK, xK_setD, xD_setD, xSetD_setK, xSetD_idem, kSet_1, kSet_2, kRow_1, kRow_2, kLog_1, kLog_2, kLog_l, kLog_idem, List.take_zero, if_true]
  refine AT.dup M_5 rfl ?_
  refine AT.iload_n M_5 rfl rfl ?_
  refine AT.aload_n M_5 rfl rfl ?_
  refine AT.cv1i M_5 rfl M_3 rfl (Nat.le_of_ble_eq_true rfl) (xKd.of (shp_cli (by assumption) (by assumption))) (by decide) (c_3 ho hs) ?_ (Nat.le_of_ble_eq_true rfl) rfl
  try simp only [xK_same, xSetK_idem, xD_setK, xK_setD, xD_setD, xSetD_setK, xSetD_idem, kSet_1, kSet_2, kRow_1, kRow_2, kLog_1, kLog_2, kLog_l, kLog_idem, List.take_zero, if_true]
  refine AT.iconst M_5 rfl (v := 1) (by decide) ?_
  refine AT.iadd M_5 rfl rfl ?_
  refine AT.iload_n M_5 rfl rfl ?_
  refine AT.iload_n M_5 rfl rfl ?_
  refine AT.iload M_5 rfl rfl ?_
  refine AT.iload M_5 rfl rfl ?_
  refine AT.cp70 M_5 rfl M_55 rfl (Nat.le_of_ble_eq_true rfl) rfl (c_55 (r := (rAsk c ((xK X o).1 34 s 3 + 1) kd ky ex vl)) (dNew_E _ _ _ _)) ?_ (Nat.le_of_ble_eq_true rfl) rfl
  try simp only [xK_same, xSetK_idem, xD_setK, xK_setD, xD_setD, xSetD_setK, xSetD_idem, kSet_1, kSet_2, kRow_1, kRow_2, kLog_1, kLog_2, kLog_l, kLog_idem, List.take_zero, if_true]
  refine AT.p_0_0s M_5 rfl ho hs (dReq1_E (xD X) (rAsk c ((xK X o).1 34 s 3 + 1) kd ky ex vl)) h3 ?_
  try simp only [xK_same, xSetK_idem, xD_setK, xK_setD, xD_setD, xSetD_setK, xSetD_idem, kSet_1, kSet_2, kRow_1, kRow_2, kLog_1, kLog_2, kLog_l, kLog_idem, List.take_zero, if_true]
  refine AT.aload_n M_5 rfl rfl ?_
  refine AT.iconst M_5 rfl (v := 0) (by decide) ?_
  refine AT.p_0_1 M_5 rfl (by assumption) (by assumption) (by first | exact Or.inl rfl | exact Or.inr rfl | assumption) ?_
  try simp only [xK_same, xSetK_idem, xD_setK, xK_setD, xD_setD, xSetD_setK, xSetD_idem, kSet_1, kSet_2, kRow_1, kRow_2, kLog_1, kLog_2, kLog_l, kLog_idem, List.take_zero, if_true]
  refine AT.aload_n M_5 rfl rfl ?_
  refine AT.f_0_0s M_5 rfl ho hs (by rw [xK_same, hser]; exact h3) (fun q hq => ?_)
  refine AT.f_5_1 M_5 rfl hq ?_
  refine AT.iret M_5 rfl rfl ?_
  refine ⟨?_, rfl⟩
  rw [xK_same, hser]
  rfl
theorem c_7 {X : XS} {x : Int32} : RT 7 [some (.int x)] X (some (.ref (dC (xD X) + 1))) (xSetD X (dSnp1 (xD X) (sSnp 0 0 (((1 : Int32) <<< (x &&& 31)) - 1) (fun _ => 0)))) := by
  refine AT.newx M_7 rfl (by decide) (fun hz0 => ?_)
  try simp only [xK_same, xSetK_idem, xD_setK, xK_setD, xD_setD, xSetD_setK, xSetD_idem, kSet_1, kSet_2, kRow_1, kRow_2, kLog_1, kLog_2, kLog_l, kLog_idem, List.take_zero, if_true]
  refine AT.dup M_7 rfl ?_
  refine AT.iconst M_7 rfl (v := 0) (by decide) ?_
  refine AT.iconst M_7 rfl (v := 0) (by decide) ?_
  refine AT.iconst M_7 rfl (v := 1) (by decide) ?_
  refine AT.iload_n M_7 rfl rfl ?_
  refine AT.ishl M_7 rfl rfl ?_
  refine AT.iconst M_7 rfl (v := 1) (by decide) ?_
  refine AT.isub M_7 rfl rfl ?_
  refine AT.anull M_7 rfl ?_
  refine AT.cp50 M_7 rfl M_90 rfl (Nat.le_of_ble_eq_true rfl) rfl (c_90n (dNew_E _ _ _ _) rfl) ?_ (Nat.le_of_ble_eq_true rfl) rfl
  try simp only [xK_same, xSetK_idem, xD_setK, xK_setD, xD_setD, xSetD_setK, xSetD_idem, kSet_1, kSet_2, kRow_1, kRow_2, kLog_1, kLog_2, kLog_l, kLog_idem, List.take_zero, if_true]
  refine AT.aret M_7 rfl rfl ?_
  exact ⟨rfl, rfl⟩
