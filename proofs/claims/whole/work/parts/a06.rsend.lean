/-! ===== THE REFERENCE: messages are sent ===== -/
/-- the row of messages is written, with another list of the same length -/
theorem Rep.post {X : XS} {g : PS} {o : Nat} {Pk : Nat → Prop} {M : Nat → Nat → Value} {w : Nat → Int32} {l' : List MSG} (h : Rep X g) (h2 : 2 ≤ o) (h4 : o < 4) (hP : ∀ q, Pk q → q < 2160)
    (h1 : ∀ a q, ¬ (a = bB o + 56 ∧ Pk q) → M a q = pM g a q) (h3 : ∀ q, Pk q → M (bB o + 56) q = .int (w q)) (hw : ∀ q, ¬ Pk q → w q = dV (xD X) o 41 0 q) (hl : l'.length = (xK X o).2.2.length)
    (hrow : ∀ j u, l'[j]? = some u → ∀ k, k < 36 → w (36 * j + k) = mRow u k) : Rep (xSetK (xSetD X (dRowV (xD X) o 41 0 w)) o (kNet (xK X o) l')) (pSet g M) := by
  have hn := (h.2.2.2.2.2.2.1 o h4).1
  have hc := (h.2.2.2.2.2.1.2 o h2 h4).1
  have r1 := h.manyR (l' := []) h2 h4 (Nat.zero_le _) (fun j u z => by cases z)
  have eK : xK (xSetK X o (kNet (xK X o) [])) o = kNet (xK X o) [] := xK_same _ _ _
  have eM : ∀ a q, pM (pPut g (bB o) 22 (.int (Int32.ofNat ([] : List MSG).length))) a q = if a = bB o ∧ q = 22 then .int 0 else pM g a q := fun a q => rfl
  have r2 := r1.rowV (o := o) (f := 41) (b := bB o + 56) (n := 2160) (Pk := Pk) (v := w) (M := fun a q => if a = bB o ∧ q = 22 then .int 0 else M a q) (fun q hq => lo_post h2 h4 hq) (Or.inr rfl) hP
    (fun a q z => by
      rw [eM]
      by_cases e : a = bB o ∧ q = 22
      · rw [if_pos e, if_pos e]
      · rw [if_neg e, if_neg e]; exact h1 a q z)
    (fun q hq => by rw [if_neg (fun z => by have := z.1; omega)]; exact h3 q hq) (fun q hq => hw q hq) (fun _ j u z => by rw [eK] at z; cases z)
  have r3 := r2.manyR (l' := l') h2 h4 (by rw [hl]; exact hn) (fun j u hu k hk => by
    show (if o = o ∧ 41 = 41 ∧ 0 = 0 then w (36 * j + k) else _) = _
    rw [if_pos ⟨rfl, rfl, rfl⟩]; exact hrow j u hu k hk)
  have eX : xSetK (xSetD (xSetK X o (kNet (xK X o) [])) (dRowV (xD (xSetK X o (kNet (xK X o) []))) o 41 0 w)) o (kNet (xK (xSetD (xSetK X o (kNet (xK X o) [])) (dRowV (xD (xSetK X o (kNet (xK X o) []))) o 41 0 w)) o) l') = xSetK (xSetD X (dRowV (xD X) o 41 0 w)) o (kNet (xK X o) l') := by
    rw [show xK (xSetD (xSetK X o (kNet (xK X o) [])) (dRowV (xD (xSetK X o (kNet (xK X o) []))) o 41 0 w)) o = kNet (xK X o) [] from eK]
    rw [xSetD_setK, xSetK_idem, xD_setK]
    rfl
  rw [eX] at r3
  have eP : pPut (pSet (pPut g (bB o) 22 (.int (Int32.ofNat ([] : List MSG).length))) (fun a q => if a = bB o ∧ q = 22 then .int 0 else M a q)) (bB o) 22 (.int (Int32.ofNat l'.length)) = pSet g M := by
    show pSet (pSet (pSet g _) _) _ = _
    refine congrArg (pSet g) (funext fun a => funext fun q => ?_)
    show (if a = bB o ∧ q = 22 then Value.int (Int32.ofNat l'.length) else if a = bB o ∧ q = 22 then .int 0 else M a q) = M a q
    by_cases e : a = bB o ∧ q = 22
    · rw [if_pos e, e.1, e.2, hl, h1 _ _ (fun z => by have := z.1; omega)]
      exact hc.symm
    · rw [if_neg e, if_neg e]
  rw [eP] at r3
  exact r3
section SND
variable {m i pc ln r1 r2 r3 : Nat} {ls : PV} {st : List Value} {X : XS} {Q : PO → XS → Prop} {M : PMet} {o : Nat}
theorem AT.rs_pl {y v : Int32} {j : Nat} {l' : List MSG} (hM : qPT m = M) (hr : M.1[i]? = some (pc, .iastore, ln, r1, r2, r3)) (hy : y = Int32.ofNat j) (h2 : 2 ≤ o) (h4 : o < 4) (hj : j < 2160) (hl : l'.length = (xK X o).2.2.length)
    (hrow : ∀ j' u, l'[j']? = some u → ∀ k, k < 36 → (if 36 * j' + k = j then v else dV (xD X) o 41 0 (36 * j' + k)) = mRow u k)
    (k : AT m (i + 1) ls st (xSetK (xSetD X (dRowV (xD X) o 41 0 (fun q => if q = j then v else dV (xD X) o 41 0 q))) o (kNet (xK X o) l')) Q) : AT m i ls (.int v :: .int y :: .ref (bB o + 56) :: st) X Q := by
  subst hy
  have hsh := sh_post (o := o) h2 h4
  refine AT.write hM hr rfl (fun g hg => ⟨pPut g (bB o + 56) j (.int v), ?_, ?_⟩) k
  · show (if pK g (bB o + 56) = 12 ∧ ¬ (Int32.ofNat j < 0 ∨ pL g (bB o + 56) ≤ (Int32.ofNat j).toNatClampNeg) then some (i + 1, ls, st, pPut g (bB o + 56) (Int32.ofNat j).toNatClampNeg (.int v)) else none) = _
    rw [if_pos ⟨(hg.2.1 _ _ _ hsh).1, by rw [(hg.2.1 _ _ _ hsh).2 (by omega)]; exact i32_in (by omega) hj⟩, (i32_ix (by omega)).1]
  · exact Rep.post (Pk := fun q => q = j) hg h2 h4 (fun q hq => by omega) (fun a q z => if_neg z) (fun q hq => by rw [hq]; exact (if_pos ⟨rfl, rfl⟩).trans (congrArg Value.int (if_pos rfl).symm)) (fun q hq => if_neg hq) hl hrow
theorem dst.postL {j n : Nat} {v : Nat → Int32} {l' : List MSG} (h2 : 2 ≤ o) (h4 : o < 4) (hn : j + n ≤ 2160) (hl : l'.length = (xK X o).2.2.length) (hrow : ∀ j' u, l'[j']? = some u → ∀ k, k < 36 → vPut (dV (xD X) o 41 0) j n v (36 * j' + k) = mRow u k) :
    dstV X (bB o + 56) j n v 12 (xSetK (xSetD X (dRowV (xD X) o 41 0 (vPut (dV (xD X) o 41 0) j n v))) o (kNet (xK X o) l')) := fun g M hg h1 h3 => by
  have hs := hg.2.1 _ _ _ (sh_post (o := o) h2 h4)
  exact ⟨hs.1, by rw [hs.2 (by omega)]; exact hn, Rep.post (Pk := fun k => j ≤ k ∧ k < j + n) hg h2 h4 (fun k hk => by omega) h1 (fun k hk => (h3 k hk.1 hk.2).trans (congrArg Value.int (if_pos hk).symm)) (fun k hk => if_neg hk) hl hrow⟩
end SND
/-- a message with a given row -/
def uRow (r : Nat → Int32) : MSG :=
  (fun j => if j = 0 then 0 else if j < 5 then r (j - 1) else if j = 6 then r 4 else if j = 7 then r 5 else if j = 8 then r 6 else if j = 9 then r 7 else 0,
   if r 0 = 7 then some (fun t => if t = 1 then r 5 else if t = 2 then r 6 else r (t + 5)) else none,
   if r 0 = 7 then [] else [fun c => r (8 + c), fun c => r (15 + c), fun c => r (22 + c), fun c => r (29 + c)])
/-- the rows that are said so: of entries, or of a snapshot -/
def rowOk (r : Nat → Int32) : Prop := r 0 = 5 ∨ r 0 = 7 ∧ ∀ k, 24 ≤ k → k < 36 → r k = 0
theorem uRow_row {r : Nat → Int32} (h : rowOk r) {k : Nat} (hk : k < 36) : mRow (uRow r) k = r k := by
  rcases h with h | ⟨h, h0⟩
  · have e1 : (uRow r).1 1 = 5 := h
    have e2 : (uRow r).2.2 = [fun c => r (8 + c), fun c => r (15 + c), fun c => r (22 + c), fun c => r (29 + c)] := if_neg (by rw [h]; decide)
    unfold mRow
    rw [e1, e2]
    rcases (by omega : k < 8 ∨ 8 ≤ k) with z | z
    · rcases (by omega : k = 0 ∨ k = 1 ∨ k = 2 ∨ k = 3 ∨ k = 4 ∨ k = 5 ∨ k = 6 ∨ k = 7) with rfl | rfl | rfl | rfl | rfl | rfl | rfl | rfl <;> rfl
    · rw [if_neg (by omega), if_neg (by omega), if_neg (by omega), if_neg (by omega), if_neg (by omega), if_neg (by decide)]
      rcases (by omega : (k - 8) / 7 = 0 ∨ (k - 8) / 7 = 1 ∨ (k - 8) / 7 = 2 ∨ (k - 8) / 7 = 3) with e | e | e | e <;> rw [e]
      · show r (8 + (k - 8) % 7) = r k; congr 1; omega
      · show r (15 + (k - 8) % 7) = r k; congr 1; omega
      · show r (22 + (k - 8) % 7) = r k; congr 1; omega
      · show r (29 + (k - 8) % 7) = r k; congr 1; omega
  · have e1 : (uRow r).1 1 = 7 := h
    have e2 : (uRow r).2.1 = some (fun t => if t = 1 then r 5 else if t = 2 then r 6 else r (t + 5)) := if_pos h
    unfold mRow
    rw [e1, e2]
    rcases (by omega : k < 8 ∨ 8 ≤ k) with z | z
    · rcases (by omega : k = 0 ∨ k = 1 ∨ k = 2 ∨ k = 3 ∨ k = 4 ∨ k = 5 ∨ k = 6 ∨ k = 7) with rfl | rfl | rfl | rfl | rfl | rfl | rfl | rfl <;> rfl
    · rw [if_neg (by omega), if_neg (by omega), if_neg (by omega), if_neg (by omega), if_neg (by omega), if_pos rfl]
      by_cases e : k < 24
      · rw [if_pos e]
        show (if k - 5 = 1 then r 5 else if k - 5 = 2 then r 6 else r (k - 5 + 5)) = r k
        rw [if_neg (by omega), if_neg (by omega)]; congr 1; omega
      · rw [if_neg e]; exact (h0 k (by omega) hk).symm
/-- numbers but the rows of messages and logs are the same -/
def rSm (o : Nat) (X Y : XS) : Prop := ∀ f i j, ¬ f = 41 → ¬ f = 42 → dV (xD Y) o f i j = dV (xD X) o f i j
theorem rSm.rf (o : Nat) (X : XS) : rSm o X X := fun _ _ _ _ _ => rfl
theorem rSm.tr {o : Nat} {X Y Z : XS} (h : rSm o X Y) (k : rSm o Y Z) : rSm o X Z := fun f i j h1 h2 => (k f i j h1 h2).trans (h f i j h1 h2)
theorem rKeep.sm {o : Nat} {X Y : XS} (h : rKeep o X Y) : rSm o X Y := fun f i j _ h2 => h.1 f i j h2
theorem rSm.row {o : Nat} {X Y : XS} (h : rSm o X Y) {f i : Nat} {v : Nat → Int32} (hf : f = 41 ∨ f = 42) : rSm o X (xSetD Y (dRowV (xD Y) o f i v)) := fun a b c h1 h2 =>
  (if_neg (fun z => by have := z.2.1; omega)).trans (h a b c h1 h2)
theorem rRel0.sm {o n c z : Nat} {X Y : XS} {K : KK} (h : rRel0 o n c z X Y K) (k : rSm o X Y) (ha : aPr X o) (h15 : ∀ i, i < 7 → K.1 15 i 0 = (xK X o).1 15 i 0) : rRel o n c z X Y K :=
  ⟨h, fun j => k 40 0 j (by omega) (by omega), fun i hi => by rw [k 20 i 0 (by omega) (by omega), h.k, h15 i hi]; exact ha i hi⟩
theorem rRel0.net {o n c z : Nat} {X Y : XS} {K : KK} (h : rRel0 o n c z X Y K) (K' : KK) : rRel0 o n c z X (xSetK Y o K') K' := by
  obtain ⟨a1, a2, a3, a4, a5, a6, a7⟩ := h
  refine ⟨a1, fun a => ?_, a3, a4, a5, a6, a7⟩
  rw [xK_setK]
  split
  · rfl
  · rename_i e; rw [a2 a, if_neg e]
/-! send: a row of six numbers -/
def rw6 (a b c d e f : Int32) (k : Nat) : Int32 := if k = 0 then a else if k = 1 then b else if k = 2 then c else if k = 3 then d else if k = 4 then e else if k = 5 then f else 0
theorem xRowV_idem (X : XS) (o f i : Nat) (v w : Nat → Int32) : xSetD (xSetD X (dRowV (xD X) o f i v)) (dRowV (xD (xSetD X (dRowV (xD X) o f i v))) o f i w) = xSetD X (dRowV (xD X) o f i w) := by
  rw [xSetD_idem]
  refine congrArg (xSetD X) ?_
  show (_, _, _, _, _, _) = (_, _, _, _, _, _)
  refine Prod.ext rfl (Prod.ext rfl (Prod.ext rfl (Prod.ext rfl (Prod.ext (funext fun a => funext fun b => funext fun c => funext fun d => ?_) rfl))))
  show (if a = o ∧ b = f ∧ c = i then w d else if a = o ∧ b = f ∧ c = i then v d else _) = if a = o ∧ b = f ∧ c = i then w d else _
  split <;> rfl
/-- X with another row of messages -/
def xPost (X : XS) (o : Nat) (v : Nat → Int32) : XS := xSetD X (dRowV (xD X) o 41 0 v)
theorem xPost_V (X : XS) (o : Nat) (v : Nat → Int32) (q : Nat) : dV (xD (xPost X o v)) o 41 0 q = v q := if_pos ⟨rfl, rfl, rfl⟩
theorem xPost_put (X : XS) (o : Nat) (v : Nat → Int32) (j : Nat) (z : Int32) : xSetD (xPost X o v) (dRowV (xD (xPost X o v)) o 41 0 (fun q => if q = j then z else dV (xD (xPost X o v)) o 41 0 q)) = xPost X o (fun q => if q = j then z else v q) := by
  unfold xPost
  rw [xRowV_idem]
  refine congrArg (fun w => xSetD X (dRowV (xD X) o 41 0 w)) (funext fun q => ?_)
  show (if q = j then z else if o = o ∧ 41 = 41 ∧ 0 = 0 then v q else _) = _
  by_cases e : q = j
  · rw [if_pos e, if_pos e]
  · rw [if_neg e, if_neg e]; exact if_pos ⟨rfl, rfl, rfl⟩
theorem AT.rs_xp {m i pc ln r1 r2 r3 : Nat} {ls : PV} {st : List Value} {X : XS} {Q : PO → XS → Prop} {M : PMet} {o : Nat} {y z : Int32} {j : Nat} {v : Nat → Int32} (hM : qPT m = M) (hr : M.1[i]? = some (pc, .iastore, ln, r1, r2, r3)) (hy : y = Int32.ofNat j) (h2 : 2 ≤ o) (h4 : o < 4) (hj : j < 2160) (hf : 36 * (xK X o).2.2.length ≤ j)
    (k : AT m (i + 1) ls st (xPost X o (fun q => if q = j then z else v q)) Q) : AT m i ls (.int z :: .int y :: .ref (bB o + 56) :: st) (xPost X o v) Q :=
  AT.rs_post hM hr hy h2 h4 hj hf (by rw [xPost_put]; exact k)
theorem vPut_0 (w v : Nat → Int32) (j : Nat) : vPut w j 0 v = w := funext fun k => if_neg (by omega)
theorem vPut_up (w : Nat → Int32) (j n : Nat) : (fun q => if q = j + n then 0 else vPut w j n (fun _ => 0) q) = vPut w j (n + 1) (fun _ => 0) := funext fun k => by
  unfold vPut
  by_cases e : k = j + n
  · rw [if_pos e, if_pos (by omega)]
  · rw [if_neg e]
    by_cases e2 : j ≤ k ∧ k < j + n
    · rw [if_pos e2, if_pos (by omega)]
    · rw [if_neg e2, if_neg (by omega)]
theorem i32_36 (n : Nat) : Int32.ofNat n * 36 = Int32.ofNat (36 * n) := by rw [Nat.mul_comm, Int32.ofNat_mul]; rfl
theorem l_200 {X : XS} {o : Nat} (h2 : 2 ≤ o) (h4 : o < 4) {kd fr te tm a b : Int32} {Q : PO → XS → Prop} (hn : (xK X o).2.2.length < 60) : ∀ d k : Nat, k + d = 36 → (AT 200 31 [some (.ref (bB o)), some (.int kd), some (.int fr), some (.int te), some (.int tm), some (.int a), some (.int b), some (.int (Int32.ofNat (36 * (xK X o).2.2.length))), some (.int (Int32.ofNat 36))] [] (xPost X o (vPut (dV (xD X) o 41 0) (36 * (xK X o).2.2.length) 36 (fun _ => 0))) Q) → AT 200 19 [some (.ref (bB o)), some (.int kd), some (.int fr), some (.int te), some (.int tm), some (.int a), some (.int b), some (.int (Int32.ofNat (36 * (xK X o).2.2.length))), some (.int (Int32.ofNat k))] [] (xPost X o (vPut (dV (xD X) o 41 0) (36 * (xK X o).2.2.length) k (fun _ => 0))) Q
  | 0, k, hd, hk => by
    have e : k = 36 := by omega
    subst e
    refine AT.iload M_200 rfl rfl ?_
    refine AT.bipush M_200 rfl (v := 36) (by decide) ?_
    refine AT.icmp_ge M_200 rfl (fun b21 => ?_) (fun b21 => absurd (Int32.le_refl _) b21)
    exact hk
  | d + 1, k, hd, hk => by
    refine AT.iload M_200 rfl rfl ?_
    refine AT.bipush M_200 rfl (v := 36) (by decide) ?_
    refine AT.icmp_ge M_200 rfl (fun b21 => absurd ((i32_le (a := 36) (b := k) (by omega) (by omega)).mp b21) (by omega)) (fun b21 => ?_)
    refine AT.aload_n M_200 rfl rfl ?_
    refine AT.r10_23 M_200 rfl h2 h4 ?_
    refine AT.iload M_200 rfl rfl ?_
    refine AT.iload M_200 rfl rfl ?_
    refine AT.iadd M_200 rfl rfl ?_
    refine AT.iconst M_200 rfl (v := 0) (by decide) ?_
    refine AT.rs_xp M_200 rfl (j := 36 * (xK X o).2.2.length + k) (by rw [← Int32.ofNat_add]) h2 h4 (by omega) (by omega) ?_
    rw [vPut_up]
    refine AT.iinc8 M_200 rfl rfl (i32_suc1 k) ?_
    refine AT.goto M_200 rfl ?_
    exact l_200 h2 h4 hn d (k + 1) (by omega) hk
theorem xPost_self (X : XS) (o : Nat) : xPost X o (dV (xD X) o 41 0) = X := by
  refine Eq.trans (congrArg (xSetD X) ?_) (xSetD_self X)
  show (_, _, _, _, _, _) = (_, _, _, _, _, _)
  refine Prod.ext rfl (Prod.ext rfl (Prod.ext rfl (Prod.ext rfl (Prod.ext (funext fun a => funext fun b => funext fun c => funext fun d => ?_) rfl))))
  show (if a = o ∧ b = 41 ∧ c = 0 then dV (xD X) o 41 0 d else dV (xD X) a b c d) = dV (xD X) a b c d
  by_cases e : a = o ∧ b = 41 ∧ c = 0
  · rw [if_pos e, e.1, e.2.1, e.2.2]
  · rw [if_neg e]
theorem l_200i {X : XS} {o : Nat} (h2 : 2 ≤ o) (h4 : o < 4) {kd fr te tm a b : Int32} {Q : PO → XS → Prop} (hn : (xK X o).2.2.length < 60) (hk : AT 200 31 [some (.ref (bB o)), some (.int kd), some (.int fr), some (.int te), some (.int tm), some (.int a), some (.int b), some (.int (Int32.ofNat (36 * (xK X o).2.2.length))), some (.int (Int32.ofNat 36))] [] (xPost X o (vPut (dV (xD X) o 41 0) (36 * (xK X o).2.2.length) 36 (fun _ => 0))) Q) : AT 200 19 [some (.ref (bB o)), some (.int kd), some (.int fr), some (.int te), some (.int tm), some (.int a), some (.int b), some (.int (Int32.ofNat (36 * (xK X o).2.2.length))), some (.int (Int32.ofNat 0))] [] X Q := by
  have h := l_200 h2 h4 hn 36 0 (by omega) hk
  rw [vPut_0, xPost_self] at h
  exact h
theorem v6_at (w : Nat → Int32) (j k : Nat) (kd fr te tm a b : Int32) (hk : k < 36) : (if j + k = j + 5 then b else if j + k = j + 4 then a else if j + k = j + 3 then tm else if j + k = j + 2 then te else if j + k = j + 1 then fr else if j + k = j + 0 then kd else vPut w j 36 (fun _ => 0) (j + k)) = rw6 kd fr te tm a b k := by
  unfold rw6
  rcases (by omega : k = 0 ∨ k = 1 ∨ k = 2 ∨ k = 3 ∨ k = 4 ∨ k = 5 ∨ 6 ≤ k) with rfl | rfl | rfl | rfl | rfl | rfl | z
  · rw [if_neg (by omega), if_neg (by omega), if_neg (by omega), if_neg (by omega), if_neg (by omega), if_pos rfl]; rfl
  · rw [if_neg (by omega), if_neg (by omega), if_neg (by omega), if_neg (by omega), if_pos rfl]; rfl
  · rw [if_neg (by omega), if_neg (by omega), if_neg (by omega), if_pos rfl]; rfl
  · rw [if_neg (by omega), if_neg (by omega), if_pos rfl]; rfl
  · rw [if_neg (by omega), if_pos rfl]; rfl
  · rw [if_pos rfl]; rfl
  · rw [if_neg (by omega), if_neg (by omega), if_neg (by omega), if_neg (by omega), if_neg (by omega), if_neg (by omega), if_neg (by omega), if_neg (by omega), if_neg (by omega), if_neg (by omega), if_neg (by omega), if_neg (by omega)]
    unfold vPut
    rw [if_pos (by omega)]
theorem v6_lo (w : Nat → Int32) (j q : Nat) (kd fr te tm a b : Int32) (hq : q < j) : (if q = j + 5 then b else if q = j + 4 then a else if q = j + 3 then tm else if q = j + 2 then te else if q = j + 1 then fr else if q = j + 0 then kd else vPut w j 36 (fun _ => 0) q) = w q := by
  rw [if_neg (by omega), if_neg (by omega), if_neg (by omega), if_neg (by omega), if_neg (by omega), if_neg (by omega)]
  unfold vPut
  rw [if_neg (by omega)]
theorem c_200 {X : XS} {o n : Nat} (h2 : 2 ≤ o) (h4 : o < 4) {kd fr te tm a b : Int32} {u : MSG} (hu : ∀ k, k < 36 → mRow u k = rw6 kd fr te tm a b k) : RU 200 [some (.ref (bB o)), some (.int kd), some (.int fr), some (.int te), some (.int tm), some (.int a), some (.int b), none, none] X (some (.int (if (xK X o).2.2.length < 60 then Int32.ofNat (36 * (xK X o).2.2.length) else -1))) (fun Y => rRel0 o n 0 0 X Y (kSend (xK X o) u) ∧ rSm o X Y) := by
  refine AT.rep (fun hr => ?_)
  have h60 := (hr.choose_spec.2.2.2.2.2.2.1 o h4).1
  have hpo := hr.choose_spec.2.2.2.2.2.2.2.2.2.2.2.2.2.1
  by_cases hn : (xK X o).2.2.length < 60
  · skip
    refine AT.aload_n M_200 rfl rfl ?_
    refine AT.r10_22 M_200 rfl h2 h4 ?_
    refine AT.bipush M_200 rfl (v := 60) (by decide) ?_
    refine AT.icmp_ne M_200 rfl (fun b3 => ?_) (fun b3 => absurd (i32_nat (b := 60) (by omega) (by omega) (Classical.not_not.mp b3)) (by omega))
    refine AT.aload_n M_200 rfl rfl ?_
    refine AT.r10_22 M_200 rfl h2 h4 ?_
    refine AT.bipush M_200 rfl (v := 36) (by decide) ?_
    refine AT.imul M_200 rfl rfl ?_
    rw [i32_36]
    refine AT.ist7 M_200 rfl rfl ?_
    refine AT.iconst M_200 rfl (v := 0) (by decide) ?_
    refine AT.ist8 M_200 rfl rfl ?_
    refine l_200i h2 h4 hn ?_
    refine AT.aload_n M_200 rfl rfl ?_
    refine AT.r10_23 M_200 rfl h2 h4 ?_
    refine AT.iload M_200 rfl rfl ?_
    refine AT.iload_n M_200 rfl rfl ?_
    refine AT.rs_xp M_200 rfl (j := 36 * (xK X o).2.2.length + 0) rfl h2 h4 (by omega) (by omega) ?_
    refine AT.aload_n M_200 rfl rfl ?_
    refine AT.r10_23 M_200 rfl h2 h4 ?_
    refine AT.iload M_200 rfl rfl ?_
    refine AT.iconst M_200 rfl (v := 1) (by decide) ?_
    refine AT.iadd M_200 rfl rfl ?_
    refine AT.iload_n M_200 rfl rfl ?_
    refine AT.rs_xp M_200 rfl (j := 36 * (xK X o).2.2.length + 1) (by rw [Int32.ofNat_add]; rfl) h2 h4 (by omega) (by omega) ?_
    refine AT.aload_n M_200 rfl rfl ?_
    refine AT.r10_23 M_200 rfl h2 h4 ?_
    refine AT.iload M_200 rfl rfl ?_
    refine AT.iconst M_200 rfl (v := 2) (by decide) ?_
    refine AT.iadd M_200 rfl rfl ?_
    refine AT.iload_n M_200 rfl rfl ?_
    refine AT.rs_xp M_200 rfl (j := 36 * (xK X o).2.2.length + 2) (by rw [Int32.ofNat_add]; rfl) h2 h4 (by omega) (by omega) ?_
    refine AT.aload_n M_200 rfl rfl ?_
    refine AT.r10_23 M_200 rfl h2 h4 ?_
    refine AT.iload M_200 rfl rfl ?_
    refine AT.iconst M_200 rfl (v := 3) (by decide) ?_
    refine AT.iadd M_200 rfl rfl ?_
    refine AT.iload M_200 rfl rfl ?_
    refine AT.rs_xp M_200 rfl (j := 36 * (xK X o).2.2.length + 3) (by rw [Int32.ofNat_add]; rfl) h2 h4 (by omega) (by omega) ?_
    refine AT.aload_n M_200 rfl rfl ?_
    refine AT.r10_23 M_200 rfl h2 h4 ?_
    refine AT.iload M_200 rfl rfl ?_
    refine AT.iconst M_200 rfl (v := 4) (by decide) ?_
    refine AT.iadd M_200 rfl rfl ?_
    refine AT.iload M_200 rfl rfl ?_
    refine AT.rs_xp M_200 rfl (j := 36 * (xK X o).2.2.length + 4) (by rw [Int32.ofNat_add]; rfl) h2 h4 (by omega) (by omega) ?_
    refine AT.aload_n M_200 rfl rfl ?_
    refine AT.r10_23 M_200 rfl h2 h4 ?_
    refine AT.iload M_200 rfl rfl ?_
    refine AT.iconst M_200 rfl (v := 5) (by decide) ?_
    refine AT.iadd M_200 rfl rfl ?_
    refine AT.iload M_200 rfl rfl ?_
    refine AT.rs_xp M_200 rfl (j := 36 * (xK X o).2.2.length + 5) (by rw [Int32.ofNat_add]; rfl) h2 h4 (by omega) (by omega) ?_
    refine AT.aload_n M_200 rfl rfl ?_
    refine AT.dup M_200 rfl ?_
    refine AT.r10_22 M_200 rfl h2 h4 ?_
    refine AT.iconst M_200 rfl (v := 1) (by decide) ?_
    refine AT.iadd M_200 rfl rfl ?_
    refine AT.w10_22 M_200 rfl h2 h4 (l' := (xK X o).2.2 ++ [u]) (by rw [List.length_append, List.length_singleton]; exact i32_suc1 _) (by rw [List.length_append, List.length_singleton]; omega) (fun j' u' hu' k hk => ?_) ?_
    · refine (xPost_V X o _ _).trans ?_
      rcases Nat.lt_or_ge j' (xK X o).2.2.length with z | z
      · rw [List.getElem?_append_left z] at hu'
        exact (v6_lo _ _ _ _ _ _ _ _ _ (by omega)).trans (hpo o h2 h4 j' u' hu' k hk)
      · have hj : j' = (xK X o).2.2.length := by
          have := (List.getElem?_eq_some_iff.mp hu').1
          rw [List.length_append, List.length_singleton] at this
          omega
        subst hj
        rw [List.getElem?_append_right (Nat.le_refl _), Nat.sub_self] at hu'
        have hu2 : u = u' := Option.some.inj hu'
        subst hu2
        rw [hu k hk]
        exact v6_at _ _ _ _ _ _ _ _ _ hk
    skip
    refine AT.iload M_200 rfl rfl ?_
    refine AT.iret M_200 rfl rfl ?_
    rw [if_pos hn]
    refine ⟨rfl, ?_, (rSm.rf o X).row (Or.inl rfl)⟩
    rw [show kSend (xK X o) u = kNet (xK X o) ((xK X o).2.2 ++ [u]) from if_pos hn]
    exact ((rRel0.rf o n X).row 41 0 _).net _
  · skip
    refine AT.aload_n M_200 rfl rfl ?_
    refine AT.r10_22 M_200 rfl h2 h4 ?_
    refine AT.bipush M_200 rfl (v := 60) (by decide) ?_
    refine AT.icmp_ne M_200 rfl (fun b3 => absurd (show Int32.ofNat (xK X o).2.2.length = Int32.ofNat 60 from congrArg _ (by omega)) b3) (fun b3 => ?_)
    refine AT.aload_n M_200 rfl rfl ?_
    refine AT.dup M_200 rfl ?_
    refine AT.r10_1 M_200 rfl h2 h4 ?_
    refine AT.iconst M_200 rfl (v := 1) (by decide) ?_
    refine AT.iadd M_200 rfl rfl ?_
    refine AT.w10_1 M_200 rfl h2 h4 ?_
    refine AT.iconst M_200 rfl (v := (-1)) (by decide) ?_
    refine AT.iret M_200 rfl rfl ?_
    rw [if_neg hn]
    refine ⟨rfl, ?_, rSm.rf o X⟩
    rw [show kSend (xK X o) u = kSet (xK X o) 32 0 0 ((xK X o).1 32 0 0 + 1) from if_neg hn]
    exact rRel0.set o n X _
