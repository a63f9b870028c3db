/-! ===== THE REFERENCE: plain entries, cuts, a message taken out ===== -/
theorem eWith_nil (t k m : Int32) : eWith (fun c => if c = 6 then m else if c = 5 then 0 else if c = 4 then 0 else if c = 3 then 0 else if c = 2 then -1 else if c = 1 then k else if c = 0 then 0 else 0) t = eNil t k m := by
  funext c
  unfold eWith eNil
  by_cases h0 : c = 0
  · rw [if_pos h0, if_pos h0]
  · rw [if_neg h0, if_neg h0]
    by_cases h1 : c = 1
    · subst h1; rfl
    · by_cases h2 : c = 2
      · subst h2; rfl
      · by_cases h6 : c = 6
        · subst h6; rfl
        · simp [h0, h1, h2, h6]
/-- X and a row of n numbers that was made -/
def xNewE (X : XS) (n : Nat) (e : ENT) : XS := xSetD X (dExt (xD X) (fun a => if a = dC (xD X) + 1 then (100 + n, e) else dE (xD X) a) (dC (xD X) + 1) (dZ (xD X) + n))
theorem xNewE_E (X : XS) (n : Nat) (e : ENT) : dE (xD (xNewE X n e)) (dC (xD X) + 1) = (100 + n, e) := if_pos rfl
theorem AT.newe {m i pc ln r1 r2 r3 : Nat} {ls : PV} {st : List Value} {X : XS} {Q : PO → XS → Prop} {M : PMet} {x : Int32} {n : Nat} (hM : qPT m = M) (hr : M.1[i]? = some (pc, .newarray .int, ln, r1, r2, r3)) (hx : x = Int32.ofNat n) (hn : n ≤ 100000000) (k : 512 ≤ dC (xD X) + 1 → AT m (i + 1) ls (.ref (dC (xD X) + 1) :: st) (xNewE X n (fun _ => 0)) Q) : AT m i ls (.int x :: st) X Q := AT.newi hM hr hx hn k
theorem AT.rs_ne {m i pc ln r1 r2 r3 : Nat} {ls : PV} {st : List Value} {X : XS} {Q : PO → XS → Prop} {M : PMet} {n j : Nat} {e : ENT} {y v : Int32} (hM : qPT m = M) (hr : M.1[i]? = some (pc, .iastore, ln, r1, r2, r3)) (hy : y = Int32.ofNat j) (h5 : 512 ≤ dC (xD X) + 1) (hj : j < n) (hn : n < 2147483648)
    (k : AT m (i + 1) ls st (xNewE X n (fun q => if q = j then v else e q)) Q) : AT m i ls (.int v :: .int y :: .ref (dC (xD X) + 1) :: st) (xNewE X n e) Q := by
  refine AT.rs_fr hM hr hy h5 (xNewE_E X n e) hj hn ?_
  have e1 : xSetD (xNewE X n e) (dFr (xD (xNewE X n e)) (dC (xD X) + 1) n (fun q => if q = j then v else e q)) = xNewE X n (fun q => if q = j then v else e q) := by
    unfold xNewE
    rw [xSetD_idem]
    refine congrArg (xSetD X) ?_
    show (_, _) = (_, _)
    refine Prod.ext (funext fun q => ?_) rfl
    show (if q = dC (xD X) + 1 then (100 + n, _) else if q = dC (xD X) + 1 then (100 + n, e) else _) = if q = dC (xD X) + 1 then (100 + n, _) else _
    split <;> rfl
  rw [e1]; exact k
/-- the room of the logs -/
def rOkR (X : XS) (o : Nat) : Prop := ∀ i, i < 7 → 112 ≤ dR (xD X) o i ∧ dR (xD X) o i ≤ 5600000
theorem rRel0.ok {o n c z : Nat} {X Y : XS} {K : KK} (h : rRel0 o n c z X Y K) (hn : n ≤ 400000) (k : rOkR X o) : rOkR Y o := fun i hi => by
  have h1 := h.2.2.2.2.2.2 i hi
  have h2 := k i hi
  omega
theorem rRel0.more {o n c z n' : Nat} {X Y : XS} {K : KK} (h : rRel0 o n c z X Y K) (hn : n ≤ n') : rRel0 o n' c z X Y K := by
  obtain ⟨a1, a2, a3, a4, a5, a6, a7⟩ := h
  exact ⟨a1, a2, a3, a4, a5, a6, fun b hb => by have := a7 b hb; omega⟩
theorem rRel0.new (o n k : Nat) (X : XS) (e : ENT) : rRel0 o n 1 k X (xNewE X k e) (xK X o) :=
  ⟨rfl, fun a => by by_cases e : a = o; (rw [if_pos e, e]; rfl); (rw [if_neg e]; rfl), fun _ _ _ => rfl, fun _ _ _ _ _ => rfl, by show dZ (xD X) + k + 2 * rTot (xD X) o ≤ dZ (xD X) + 2 * rTot (xD X) o + k; omega, by show 64 * (dC (xD X) + 1) + rTot (xD X) o ≤ 64 * dC (xD X) + rTot (xD X) o + 64 * 1; omega, fun _ _ => ⟨Nat.le_refl _, Or.inl (Nat.le_refl _)⟩⟩
theorem c_186 {X : XS} {o s : Nat} (h2 : 2 ≤ o) (h4 : o < 4) (hs : s < 7) {x y : Int32} (hR : rOkR X o) (hE : ((xK X o).2.1 s).length + 1 < 1000000) : RU 186 [some (.ref (bB o)), some (.int (Int32.ofNat s)), some (.int x), some (.int y), none] X none (fun Y => rRel0 o (((xK X o).2.1 s).length + 1) 1 7 X Y (kLog (xK X o) s ((xK X o).2.1 s ++ [eNil ((xK X o).1 5 s 0) x y])) ∧ rSm o X Y) := by
  have hL0 := (hR s hs).1
  have hB : dR (xD X) o s < 20000000 := by have := (hR s hs).2; omega
  refine AT.bipush M_186 rfl (v := 7) (by decide) ?_
  refine AT.newe M_186 rfl (n := 7) rfl (by omega) (fun h5 => ?_)
  refine AT.dup M_186 rfl ?_
  refine AT.iconst M_186 rfl (v := 0) (by decide) ?_
  refine AT.iconst M_186 rfl (v := 0) (by decide) ?_
  refine AT.rs_ne M_186 rfl (j := 0) rfl h5 (by omega) (by omega) ?_
  refine AT.dup M_186 rfl ?_
  refine AT.iconst M_186 rfl (v := 1) (by decide) ?_
  refine AT.iload_n M_186 rfl rfl ?_
  refine AT.rs_ne M_186 rfl (j := 1) rfl h5 (by omega) (by omega) ?_
  refine AT.dup M_186 rfl ?_
  refine AT.iconst M_186 rfl (v := 2) (by decide) ?_
  refine AT.iconst M_186 rfl (v := (-1)) (by decide) ?_
  refine AT.rs_ne M_186 rfl (j := 2) rfl h5 (by omega) (by omega) ?_
  refine AT.dup M_186 rfl ?_
  refine AT.iconst M_186 rfl (v := 3) (by decide) ?_
  refine AT.iconst M_186 rfl (v := 0) (by decide) ?_
  refine AT.rs_ne M_186 rfl (j := 3) rfl h5 (by omega) (by omega) ?_
  refine AT.dup M_186 rfl ?_
  refine AT.iconst M_186 rfl (v := 4) (by decide) ?_
  refine AT.iconst M_186 rfl (v := 0) (by decide) ?_
  refine AT.rs_ne M_186 rfl (j := 4) rfl h5 (by omega) (by omega) ?_
  refine AT.dup M_186 rfl ?_
  refine AT.iconst M_186 rfl (v := 5) (by decide) ?_
  refine AT.iconst M_186 rfl (v := 0) (by decide) ?_
  refine AT.rs_ne M_186 rfl (j := 5) rfl h5 (by omega) (by omega) ?_
  refine AT.dup M_186 rfl ?_
  refine AT.bipush M_186 rfl (v := 6) (by decide) ?_
  refine AT.iload_n M_186 rfl rfl ?_
  refine AT.rs_ne M_186 rfl (j := 6) rfl h5 (by omega) (by omega) ?_
  refine AT.ast4 M_186 rfl rfl ?_
  refine AT.aload_n M_186 rfl rfl ?_
  refine AT.iload_n M_186 rfl rfl ?_
  refine AT.aload M_186 rfl rfl ?_
  refine AT.iconst M_186 rfl (v := 0) (by decide) ?_
  refine AT.aload_n M_186 rfl rfl ?_
  refine AT.r10_3 M_186 rfl h2 h4 ?_
  refine AT.iload_n M_186 rfl rfl ?_
  refine AT.ra_5 M_186 rfl rfl h2 h4 (by assumption) ?_
  refine AT.cv5w M_186 rfl M_185 rfl (Nat.le_of_ble_eq_true rfl) (xKd.of (sh_st h2 h4)) (by decide) (c_185 (X := xNewE X 7 (fun c => if c = 6 then y else if c = 5 then 0 else if c = 4 then 0 else if c = 3 then 0 else if c = 2 then -1 else if c = 1 then x else if c = 0 then 0 else 0)) (ww := (fun c => if c = 6 then y else if c = 5 then 0 else if c = 4 then 0 else if c = 3 then 0 else if c = 2 then -1 else if c = 1 then x else if c = 0 then 0 else 0)) (at0 := 0) h2 h4 hs hL0 hB hE rfl (by omega) (fun Y hY _ => src.fr (hY.2 _ 7 _ (xNewE_E X 7 _)) (by omega) (fun q hq => by rw [Nat.zero_add]))) (fun Y hc39 => ?_) (Nat.le_of_ble_eq_true rfl) rfl
  obtain ⟨r1, k1⟩ := hc39
  refine AT.vret M_186 rfl rfl ?_
  rw [eWith_nil] at r1
  refine ⟨rfl, ((rRel0.new o (((xK X o).2.1 s).length + 1) 7 X _).tr r1).up (by omega) (by omega), fun f i j h6 h7 => k1.1 f i j h7⟩
/-- a log's row is written, with another list of the same length -/
theorem Rep.logL {X : XS} {g : PS} {o i : Nat} {Pk : Nat → Prop} {M : Nat → Nat → Value} {w : Nat → Int32} {l' : List ENT} (h : Rep X g) (h2 : 2 ≤ o) (h4 : o < 4) (hi : i < 7)
    (h1 : ∀ a q, ¬ (a = dA (xD X) o i ∧ Pk q) → M a q = pM g a q) (h3 : ∀ q, Pk q → M (dA (xD X) o i) q = .int (w q)) (hw : ∀ q, ¬ Pk q → w q = dV (xD X) o 42 i q) (hl : l'.length = ((xK X o).2.1 i).length)
    (hrow : ∀ j u, l'[j]? = some u → ∀ k, k < 7 → w (7 * j + k) = u k) : Rep (xSetK (xSetD X (dRowV (xD X) o 42 i w)) o (kLog (xK X o) i l')) (pSet g M) := by
  have hR := (h.2.2.2.2.2.2.2.2.1 o i h2 h4 hi).2.2.2.2.1
  have hA := (h.2.2.2.2.2.2.2.2.1 o i h2 h4 hi).2.2.2.1
  have hne : ¬ dA (xD X) o i = bB o + 31 := fun z => by rcases hA with y | y <;> rw [z] at y <;> dsimp only [bB] at y <;> omega
  have hc := (h.2.2.2.2.2.1.2 o h2 h4).2 i hi
  have r1 := h.sizeR (l' := []) h2 h4 hi (Nat.zero_le _) (fun j u z => by cases z)
  have eK : (xK (xSetK X o (kLog (xK X o) i [])) o).2.1 i = [] := by rw [xK_same]; exact if_pos rfl
  have eM : ∀ a q, pM (pPut g (bB o + 31) i (.int (Int32.ofNat ([] : List ENT).length))) a q = if a = bB o + 31 ∧ q = i then .int 0 else pM g a q := fun a q => rfl
  have r2 := r1.rowL (o := o) (i := i) (Pk := Pk) (v := w) (M := fun a q => if a = bB o + 31 ∧ q = i then .int 0 else M a q) h2 h4 hi
    (fun a q z => by
      rw [eM]
      by_cases e : a = bB o + 31 ∧ q = i
      · rw [if_pos e, if_pos e]
      · rw [if_neg e, if_neg e]; exact h1 a q z)
    (fun q hq => by
      show (if dA (xD X) o i = bB o + 31 ∧ q = i then _ else _) = _
      rw [if_neg (fun z => hne z.1)]; exact h3 q hq) (fun q hq => hw q hq) (fun j u z => by rw [eK] at z; cases z)
  have r3 := r2.sizeR (l' := l') h2 h4 hi (by rw [hl]; exact hR) (fun j u hu k hk => by
    show (if o = o ∧ 42 = 42 ∧ i = i then w (7 * j + k) else _) = _
    rw [if_pos ⟨rfl, rfl, rfl⟩]; exact hrow j u hu k hk)
  have eX : xSetK (xSetD (xSetK X o (kLog (xK X o) i [])) (dRowV (xD (xSetK X o (kLog (xK X o) i []))) o 42 i w)) o (kLog (xK (xSetD (xSetK X o (kLog (xK X o) i [])) (dRowV (xD (xSetK X o (kLog (xK X o) i []))) o 42 i w)) o) i l') = xSetK (xSetD X (dRowV (xD X) o 42 i w)) o (kLog (xK X o) i l') := by
    rw [show xK (xSetD (xSetK X o (kLog (xK X o) i [])) (dRowV (xD (xSetK X o (kLog (xK X o) i []))) o 42 i w)) o = kLog (xK X o) i [] from xK_same _ _ _]
    rw [xSetD_setK, xSetK_idem, xD_setK, kLog_idem]
  rw [eX] at r3
  have eP : pPut (pSet (pPut g (bB o + 31) i (.int (Int32.ofNat ([] : List ENT).length))) (fun a q => if a = bB o + 31 ∧ q = i then .int 0 else M a q)) (bB o + 31) i (.int (Int32.ofNat l'.length)) = pSet g M := by
    show pSet (pSet (pSet g _) _) _ = _
    refine congrArg (pSet g) (funext fun a => funext fun q => ?_)
    show (if a = bB o + 31 ∧ q = i then Value.int (Int32.ofNat l'.length) else if a = bB o + 31 ∧ q = i then .int 0 else M a q) = M a q
    by_cases e : a = bB o + 31 ∧ q = i
    · rw [if_pos e, e.1, e.2, hl, h1 _ _ (fun z => hne z.1.symm)]
      exact hc.symm
    · rw [if_neg e, if_neg e]
  rw [eP] at r3
  exact r3
theorem dst.logL {X : XS} {o s j n : Nat} {v : Nat → Int32} {l' : List ENT} (h2 : 2 ≤ o) (h4 : o < 4) (hs : s < 7) (hn : j + n ≤ dR (xD X) o s) (hl : l'.length = ((xK X o).2.1 s).length) (hrow : ∀ j' u, l'[j']? = some u → ∀ k, k < 7 → vPut (dV (xD X) o 42 s) j n v (7 * j' + k) = u k) :
    dstV X (dA (xD X) o s) j n v 12 (xSetK (xSetD X (dRowV (xD X) o 42 s (vPut (dV (xD X) o 42 s) j n v))) o (kLog (xK X o) s l')) := fun g M hg h1 h3 => by
  obtain ⟨c1, c2, c3, c4, c5, c6, c7⟩ := hg.2.2.2.2.2.2.2.2.1 o s h2 h4 hs
  exact ⟨c2, by rw [c3]; exact hn, Rep.logL (Pk := fun k => j ≤ k ∧ k < j + n) hg h2 h4 hs h1 (fun k hk => (h3 k hk.1 hk.2).trans (congrArg Value.int (if_pos hk).symm)) (fun k hk => if_neg hk) hl hrow⟩
theorem c_218 {X : XS} {o s : Nat} (h2 : 2 ≤ o) (h4 : o < 4) (hs : s < 7) {n m : Nat} (hn : n ≤ ((xK X o).2.1 s).length) (hB : ((xK X o).2.1 s).length < 100000000) : RU 218 [some (.ref (bB o)), some (.int (Int32.ofNat s)), some (.int (Int32.ofNat n))] X none (fun Y => rRel0 o m 0 0 X Y (kLog (xK X o) s (((xK X o).2.1 s).drop (((xK X o).2.1 s).length - n))) ∧ rSm o X Y) := by
  refine AT.rep (fun hr => ?_)
  obtain ⟨c1, c2, c3, c4, c5, c6, c7⟩ := hr.choose_spec.2.2.2.2.2.2.2.2.1 o s h2 h4 hs
  refine AT.aload_n M_218 rfl rfl ?_
  refine AT.r10_19 M_218 rfl h2 h4 ?_
  refine AT.iload_n M_218 rfl rfl ?_
  refine AT.rr_log M_218 rfl rfl h2 h4 (by assumption) ?_
  refine AT.aload_n M_218 rfl rfl ?_
  refine AT.r10_18 M_218 rfl h2 h4 ?_
  refine AT.iload_n M_218 rfl rfl ?_
  refine AT.ra_siz M_218 rfl rfl h2 h4 (by assumption) ?_
  refine AT.iload_n M_218 rfl rfl ?_
  refine AT.isub M_218 rfl rfl ?_
  refine AT.bipush M_218 rfl (v := 7) (by decide) ?_
  refine AT.imul M_218 rfl rfl ?_
  refine AT.aload_n M_218 rfl rfl ?_
  refine AT.r10_19 M_218 rfl h2 h4 ?_
  refine AT.iload_n M_218 rfl rfl ?_
  refine AT.rr_log M_218 rfl rfl h2 h4 (by assumption) ?_
  refine AT.iconst M_218 rfl (v := 0) (by decide) ?_
  refine AT.iload_n M_218 rfl rfl ?_
  refine AT.bipush M_218 rfl (v := 7) (by decide) ?_
  refine AT.imul M_218 rfl rfl ?_
  refine AT.acp M_218 rfl rfl (Nat.le_of_ble_eq_true rfl) (n := 7 * n) (p := 7 * (((xK X o).2.1 s).length - n)) (q := 0) (by rw [Nat.mul_comm 7, Int32.ofNat_mul]; rfl) (by rw [i32_sub0 hn, Nat.mul_comm 7, Int32.ofNat_mul]; rfl) rfl ⟨by omega, by omega, by omega⟩ (Or.inl rfl) (src.log h2 h4 hs (v := fun q => dV (xD X) o 42 s (7 * (((xK X o).2.1 s).length - n) + q)) (by omega) (fun q hq => rfl)) (dst.logL (l' := ((xK X o).2.1 s).drop (((xK X o).2.1 s).length - n) ++ ((xK X o).2.1 s).drop n) h2 h4 hs (by omega) (by rw [List.length_append, List.length_drop, List.length_drop]; omega) (fun j' u hu k hk => ?_)) ?_
  · unfold vPut
    rcases Nat.lt_or_ge j' n with z | z
    · rw [List.getElem?_append_left (by rw [List.length_drop]; omega), List.getElem?_drop] at hu
      rw [if_pos (by omega)]
      show dV (xD X) o 42 s (7 * (((xK X o).2.1 s).length - n) + (7 * j' + k - 0)) = _
      rw [show 7 * (((xK X o).2.1 s).length - n) + (7 * j' + k - 0) = 7 * (((xK X o).2.1 s).length - n + j') + k by omega]
      exact c7 _ u hu k hk
    · rw [List.getElem?_append_right (by rw [List.length_drop]; omega), List.getElem?_drop, List.length_drop] at hu
      rw [if_neg (by omega)]
      rw [show n + (j' - (((xK X o).2.1 s).length - (((xK X o).2.1 s).length - n))) = j' by omega] at hu
      exact c7 _ u hu k hk
  skip
  refine AT.aload_n M_218 rfl rfl ?_
  refine AT.r10_18 M_218 rfl h2 h4 ?_
  refine AT.iload_n M_218 rfl rfl ?_
  refine AT.iload_n M_218 rfl rfl ?_
  refine AT.rs_siz (l' := ((xK X o).2.1 s).drop (((xK X o).2.1 s).length - n)) M_218 rfl rfl h2 h4 hs (by rw [List.length_drop]; congr 1; omega) (by rw [List.length_drop]; show _ ≤ dR (xD X) o s; omega) (fun j' u hu k hk => ?_) ?_
  · rw [List.getElem?_drop] at hu
    have hj : ((xK X o).2.1 s).length - n + j' < ((xK X o).2.1 s).length := (List.getElem?_eq_some_iff.mp hu).1
    show (if o = o ∧ 42 = 42 ∧ s = s then (vPut (dV (xD X) o 42 s) 0 (7 * n) (fun q => dV (xD X) o 42 s (7 * (((xK X o).2.1 s).length - n) + q))) (7 * j' + k) else _) = _
    rw [if_pos ⟨rfl, rfl, rfl⟩]
    unfold vPut
    rw [if_pos (by omega)]
    show dV (xD X) o 42 s (7 * (((xK X o).2.1 s).length - n) + (7 * j' + k - 0)) = _
    rw [show 7 * (((xK X o).2.1 s).length - n) + (7 * j' + k - 0) = 7 * (((xK X o).2.1 s).length - n + j') + k by omega]
    exact c7 _ u hu k hk
  rw [xK_same, xSetK_idem, kLog_idem]
  refine AT.vret M_218 rfl rfl ?_
  exact ⟨rfl, ((rRel0.rf o m X).row 42 s _).net _, (rSm.rf o X).row (Or.inr rfl)⟩
theorem c_211 {X : XS} {o m j : Nat} (h2 : 2 ≤ o) (h4 : o < 4) (hj : j < (xK X o).2.2.length) : RU 211 [some (.ref (bB o)), some (.int (Int32.ofNat j))] X none (fun Y => rRel0 o m 0 0 X Y (kDrop (xK X o) j) ∧ rSm o X Y) := by
  refine AT.rep (fun hr => ?_)
  have h60 := (hr.choose_spec.2.2.2.2.2.2.1 o h4).1
  have hpo := hr.choose_spec.2.2.2.2.2.2.2.2.2.2.2.2.2.1
  have hrw : ∀ j' u, ((xK X o).2.2.eraseIdx j)[j']? = some u → ∀ k, k < 36 → (vPut (dV (xD X) o 41 0) (36 * j) (36 * ((xK X o).2.2.length - j - 1)) (fun q => dV (xD X) o 41 0 (36 * (j + 1) + q))) (36 * j' + k) = mRow u k := fun j' u hu k hk => by
    have hl := (List.getElem?_eq_some_iff.mp hu).1
    rw [List.length_eraseIdx, if_pos hj] at hl
    rw [List.getElem?_eraseIdx] at hu
    unfold vPut
    by_cases z : j' < j
    · rw [if_pos z] at hu
      rw [if_neg (by omega)]
      exact hpo o h2 h4 _ _ hu k hk
    · rw [if_neg z] at hu
      rw [if_pos (by omega)]
      show dV (xD X) o 41 0 (36 * (j + 1) + (36 * j' + k - 36 * j)) = _
      rw [show 36 * (j + 1) + (36 * j' + k - 36 * j) = 36 * (j' + 1) + k by omega]
      exact hpo o h2 h4 _ _ hu k hk
  refine AT.aload_n M_211 rfl rfl ?_
  refine AT.r10_23 M_211 rfl h2 h4 ?_
  refine AT.iload_n M_211 rfl rfl ?_
  refine AT.iconst M_211 rfl (v := 1) (by decide) ?_
  refine AT.iadd M_211 rfl rfl ?_
  refine AT.bipush M_211 rfl (v := 36) (by decide) ?_
  refine AT.imul M_211 rfl rfl ?_
  refine AT.aload_n M_211 rfl rfl ?_
  refine AT.r10_23 M_211 rfl h2 h4 ?_
  refine AT.iload_n M_211 rfl rfl ?_
  refine AT.bipush M_211 rfl (v := 36) (by decide) ?_
  refine AT.imul M_211 rfl rfl ?_
  refine AT.aload_n M_211 rfl rfl ?_
  refine AT.r10_22 M_211 rfl h2 h4 ?_
  refine AT.iload_n M_211 rfl rfl ?_
  refine AT.isub M_211 rfl rfl ?_
  refine AT.iconst M_211 rfl (v := 1) (by decide) ?_
  refine AT.isub M_211 rfl rfl ?_
  refine AT.bipush M_211 rfl (v := 36) (by decide) ?_
  refine AT.imul M_211 rfl rfl ?_
  refine AT.acp M_211 rfl rfl (Nat.le_of_ble_eq_true rfl) (n := 36 * ((xK X o).2.2.length - j - 1)) (p := 36 * (j + 1)) (q := 36 * j) (by rw [i32_sub0 (by omega), i32_pred (by omega), i32_36]) (by rw [i32_suc1, i32_36]) (by rw [i32_36]) ⟨by omega, by omega, by omega⟩ (Or.inl rfl) (src.loc (f := 41) (fi := fun _ => 0) (fj := fun q => 36 * (j + 1) + q) (sh_post h2 h4) (by omega) (by omega) (fun q hq => lo_post h2 h4 (by omega)) (v := fun q => dV (xD X) o 41 0 (36 * (j + 1) + q)) (fun q hq => rfl)) (dst.postL (l' := (xK X o).2.2.eraseIdx j ++ [(xK X o).2.2[(xK X o).2.2.length - 1]]) h2 h4 (by omega) (by rw [List.length_append, List.length_singleton, List.length_eraseIdx, if_pos hj]; omega) (fun j' u hu k hk => ?_)) ?_
  · rcases Nat.lt_or_ge j' ((xK X o).2.2.length - 1) with z | z
    · rw [List.getElem?_append_left (by rw [List.length_eraseIdx, if_pos hj]; omega)] at hu
      exact hrw j' u hu k hk
    · have hz : j' = (xK X o).2.2.length - 1 := by
        have := (List.getElem?_eq_some_iff.mp hu).1
        rw [List.length_append, List.length_singleton, List.length_eraseIdx, if_pos hj] at this
        omega
      subst hz
      rw [List.getElem?_append_right (by rw [List.length_eraseIdx, if_pos hj]; omega), List.length_eraseIdx, if_pos hj, Nat.sub_self] at hu
      have hu2 : (xK X o).2.2[(xK X o).2.2.length - 1] = u := Option.some.inj hu
      subst hu2
      unfold vPut
      rw [if_neg (by omega)]
      exact hpo o h2 h4 _ _ (List.getElem?_eq_getElem (by omega)) k hk
  skip
  refine AT.aload_n M_211 rfl rfl ?_
  refine AT.dup M_211 rfl ?_
  refine AT.r10_22 M_211 rfl h2 h4 ?_
  refine AT.iconst M_211 rfl (v := 1) (by decide) ?_
  refine AT.isub M_211 rfl rfl ?_
  refine AT.w10_22 (l' := (xK X o).2.2.eraseIdx j) M_211 rfl h2 h4 ?_ (by rw [List.length_eraseIdx, if_pos hj]; omega) (fun j' u hu k hk => ?_) ?_
  · rw [xK_same, List.length_eraseIdx, if_pos hj]
    show Int32.ofNat ((xK X o).2.2.eraseIdx j ++ [(xK X o).2.2[(xK X o).2.2.length - 1]]).length - 1 = _
    rw [List.length_append, List.length_singleton, List.length_eraseIdx, if_pos hj, i32_sc]
  · show (if o = o ∧ 41 = 41 ∧ 0 = 0 then (vPut (dV (xD X) o 41 0) (36 * j) (36 * ((xK X o).2.2.length - j - 1)) (fun q => dV (xD X) o 41 0 (36 * (j + 1) + q))) (36 * j' + k) else _) = _
    rw [if_pos ⟨rfl, rfl, rfl⟩]
    exact hrw j' u hu k hk
  rw [xK_same, xSetK_idem]
  refine AT.vret M_211 rfl rfl ?_
  exact ⟨rfl, ((rRel0.rf o m X).row 41 0 _).net _, (rSm.rf o X).row (Or.inl rfl)⟩
