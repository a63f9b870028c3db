/-! ===== THE REFERENCE: become, its rows ===== -/
theorem Rep.post2 {X : XS} {g : PS} {o : Nat} {Pk : Nat → Prop} {M : Nat → Nat → Value} {w : Nat → Int32} {l' : List MSG} (h : Rep X g) (h2 : 2 ≤ o) (h4 : o < 4) (hP : ∀ q, Pk q → q < 2160)
    (h1 : ∀ a q, ¬ (a = bB o + 56 ∧ Pk q) → M a q = pM g a q) (h3 : ∀ q, Pk q → M (bB o + 56) q = .int (w q)) (hw : ∀ q, ¬ Pk q → w q = dV (xD X) o 41 0 q) (hl : l'.length ≤ 60)
    (hrow : ∀ j u, l'[j]? = some u → ∀ k, k < 36 → w (36 * j + k) = mRow u k) : Rep (xSetK (xSetD X (dRowV (xD X) o 41 0 w)) o (kNet (xK X o) l')) (pPut (pSet g M) (bB o) 22 (.int (Int32.ofNat l'.length))) := by
  have r1 := h.manyR (l' := []) h2 h4 (Nat.zero_le _) (fun j u z => by cases z)
  have eK : xK (xSetK X o (kNet (xK X o) [])) o = kNet (xK X o) [] := xK_same _ _ _
  have eM : ∀ a q, pM (pPut g (bB o) 22 (.int (Int32.ofNat ([] : List MSG).length))) a q = if a = bB o ∧ q = 22 then .int 0 else pM g a q := fun a q => rfl
  have r2 := r1.rowV (o := o) (f := 41) (b := bB o + 56) (n := 2160) (Pk := Pk) (v := w) (M := fun a q => if a = bB o ∧ q = 22 then .int 0 else M a q) (fun q hq => lo_post h2 h4 hq) (Or.inr rfl) hP
    (fun a q z => by
      rw [eM]
      by_cases e : a = bB o ∧ q = 22
      · rw [if_pos e, if_pos e]
      · rw [if_neg e, if_neg e]; exact h1 a q z)
    (fun q hq => by rw [if_neg (fun z => by have := z.1; omega)]; exact h3 q hq) (fun q hq => hw q hq) (fun _ j u z => by rw [eK] at z; cases z)
  have r3 := r2.manyR (l' := l') h2 h4 hl (fun j u hu k hk => by
    show (if o = o ∧ 41 = 41 ∧ 0 = 0 then w (36 * j + k) else _) = _
    rw [if_pos ⟨rfl, rfl, rfl⟩]; exact hrow j u hu k hk)
  have eX : xSetK (xSetD (xSetK X o (kNet (xK X o) [])) (dRowV (xD (xSetK X o (kNet (xK X o) []))) o 41 0 w)) o (kNet (xK (xSetD (xSetK X o (kNet (xK X o) [])) (dRowV (xD (xSetK X o (kNet (xK X o) []))) o 41 0 w)) o) l') = xSetK (xSetD X (dRowV (xD X) o 41 0 w)) o (kNet (xK X o) l') := by
    rw [show xK (xSetD (xSetK X o (kNet (xK X o) [])) (dRowV (xD (xSetK X o (kNet (xK X o) []))) o 41 0 w)) o = kNet (xK X o) [] from eK]
    rw [xSetD_setK, xSetK_idem, xD_setK]
    rfl
  rw [eX] at r3
  have eP : pPut (pSet (pPut g (bB o) 22 (.int (Int32.ofNat ([] : List MSG).length))) (fun a q => if a = bB o ∧ q = 22 then .int 0 else M a q)) (bB o) 22 (.int (Int32.ofNat l'.length)) = pPut (pSet g M) (bB o) 22 (.int (Int32.ofNat l'.length)) := by
    show pSet (pSet (pSet g _) _) _ = pSet (pSet g _) _
    refine congrArg (pSet g) (funext fun a => funext fun q => ?_)
    show (if a = bB o ∧ q = 22 then Value.int (Int32.ofNat l'.length) else if a = bB o ∧ q = 22 then .int 0 else M a q) = if a = bB o ∧ q = 22 then Value.int (Int32.ofNat l'.length) else M a q
    by_cases e : a = bB o ∧ q = 22
    · rw [if_pos e, if_pos e]
    · rw [if_neg e, if_neg e, if_neg e]
  rw [eP] at r3
  exact r3
/-! the row of what is applied -/
def dRow20 (D : XD) (o : Nat) (v : Nat → Int32) (n : Nat) : XD := (D.1, D.2.1, D.2.2.1, D.2.2.2.1, fun a b c d => if a = o ∧ b = 20 ∧ c < n ∧ d = 0 then v c else D.2.2.2.2.1 a b c d, D.2.2.2.2.2)
theorem Rep.row20 {X : XS} {g : PS} {o : Nat} {v : Nat → Int32} (h2 : 2 ≤ o) (h4 : o < 4) (h : Rep X g) : ∀ n : Nat, n ≤ 7 → Rep (xSetD X (dRow20 (xD X) o v n)) (pSet g (fun a k => if a = bB o + 8 ∧ k < n then .int (v k) else pM g a k))
  | 0, _ => by
    have e1 : xSetD X (dRow20 (xD X) o v 0) = X := by
      refine Eq.trans (congrArg (xSetD X) ?_) (xSetD_self X)
      show (_, _, _, _, _, _) = (_, _, _, _, _, _)
      refine Prod.ext rfl (Prod.ext rfl (Prod.ext rfl (Prod.ext rfl (Prod.ext (funext fun a => funext fun b => funext fun c => funext fun d => ?_) rfl))))
      exact if_neg (fun z => Nat.not_lt_zero _ z.2.2.1)
    have e2 : pSet g (fun a k => if a = bB o + 8 ∧ k < 0 then .int (v k) else pM g a k) = g := by
      show (g.1, g.2.1, _, g.2.2.2) = g
      refine Prod.ext rfl (Prod.ext rfl (Prod.ext (funext fun u => funext fun y => ?_) rfl))
      exact if_neg (fun z => Nat.not_lt_zero _ z.2)
    rw [e1, e2]; exact h
  | n + 1, hn => by
    have r := (Rep.row20 h2 h4 (v := v) h n (by omega)).putV (f := 20) (i := n) (j := 0) (a := bB o + 8) (k := n) (v := v n) (lor h2 h4 (Or.inr (Or.inr (Or.inr (Or.inr (Or.inl ⟨rfl, by omega, rfl, rfl, rfl⟩)))))) (by decide) ⟨by decide, by decide⟩
    have e1 : xSetD (xSetD X (dRow20 (xD X) o v n)) (dSetV (xD (xSetD X (dRow20 (xD X) o v n))) o 20 n 0 (v n)) = xSetD X (dRow20 (xD X) o v (n + 1)) := by
      rw [xSetD_idem]
      refine congrArg (xSetD X) ?_
      show (_, _, _, _, _, _) = (_, _, _, _, _, _)
      refine Prod.ext rfl (Prod.ext rfl (Prod.ext rfl (Prod.ext rfl (Prod.ext (funext fun a => funext fun b => funext fun c => funext fun d => ?_) rfl))))
      show (if a = o ∧ b = 20 ∧ c = n ∧ d = 0 then v n else if a = o ∧ b = 20 ∧ c < n ∧ d = 0 then v c else _) = if a = o ∧ b = 20 ∧ c < n + 1 ∧ d = 0 then v c else _
      by_cases c1 : a = o ∧ b = 20 ∧ c = n ∧ d = 0
      · rw [if_pos c1, if_pos (by omega), c1.2.2.1]
      · rw [if_neg c1]
        by_cases c2 : a = o ∧ b = 20 ∧ c < n ∧ d = 0
        · rw [if_pos c2, if_pos (by omega)]
        · rw [if_neg c2, if_neg (by omega)]
    have e2 : pPut (pSet g (fun a k => if a = bB o + 8 ∧ k < n then .int (v k) else pM g a k)) (bB o + 8) n (.int (v n)) = pSet g (fun a k => if a = bB o + 8 ∧ k < n + 1 then .int (v k) else pM g a k) := by
      show pSet (pSet g _) _ = pSet g _
      refine congrArg (pSet g) (funext fun a => funext fun k => ?_)
      show (if a = bB o + 8 ∧ k = n then Value.int (v n) else if a = bB o + 8 ∧ k < n then Value.int (v k) else pM g a k) = if a = bB o + 8 ∧ k < n + 1 then Value.int (v k) else pM g a k
      by_cases c1 : a = bB o + 8 ∧ k = n
      · rw [if_pos c1, if_pos (by omega), c1.2]
      · rw [if_neg c1]
        by_cases c2 : a = bB o + 8 ∧ k < n
        · rw [if_pos c2, if_pos (by omega)]
        · rw [if_neg c2, if_neg (by omega)]
    rw [e1, e2] at r
    exact r
theorem dst.p20 {X : XS} {o : Nat} {v : Nat → Int32} (h2 : 2 ≤ o) (h4 : o < 4) : dstV X (bB o + 8) 0 7 v 12 (xSetD X (dRow20 (xD X) o v 7)) := fun g M hg h1 h3 => by
  have hs := hg.2.1 _ _ _ (sh_i7 (o := o) (c := 8) h2 h4 (by omega) (by omega))
  refine ⟨hs.1, by rw [hs.2 (by omega)]; omega, ?_⟩
  have e : M = fun a k => if a = bB o + 8 ∧ k < 7 then .int (v k) else pM g a k := funext fun a => funext fun k => by
    by_cases c : a = bB o + 8 ∧ k < 7
    · rw [if_pos c, c.1]
      have := h3 k (Nat.zero_le _) (by omega)
      rw [Nat.sub_zero] at this
      exact this
    · rw [if_neg c]
      exact h1 a k (fun z => c ⟨z.1, by omega⟩)
  rw [e]
  exact hg.row20 h2 h4 7 (Nat.le_refl _)
/-- n cells of a number are as in Kp -/
def kCpF (f j n : Nat) (K Kp : KK) : KK := (fun a b c => if a = f ∧ b < n ∧ c = j then Kp.1 a b c else K.1 a b c, K.2)
section BEC
variable {m i pc ln r1 r2 r3 : Nat} {ls : PV} {st : List Value} {X : XS} {Q : PO → XS → Prop} {M : PMet} {o p : Nat}
theorem AT.cpr {f j cc nn n : Nat} (hM : qPT m = M) (hr : M.1[i]? = some (pc, .invokestatic nn, ln, r1, r2, r3)) (h0 : r1 = 190) (hsm : st.length ≤ 4) (hsp : shp (bB p + cc) 12 n) (hso : shp (bB o + cc) 12 n) (hlp : ∀ q, q < n → loc p f q j (bB p + cc) q) (hlo : ∀ q, q < n → loc o f q j (bB o + cc) q) (hpr : xPriv f = false) (h2 : 2 ≤ o) (hn : n < 100) (h01 : f = 4 ∨ f = 35 → ∀ q, q < n → (xK X p).1 f q j = 0 ∨ (xK X p).1 f q j = 1)
    (k : AT m (i + 1) ls st (xSetK X o (kCpF f j n (xK X o) (xK X p))) Q) : AT m i ls (.ref (bB o + cc) :: .ref (bB p + cc) :: st) X Q := by
  subst h0
  exact AT.cs20 hM hr M_180 rfl hsm rfl (c_180 (kd := 12) (n := n) (v := fun q => (xK X p).1 f q j)
    (src.loc (o := p) (f := f) (fi := fun q => q) (fj := fun _ => j) hsp (by omega) (by omega) (fun q hq => by rw [Nat.zero_add]; exact hlp q hq) (fun q hq => by unfold xN; rw [if_neg (by rw [hpr]; decide)]))
    (fun g hg => (hg.2.1 _ _ _ hsp).2 (by omega))
    (dst.num (o := o) (K' := kCpF f j n (xK X o) (xK X p)) (f := f) (fi := fun q => q) (fj := fun _ => j) hso (by omega) (by omega) (fun q hq => by rw [Nat.zero_add]; exact hlo q hq) hpr (fun z => by omega) h01 rfl (fun q hq => if_pos ⟨rfl, hq, rfl⟩) (fun f' i' j' hne => if_neg (fun z => hne i' z.2.1 ⟨z.1, rfl, z.2.2⟩))) (by omega) (Or.inl rfl)) k (Nat.le_of_ble_eq_true rfl) rfl
/-- the counts are copied: from here on they are ahead -/
theorem AT.czp {nn : Nat} (hM : qPT m = M) (hr : M.1[i]? = some (pc, .invokestatic nn, ln, r1, r2, r3)) (h0 : r1 = 190) (hsm : st.length ≤ 4) (h2 : 2 ≤ o) (h4 : o < 4) (p2 : 2 ≤ p) (p4 : p < 4) (k : AT2 m (i + 1) ls st X (zP o (fun c => Int32.ofNat ((xK X p).2.1 c).length), fun o' g' => ∃ X', Rep X' g' ∧ Q o' X')) : AT m i ls (.ref (bB o + 31) :: .ref (bB p + 31) :: st) X Q := by
  subst h0
  have shz : ∀ {a : Nat}, 2 ≤ a → a < 4 → shp (bB a + 31) 12 7 := fun a2 a4 => shr a2 a4 (Or.inr (Or.inr (Or.inr (Or.inr (Or.inr (Or.inr (Or.inr (Or.inl ⟨rfl, rfl, rfl⟩))))))))
  have hc : AT2 180 0 [some (.ref (bB p + 31)), some (.ref (bB o + 31))] [] X (fun g => g, fun o' g' => o' = .inl none ∧ ∃ g0, Rep X g0 ∧ g' = zP o (fun c => Int32.ofNat ((xK X p).2.1 c).length) g0) := by
    refine AT2.aload_n M_180 rfl rfl ?_
    refine AT2.iconst M_180 rfl (v := 0) (by decide) ?_
    refine AT2.aload_n M_180 rfl rfl ?_
    refine AT2.iconst M_180 rfl (v := 0) (by decide) ?_
    refine AT2.aload_n M_180 rfl rfl ?_
    intro g hg
    have e1 := hg.2.1 _ _ _ (shz p2 p4)
    have e2 := hg.2.1 _ _ _ (shz h2 h4)
    have l1 := e1.2 (by omega)
    have l2 := e2.2 (by omega)
    refine PW.plain M_180 rfl rfl (q := (6, [some (.ref (bB p + 31)), some (.ref (bB o + 31))], [.int (Int32.ofNat 7), .int 0, .ref (bB o + 31), .int 0, .ref (bB p + 31)], g)) ?_ ?_
    · show (if 12 ≤ pK g (bB p + 31) ∧ pK g (bB p + 31) ≤ 20 then some (6, [some (Value.ref (bB p + 31)), some (Value.ref (bB o + 31))], Value.int (Int32.ofNat (pL g (bB p + 31))) :: [Value.int 0, Value.ref (bB o + 31), Value.int 0, Value.ref (bB p + 31)], g) else none) = _
      rw [if_pos ⟨by rw [e1.1]; omega, by rw [e1.1]; omega⟩, l1]
    refine PW.acp M_180 rfl rfl (q := (7, [some (.ref (bB p + 31)), some (.ref (bB o + 31))], [], pCpy g (bB p + 31) 0 (bB o + 31) 0 7)) ?_ (Or.inl (Nat.zero_le _)) ?_
    · unfold pAcp
      dsimp only
      exact if_pos ⟨by rw [e1.1]; exact Or.inl rfl, e2.1.trans e1.1.symm, by decide, by decide, by decide, by rw [l1]; decide, by rw [l2]; decide⟩
    refine PW.ret M_180 rfl rfl rfl ⟨rfl, g, hg, ?_⟩
    show (g.1, g.2.1, _, g.2.2.2) = (g.1, g.2.1, _, g.2.2.2)
    refine Prod.ext rfl (Prod.ext rfl (Prod.ext (funext fun x => funext fun y => ?_) rfl))
    show (if x = bB o + 31 ∧ 0 ≤ y ∧ y < 0 + 7 then pM g (bB p + 31) (0 + (y - 0)) else pM g x y) = if x = bB o + 31 ∧ y < 7 then Value.int (Int32.ofNat ((xK X p).2.1 y).length) else pM g x y
    by_cases c : x = bB o + 31 ∧ y < 7
    · rw [if_pos ⟨c.1, by omega⟩, if_pos c, Nat.zero_add, Nat.sub_zero]
      exact (hg.2.2.2.2.2.1.2 p p2 p4).2 y c.2
    · rw [if_neg (fun z => c ⟨z.1, by omega⟩), if_neg c]
  intro g hg
  refine PW.call hM hr rfl M_180 (av := [.ref (bB p + 31), .ref (bB o + 31)]) (rest := st) (by unfold pPop; rw [if_pos (by simp)]; rfl) (Or.inl hsm) (Nat.le_of_ble_eq_true rfl) rfl ((hc g hg).mono ?_)
  rintro o' g' ⟨rfl, g0, h1, rfl⟩
  exact k g0 h1
end BEC
