/-! ===== WHERE THE COUNTS OF ENTRIES ARE AHEAD OF THE ENTRIES: over a heap that is patched ===== -/
/-- the row of counts of state o is v -/
def zP (o : Nat) (v : Nat → Int32) (g : PS) : PS := pSet g (fun a k => if a = bB o + 31 ∧ k < 7 then .int (v k) else pM g a k)
/-- AT over patched heaps: Q is the patch and what holds at the end -/
def AT2 (m i : Nat) (ls : PV) (st : List Value) (X : XS) (Q : (PS → PS) × (PO → PS → Prop)) : Prop := ∀ g, Rep X g → PW m i ls st (Q.1 g) Q.2
def RU2 (Z : PS → PS) (m : Nat) (en : PV) (X : XS) (R : XS → Prop) : Prop := AT2 m 0 en [] X (Z, fun o' g' => o' = .inl none ∧ ∃ X' g0, Rep X' g0 ∧ g' = Z g0 ∧ R X')
theorem zP_ne {o : Nat} {v : Nat → Int32} {g : PS} {a k : Nat} (h : ¬ a = bB o + 31) : pM (zP o v g) a k = pM g a k := if_neg (fun z => h z.1)
theorem zP_at {o : Nat} {v : Nat → Int32} {g : PS} {k : Nat} (h : k < 7) : pM (zP o v g) (bB o + 31) k = .int (v k) := if_pos ⟨rfl, h⟩
section AT2R
variable {m i pc ln r1 r2 r3 : Nat} {ins : Instr} {ls : PV} {st : List Value} {X X' : XS} {Q : (PS → PS) × (PO → PS → Prop)} {M : PMet} {oo : Nat} {vv : Nat → Int32}
theorem AT2.plain {nx : Nat} {ls' : PV} {st' : List Value} (hM : qPT m = M) (hr : M.1[i]? = some (pc, ins, ln, r1, r2, r3)) (hk : pKind ins r1 = 0) (hs : ∀ g, pStep ins (i + 1) r1 r2 ls st g = some (nx, ls', st', g)) (k : AT2 m nx ls' st' X Q) : AT2 m i ls st X Q :=
  fun g hg => PW.plain hM hr hk (hs _) (k g hg)
theorem AT2.iconst {n : Int} {v : Int32} (hM : qPT m = M) (hr : M.1[i]? = some (pc, .iconst n, ln, r1, r2, r3)) (hv : Int32.ofInt n = v) (k : AT2 m (i + 1) ls (.int v :: st) X Q) : AT2 m i ls st X Q := AT2.plain hM hr rfl (fun _ => by subst hv; rfl) k
theorem AT2.bipush {n : Int} {v : Int32} (hM : qPT m = M) (hr : M.1[i]? = some (pc, .bipush n, ln, r1, r2, r3)) (hv : (Int8.ofInt n).toInt32 = v) (k : AT2 m (i + 1) ls (.int v :: st) X Q) : AT2 m i ls st X Q := AT2.plain hM hr rfl (fun _ => by subst hv; rfl) k
theorem AT2.iload_n {n : Fin 4} {x : Int32} (hM : qPT m = M) (hr : M.1[i]? = some (pc, .iload_n n, ln, r1, r2, r3)) (hx : ls[(n : Nat)]? = some (some (.int x))) (k : AT2 m (i + 1) ls (.int x :: st) X Q) : AT2 m i ls st X Q := AT2.plain hM hr rfl (fun _ => by show pLdI _ _ _ _ _ = _; unfold pLdI; rw [hx]) k
theorem AT2.iload {n : Nat} {x : Int32} (hM : qPT m = M) (hr : M.1[i]? = some (pc, .iload n, ln, r1, r2, r3)) (hx : ls[(n : Nat)]? = some (some (.int x))) (k : AT2 m (i + 1) ls (.int x :: st) X Q) : AT2 m i ls st X Q := AT2.plain hM hr rfl (fun _ => by show pLdI _ _ _ _ _ = _; unfold pLdI; rw [hx]) k
theorem AT2.aload_n {n : Fin 4} {x : Nat} (hM : qPT m = M) (hr : M.1[i]? = some (pc, .aload_n n, ln, r1, r2, r3)) (hx : ls[(n : Nat)]? = some (some (.ref x))) (k : AT2 m (i + 1) ls (.ref x :: st) X Q) : AT2 m i ls st X Q := AT2.plain hM hr rfl (fun _ => by show pLdA _ _ _ _ _ = _; unfold pLdA; rw [hx]) k
theorem AT2.aload {n : Nat} {x : Nat} (hM : qPT m = M) (hr : M.1[i]? = some (pc, .aload n, ln, r1, r2, r3)) (hx : ls[(n : Nat)]? = some (some (.ref x))) (k : AT2 m (i + 1) ls (.ref x :: st) X Q) : AT2 m i ls st X Q := AT2.plain hM hr rfl (fun _ => by show pLdA _ _ _ _ _ = _; unfold pLdA; rw [hx]) k
theorem AT2.imul {x y v : Int32} (hM : qPT m = M) (hr : M.1[i]? = some (pc, .imul, ln, r1, r2, r3)) (hv : x * y = v) (k : AT2 m (i + 1) ls (.int v :: st) X Q) : AT2 m i ls (.int y :: .int x :: st) X Q := AT2.plain hM hr rfl (fun _ => by subst hv; rfl) k
theorem AT2.icmp_ge {n : Int} {x y : Int32} (hM : qPT m = M) (hr : M.1[i]? = some (pc, .if_icmp .ge n, ln, r1, r2, r3)) (h1 : y ≤ x → AT2 m r1 ls st X Q) (h2 : ¬ (y ≤ x) → AT2 m (i + 1) ls st X Q) : AT2 m i ls (.int y :: .int x :: st) X Q := by
  by_cases h : y ≤ x
  · exact AT2.plain hM hr rfl (fun _ => congrArg some (Prod.ext (if_pos h) rfl)) (h1 h)
  · exact AT2.plain hM hr rfl (fun _ => congrArg some (Prod.ext (if_neg h) rfl)) (h2 h)
theorem AT2.icmp_lt {n : Int} {x y : Int32} (hM : qPT m = M) (hr : M.1[i]? = some (pc, .if_icmp .lt n, ln, r1, r2, r3)) (h1 : x < y → AT2 m r1 ls st X Q) (h2 : ¬ (x < y) → AT2 m (i + 1) ls st X Q) : AT2 m i ls (.int y :: .int x :: st) X Q := by
  by_cases h : x < y
  · exact AT2.plain hM hr rfl (fun _ => congrArg some (Prod.ext (if_pos h) rfl)) (h1 h)
  · exact AT2.plain hM hr rfl (fun _ => congrArg some (Prod.ext (if_neg h) rfl)) (h2 h)
theorem AT2.goto {n : Int} (hM : qPT m = M) (hr : M.1[i]? = some (pc, .goto n, ln, r1, r2, r3))  (k : AT2 m r1 ls st X Q) : AT2 m i ls st X Q := AT2.plain hM hr rfl (fun _ => rfl) k
theorem AT2.iinc2 {t : PV} {v u : Int32} {c : Int} {x0 x1 : Option Value}  (hM : qPT m = M) (hr : M.1[i]? = some (pc, .iinc 2 c, ln, r1, r2, r3)) (hc : pCat2 (some x1) = false) (hv : v + Int32.ofInt c = u) (k : AT2 m (i + 1) (x0 :: x1 :: some (.int u) :: t) st X Q) : AT2 m i (x0 :: x1 :: some (.int v) :: t) st X Q := AT2.plain hM hr rfl (fun _ => by show pSt1 2 (.int (v + Int32.ofInt c)) _ _ _ _ = _; unfold pSt1 pSet1 pClr; rw [if_pos (by simp)]; subst hv; simp [hc]) k
theorem AT2.ist2 {t : PV} {v : Int32} {x0 x1 y : Option Value}  (hM : qPT m = M) (hr : M.1[i]? = some (pc, .istore_n 2, ln, r1, r2, r3)) (hc : pCat2 (some x1) = false) (k : AT2 m (i + 1) (x0 :: x1 :: some (.int v) :: t) st X Q) : AT2 m i (x0 :: x1 :: y :: t) (.int v :: st) X Q := AT2.plain hM hr rfl (fun _ => by show pSt1 2 _ _ _ _ _ = _; unfold pSt1 pSet1 pClr; rw [if_pos (by simp)]; simp [hc]) k
theorem AT2.ist3 {t : PV} {v : Int32} {x0 x1 x2 y : Option Value}  (hM : qPT m = M) (hr : M.1[i]? = some (pc, .istore_n 3, ln, r1, r2, r3)) (hc : pCat2 (some x2) = false) (k : AT2 m (i + 1) (x0 :: x1 :: x2 :: some (.int v) :: t) st X Q) : AT2 m i (x0 :: x1 :: x2 :: y :: t) (.int v :: st) X Q := AT2.plain hM hr rfl (fun _ => by show pSt1 3 _ _ _ _ _ = _; unfold pSt1 pSet1 pClr; rw [if_pos (by simp)]; simp [hc]) k
theorem AT2.ast3 {t : PV} {v : Nat} {x0 x1 x2 y : Option Value}  (hM : qPT m = M) (hr : M.1[i]? = some (pc, .astore_n 3, ln, r1, r2, r3)) (hc : pCat2 (some x2) = false) (k : AT2 m (i + 1) (x0 :: x1 :: x2 :: some (.ref v) :: t) st X Q) : AT2 m i (x0 :: x1 :: x2 :: y :: t) (.ref v :: st) X Q := AT2.plain hM hr rfl (fun _ => by show pSt1 3 _ _ _ _ _ = _; unfold pSt1 pSet1 pClr; rw [if_pos (by simp)]; simp [hc]) k
theorem AT2.rep (h : (∃ g, Rep X g) → AT2 m i ls st X Q) : AT2 m i ls st X Q := fun g hg => h ⟨g, hg⟩ g hg
theorem AT2.vret (hM : qPT m = M) (hr : M.1[i]? = some (pc, .return_, ln, r1, r2, r3)) (ht : M.2.2.2.2.1 = none) (k : ∀ g, Rep X g → Q.2 (.inl none) (Q.1 g)) : AT2 m i ls [] X Q := fun g hg => PW.ret hM hr rfl (by rw [ht]; rfl) (k g hg)
theorem AT2.gf {n a : Nat} {v : Value} (hM : qPT m = M) (hr : M.1[i]? = some (pc, .getfield n, ln, r1, r2, r3)) (hQ : Q.1 = zP oo vv) (hs : xKd X a r1) (h2 : r2 < pF r1) (ha : ¬ a = bB oo + 31) (hv : ∀ g, Rep X g → pM g a r2 = v) (k : AT2 m (i + 1) ls (v :: st) X Q) : AT2 m i ls (.ref a :: st) X Q := by
  intro g hg
  have k := k g hg
  rw [hQ] at k ⊢
  refine PW.plain hM hr rfl (q := (i + 1, ls, v :: st, zP oo vv g)) ?_ k
  show (if pK g a = r1 ∧ r2 < pF r1 then some (i + 1, ls, pM (zP oo vv g) a r2 :: st, zP oo vv g) else none) = _
  rw [if_pos ⟨hs g hg, h2⟩, zP_ne ha, hv g hg]
theorem AT2.aa {a q kl : Nat} {y : Int32} {v : Value} (hM : qPT m = M) (hr : M.1[i]? = some (pc, .aaload, ln, r1, r2, r3)) (hQ : Q.1 = zP oo vv) (hy : y = Int32.ofNat q) (hq : q < kl) (hk : kl ≤ 100000000) (hs : ∀ g, Rep X g → (15 ≤ pK g a ∧ pK g a ≤ 19) ∧ pL g a = kl) (ha : ¬ a = bB oo + 31) (hv : ∀ g, Rep X g → pM g a q = v) (k : AT2 m (i + 1) ls (v :: st) X Q) : AT2 m i ls (.int y :: .ref a :: st) X Q := by
  subst hy
  intro g hg
  have k := k g hg
  rw [hQ] at k ⊢
  refine PW.plain hM hr rfl (q := (i + 1, ls, v :: st, zP oo vv g)) ?_ k
  show (if 15 ≤ pK g a ∧ pK g a ≤ 19 ∧ ¬ (Int32.ofNat q < 0 ∨ pL g a ≤ (Int32.ofNat q).toNatClampNeg) then some (i + 1, ls, pM (zP oo vv g) a (Int32.ofNat q).toNatClampNeg :: st, zP oo vv g) else none) = _
  rw [if_pos ⟨(hs g hg).1.1, (hs g hg).1.2, by rw [(hs g hg).2]; exact i32_in (by omega) hq⟩, (i32_ix (by omega)).1, zP_ne ha, hv g hg]
theorem AT2.al {a kl : Nat} (hM : qPT m = M) (hr : M.1[i]? = some (pc, .arraylength, ln, r1, r2, r3)) (hQ : Q.1 = zP oo vv) (hs : ∀ g, Rep X g → (12 ≤ pK g a ∧ pK g a ≤ 20) ∧ pL g a = kl) (k : AT2 m (i + 1) ls (.int (Int32.ofNat kl) :: st) X Q) : AT2 m i ls (.ref a :: st) X Q := by
  intro g hg
  have k := k g hg
  rw [hQ] at k ⊢
  refine PW.plain hM hr rfl (q := (i + 1, ls, .int (Int32.ofNat kl) :: st, zP oo vv g)) ?_ k
  show (if 12 ≤ pK g a ∧ pK g a ≤ 20 then some (i + 1, ls, .int (Int32.ofNat (pL g a)) :: st, zP oo vv g) else none) = _
  rw [if_pos (hs g hg).1, (hs g hg).2]
theorem AT2.siz {s : Nat} {y : Int32} (hM : qPT m = M) (hr : M.1[i]? = some (pc, .iaload, ln, r1, r2, r3)) (hQ : Q.1 = zP oo vv) (hy : y = Int32.ofNat s) (h2 : 2 ≤ oo) (h4 : oo < 4) (hs : s < 7) (k : AT2 m (i + 1) ls (.int (vv s) :: st) X Q) : AT2 m i ls (.int y :: .ref (bB oo + 31) :: st) X Q := by
  subst hy
  intro g hg
  have k := k g hg
  rw [hQ] at k ⊢
  have hsh : shp (bB oo + 31) 12 7 := shr h2 h4 (Or.inr (Or.inr (Or.inr (Or.inr (Or.inr (Or.inr (Or.inr (Or.inl ⟨rfl, rfl, rfl⟩))))))))
  have h1 := hg.2.1 _ _ _ hsh
  refine PW.plain hM hr rfl (q := (i + 1, ls, .int (vv s) :: st, zP oo vv g)) ?_ k
  show (if (pK g (bB oo + 31) = 12 ∨ pK g (bB oo + 31) = 20) ∧ ¬ (Int32.ofNat s < 0 ∨ pL g (bB oo + 31) ≤ (Int32.ofNat s).toNatClampNeg) then some (i + 1, ls, pM (zP oo vv g) (bB oo + 31) (Int32.ofNat s).toNatClampNeg :: st, zP oo vv g) else none) = _
  rw [if_pos ⟨Or.inl h1.1, by rw [h1.2 (by omega)]; exact i32_in (by omega) hs⟩, (i32_ix (by omega)).1, zP_at hs]
theorem zP_cpy {g : PS} {a p b q n : Nat} (ha : ¬ a = bB oo + 31) (hb : ¬ b = bB oo + 31) : pCpy (zP oo vv g) a p b q n = zP oo vv (pCpy g a p b q n) := by
  show (g.1, g.2.1, _, g.2.2.2) = (g.1, g.2.1, _, g.2.2.2)
  refine Prod.ext rfl (Prod.ext rfl (Prod.ext (funext fun x => funext fun y => ?_) rfl))
  show (if x = b ∧ q ≤ y ∧ y < q + n then pM (zP oo vv g) a (p + (y - q)) else pM (zP oo vv g) x y) = if x = bB oo + 31 ∧ y < 7 then Value.int (vv y) else if x = b ∧ q ≤ y ∧ y < q + n then pM g a (p + (y - q)) else pM g x y
  by_cases h1 : x = b ∧ q ≤ y ∧ y < q + n
  · rw [if_pos h1, zP_ne ha, if_neg (fun z => hb (h1.1.symm.trans z.1)), if_pos h1]
  · rw [if_neg h1, if_neg h1]; rfl
theorem zP_put {g : PS} {a k : Nat} {x : Value} (ha : ¬ a = bB oo + 31) : pPut (zP oo vv g) a k x = zP oo vv (pPut g a k x) := by
  show (g.1, g.2.1, _, g.2.2.2) = (g.1, g.2.1, _, g.2.2.2)
  refine Prod.ext rfl (Prod.ext rfl (Prod.ext (funext fun u => funext fun y => ?_) rfl))
  show (if u = a ∧ y = k then x else pM (zP oo vv g) u y) = if u = bB oo + 31 ∧ y < 7 then Value.int (vv y) else if u = a ∧ y = k then x else pM g u y
  by_cases h1 : u = a ∧ y = k
  · rw [if_pos h1, if_neg (fun z => ha (h1.1.symm.trans z.1)), if_pos h1]
  · rw [if_neg h1, if_neg h1]; rfl
theorem zP_new {g : PS} {kd ln2 z : Nat} {row : Nat → Value} (hN : ¬ pN g = bB oo + 31) : pNew (zP oo vv g) kd ln2 z row = zP oo vv (pNew g kd ln2 z row) := by
  show (_, _, _, _) = (_, _, _, _)
  refine Prod.ext rfl (Prod.ext rfl (Prod.ext (funext fun u => funext fun y => ?_) rfl))
  show (if u = pN g then row y else pM (zP oo vv g) u y) = if u = bB oo + 31 ∧ y < 7 then Value.int (vv y) else if u = pN g then row y else pM g u y
  by_cases h1 : u = pN g
  · rw [if_pos h1, if_neg (fun z => hN (h1.symm.trans z.1)), if_pos h1]
  · rw [if_neg h1, if_neg h1]; rfl
theorem AT2.acp {a b p q n kd nn : Nat} {x y z : Int32} {v : Nat → Int32} (hM : qPT m = M) (hr : M.1[i]? = some (pc, .invokestatic nn, ln, r1, r2, r3)) (h0 : r1 = 1) (hsm : st.length ≤ 4) (hQ : Q.1 = zP oo vv) (ha : ¬ a = bB oo + 31) (hb : ¬ b = bB oo + 31) (hx : x = Int32.ofNat n) (hy : y = Int32.ofNat p) (hz : z = Int32.ofNat q) (hbd : n < 2147483648 ∧ p < 2147483648 ∧ q < 2147483648) (hkd : kd = 12 ∨ kd = 13)
    (hs : srcV X a p n v kd) (hd : dstV X b q n v kd X') (k : AT2 m (i + 1) ls st X' Q) : AT2 m i ls (.int x :: .int z :: .ref b :: .int y :: .ref a :: st) X Q := by
  intro g hg
  obtain ⟨s1, s2, s3⟩ := hs g hg
  have hE : pCpy g a p b q n = pSet g (fun u k => if u = b ∧ q ≤ k ∧ k < q + n then pM g a (p + (k - q)) else pM g u k) := rfl
  obtain ⟨d1, d2, d3⟩ := hd g (fun u k => if u = b ∧ q ≤ k ∧ k < q + n then pM g a (p + (k - q)) else pM g u k) hg (fun u k z => if_neg z) (fun k h1 h2 => (if_pos ⟨rfl, h1, h2⟩).trans (s3 (k - q) (by omega)))
  subst hx; subst hy; subst hz
  have k := k _ (by rw [← hE] at d3; exact d3)
  rw [hQ] at k ⊢
  rw [← zP_cpy ha hb] at k
  refine PW.acp hM hr (by subst h0; rfl) (q := (i + 1, ls, st, pCpy (zP oo vv g) a p b q n)) ?_ (Or.inl hsm) k
  unfold pAcp
  dsimp only
  rw [(i32_ix hbd.1).1, (i32_ix hbd.2.1).1, (i32_ix hbd.2.2).1]
  exact if_pos ⟨by show pK g a = 12 ∨ pK g a = 13; rw [s1]; exact hkd, d1.trans s1.symm, (i32_ix hbd.1).2, (i32_ix hbd.2.1).2, (i32_ix hbd.2.2).2, s2, d2⟩
theorem AT2.newi {x : Int32} {n : Nat} (hM : qPT m = M) (hr : M.1[i]? = some (pc, .newarray .int, ln, r1, r2, r3)) (hQ : Q.1 = zP oo vv) (h4 : oo < 4) (hx : x = Int32.ofNat n) (hn : n ≤ 100000000) (k : 512 ≤ dC (xD X) + 1 → AT2 m (i + 1) ls (.ref (dC (xD X) + 1) :: st) (xSetD X (dNewI (xD X) n)) Q) : AT2 m i ls (.int x :: st) X Q := by
  intro g hg
  have hN : pN g = dC (xD X) + 1 := hg.1.2.2.2
  have h5 : 512 ≤ pN g := hg.1.1
  have k := k (by omega) _ (Rep.newI hg)
  rw [hQ] at k ⊢
  rw [← zP_new (by dsimp only [bB]; omega), ← hN] at k
  exact PW.plain hM hr rfl (q := (i + 1, ls, .ref (pN g) :: st, pNew (zP oo vv g) 12 n n zI)) (st_na hx hn) k
theorem AT2.ws_log {o s p n : Nat} {e : ENT} {y : Int32} (hM : qPT m = M) (hr : M.1[i]? = some (pc, .aastore, ln, r1, r2, r3)) (hQ : Q.1 = zP o vv) (hy : y = Int32.ofNat s) (h2 : 2 ≤ o) (h4 : o < 4) (hs : s < 7) (h5 : 512 ≤ p) (hE : dE (xD X) p = (100 + n, e)) (hn : 7 * ((xK X o).2.1 s).length ≤ n)
    (hl : ∀ j e', ((xK X o).2.1 s)[j]? = some e' → ∀ k, k < 7 → e (7 * j + k) = e' k) (k : AT2 m (i + 1) ls st (xSetD X (dLogR (xD X) o s p n e)) Q) : AT2 m i ls (.ref p :: .int y :: .ref (bB o + 32) :: st) X Q := by
  subst hy
  have hsh : shp (bB o + 32) 19 7 := shr h2 h4 (Or.inr (Or.inr (Or.inr (Or.inr (Or.inr (Or.inr (Or.inr (Or.inr (Or.inl ⟨rfl, rfl, rfl⟩)))))))))
  intro g hg
  have h1 := hg.2.1 _ _ _ hsh
  have hf := (fr_ob hg hE).1
  have k := k _ (hg.logR h2 h4 hs h5 hE hn hl)
  rw [hQ] at k ⊢
  rw [← zP_put (by omega)] at k
  refine PW.plain hM hr rfl (q := (i + 1, ls, st, pPut (zP o vv g) (bB o + 32) s (.ref p))) ?_ k
  show (if 15 ≤ pK g (bB o + 32) ∧ pK g (bB o + 32) ≤ 19 ∧ pK g p = pE (pK g (bB o + 32)) ∧ ¬ (Int32.ofNat s < 0 ∨ pL g (bB o + 32) ≤ (Int32.ofNat s).toNatClampNeg) then some (i + 1, ls, st, pPut (zP o vv g) (bB o + 32) (Int32.ofNat s).toNatClampNeg (.ref p)) else none) = _
  rw [h1.1, h1.2 (by omega), if_pos ⟨by decide, by decide, hf, i32_in (by omega) hs⟩, (i32_ix (by omega)).1]
theorem AT2.call {av rest : List Value} {Mc : PMet} {R : XS → Prop} (hM : qPT m = M) (hr : M.1[i]? = some (pc, ins, ln, r1, r2, r3)) (hk : pKind ins r1 = 2) (hMc : qPT (r1 - 10) = Mc) (hp : pPop Mc.2.2.1 st = some (av, rest)) (hs : rest.length ≤ 4 ∨ (rest.map fun v => v.category).sum ≤ 8) (he : (pEnt av).length ≤ Mc.2.1)
    (hv : ∀ g, Rep X g → pRv ins Mc.2.2.2.2.2 av (Q.1 g) = true) (hc : RU2 Q.1 (r1 - 10) (pEntry Mc.2.1 av) X R) (k : ∀ Y, R Y → AT2 m (i + 1) ls rest Y Q) : AT2 m i ls st X Q := by
  intro g hg
  refine PW.call hM hr hk hMc hp hs he (hv g hg) ((hc g hg).mono ?_)
  rintro o' g' ⟨rfl, X', g0, h1, rfl, h3⟩
  exact k X' h3 g0 h1
/-- back to heaps as they are -/
theorem AT2.out {Q0 : PO → XS → Prop} (hv : ∀ k, k < 7 → vv k = Int32.ofNat ((xK X oo).2.1 k).length) (h2 : 2 ≤ oo) (h4 : oo < 4) (k : AT m i ls st X Q0) : AT2 m i ls st X (zP oo vv, fun o' g' => ∃ X', Rep X' g' ∧ Q0 o' X') := by
  intro g hg
  have e : zP oo vv g = g := by
    show (g.1, g.2.1, _, g.2.2.2) = g
    refine Prod.ext rfl (Prod.ext rfl (Prod.ext (funext fun u => funext fun y => ?_) rfl))
    show (if u = bB oo + 31 ∧ y < 7 then Value.int (vv y) else pM g u y) = pM g u y
    by_cases h : u = bB oo + 31 ∧ y < 7
    · rw [if_pos h, h.1, hv y h.2]
      exact ((hg.2.2.2.2.2.1.2 oo h2 h4).2 y h.2).symm
    · rw [if_neg h]
  show PW m i ls st (zP oo vv g) _
  rw [e]
  exact k g hg
end AT2R
