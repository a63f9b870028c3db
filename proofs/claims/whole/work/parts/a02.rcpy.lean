/-! ===== THE REFERENCE: copies, rows that are made ===== -/
/-- from place i on, n numbers v lie in a; they may be put into b from j on, and then X' holds -/
def srcV (X : XS) (a i n : Nat) (v : Nat → Int32) (kd : Nat) : Prop := ∀ g, Rep X g → pK g a = kd ∧ i + n ≤ pL g a ∧ ∀ q, q < n → pM g a (i + q) = .int (v q)
def dstV (X : XS) (b j n : Nat) (v : Nat → Int32) (kd : Nat) (X' : XS) : Prop := ∀ g M, Rep X g → (∀ u k, ¬ (u = b ∧ j ≤ k ∧ k < j + n) → M u k = pM g u k) → (∀ k, j ≤ k → k < j + n → M b k = .int (v (k - j))) → pK g b = kd ∧ j + n ≤ pL g b ∧ Rep X' (pSet g M)
section RCP
variable {m i pc ln r1 r2 r3 : Nat} {ls : PV} {st : List Value} {X X' : XS} {Q : PO → XS → Prop} {M : PMet} {o s : Nat}
theorem AT.acp {a b p q n kd nn : Nat} {x y z : Int32} {v : Nat → Int32} (hM : qPT m = M) (hr : M.1[i]? = some (pc, .invokestatic nn, ln, r1, r2, r3)) (h0 : r1 = 1) (hsm : st.length ≤ 4) (hx : x = Int32.ofNat n) (hy : y = Int32.ofNat p) (hz : z = Int32.ofNat q) (hbd : n < 2147483648 ∧ p < 2147483648 ∧ q < 2147483648) (hkd : kd = 12 ∨ kd = 13)
    (hs : srcV X a p n v kd) (hd : dstV X b q n v kd X') (k : AT m (i + 1) ls st X' Q) : AT m i ls (.int x :: .int z :: .ref b :: .int y :: .ref a :: st) X Q := by
  intro g hg
  obtain ⟨s1, s2, s3⟩ := hs g hg
  have hE : pCpy g a p b q n = pSet g (fun u k => if u = b ∧ q ≤ k ∧ k < q + n then pM g a (p + (k - q)) else pM g u k) := rfl
  obtain ⟨d1, d2, d3⟩ := hd g (fun u k => if u = b ∧ q ≤ k ∧ k < q + n then pM g a (p + (k - q)) else pM g u k) hg (fun u k z => if_neg z) (fun k h1 h2 => (if_pos ⟨rfl, h1, h2⟩).trans (s3 (k - q) (by omega)))
  subst hx; subst hy; subst hz
  refine PW.acp hM hr (by subst h0; rfl) (q := (i + 1, ls, st, pCpy g a p b q n)) ?_ (Or.inl hsm) (k _ (by rw [hE]; exact d3))
  unfold pAcp
  dsimp only
  rw [(i32_ix hbd.1).1, (i32_ix hbd.2.1).1, (i32_ix hbd.2.2).1]
  exact if_pos ⟨by rw [s1]; exact hkd, d1.trans s1.symm, (i32_ix hbd.1).2, (i32_ix hbd.2.1).2, (i32_ix hbd.2.2).2, s2, d2⟩
/-! where from -/
theorem src.loc {a p n kd kl f : Nat} {v : Nat → Int32} {fi fj : Nat → Nat} (hs : shp a kd kl) (hk : 12 ≤ kd) (hn : p + n ≤ kl) (hl : ∀ q, q < n → loc o f (fi q) (fj q) a (p + q)) (hv : ∀ q, q < n → xN X o f (fi q) (fj q) = v q) : srcV X a p n v kd := fun g hg =>
  ⟨(hg.2.1 _ _ _ hs).1, by rw [(hg.2.1 _ _ _ hs).2 hk]; exact hn, fun q hq => (hg.2.2.1 _ _ _ _ _ _ (hl q hq)).trans (congrArg Value.int (hv q hq))⟩
theorem src.log {p n : Nat} {v : Nat → Int32} (h2 : 2 ≤ o) (h4 : o < 4) (hs : s < 7) (hn : p + n ≤ dR (xD X) o s) (hv : ∀ q, q < n → dV (xD X) o 42 s (p + q) = v q) : srcV X (dA (xD X) o s) p n v 12 := fun g hg => by
  obtain ⟨c1, c2, c3, c4, c5, c6, c7⟩ := hg.2.2.2.2.2.2.2.2.1 o s h2 h4 hs
  exact ⟨c2, by rw [c3]; exact hn, fun q hq => (c6 _ (by omega)).trans (congrArg Value.int (hv q hq))⟩
theorem fr_ob {p n : Nat} {e : ENT} {g : PS} (hg : Rep X g) (hE : dE (xD X) p = (100 + n, e)) : pK g p = 12 ∧ pL g p = n ∧ ∀ k, k < n → pM g p k = .int (e k) := by
  have := (hg.2.2.2.2.2.2.2.2.2.2.2.2.2.2.2 p (by rw [hE]; show 100 + n ≠ 0; omega)).2.2
  unfold oOk at this
  rw [hE] at this
  obtain ⟨h1, h2, h3⟩ := this.2.2.2.2 (by show 100 ≤ 100 + n; omega)
  exact ⟨h1, h2.trans (by show 100 + n - 100 = n; omega), fun k hk => h3 k (by show k < 100 + n - 100; omega)⟩
theorem src.fr {a p n len : Nat} {e : ENT} {v : Nat → Int32} (hE : dE (xD X) a = (100 + len, e)) (hn : p + n ≤ len) (hv : ∀ q, q < n → e (p + q) = v q) : srcV X a p n v 12 := fun g hg => by
  obtain ⟨h1, h2, h3⟩ := fr_ob hg hE
  exact ⟨h1, by rw [h2]; exact hn, fun q hq => (h3 _ (by omega)).trans (congrArg Value.int (hv q hq))⟩
/-! where to -/
/-- a part of a row becomes v -/
def vPut (w : Nat → Int32) (j n : Nat) (v : Nat → Int32) : Nat → Int32 := fun k => if j ≤ k ∧ k < j + n then v (k - j) else w k
theorem dst.post {j n : Nat} {v : Nat → Int32} (h2 : 2 ≤ o) (h4 : o < 4) (hn : j + n ≤ 2160) (hpo : ∀ j' u, (xK X o).2.2[j']? = some u → ∀ k, k < 36 → vPut (dV (xD X) o 41 0) j n v (36 * j' + k) = mRow u k) :
    dstV X (bB o + 56) j n v 12 (xSetD X (dRowV (xD X) o 41 0 (vPut (dV (xD X) o 41 0) j n v))) := fun g M hg h1 h3 => by
  have hs := hg.2.1 _ _ _ (sh_post (o := o) h2 h4)
  exact ⟨hs.1, by rw [hs.2 (by omega)]; exact hn, Rep.rowV (n := 2160) (Pk := fun k => j ≤ k ∧ k < j + n) hg (fun q hq => lo_post h2 h4 hq) (Or.inr rfl) (fun k hk => by omega) h1 (fun k hk => (h3 k hk.1 hk.2).trans (congrArg Value.int (if_pos hk).symm)) (fun k hk => if_neg hk) (fun _ => hpo)⟩
theorem dst.told {j n : Nat} {v : Nat → Int32} (h2 : 2 ≤ o) (h4 : o < 4) (hn : j + n ≤ 36) :
    dstV X (bB o + 57) j n v 12 (xSetD X (dRowV (xD X) o 40 0 (vPut (dV (xD X) o 40 0) j n v))) := fun g M hg h1 h3 => by
  have hs := hg.2.1 _ _ _ (sh_told (o := o) h2 h4)
  exact ⟨hs.1, by rw [hs.2 (by omega)]; exact hn, Rep.rowV (n := 36) (Pk := fun k => j ≤ k ∧ k < j + n) hg (fun q hq => lo_told h2 h4 hq) (Or.inl rfl) (fun k hk => by omega) h1 (fun k hk => (h3 k hk.1 hk.2).trans (congrArg Value.int (if_pos hk).symm)) (fun k hk => if_neg hk) (fun z => absurd z (by decide))⟩
theorem dst.log {j n : Nat} {v : Nat → Int32} (h2 : 2 ≤ o) (h4 : o < 4) (hs : s < 7) (hn : j + n ≤ dR (xD X) o s) (hlo : ∀ j' e, ((xK X o).2.1 s)[j']? = some e → ∀ k, k < 7 → vPut (dV (xD X) o 42 s) j n v (7 * j' + k) = e k) :
    dstV X (dA (xD X) o s) j n v 12 (xSetD X (dRowV (xD X) o 42 s (vPut (dV (xD X) o 42 s) j n v))) := fun g M hg h1 h3 => by
  obtain ⟨c1, c2, c3, c4, c5, c6, c7⟩ := hg.2.2.2.2.2.2.2.2.1 o s h2 h4 hs
  exact ⟨c2, by rw [c3]; exact hn, Rep.rowL (Pk := fun k => j ≤ k ∧ k < j + n) hg h2 h4 hs h1 (fun k hk => (h3 k hk.1 hk.2).trans (congrArg Value.int (if_pos hk).symm)) (fun k hk => if_neg hk) hlo⟩
theorem dst.fr {p j n len : Nat} {e : ENT} {v : Nat → Int32} (h5 : 512 ≤ p) (hE : dE (xD X) p = (100 + len, e)) (hn : j + n ≤ len) : dstV X p j n v 12 (xSetD X (dFr (xD X) p len (vPut e j n v))) := fun g M hg h1 h3 => by
  obtain ⟨c1, c2, c3⟩ := fr_ob hg hE
  exact ⟨c1, by rw [c2]; exact hn, Rep.frW (Pk := fun k => j ≤ k ∧ k < j + n) hg h5 hE h1 (fun k hk => (h3 k hk.1 hk.2).trans (congrArg Value.int (if_pos hk).symm)) (fun k _ hk => if_neg hk)⟩
/-- into numbers of the state -/
theorem dst.num {b j n kl f kd : Nat} {v : Nat → Int32} {fi fj : Nat → Nat} {K' : KK} (hsh : shp b kd kl) (hk : 12 ≤ kd) (hn : j + n ≤ kl) (hloc : ∀ q, q < n → loc o f (fi q) (fj q) b (j + q)) (hp : xPriv f = false) (hf : o < 2 → f ≠ 18 ∧ f ≠ 34) (h01 : f = 4 ∨ f = 35 → ∀ q, q < n → v q = 0 ∨ v q = 1)
    (hK2 : K'.2 = (xK X o).2) (hK1 : ∀ q, q < n → K'.1 f (fi q) (fj q) = v q) (hK0 : ∀ f' i' j', (∀ q, q < n → ¬ (f' = f ∧ i' = fi q ∧ j' = fj q)) → K'.1 f' i' j' = (xK X o).1 f' i' j') : dstV X b j n v kd (xSetK X o K') := fun g M hg h1 h3 => by
  have hs := hg.2.1 _ _ _ hsh
  refine ⟨hs.1, by rw [hs.2 hk]; exact hn, Rep.num (b := b) (Pk := fun k => j ≤ k ∧ k < j + n) hg h1 (fun k hk => ⟨f, fi (k - j), fj (k - j), by have := hloc (k - j) (by omega); rw [show j + (k - j) = k by omega] at this; exact this⟩) hK2 (fun f' i' j' a' k' hl' hp' => ?_) (fun f' i' j' k' hl' hk' => ?_) (fun ho i' k' => ⟨?_, ?_⟩) (fun ho4 => ⟨fun i' hi' => ?_, fun c' hc' => ?_⟩)⟩
  · by_cases e : a' = b ∧ j ≤ k' ∧ k' < j + n
    · obtain ⟨e1, e2, e3⟩ := e
      subst e1
      have hl := hloc (k' - j) (by omega)
      rw [show j + (k' - j) = k' by omega] at hl
      obtain ⟨q1, q2, q3, q4⟩ := loc_inj hl' hl
      rw [h3 k' e2 e3, q2, q3, q4, hK1 (k' - j) (by omega)]
    · rw [h1 a' k' e]
      refine (hg.2.2.1 o f' i' j' a' k' hl').trans (congrArg Value.int ?_)
      unfold xN
      rw [if_neg (by rw [hp']; decide)]
      refine (hK0 f' i' j' (fun q hq z => e ?_)).symm
      rw [z.1, z.2.1, z.2.2] at hl'
      obtain ⟨w1, w2⟩ := loc_fun hl' (hloc q hq)
      omega
  · have hl := hloc (k' - j) (by omega)
    rw [show j + (k' - j) = k' by omega] at hl
    rw [(loc_inj hl' hl).2.1]
    exact hp
  · exact hK0 18 i' k' (fun q hq z => (hf ho).1 z.1.symm)
  · exact hK0 34 i' k' (fun q hq z => (hf ho).2 z.1.symm)
  · by_cases e : ∃ q, q < n ∧ (4 = f ∧ i' = fi q ∧ 0 = fj q)
    · obtain ⟨q, hq, z1, z2, z3⟩ := e
      rw [z1, z2, z3, hK1 q hq]
      exact h01 (Or.inl z1.symm) q hq
    · rw [hK0 4 i' 0 (fun q hq z => e ⟨q, hq, z⟩)]
      exact (hg.2.2.2.2.2.2.1 o ho4).2.1 i' hi'
  · by_cases e : ∃ q, q < n ∧ (35 = f ∧ c' = fi q ∧ 0 = fj q)
    · obtain ⟨q, hq, z1, z2, z3⟩ := e
      rw [z1, z2, z3, hK1 q hq]
      exact h01 (Or.inr z1.symm) q hq
    · rw [hK0 35 c' 0 (fun q hq z => e ⟨q, hq, z⟩)]
      exact (hg.2.2.2.2.2.2.1 o ho4).2.2 c' hc'
/-! rows that are made -/
theorem AT.newi {x : Int32} {n : Nat} (hM : qPT m = M) (hr : M.1[i]? = some (pc, .newarray .int, ln, r1, r2, r3)) (hx : x = Int32.ofNat n) (hn : n ≤ 100000000) (k : 512 ≤ dC (xD X) + 1 → AT m (i + 1) ls (.ref (dC (xD X) + 1) :: st) (xSetD X (dNewI (xD X) n)) Q) : AT m i ls (.int x :: st) X Q := by
  refine AT.rep (fun hr9 => ?_)
  have h9 := hr9.choose_spec.1
  have k := k (by have := h9.1; have := h9.2.2.2; omega)
  intro g hg
  have hN : pN g = dC (xD X) + 1 := hg.1.2.2.2
  refine PW.plain hM hr rfl (q := (i + 1, ls, .ref (pN g) :: st, pNew g 12 n n zI)) (st_na hx hn) ?_
  rw [← hN] at k
  exact k _ (Rep.newI hg)
end RCP
section RCQ
variable {m i pc ln r1 r2 r3 : Nat} {ls : PV} {st : List Value} {X X' : XS} {Q : PO → XS → Prop} {M : PMet} {o s : Nat}
theorem dNewI_E (D : XD) (n : Nat) : dE (dNewI D n) (dC D + 1) = (100 + n, fun _ => 0) := if_pos rfl
theorem AT.rs_fr {p n j : Nat} {e : ENT} {y v : Int32} (hM : qPT m = M) (hr : M.1[i]? = some (pc, .iastore, ln, r1, r2, r3)) (hy : y = Int32.ofNat j) (h5 : 512 ≤ p) (hE : dE (xD X) p = (100 + n, e)) (hj : j < n) (hn : n < 2147483648) (k : AT m (i + 1) ls st (xSetD X (dFr (xD X) p n (fun q => if q = j then v else e q))) Q) : AT m i ls (.int v :: .int y :: .ref p :: st) X Q := by
  subst hy
  refine AT.write hM hr rfl (fun g hg => ⟨pPut g p j (.int v), ?_, ?_⟩) k
  · obtain ⟨c1, c2, c3⟩ := fr_ob hg hE
    show (if pK g p = 12 ∧ ¬ (Int32.ofNat j < 0 ∨ pL g p ≤ (Int32.ofNat j).toNatClampNeg) then some (i + 1, ls, st, pPut g p (Int32.ofNat j).toNatClampNeg (.int v)) else none) = _
    rw [if_pos ⟨c1, by rw [c2]; exact i32_in (by omega) hj⟩, (i32_ix (by omega)).1]
  · exact Rep.frW (Pk := fun q => q = j) hg h5 hE (fun a q z => if_neg z) (fun q hq => by rw [hq]; exact (if_pos ⟨rfl, rfl⟩).trans (congrArg Value.int (if_pos rfl).symm)) (fun q _ hq => if_neg hq)
theorem AT.ra_fr {p n j : Nat} {e : ENT} {y : Int32} (hM : qPT m = M) (hr : M.1[i]? = some (pc, .iaload, ln, r1, r2, r3)) (hy : y = Int32.ofNat j) (hE : dE (xD X) p = (100 + n, e)) (hj : j < n) (hn : n ≤ 100000000) (k : AT m (i + 1) ls (.int (e j) :: st) X Q) : AT m i ls (.int y :: .ref p :: st) X Q :=
  AT.ia hM hr hy hj hn (fun g hg => ⟨Or.inl (fr_ob hg hE).1, (fr_ob hg hE).2.1⟩) (fun g hg => (fr_ob hg hE).2.2 j hj) k
theorem AT.ws_log {p n : Nat} {e : ENT} {y : Int32} (hM : qPT m = M) (hr : M.1[i]? = some (pc, .aastore, ln, r1, r2, r3)) (hy : y = Int32.ofNat s) (h2 : 2 ≤ o) (h4 : o < 4) (hs : s < 7) (h5 : 512 ≤ p) (hE : dE (xD X) p = (100 + n, e)) (hn : 7 * ((xK X o).2.1 s).length ≤ n)
    (hl : ∀ j e', ((xK X o).2.1 s)[j]? = some e' → ∀ k, k < 7 → e (7 * j + k) = e' k) (k : AT m (i + 1) ls st (xSetD X (dLogR (xD X) o s p n e)) Q) : AT m i ls (.ref p :: .int y :: .ref (bB o + 32) :: st) X Q := by
  subst hy
  have hsh : shp (bB o + 32) 19 7 := shr h2 h4 (Or.inr (Or.inr (Or.inr (Or.inr (Or.inr (Or.inr (Or.inr (Or.inr (Or.inl ⟨rfl, rfl, rfl⟩)))))))))
  refine AT.write hM hr rfl (fun g hg => ⟨pPut g (bB o + 32) s (.ref p), ?_, hg.logR h2 h4 hs h5 hE hn hl⟩) k
  have h1 := hg.2.1 _ _ _ hsh
  show (if 15 ≤ pK g (bB o + 32) ∧ pK g (bB o + 32) ≤ 19 ∧ pK g p = pE (pK g (bB o + 32)) ∧ ¬ (Int32.ofNat s < 0 ∨ pL g (bB o + 32) ≤ (Int32.ofNat s).toNatClampNeg) then some (i + 1, ls, st, pPut g (bB o + 32) (Int32.ofNat s).toNatClampNeg (.ref p)) else none) = _
  rw [h1.1, h1.2 (by omega), if_pos ⟨by decide, by decide, (fr_ob hg hE).1, i32_in (by omega) hs⟩, (i32_ix (by omega)).1]
/-- a store into a log's row behind its entries -/
theorem AT.rs_log {y v : Int32} {q : Nat} (hM : qPT m = M) (hr : M.1[i]? = some (pc, .iastore, ln, r1, r2, r3)) (hy : y = Int32.ofNat q) (h2 : 2 ≤ o) (h4 : o < 4) (hs : s < 7) (hq : q < dR (xD X) o s) (hb : q < 2147483648) (hf : 7 * ((xK X o).2.1 s).length ≤ q) (k : AT m (i + 1) ls st (xSetD X (dRowV (xD X) o 42 s (fun c => if c = q then v else dV (xD X) o 42 s c))) Q) : AT m i ls (.int v :: .int y :: .ref (dA (xD X) o s) :: st) X Q := by
  subst hy
  refine AT.write hM hr rfl (fun g hg => ⟨pPut g (dA (xD X) o s) q (.int v), ?_, ?_⟩) k
  · obtain ⟨c1, c2, c3, c4, c5, c6, c7⟩ := hg.2.2.2.2.2.2.2.2.1 o s h2 h4 hs
    show (if pK g (dA (xD X) o s) = 12 ∧ ¬ (Int32.ofNat q < 0 ∨ pL g (dA (xD X) o s) ≤ (Int32.ofNat q).toNatClampNeg) then some (i + 1, ls, st, pPut g (dA (xD X) o s) (Int32.ofNat q).toNatClampNeg (.int v)) else none) = _
    rw [if_pos ⟨c2, by rw [c3]; exact i32_in hb hq⟩, (i32_ix hb).1]
  · refine Rep.rowL (Pk := fun c => c = q) hg h2 h4 hs (fun a c z => if_neg z) (fun c hc => by rw [hc]; exact (if_pos ⟨rfl, rfl⟩).trans (congrArg Value.int (if_pos rfl).symm)) (fun c hc => if_neg hc) (fun j e he c hc => ?_)
    have h1 := (List.getElem?_eq_some_iff.mp he).1
    rw [if_neg (by omega)]
    exact (hg.2.2.2.2.2.2.2.2.1 o s h2 h4 hs).2.2.2.2.2.2 j e he c hc
/-- the state may be put otherwise where it doesn't count -/
theorem AT.agr {K : KK} (hA : kAgr (xK X o) K) (k : AT m i ls st (xSetK X o K) Q) : AT m i ls st X Q := fun g hg => k g (hg.agr hA)
end RCQ
