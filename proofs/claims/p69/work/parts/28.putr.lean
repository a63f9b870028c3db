/-! ===== THE SAME, AS RULES ===== -/
theorem xK_same (X : XS) (o : Nat) (K : KK) : xK (xSetK X o K) o = K := if_pos rfl
theorem xK_other (X : XS) (o o' : Nat) (K : KK) (h : ¬ o' = o) : xK (xSetK X o K) o' = xK X o' := if_neg h
theorem xSetK_idem (X : XS) (o : Nat) (K K' : KK) : xSetK (xSetK X o K) o K' = xSetK X o K' := by
  refine Prod.ext (funext fun a => ?_) rfl
  show (if a = o then K' else if a = o then K else X.1 a) = if a = o then K' else X.1 a
  split <;> rfl
theorem xSetK_self (X : XS) (o : Nat) : xSetK X o (xK X o) = X := by
  refine Prod.ext (funext fun a => ?_) rfl
  show (if a = o then X.1 o else X.1 a) = X.1 a
  split
  · rename_i h; rw [h]
  · rfl
theorem xK_setD (X : XS) (D : XD) (o : Nat) : xK (xSetD X D) o = xK X o := rfl
theorem xD_setD (X : XS) (D : XD) : xD (xSetD X D) = D := rfl
theorem xD_setK (X : XS) (o : Nat) (K : KK) : xD (xSetK X o K) = xD X := rfl
theorem xSetD_setK (X : XS) (o : Nat) (K : KK) (D : XD) : xSetD (xSetK X o K) D = xSetK (xSetD X D) o K := rfl
theorem xSetD_idem (X : XS) (D D' : XD) : xSetD (xSetD X D) D' = xSetD X D' := rfl
theorem xSetD_self (X : XS) : xSetD X (xD X) = X := rfl
theorem kSet_1 (K : KK) (f i j a b c : Nat) (v : Int32) : (kSet K f i j v).1 a b c = if a = f ∧ b = i ∧ c = j then v else K.1 a b c := rfl
theorem kSet_2 (K : KK) (f i j : Nat) (v : Int32) : (kSet K f i j v).2 = K.2 := rfl
theorem kRow_1 (K : KK) (f i a b c : Nat) (r : Nat → Int32) : (kRow K f i r).1 a b c = if a = f ∧ b = i then r c else K.1 a b c := rfl
theorem kRow_2 (K : KK) (f i : Nat) (r : Nat → Int32) : (kRow K f i r).2 = K.2 := rfl
theorem kLog_1 (K : KK) (i : Nat) (l : List ENT) : (kLog K i l).1 = K.1 := rfl
theorem kLog_2 (K : KK) (i : Nat) (l : List ENT) : (kLog K i l).2.2 = K.2.2 := rfl
theorem kLog_l (K : KK) (i b : Nat) (l : List ENT) : (kLog K i l).2.1 b = if b = i then l else K.2.1 b := rfl
theorem kLog_self (K : KK) (i : Nat) : kLog K i (K.2.1 i) = K := by
  refine Prod.ext rfl (Prod.ext (funext fun b => ?_) rfl)
  show (if b = i then K.2.1 i else K.2.1 b) = K.2.1 b
  split
  · rename_i h; rw [h]
  · rfl
theorem kLog_idem (K : KK) (i : Nat) (l l' : List ENT) : kLog (kLog K i l) i l' = kLog K i l' := by
  refine Prod.ext rfl (Prod.ext (funext fun b => ?_) rfl)
  show (if b = i then l' else if b = i then l else K.2.1 b) = if b = i then l' else K.2.1 b
  split <;> rfl
section ATP
variable {m i pc ln r1 r2 r3 : Nat} {ls : PV} {st : List Value} {X : XS} {Q : PO → XS → Prop} {M : PMet} {o s : Nat}
theorem AT.p_6_9 {n p : Nat} {r : ENT} (hM : qPT m = M) (hr : M.1[i]? = some (pc, .putfield n, ln, 6, 9, r3)) (ho : o < 2) (hs : s < 7) (hp : dSn (xD X) p r) (k : AT m (i + 1) ls st (xSetK X o (kRow (xK X o) 18 s r)) Q) : AT m i ls (.ref p :: .ref (aS o s) :: st) X Q := by
  refine AT.write hM hr rfl (fun g hg => ⟨_, ?_, hg.snap ho hs hp⟩) k
  show (if pK g (aS o s) = 6 ∧ 9 < pF 6 ∧ fits (pT 6 9) (.ref p) = true then some (i + 1, ls, st, pPut g (aS o s) 9 (.ref p)) else none) = _
  rw [if_pos ⟨(hg.2.1 _ _ _ (shp_sv ho hs)).1, by decide, rfl⟩]
/-- entries are taken away at the end -/
theorem AT.p_6_8t {n q : Nat} {v : Int32} (hM : qPT m = M) (hr : M.1[i]? = some (pc, .putfield n, ln, 6, 8, r3)) (ho : o < 2) (hs : s < 7) (hq : q ≤ ((xK X o).2.1 s).length) (hv : v = Int32.ofNat q) (k : AT m (i + 1) ls st (xSetK X o (kLog (xK X o) s (((xK X o).2.1 s).take q))) Q) : AT m i ls (.int v :: .ref (aS o s) :: st) X Q := by
  have hl : (((xK X o).2.1 s).take q).length = q := by rw [List.length_take]; omega
  refine AT.write hM hr rfl (fun g hg => ⟨pPut g (aS o s) 8 (.int v), ?_, ?_⟩) k
  · show (if pK g (aS o s) = 6 ∧ 8 < pF 6 ∧ fits (pT 6 8) (.int v) = true then some (i + 1, ls, st, pPut g (aS o s) 8 (.int v)) else none) = _
    rw [if_pos ⟨(hg.2.1 _ _ _ (shp_sv ho hs)).1, by decide, rfl⟩]
  · obtain ⟨h1, h2, h3, h4, h5, h6, h7, h8, h9⟩ := hg.2.2.2.2.2.2.2.1 o s ho hs
    have := hg.cnt (l' := ((xK X o).2.1 s).take q) ho hs (by omega) (fun j e he => h9 j e (by
      rw [List.getElem?_take] at he
      split at he
      · exact he
      · cases he))
    rw [hl, ← hv] at this
    exact this
/-- an entry that lies behind the last one counts -/
theorem AT.p_6_8a {n p : Nat} {e : ENT} {v : Int32} (hM : qPT m = M) (hr : M.1[i]? = some (pc, .putfield n, ln, 6, 8, r3)) (ho : o < 2) (hs : s < 7) (hd : dQ (xD X) o s ((xK X o).2.1 s).length = p) (hp : p ≠ 0) (he : dE (xD X) p = (1, e)) (hlen : ((xK X o).2.1 s).length < dR (xD X) o s) (hv : v = Int32.ofNat (((xK X o).2.1 s).length + 1)) (k : AT m (i + 1) ls st (xSetK X o (kLog (xK X o) s ((xK X o).2.1 s ++ [e]))) Q) : AT m i ls (.int v :: .ref (aS o s) :: st) X Q := by
  have hl : ((xK X o).2.1 s ++ [e]).length = ((xK X o).2.1 s).length + 1 := by rw [List.length_append]; rfl
  refine AT.write hM hr rfl (fun g hg => ⟨pPut g (aS o s) 8 (.int v), ?_, ?_⟩) k
  · show (if pK g (aS o s) = 6 ∧ 8 < pF 6 ∧ fits (pT 6 8) (.int v) = true then some (i + 1, ls, st, pPut g (aS o s) 8 (.int v)) else none) = _
    rw [if_pos ⟨(hg.2.1 _ _ _ (shp_sv ho hs)).1, by decide, rfl⟩]
  · obtain ⟨h1, h2, h3, h4, h5, h6, h7, h8, h9⟩ := hg.2.2.2.2.2.2.2.1 o s ho hs
    have := hg.cnt (l' := (xK X o).2.1 s ++ [e]) ho hs (by omega) (fun j e' he' => by
      by_cases hj : j < ((xK X o).2.1 s).length
      · rw [List.getElem?_append_left hj] at he'
        exact h9 j e' he'
      · rw [List.getElem?_append_right (by omega)] at he'
        have hj0 : j - ((xK X o).2.1 s).length = 0 := by
          have := (List.getElem?_eq_some_iff.mp he').1
          simp at this
          omega
        rw [hj0] at he'
        have e1 : j = ((xK X o).2.1 s).length := by omega
        rw [e1, hd]
        cases he'
        exact ⟨he, hp⟩)
    rw [hl, ← hv] at this
    exact this
/-- a private number of a server, the cut links -/
theorem AT.p_6_10 {n : Nat} {v : Int32} (hM : qPT m = M) (hr : M.1[i]? = some (pc, .putfield n, ln, 6, 10, r3)) (ho : o < 2) (hs : s < 7) (k : AT m (i + 1) ls st (xSetD X (dSetV (xD X) o 10 s 0 v)) Q) : AT m i ls (.int v :: .ref (aS o s) :: st) X Q := by
  refine AT.write hM hr rfl (fun g hg => ⟨pPut g (aS o s) 10 (.int v), ?_, hg.putV (loc_sv (f := 10) ho hs (by omega)) rfl (by decide)⟩) k
  show (if pK g (aS o s) = 6 ∧ 10 < pF 6 ∧ fits (pT 6 10) (.int v) = true then some (i + 1, ls, st, pPut g (aS o s) 10 (.int v)) else none) = _
  rw [if_pos ⟨(hg.2.1 _ _ _ (shp_sv ho hs)).1, by decide, rfl⟩]
theorem AT.p_6_11 {n : Nat} {v : Int32} (hM : qPT m = M) (hr : M.1[i]? = some (pc, .putfield n, ln, 6, 11, r3)) (ho : o < 2) (hs : s < 7) (k : AT m (i + 1) ls st (xSetD X (dSetV (xD X) o 11 s 0 v)) Q) : AT m i ls (.int v :: .ref (aS o s) :: st) X Q := by
  refine AT.write hM hr rfl (fun g hg => ⟨pPut g (aS o s) 11 (.int v), ?_, hg.putV (loc_sv (f := 11) ho hs (by omega)) rfl (by decide)⟩) k
  show (if pK g (aS o s) = 6 ∧ 11 < pF 6 ∧ fits (pT 6 11) (.int v) = true then some (i + 1, ls, st, pPut g (aS o s) 11 (.int v)) else none) = _
  rw [if_pos ⟨(hg.2.1 _ _ _ (shp_sv ho hs)).1, by decide, rfl⟩]
theorem AT.p_4_4 {n : Nat} {v : Int32} (hM : qPT m = M) (hr : M.1[i]? = some (pc, .putfield n, ln, 4, 4, r3)) (ho : o < 2) (k : AT m (i + 1) ls st (xSetD X (dSetV (xD X) o 31 0 0 v)) Q) : AT m i ls (.int v :: .ref (aB o + 3) :: st) X Q := by
  refine AT.write hM hr rfl (fun g hg => ⟨pPut g (aB o + 3) 4 (.int v), ?_, hg.putV (loc_net (f := 31) ho (Or.inl rfl)) rfl (by decide)⟩) k
  show (if pK g (aB o + 3) = 4 ∧ 4 < pF 4 ∧ fits (pT 4 4) (.int v) = true then some (i + 1, ls, st, pPut g (aB o + 3) 4 (.int v)) else none) = _
  rw [if_pos ⟨(hg.2.1 _ _ _ (shp_net ho)).1, by decide, rfl⟩]
/-- a cell of an entry is not the script's -/
theorem AT.ne0 {p : Nat} {e : ENT} (hp : dE (xD X) p = (1, e)) (k : p ≠ 0 → AT m i ls st X Q) : AT m i ls st X Q := by
  intro g hg
  refine k (fun z => ?_) g hg
  have := hg.2.2.2.2.2.2.2.2.2.2.2.2.2.2.1
  rw [z] at hp
  rw [hp] at this
  exact absurd this (by show ¬ ((1 : Nat) = 0); decide)
/-- an entry is put behind the last one, or in another one's place -/
theorem AT.s_logA {p : Nat} {e : ENT} {y : Int32} {j : Nat} (hM : qPT m = M) (hr : M.1[i]? = some (pc, .aastore, ln, r1, r2, r3)) (hy : y = Int32.ofNat j) (ho : o < 2) (hs : s < 7) (hj : ((xK X o).2.1 s).length ≤ j) (hjR : j < dR (xD X) o s) (hp : dE (xD X) p = (1, e)) (k : p ≠ 0 → AT m (i + 1) ls st (xSetD X (dSetQ (xD X) o s j p)) Q) : AT m i ls (.ref p :: .int y :: .ref (dA (xD X) o s) :: st) X Q := by
  refine AT.ne0 hp (fun hp0 => ?_)
  subst hy
  refine AT.write hM hr rfl (fun g hg => ⟨pPut g (dA (xD X) o s) j (.ref p), ?_, ?_⟩) (k hp0)
  · obtain ⟨h1, h2, h3, h4, h5, h6, h7, h8, h9⟩ := hg.2.2.2.2.2.2.2.1 o s ho hs
    show (if 15 ≤ pK g (dA (xD X) o s) ∧ pK g (dA (xD X) o s) ≤ 19 ∧ pK g p = pE (pK g (dA (xD X) o s)) ∧ ¬ (Int32.ofNat j < 0 ∨ pL g (dA (xD X) o s) ≤ (Int32.ofNat j).toNatClampNeg) then some (i + 1, ls, st, pPut g (dA (xD X) o s) (Int32.ofNat j).toNatClampNeg (.ref p)) else none) = _
    rw [h2, h3, if_pos ⟨by omega, by omega, (dE.ent hp hg).1, i32_in (by omega) hjR⟩, (i32_ix (by omega)).1]
  · have := hg.logput (l' := (xK X o).2.1 s) (j := j) (p := p) ho hs hjR hp0 rfl (fun q e he => by
      have hq := (List.getElem?_eq_some_iff.mp he).1
      rw [if_neg (by omega)]
      exact ((hg.2.2.2.2.2.2.2.1 o s ho hs).2.2.2.2.2.2.2.2 q e he).1)
    rw [kLog_self] at this
    have e2 : xSetK (xSetD X (dSetQ (xD X) o s j p)) o (xK X o) = xSetD X (dSetQ (xD X) o s j p) := xSetK_self (xSetD X (dSetQ (xD X) o s j p)) o
    rw [e2] at this
    exact this
theorem AT.s_logS {p : Nat} {e : ENT} {y : Int32} {j : Nat} (hM : qPT m = M) (hr : M.1[i]? = some (pc, .aastore, ln, r1, r2, r3)) (hy : y = Int32.ofNat j) (ho : o < 2) (hs : s < 7) (hj : j < ((xK X o).2.1 s).length) (hp : dE (xD X) p = (1, e)) (k : AT m (i + 1) ls st (xSetK (xSetD X (dSetQ (xD X) o s j p)) o (kLog (xK X o) s (((xK X o).2.1 s).set j e))) Q) : AT m i ls (.ref p :: .int y :: .ref (dA (xD X) o s) :: st) X Q := by
  refine AT.ne0 hp (fun hp0 => ?_)
  subst hy
  refine AT.write hM hr rfl (fun g hg => ⟨pPut g (dA (xD X) o s) j (.ref p), ?_, ?_⟩) k
  · obtain ⟨h1, h2, h3, h4, h5, h6, h7, h8, h9⟩ := hg.2.2.2.2.2.2.2.1 o s ho hs
    show (if 15 ≤ pK g (dA (xD X) o s) ∧ pK g (dA (xD X) o s) ≤ 19 ∧ pK g p = pE (pK g (dA (xD X) o s)) ∧ ¬ (Int32.ofNat j < 0 ∨ pL g (dA (xD X) o s) ≤ (Int32.ofNat j).toNatClampNeg) then some (i + 1, ls, st, pPut g (dA (xD X) o s) (Int32.ofNat j).toNatClampNeg (.ref p)) else none) = _
    rw [h2, h3, if_pos ⟨by omega, by omega, (dE.ent hp hg).1, i32_in (by omega) (by omega)⟩, (i32_ix (by omega)).1]
  · obtain ⟨h1, h2, h3, h4, h5, h6, h7, h8, h9⟩ := hg.2.2.2.2.2.2.2.1 o s ho hs
    exact hg.logput (l' := ((xK X o).2.1 s).set j e) (j := j) (p := p) ho hs (by omega) hp0 (List.length_set ..) (fun q e' he => by
      rw [List.getElem?_set] at he
      by_cases e1 : j = q
      · rw [if_pos e1] at he
        subst e1
        rw [if_pos hj] at he
        cases he
        rw [if_pos rfl]
        exact hp
      · rw [if_neg e1] at he
        rw [if_neg (fun z => e1 z.symm)]
        exact (h9 q e' he).1)
/-- a table becomes as a snapshot's -/
theorem AT.acpT {p : Nat} {r : ENT} {c ck sk kl : Nat} {n : Nat} (hM : qPT m = M) (hr : M.1[i]? = some (pc, .invokestatic n, ln, r1, r2, r3)) (h0 : r1 = 1) (hsm : st.length ≤ 4) (ho : o < 2) (hs : s < 7) (hp : dSn (xD X) p r)
    (hc : (c = 2 ∧ ck = 0 ∧ sk = 3 ∧ kl = 8) ∨ (c = 3 ∧ ck = 8 ∧ sk = 11 ∧ kl = 4) ∨ (c = 4 ∧ ck = 12 ∧ sk = 15 ∧ kl = 4)) {x : Int32} (hx : x = Int32.ofNat kl) (k : AT m (i + 1) ls st (xSetK X o (kRow (xK X o) 19 s (fun q => if ck ≤ q ∧ q < ck + kl then r (sk + (q - ck)) else (xK X o).1 19 s q))) Q) :
    AT m i ls (.int x :: .int 0 :: .ref (aS o s + c) :: .int 0 :: .ref (p + c) :: st) X Q := by
  intro g hg
  obtain ⟨b1, b2, b3, b4, b5, b6, b7, b8, b9, b10⟩ := hp.ob hg
  have hsrc : pK g (p + c) = 12 ∧ pL g (p + c) = kl ∧ ∀ q, q < kl → pM g (p + c) q = .int (r (sk + q)) := by
    rcases hc with ⟨rfl, rfl, rfl, rfl⟩ | ⟨rfl, rfl, rfl, rfl⟩ | ⟨rfl, rfl, rfl, rfl⟩
    · exact ⟨(b5 0 (by omega)).2, b6, b9⟩
    · exact ⟨(b5 1 (by omega)).2, b7, fun q hq => (b10 q hq).1⟩
    · exact ⟨(b5 2 (by omega)).2, b8, fun q hq => (b10 q hq).2⟩
  have hdst : pK g (aS o s + c) = 12 ∧ pL g (aS o s + c) = kl := by
    rcases hc with ⟨rfl, rfl, rfl, rfl⟩ | ⟨rfl, rfl, rfl, rfl⟩ | ⟨rfl, rfl, rfl, rfl⟩
    · exact ⟨(hg.2.1 _ _ _ (shp_val ho hs)).1, (hg.2.1 _ _ _ (shp_val ho hs)).2 (by omega)⟩
    · exact ⟨(hg.2.1 _ _ _ (shp_ser ho hs)).1, (hg.2.1 _ _ _ (shp_ser ho hs)).2 (by omega)⟩
    · exact ⟨(hg.2.1 _ _ _ (shp_giv ho hs)).1, (hg.2.1 _ _ _ (shp_giv ho hs)).2 (by omega)⟩
  have hloc : ∀ q, q < kl → loc o 19 s (ck + q) (aS o s + c) q := by
    intro q hq
    rcases hc with ⟨rfl, rfl, rfl, rfl⟩ | ⟨rfl, rfl, rfl, rfl⟩ | ⟨rfl, rfl, rfl, rfl⟩
    · rw [Nat.zero_add]; exact loc_val ho hs hq
    · exact loc_ser ho hs hq
    · exact loc_giv ho hs hq
  have hkl : kl ≤ 8 := by omega
  subst hx
  refine PW.acp hM hr (by subst h0; rfl) (q := (i + 1, ls, st, pCpy g (p + c) 0 (aS o s + c) 0 kl)) ?_ (Or.inl hsm) (k _ ?_)
  · unfold pAcp
    dsimp only
    rw [(i32_ix (q := kl) (by omega)).1]
    exact if_pos ⟨Or.inl hsrc.1, hdst.1.trans hsrc.1.symm, (i32_ix (by omega)).2, by decide, by decide, by rw [hsrc.2.1]; exact Nat.le_of_eq (Nat.zero_add _), by rw [hdst.2]; exact Nat.le_of_eq (Nat.zero_add _)⟩
  · refine hg.num (M := fun x q => if x = aS o s + c ∧ 0 ≤ q ∧ q < 0 + kl then pM g (p + c) (0 + (q - 0)) else pM g x q) (o := o) (b := aS o s + c) (Pk := fun q => 0 ≤ q ∧ q < 0 + kl) (K' := kRow (xK X o) 19 s (fun q => if ck ≤ q ∧ q < ck + kl then r (sk + (q - ck)) else (xK X o).1 19 s q))
      (fun a q hq => if_neg hq) (fun q hq => ⟨19, s, ck + q, hloc q (by omega)⟩) rfl (fun f i' j' a q hl hpv => ?_) (fun f i' j' q hl hq => ?_) (fun _ i' q => ⟨?_, ?_⟩) (fun ho4 => ⟨fun i' hi' => ?_, fun c' hc' => ?_⟩)
    · by_cases e : a = aS o s + c ∧ 0 ≤ q ∧ q < 0 + kl
      · rw [if_pos e]
        obtain ⟨e1, e2, e3⟩ := e
        subst e1
        obtain ⟨-, q2, q3, q4⟩ := loc_inj hl (hloc q (by omega))
        subst q2; subst q3; subst q4
        rw [kRow_1, if_pos ⟨rfl, rfl⟩, if_pos ⟨by omega, by omega⟩, hsrc.2.2 _ (by omega)]
        rw [show 0 + (q - 0) = ck + q - ck by omega]
      · rw [if_neg e, kRow_1]
        have h9 := hg.2.2.1 o f i' j' a q hl
        unfold xN at h9
        rw [if_neg (by rw [hpv]; decide)] at h9
        rw [h9]
        split
        · rename_i e1
          rw [if_neg (fun z => e (by
            obtain ⟨rfl, rfl⟩ := e1
            have e5 : ck + (j' - ck) = j' := by omega
            have h8 := hloc (j' - ck) (by omega)
            rw [e5] at h8
            obtain ⟨h6, h7⟩ := loc_fun hl h8
            exact ⟨h6, by omega, by omega⟩))]
          rw [e1.1, e1.2]
        · rfl
    · rw [(loc_inj hl (hloc q (by omega))).2.1]; rfl
    · rw [kRow_1, if_neg (by omega)]
    · rw [kRow_1, if_neg (by omega)]
    · rw [kRow_1, if_neg (by omega)]
      exact (hg.2.2.2.2.2.2.1 o ho4).2.1 i' hi'
    · rw [kRow_1, if_neg (by omega)]
      exact (hg.2.2.2.2.2.2.1 o ho4).2.2 c' hc'
/-- numbers are copied from a row of numbers into a state's -/
theorem AT.acpG {n a b i0 j0 kl f kd : Nat} {x y z : Int32} {v : Nat → Int32} {fi fj : Nat → Nat} {K' : KK} (hM : qPT m = M) (hr : M.1[i]? = some (pc, .invokestatic n, ln, r1, r2, r3)) (h0 : r1 = 1) (hsm : st.length ≤ 4) (hx : x = Int32.ofNat kl) (hy : y = Int32.ofNat i0) (hz : z = Int32.ofNat j0) (hbd : kl + i0 + j0 < 100000000) (hkd : kd = 12 ∨ kd = 14)
    (ha : ∀ g, Rep X g → pK g a = kd ∧ i0 + kl ≤ pL g a ∧ ∀ q, q < kl → pM g a (i0 + q) = .int (v q)) (hb : ∀ g, Rep X g → pK g b = kd ∧ j0 + kl ≤ pL g b) (hloc : ∀ q, q < kl → loc o f (fi q) (fj q) b (j0 + q)) (hp : xPriv f = false) (hf : o < 2 → f ≠ 18 ∧ f ≠ 34) (h01 : f = 4 ∨ f = 35 → ∀ q, q < kl → v q = 0 ∨ v q = 1)
    (hK2 : K'.2 = (xK X o).2) (hK1 : ∀ q, q < kl → K'.1 f (fi q) (fj q) = v q) (hK0 : ∀ f' i' j', (∀ q, q < kl → ¬ (f' = f ∧ i' = fi q ∧ j' = fj q)) → K'.1 f' i' j' = (xK X o).1 f' i' j') (k : AT m (i + 1) ls st (xSetK X o K') Q) :
    AT m i ls (.int x :: .int z :: .ref b :: .int y :: .ref a :: st) X Q := by
  intro g hg
  obtain ⟨s1, s2, s3⟩ := ha g hg
  obtain ⟨d1, d2⟩ := hb g hg
  subst hx; subst hy; subst hz
  refine PW.acp hM hr (by subst h0; rfl) (q := (i + 1, ls, st, pCpy g a i0 b j0 kl)) ?_ (Or.inl hsm) (k _ ?_)
  · unfold pAcp
    dsimp only
    rw [(i32_ix (q := kl) (by omega)).1, (i32_ix (q := i0) (by omega)).1, (i32_ix (q := j0) (by omega)).1]
    exact if_pos ⟨by rw [s1]; exact hkd, d1.trans s1.symm, (i32_ix (by omega)).2, (i32_ix (by omega)).2, (i32_ix (by omega)).2, s2, d2⟩
  · have key : ∀ f' i' j' a' q', loc o f' i' j' a' q' → xPriv f' = false → (if a' = b ∧ j0 ≤ q' ∧ q' < j0 + kl then pM g a (i0 + (q' - j0)) else pM g a' q') = .int (K'.1 f' i' j') := by
      intro f' i' j' a' q' hl hpv
      by_cases e : a' = b ∧ j0 ≤ q' ∧ q' < j0 + kl
      · rw [if_pos e]
        obtain ⟨e1, e2, e3⟩ := e
        subst e1
        have h8 := hloc (q' - j0) (by omega)
        rw [show j0 + (q' - j0) = q' by omega] at h8
        obtain ⟨-, q2, q3, q4⟩ := loc_inj hl h8
        rw [q2, q3, q4, hK1 _ (by omega), s3 _ (by omega)]
      · rw [if_neg e]
        have h9 := hg.2.2.1 o f' i' j' a' q' hl
        unfold xN at h9
        rw [if_neg (by rw [hpv]; decide)] at h9
        rw [h9, hK0 f' i' j' (fun q hq z => e (by
          obtain ⟨z1, z2, z3⟩ := z
          rw [z1, z2, z3] at hl
          obtain ⟨h6, h7⟩ := loc_fun hl (hloc q hq)
          exact ⟨h6, by omega, by omega⟩))]
    have hst : ∀ (f' i' : Nat), f' = 4 ∨ f' = 35 → ((xK X o).1 f' i' 0 = 0 ∨ (xK X o).1 f' i' 0 = 1) → (K'.1 f' i' 0 = 0 ∨ K'.1 f' i' 0 = 1) := by
      intro f' i' hf' hold
      by_cases e : ∃ q, q < kl ∧ f' = f ∧ i' = fi q ∧ 0 = fj q
      · obtain ⟨q, hq, e1, e2, e3⟩ := e
        rw [e1, e2, e3, hK1 q hq]
        exact h01 (by rw [← e1]; exact hf') q hq
      · rw [hK0 f' i' 0 (fun q hq z => e ⟨q, hq, z⟩)]
        exact hold
    refine hg.num (M := fun x q => if x = b ∧ j0 ≤ q ∧ q < j0 + kl then pM g a (i0 + (q - j0)) else pM g x q) (o := o) (b := b) (Pk := fun q => j0 ≤ q ∧ q < j0 + kl) (K' := K')
      (fun a q hq => if_neg hq) (fun q hq => ⟨f, fi (q - j0), fj (q - j0), ?_⟩) hK2 key (fun f' i' j' q hl hq => ?_) (fun ho i' q => ⟨?_, ?_⟩) (fun ho4 => ⟨fun i' hi' => hst 4 i' (Or.inl rfl) ((hg.2.2.2.2.2.2.1 o ho4).2.1 i' hi'), fun c' hc' => hst 35 c' (Or.inr rfl) ((hg.2.2.2.2.2.2.1 o ho4).2.2 c' hc')⟩)
    · have h8 := hloc (q - j0) (by omega)
      rw [show j0 + (q - j0) = q by omega] at h8
      exact h8
    · have h8 := hloc (q - j0) (by omega)
      rw [show j0 + (q - j0) = q by omega] at h8
      rw [(loc_inj hl h8).2.1]; exact hp
    · exact hK0 18 i' q (fun q' _ z => (hf ho).1 z.1.symm)
    · exact hK0 34 i' q (fun q' _ z => (hf ho).2 z.1.symm)
end ATP
