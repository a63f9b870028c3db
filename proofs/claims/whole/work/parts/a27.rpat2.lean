/-! ===== OVER PATCHED HEAPS: rows of references, copy, makeRoom; a row of what is applied ===== -/
section AT2G
variable {m i pc ln r1 r2 r3 : Nat} {ins : Instr} {ls : PV} {st : List Value} {X X' : XS} {Q : (PS → PS) × (PO → PS → Prop)} {M : PMet} {oo o s : Nat} {vv : Nat → Int32}
theorem AT2.r10_16 {n : Nat} (hM : qPT m = M) (hr : M.1[i]? = some (pc, .getfield n, ln, 10, 16, r3)) (hQ : Q.1 = zP oo vv) (ho4 : oo < 4) (ho2 : 2 ≤ oo) (h2 : 2 ≤ o) (h4 : o < 4) (k : AT2 m (i + 1) ls (.ref (bB o + 15) :: st) X Q) : AT2 m i ls (.ref (bB o) :: st) X Q := AT2.gf hM hr hQ (xKd.of (sh_st h2 h4)) (by decide) (by dsimp only [bB]; omega) (fun g hg => hg.2.2.2.1 _ _ _ (sfr h2 h4 (Or.inl ⟨rfl, by omega, by omega, by omega⟩))) k
theorem AT2.r10_17 {n : Nat} (hM : qPT m = M) (hr : M.1[i]? = some (pc, .getfield n, ln, 10, 17, r3)) (hQ : Q.1 = zP oo vv) (ho4 : oo < 4) (ho2 : 2 ≤ oo) (h2 : 2 ≤ o) (h4 : o < 4) (k : AT2 m (i + 1) ls (.ref (bB o + 23) :: st) X Q) : AT2 m i ls (.ref (bB o) :: st) X Q := AT2.gf hM hr hQ (xKd.of (sh_st h2 h4)) (by decide) (by dsimp only [bB]; omega) (fun g hg => hg.2.2.2.1 _ _ _ (sfr h2 h4 (Or.inr (Or.inl ⟨rfl, rfl, rfl⟩)))) k
theorem AT2.r10_18 {n : Nat} (hM : qPT m = M) (hr : M.1[i]? = some (pc, .getfield n, ln, 10, 18, r3)) (hQ : Q.1 = zP oo vv) (ho4 : oo < 4) (ho2 : 2 ≤ oo) (h2 : 2 ≤ o) (h4 : o < 4) (k : AT2 m (i + 1) ls (.ref (bB o + 31) :: st) X Q) : AT2 m i ls (.ref (bB o) :: st) X Q := AT2.gf hM hr hQ (xKd.of (sh_st h2 h4)) (by decide) (by dsimp only [bB]; omega) (fun g hg => hg.2.2.2.1 _ _ _ (sfr h2 h4 (Or.inr (Or.inr (Or.inl ⟨rfl, by omega, by omega, rfl⟩))))) k
theorem AT2.r10_19 {n : Nat} (hM : qPT m = M) (hr : M.1[i]? = some (pc, .getfield n, ln, 10, 19, r3)) (hQ : Q.1 = zP oo vv) (ho4 : oo < 4) (ho2 : 2 ≤ oo) (h2 : 2 ≤ o) (h4 : o < 4) (k : AT2 m (i + 1) ls (.ref (bB o + 32) :: st) X Q) : AT2 m i ls (.ref (bB o) :: st) X Q := AT2.gf hM hr hQ (xKd.of (sh_st h2 h4)) (by decide) (by dsimp only [bB]; omega) (fun g hg => hg.2.2.2.1 _ _ _ (sfr h2 h4 (Or.inr (Or.inr (Or.inl ⟨rfl, by omega, by omega, rfl⟩))))) k
theorem AT2.r10_20 {n : Nat} (hM : qPT m = M) (hr : M.1[i]? = some (pc, .getfield n, ln, 10, 20, r3)) (hQ : Q.1 = zP oo vv) (ho4 : oo < 4) (ho2 : 2 ≤ oo) (h2 : 2 ≤ o) (h4 : o < 4) (k : AT2 m (i + 1) ls (.ref (bB o + 40) :: st) X Q) : AT2 m i ls (.ref (bB o) :: st) X Q := AT2.gf hM hr hQ (xKd.of (sh_st h2 h4)) (by decide) (by dsimp only [bB]; omega) (fun g hg => hg.2.2.2.1 _ _ _ (sfr h2 h4 (Or.inr (Or.inr (Or.inr (Or.inl ⟨rfl, rfl, rfl⟩)))))) k
theorem AT2.r10_21 {n : Nat} (hM : qPT m = M) (hr : M.1[i]? = some (pc, .getfield n, ln, 10, 21, r3)) (hQ : Q.1 = zP oo vv) (ho4 : oo < 4) (ho2 : 2 ≤ oo) (h2 : 2 ≤ o) (h4 : o < 4) (k : AT2 m (i + 1) ls (.ref (bB o + 48) :: st) X Q) : AT2 m i ls (.ref (bB o) :: st) X Q := AT2.gf hM hr hQ (xKd.of (sh_st h2 h4)) (by decide) (by dsimp only [bB]; omega) (fun g hg => hg.2.2.2.1 _ _ _ (sfr h2 h4 (Or.inr (Or.inr (Or.inr (Or.inr (Or.inl ⟨rfl, rfl, rfl⟩))))))) k
theorem AT2.rr_snt {y : Int32} (hM : qPT m = M) (hr : M.1[i]? = some (pc, .aaload, ln, r1, r2, r3)) (hy : y = Int32.ofNat s) (hQ : Q.1 = zP oo vv) (ho4 : oo < 4) (ho2 : 2 ≤ oo) (h2 : 2 ≤ o) (h4 : o < 4) (hs : s < 7) (k : AT2 m (i + 1) ls (.ref (bB o + 16 + s) :: st) X Q) : AT2 m i ls (.int y :: .ref (bB o + 15) :: st) X Q := AT2.aa hM hr hQ hy hs (by omega) (fun g hg => by have h := hg.2.1 _ _ _ (shr h2 h4 (Or.inr (Or.inr (Or.inr (Or.inl ⟨rfl, rfl, rfl⟩))))); exact ⟨by rw [h.1]; omega, h.2 (by omega)⟩) (by dsimp only [bB]; omega) (fun g hg => hg.2.2.2.1 _ _ _ (sfr h2 h4 (Or.inr (Or.inr (Or.inr (Or.inr (Or.inr (Or.inr (Or.inl ⟨rfl, hs, rfl⟩))))))))) k
theorem AT2.rr_tab {y : Int32} (hM : qPT m = M) (hr : M.1[i]? = some (pc, .aaload, ln, r1, r2, r3)) (hy : y = Int32.ofNat s) (hQ : Q.1 = zP oo vv) (ho4 : oo < 4) (ho2 : 2 ≤ oo) (h2 : 2 ≤ o) (h4 : o < 4) (hs : s < 7) (k : AT2 m (i + 1) ls (.ref (bB o + 24 + s) :: st) X Q) : AT2 m i ls (.int y :: .ref (bB o + 23) :: st) X Q := AT2.aa hM hr hQ hy hs (by omega) (fun g hg => by have h := hg.2.1 _ _ _ (shr h2 h4 (Or.inr (Or.inr (Or.inr (Or.inr (Or.inr (Or.inl ⟨rfl, rfl, rfl⟩))))))); exact ⟨by rw [h.1]; omega, h.2 (by omega)⟩) (by dsimp only [bB]; omega) (fun g hg => hg.2.2.2.1 _ _ _ (sfr h2 h4 (Or.inr (Or.inr (Or.inr (Or.inr (Or.inr (Or.inr (Or.inr (Or.inl ⟨rfl, hs, rfl⟩)))))))))) k
theorem AT2.rr_nxt {y : Int32} (hM : qPT m = M) (hr : M.1[i]? = some (pc, .aaload, ln, r1, r2, r3)) (hy : y = Int32.ofNat s) (hQ : Q.1 = zP oo vv) (ho4 : oo < 4) (ho2 : 2 ≤ oo) (h2 : 2 ≤ o) (h4 : o < 4) (hs : s < 7) (k : AT2 m (i + 1) ls (.ref (bB o + 41 + s) :: st) X Q) : AT2 m i ls (.int y :: .ref (bB o + 40) :: st) X Q := AT2.aa hM hr hQ hy hs (by omega) (fun g hg => by have h := hg.2.1 _ _ _ (shr h2 h4 (Or.inr (Or.inr (Or.inr (Or.inr (Or.inr (Or.inr (Or.inr (Or.inr (Or.inr (Or.inl ⟨rfl, rfl, rfl⟩))))))))))); exact ⟨by rw [h.1]; omega, h.2 (by omega)⟩) (by dsimp only [bB]; omega) (fun g hg => hg.2.2.2.1 _ _ _ (sfr h2 h4 (Or.inr (Or.inr (Or.inr (Or.inr (Or.inr (Or.inr (Or.inr (Or.inr (Or.inl ⟨rfl, hs, rfl⟩))))))))))) k
theorem AT2.rr_mat {y : Int32} (hM : qPT m = M) (hr : M.1[i]? = some (pc, .aaload, ln, r1, r2, r3)) (hy : y = Int32.ofNat s) (hQ : Q.1 = zP oo vv) (ho4 : oo < 4) (ho2 : 2 ≤ oo) (h2 : 2 ≤ o) (h4 : o < 4) (hs : s < 7) (k : AT2 m (i + 1) ls (.ref (bB o + 49 + s) :: st) X Q) : AT2 m i ls (.int y :: .ref (bB o + 48) :: st) X Q := AT2.aa hM hr hQ hy hs (by omega) (fun g hg => by have h := hg.2.1 _ _ _ (shr h2 h4 (Or.inr (Or.inr (Or.inr (Or.inr (Or.inr (Or.inr (Or.inr (Or.inr (Or.inr (Or.inr (Or.inr (Or.inl ⟨rfl, rfl, rfl⟩))))))))))))); exact ⟨by rw [h.1]; omega, h.2 (by omega)⟩) (by dsimp only [bB]; omega) (fun g hg => hg.2.2.2.1 _ _ _ (sfr h2 h4 (Or.inr (Or.inr (Or.inr (Or.inr (Or.inr (Or.inr (Or.inr (Or.inr (Or.inr ⟨rfl, hs, rfl⟩))))))))))) k
theorem AT2.rr_log {y : Int32} (hM : qPT m = M) (hr : M.1[i]? = some (pc, .aaload, ln, r1, r2, r3)) (hy : y = Int32.ofNat s) (hQ : Q.1 = zP oo vv) (ho4 : oo < 4) (ho2 : 2 ≤ oo) (h2 : 2 ≤ o) (h4 : o < 4) (hs : s < 7) (k : AT2 m (i + 1) ls (.ref (dA (xD X) o s) :: st) X Q) : AT2 m i ls (.int y :: .ref (bB o + 32) :: st) X Q :=
  AT2.aa hM hr hQ hy hs (by omega) (fun g hg => by have h := hg.2.1 _ _ _ (shr (a := bB o + 32) (kd := 19) (ln := 7) h2 h4 (Or.inr (Or.inr (Or.inr (Or.inr (Or.inr (Or.inr (Or.inr (Or.inr (Or.inl ⟨rfl, rfl, rfl⟩)))))))))); exact ⟨by rw [h.1]; omega, h.2 (by omega)⟩) (by dsimp only [bB]; omega) (fun g hg => (hg.2.2.2.2.2.2.2.2.1 o s h2 h4 hs).1) k
theorem AT2.l_logR (hM : qPT m = M) (hr : M.1[i]? = some (pc, .arraylength, ln, r1, r2, r3)) (hQ : Q.1 = zP oo vv) (h2 : 2 ≤ o) (h4 : o < 4) (hs : s < 7) (k : AT2 m (i + 1) ls (.int (Int32.ofNat (dR (xD X) o s)) :: st) X Q) : AT2 m i ls (.ref (dA (xD X) o s) :: st) X Q :=
  AT2.al hM hr hQ (fun g hg => by obtain ⟨c1, c2, c3, c4⟩ := hg.2.2.2.2.2.2.2.2.1 o s h2 h4 hs; exact ⟨by rw [c2]; omega, c3⟩) k
/-- the list of entries of a server may be any that lies there -/
theorem AT2.log {l' : List ENT} (hQ : Q.1 = zP o vv) (h2 : 2 ≤ o) (h4 : o < 4) (hs : s < 7) (hR : 7 * l'.length ≤ dR (xD X) o s) (hl : ∀ j e, l'[j]? = some e → ∀ k, k < 7 → dV (xD X) o 42 s (7 * j + k) = e k) (k : AT2 m i ls st (xSetK X o (kLog (xK X o) s l')) Q) : AT2 m i ls st X Q := by
  intro g hg
  have k := k _ (hg.sizeR h2 h4 hs hR hl)
  rw [hQ] at k ⊢
  have e : zP o vv (pPut g (bB o + 31) s (.int (Int32.ofNat l'.length))) = zP o vv g := by
    show (g.1, g.2.1, _, g.2.2.2) = (g.1, g.2.1, _, g.2.2.2)
    refine Prod.ext rfl (Prod.ext rfl (Prod.ext (funext fun u => funext fun y => ?_) rfl))
    show (if u = bB o + 31 ∧ y < 7 then Value.int (vv y) else if u = bB o + 31 ∧ y = s then _ else pM g u y) = if u = bB o + 31 ∧ y < 7 then Value.int (vv y) else pM g u y
    by_cases h : u = bB o + 31 ∧ y < 7
    · rw [if_pos h, if_pos h]
    · rw [if_neg h, if_neg h, if_neg (fun z => h ⟨z.1, by omega⟩)]
  rw [e] at k
  exact k
end AT2G
theorem log_ne {X : XS} {o oo s : Nat} (h2 : 2 ≤ o) (h4 : o < 4) (hs : s < 7) (ho4 : oo < 4) (ho2 : 2 ≤ oo) (hr : ∃ g, Rep X g) : ¬ dA (xD X) o s = bB oo + 31 := fun z => by
  rcases (hr.choose_spec.2.2.2.2.2.2.2.2.1 o s h2 h4 hs).2.2.2.1 with y | y <;> rw [z] at y <;> dsimp only [bB] at y <;> omega
theorem c2_180 {X X' : XS} {a b n kd oo : Nat} {v vv : Nat → Int32} (hs : srcV X a 0 n v kd) (hl : ∀ g, Rep X g → pL g a = n) (hd : dstV X b 0 n v kd X') (hn : n < 2147483648) (hkd : kd = 12 ∨ kd = 13) (ha : ¬ a = bB oo + 31) (hb : ¬ b = bB oo + 31) : RU2 (zP oo vv) 180 [some (.ref a), some (.ref b)] X (fun Y => Y = X') := by
  refine AT2.aload_n M_180 rfl rfl ?_
  refine AT2.iconst M_180 rfl (v := 0) (by decide) ?_
  refine AT2.aload_n M_180 rfl rfl ?_
  refine AT2.iconst M_180 rfl (v := 0) (by decide) ?_
  refine AT2.aload_n M_180 rfl rfl ?_
  refine AT2.al (oo := oo) (vv := vv) M_180 rfl rfl (fun g hg => ⟨by rw [(hs g hg).1]; omega, hl g hg⟩) ?_
  refine AT2.acp (oo := oo) (vv := vv) M_180 rfl rfl (Nat.le_of_ble_eq_true rfl) rfl ha hb rfl (show (0 : Int32) = Int32.ofNat 0 from rfl) (show (0 : Int32) = Int32.ofNat 0 from rfl) ⟨hn, by omega, by omega⟩ hkd hs hd ?_
  refine AT2.vret M_180 rfl rfl (fun g hg => ?_)
  exact ⟨rfl, X', g, hg, rfl, rfl⟩
/-- a call of copy -/
theorem AT2.cc {m i pc ln r1 r2 r3 : Nat} {ls : PV} {st : List Value} {X X' : XS} {Q : (PS → PS) × (PO → PS → Prop)} {M : PMet} {a b n kd oo nn : Nat} {v vv : Nat → Int32} (hM : qPT m = M) (hr : M.1[i]? = some (pc, .invokestatic nn, ln, r1, r2, r3)) (h0 : r1 = 190) (hsm : st.length ≤ 4) (hQ : Q.1 = zP oo vv) (hs : srcV X a 0 n v kd) (hl : ∀ g, Rep X g → pL g a = n) (hd : dstV X b 0 n v kd X') (hn : n < 2147483648) (hkd : kd = 12 ∨ kd = 13) (ha : ¬ a = bB oo + 31) (hb : ¬ b = bB oo + 31) (k : AT2 m (i + 1) ls st X' Q) : AT2 m i ls (.ref b :: .ref a :: st) X Q := by
  subst h0
  refine AT2.call (Mc := qPT 180) (av := [.ref a, .ref b]) (rest := st) (R := fun Y => Y = X') hM hr rfl rfl (by rw [M_180]; rfl) (Or.inl hsm) (by rw [M_180]; exact Nat.le_of_ble_eq_true rfl) (fun _ _ => rfl) (by rw [hQ]; exact c2_180 hs hl hd hn hkd ha hb) (fun Y hY => by rw [hY]; exact k)
theorem c2_184 {X : XS} {vv : Nat → Int32} {o s : Nat} (h2 : 2 ≤ o) (h4 : o < 4) (hs : s < 7) {ent : Nat} (hL0 : 112 ≤ dR (xD X) o s) (hB : dR (xD X) o s < 20000000) (hE : ent < 1000000) (hle : ((xK X o).2.1 s).length ≤ ent) : RU2 (zP o vv) 184 [some (.ref (bB o)), some (.int (Int32.ofNat s)), some (.int (Int32.ofNat ent)), none] X (fun Y => rRel0 o ent 0 0 X Y (xK X o) ∧ rKeep o X Y ∧ 7 * ent ≤ dR (xD Y) o s) := by
  refine AT2.rep (fun hr => ?_)
  obtain ⟨c1, c2, c3, c4, c5, c6, c7⟩ := hr.choose_spec.2.2.2.2.2.2.2.2.1 o s h2 h4 hs
  have hL := hL0
  have hz0 : (dE (xD X) (dC (xD X) + 1)).1 = 0 := by
    have h9 := hr.choose_spec.1.2.2.2
    cases hq : (dE (xD X) (dC (xD X) + 1)).1 with
    | zero => rfl
    | succ n => have := (hr.choose_spec.2.2.2.2.2.2.2.2.2.2.2.2.2.2.2 (dC (xD X) + 1) (by rw [hq]; omega)).1; omega
  refine AT2.aload_n M_184 rfl rfl ?_
  refine AT2.r10_19 (oo := o) (vv := vv) M_184 rfl rfl h4 h2 h2 h4 ?_
  refine AT2.iload_n M_184 rfl rfl ?_
  refine AT2.rr_log (oo := o) (vv := vv) M_184 rfl rfl rfl h4 h2 h2 h4 (by assumption) ?_
  refine AT2.l_logR (oo := o) (vv := vv) M_184 rfl rfl h2 h4 hs ?_
  refine AT2.iload_n M_184 rfl rfl ?_
  refine AT2.bipush M_184 rfl (v := 7) (by decide) ?_
  refine AT2.imul M_184 rfl rfl ?_
  refine AT2.icmp_lt M_184 rfl (fun b8 => ?_) (fun b8 => ?_)
  · rw [show Int32.ofNat ent * 7 = Int32.ofNat (7 * ent) from by rw [Nat.mul_comm, Int32.ofNat_mul]; rfl, i32_lt (by omega) (by omega)] at b8
    refine AT2.iconst M_184 rfl (v := 2) (by decide) ?_
    refine AT2.iload_n M_184 rfl rfl ?_
    refine AT2.imul M_184 rfl rfl ?_
    refine AT2.bipush M_184 rfl (v := 7) (by decide) ?_
    refine AT2.imul M_184 rfl rfl ?_
    rw [show (2 : Int32) * Int32.ofNat ent * 7 = Int32.ofNat (14 * ent) from by rw [show 14 * ent = 2 * ent * 7 by omega, Int32.ofNat_mul, Int32.ofNat_mul]; rfl]
    refine AT2.newi (oo := o) (vv := vv) M_184 rfl rfl h4 rfl (by omega) (fun h5 => ?_)
    refine AT2.ast3 M_184 rfl rfl ?_
    refine AT2.aload_n M_184 rfl rfl ?_
    refine AT2.r10_19 (oo := o) (vv := vv) M_184 rfl rfl h4 h2 h2 h4 ?_
    refine AT2.iload_n M_184 rfl rfl ?_
    refine AT2.rr_log (oo := o) (vv := vv) M_184 rfl rfl rfl h4 h2 h2 h4 (by assumption) ?_
    refine AT2.aload_n M_184 rfl rfl ?_
    refine AT2.cc (oo := o) (vv := vv) M_184 rfl rfl (Nat.le_of_ble_eq_true rfl) rfl (n := dR (xD X) o s) (kd := 12) (v := dV (xD X) o 42 s) (src.log h2 h4 hs (by rw [Nat.zero_add]; exact Nat.le_refl _) (fun q hq => by rw [Nat.zero_add]; rfl)) (fun g hg => (hg.2.2.2.2.2.2.2.2.1 o s h2 h4 hs).2.2.1) (dst.fr h5 (dNewI_E (xD X) (14 * ent)) (by omega)) (by omega) (Or.inl rfl) (log_ne (X := X) h2 h4 hs h4 h2 hr) (by dsimp only [bB]; omega) ?_
    refine AT2.aload_n M_184 rfl rfl ?_
    refine AT2.r10_19 (oo := o) (vv := vv) M_184 rfl rfl h4 h2 h2 h4 ?_
    refine AT2.iload_n M_184 rfl rfl ?_
    refine AT2.aload_n M_184 rfl rfl ?_
    refine AT2.ws_log (vv := vv) (n := 14 * ent) M_184 rfl rfl rfl h2 h4 hs h5 (if_pos rfl) (by show 7 * ((xK X o).2.1 s).length ≤ _; omega) (fun j e1 he k hk => ?_) ?_
    · have hj : j < ((xK X o).2.1 s).length := (List.getElem?_eq_some_iff.mp he).1
      show vPut (fun _ => 0) 0 (dR (xD X) o s) (dV (xD X) o 42 s) (7 * j + k) = e1 k
      unfold vPut
      rw [if_pos ⟨Nat.zero_le _, by omega⟩, Nat.sub_zero]
      exact c7 j e1 he k hk
    · refine AT2.vret M_184 rfl rfl (fun g9 hg9 => ?_)
      refine ⟨rfl, _, g9, hg9, rfl, ?_, ⟨fun f i j hf => if_neg (fun z => hf z.2.1), fun p n e he => ?_⟩, ?_⟩
      · refine rRel0.logR h2 hs hL (L := 14 * ent) ?_ (Nat.le_refl _) _ rfl rfl rfl rfl
        omega
      · have hp : ¬ p = dC (xD X) + 1 := fun z => by have h9 := hz0; rw [z] at he; rw [he] at h9; have h8 : 100 + n = 0 := h9; omega
        show (if p = dC (xD X) + 1 then _ else if p = dC (xD X) + 1 then _ else if p = dC (xD X) + 1 then _ else dE (xD X) p) = _
        rw [if_neg hp, if_neg hp, if_neg hp]
        exact he
      · show 7 * ent ≤ (if o = o ∧ s = s then 14 * ent else _)
        rw [if_pos ⟨rfl, rfl⟩]; omega
  · refine AT2.vret M_184 rfl rfl (fun g9 hg9 => ?_)
    refine ⟨rfl, _, g9, hg9, rfl, rRel0.rf o ent X, rKeep.rf o X, ?_⟩
    rw [show Int32.ofNat ent * 7 = Int32.ofNat (7 * ent) from by rw [Nat.mul_comm, Int32.ofNat_mul]; rfl, i32_lt (by omega) (by omega)] at b8
    omega
