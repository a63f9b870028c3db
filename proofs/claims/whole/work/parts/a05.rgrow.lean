/-! ===== THE REFERENCE: logs grow and shrink, messages are sent ===== -/
theorem c_180 {X X' : XS} {a b n kd : Nat} {v : Nat → Int32} (hs : srcV X a 0 n v kd) (hl : ∀ g, Rep X g → pL g a = n) (hd : dstV X b 0 n v kd X') (hn : n < 2147483648) (hkd : kd = 12 ∨ kd = 13) : RT 180 [some (.ref a), some (.ref b)] X none X' := by
  refine AT.aload_n M_180 rfl rfl ?_
  refine AT.iconst M_180 rfl (v := 0) (by decide) ?_
  refine AT.aload_n M_180 rfl rfl ?_
  refine AT.iconst M_180 rfl (v := 0) (by decide) ?_
  refine AT.aload_n M_180 rfl rfl ?_
  refine AT.al M_180 rfl (fun g hg => ⟨by rw [(hs g hg).1]; omega, hl g hg⟩) ?_
  refine AT.acp M_180 rfl rfl (Nat.le_of_ble_eq_true rfl) rfl (show (0 : Int32) = Int32.ofNat 0 from rfl) (show (0 : Int32) = Int32.ofNat 0 from rfl) ⟨hn, by omega, by omega⟩ hkd hs hd ?_
  refine AT.vret M_180 rfl rfl ?_
  exact ⟨rfl, rfl⟩
/-- the snapshot's table becomes the server's -/
theorem cpy_snt {X : XS} {o s : Nat} (h2 : 2 ≤ o) (h4 : o < 4) (hs : s < 7) : RT 180 [some (.ref (bB o + 16 + s)), some (.ref (bB o + 24 + s))] X none (xSetK X o (kTab (xK X o) s ((xK X o).1 18 s))) := by
  refine c_180 (n := 16) (kd := 12) (v := fun q => (xK X o).1 18 s (3 + q)) (src.loc (f := 18) (fi := fun _ => s) (fj := fun q => 3 + q) (sh_snt h2 h4 hs) (by omega) (by omega) (fun q hq => by rw [Nat.zero_add]; exact lo_snt h2 h4 hs hq) (fun q hq => rfl)) (fun g hg => (hg.2.1 _ _ _ (sh_snt h2 h4 hs)).2 (by omega))
    (dst.num (f := 19) (fi := fun _ => s) (fj := fun q => q) (sh_tab h2 h4 hs) (by omega) (by omega) (fun q hq => by rw [Nat.zero_add]; exact lo_tab h2 h4 hs hq) rfl (fun z => by omega) (fun z => absurd z (by decide)) rfl (fun q hq => ?_) (fun f' i' j' hne => ?_)) (by omega) (Or.inl rfl)
  · show (if 19 = 19 ∧ s = s then (if q < 16 then _ else _) else _) = _
    rw [if_pos ⟨rfl, rfl⟩, if_pos hq]
  · show (if f' = 19 ∧ i' = s then (if j' < 16 then _ else _) else _) = _
    by_cases e : f' = 19 ∧ i' = s
    · rw [if_pos e]
      by_cases e2 : j' < 16
      · exact absurd ⟨e.1, e.2, rfl⟩ (hne j' e2)
      · rw [if_neg e2, e.1, e.2]
    · rw [if_neg e]
/-- private numbers but the logs' rows, and rows that were made, are the same -/
def rKeep (o : Nat) (X Y : XS) : Prop := (∀ f i j, f ≠ 42 → dV (xD Y) o f i j = dV (xD X) o f i j) ∧ ∀ p n e, dE (xD X) p = (100 + n, e) → dE (xD Y) p = (100 + n, e)
theorem rKeep.rf (o : Nat) (X : XS) : rKeep o X X := ⟨fun _ _ _ _ => rfl, fun _ _ _ h => h⟩
theorem rKeep.tr {o : Nat} {X Y Z : XS} (h : rKeep o X Y) (k : rKeep o Y Z) : rKeep o X Z := ⟨fun f i j hf => (k.1 f i j hf).trans (h.1 f i j hf), fun p n e he => k.2 p n e (h.2 p n e he)⟩
theorem c_183 {X : XS} {o s : Nat} (h2 : 2 ≤ o) (h4 : o < 4) (hs : s < 7) : RT 183 [some (.ref (bB o)), some (.int (Int32.ofNat s))] X none (xSetK (xSetD X (dSetV (xD X) o 20 s 0 ((xK X o).1 18 s 0))) o (kRest (xK X o) s)) := by
  refine AT.aload_n M_183 rfl rfl ?_
  refine AT.r10_5 M_183 rfl h2 h4 ?_
  refine AT.iload_n M_183 rfl rfl ?_
  refine AT.iconst M_183 rfl (v := 0) (by decide) ?_
  refine AT.rs_12 M_183 rfl rfl h2 h4 (by assumption) ?_
  refine AT.aload_n M_183 rfl rfl ?_
  refine AT.r10_6 M_183 rfl h2 h4 ?_
  refine AT.iload_n M_183 rfl rfl ?_
  refine AT.iconst M_183 rfl (v := (-1)) (by decide) ?_
  refine AT.rs_13 M_183 rfl rfl h2 h4 (by assumption) ?_
  refine AT.aload_n M_183 rfl rfl ?_
  refine AT.r10_7 M_183 rfl h2 h4 ?_
  refine AT.iload_n M_183 rfl rfl ?_
  refine AT.iconst M_183 rfl (v := 0) (by decide) ?_
  refine AT.rs_14 M_183 rfl rfl h2 h4 (by assumption) ?_
  simp only [xK_same, xSetK_idem]
  refine AT.aload_n M_183 rfl rfl ?_
  refine AT.r10_8 M_183 rfl h2 h4 ?_
  refine AT.iload_n M_183 rfl rfl ?_
  refine AT.aload_n M_183 rfl rfl ?_
  refine AT.r10_13 M_183 rfl h2 h4 ?_
  refine AT.iload_n M_183 rfl rfl ?_
  refine AT.ra_18_0 M_183 rfl rfl h2 h4 (by assumption) ?_
  rw [show (xK (xSetK X o (kSet (kSet (kSet (xK X o) 12 s 0 0) 13 s 0 (-1)) 14 s 0 0)) o).1 18 s 0 = (xK X o).1 18 s 0 from by rw [xK_same, kSet_ne (by omega), kSet_ne (by omega), kSet_ne (by omega)]]
  refine AT.rs_15 M_183 rfl rfl h2 h4 (by assumption) ?_
  simp only [xK_same, xSetK_idem]
  refine AT.aload_n M_183 rfl rfl ?_
  refine AT.r10_9 M_183 rfl h2 h4 ?_
  refine AT.iload_n M_183 rfl rfl ?_
  refine AT.aload_n M_183 rfl rfl ?_
  refine AT.r10_13 M_183 rfl h2 h4 ?_
  refine AT.iload_n M_183 rfl rfl ?_
  refine AT.ra_18_0 M_183 rfl rfl h2 h4 (by assumption) ?_
  rw [show (xK (xSetK X o (kSet (kSet (kSet (kSet (xK X o) 12 s 0 0) 13 s 0 (-1)) 14 s 0 0) 15 s 0 ((xK X o).1 18 s 0))) o).1 18 s 0 = (xK X o).1 18 s 0 from by rw [xK_same, kSet_ne (by omega), kSet_ne (by omega), kSet_ne (by omega), kSet_ne (by omega)]]
  refine AT.rs_20 M_183 rfl rfl h2 h4 (by assumption) ?_
  refine AT.aload_n M_183 rfl rfl ?_
  refine AT.r10_16 M_183 rfl h2 h4 ?_
  refine AT.iload_n M_183 rfl rfl ?_
  refine AT.rr_snt M_183 rfl rfl h2 h4 (by assumption) ?_
  refine AT.aload_n M_183 rfl rfl ?_
  refine AT.r10_17 M_183 rfl h2 h4 ?_
  refine AT.iload_n M_183 rfl rfl ?_
  refine AT.rr_tab M_183 rfl rfl h2 h4 (by assumption) ?_
  refine AT.cs20 M_183 rfl M_180 rfl (Nat.le_of_ble_eq_true rfl) rfl (cpy_snt h2 h4 hs) ?_ (Nat.le_of_ble_eq_true rfl) rfl
  refine AT.vret M_183 rfl rfl ?_
  refine ⟨rfl, ?_⟩
  simp only [xD_setK, xSetD_setK, xK_same, xSetK_idem]
  have e : (fun j => (kSet (kSet (kSet (kSet (xK X o) 12 s 0 0) 13 s 0 (-1)) 14 s 0 0) 15 s 0 ((xK X o).1 18 s 0)).1 18 s j) = (xK X o).1 18 s := funext fun j => by rw [kSet_ne (by omega), kSet_ne (by omega), kSet_ne (by omega), kSet_ne (by omega)]
  rw [show (kSet (kSet (kSet (kSet (xK X o) 12 s 0 0) 13 s 0 (-1)) 14 s 0 0) 15 s 0 ((xK X o).1 18 s 0)).1 18 s = (xK X o).1 18 s from e]
  rfl
theorem rRel0.logR {o n p L s : Nat} {X : XS} {e : ENT} (h2 : 2 ≤ o) (hs : s < 7) (hL : 112 ≤ dR (xD X) o s) (hd : 2 * dR (xD X) o s < L) (hLn : L ≤ 14 * n) (D : XD) (hR : dR D = dR (xD X)) (hV : dV D = dV (xD X)) (hZ : dZ D = dZ (xD X) + L) (hC : dC D = dC (xD X) + 1) : rRel0 o n 0 0 X (xSetD X (dLogR D o s p L e)) (xK X o) := by
  have eR : ∀ a b, dR (dLogR D o s p L e) a b = if a = o ∧ b = s then L else dR (xD X) a b := fun a b => by rw [← hR]; rfl
  have hg := rTot_grow (D := xD X) (D' := dLogR D o s p L e) (o := o) hs (fun b hb => by rw [eR, if_neg (fun z => hb z.2)])
  rw [eR o s, if_pos ⟨rfl, rfl⟩] at hg
  refine ⟨rfl, fun a => by by_cases e : a = o; (rw [if_pos e, e]; rfl); (rw [if_neg e]; rfl), fun a b ha => ?_, fun a f i j ha => ?_, ?_, ?_, fun b hb => ?_⟩
  · show dR (dLogR D o s p L e) a b = _
    rw [eR, if_neg (fun z => ha z.1)]
  · show (if a = o ∧ _ then _ else dV D a f i j) = _
    rw [if_neg (fun z => ha z.1), hV]
  · show dZ D + _ ≤ _ + 2 * rTot (dLogR D o s p L e) o + 0
    rw [hZ]; omega
  · show 64 * dC D + _ ≤ _ + rTot (dLogR D o s p L e) o + 64 * 0
    rw [hC]; omega
  · show dR (xD X) o b ≤ dR (dLogR D o s p L e) o b ∧ (dR (dLogR D o s p L e) o b ≤ _ ∨ dR (dLogR D o s p L e) o b ≤ _)
    rw [eR]
    by_cases e : o = o ∧ b = s
    · rw [if_pos e, e.2]; omega
    · rw [if_neg e]; omega
theorem c_184 {X : XS} {o s : Nat} (h2 : 2 ≤ o) (h4 : o < 4) (hs : s < 7) {ent : Nat} (hL0 : 112 ≤ dR (xD X) o s) (hB : dR (xD X) o s < 20000000) (hE : ent < 1000000) (hle : ((xK X o).2.1 s).length ≤ ent) : RU 184 [some (.ref (bB o)), some (.int (Int32.ofNat s)), some (.int (Int32.ofNat ent)), none] X none (fun Y => rRel0 o ent 0 0 X Y (xK X o) ∧ rKeep o X Y ∧ 7 * ent ≤ dR (xD Y) o s) := by
  refine AT.rep (fun hr => ?_)
  obtain ⟨c1, c2, c3, c4, c5, c6, c7⟩ := hr.choose_spec.2.2.2.2.2.2.2.2.1 o s h2 h4 hs
  have hL := hL0
  have hz0 : (dE (xD X) (dC (xD X) + 1)).1 = 0 := by
    have h9 := hr.choose_spec.1.2.2.2
    cases hq : (dE (xD X) (dC (xD X) + 1)).1 with
    | zero => rfl
    | succ n => have := (hr.choose_spec.2.2.2.2.2.2.2.2.2.2.2.2.2.2.2 (dC (xD X) + 1) (by rw [hq]; omega)).1; omega
  refine AT.aload_n M_184 rfl rfl ?_
  refine AT.r10_19 M_184 rfl h2 h4 ?_
  refine AT.iload_n M_184 rfl rfl ?_
  refine AT.rr_log M_184 rfl rfl h2 h4 (by assumption) ?_
  refine AT.l_logR M_184 rfl h2 h4 hs ?_
  refine AT.iload_n M_184 rfl rfl ?_
  refine AT.bipush M_184 rfl (v := 7) (by decide) ?_
  refine AT.imul M_184 rfl rfl ?_
  refine AT.icmp_lt M_184 rfl (fun b8 => ?_) (fun b8 => ?_)
  · rw [show Int32.ofNat ent * 7 = Int32.ofNat (7 * ent) from by rw [Nat.mul_comm, Int32.ofNat_mul]; rfl, i32_lt (by omega) (by omega)] at b8
    refine AT.iconst M_184 rfl (v := 2) (by decide) ?_
    refine AT.iload_n M_184 rfl rfl ?_
    refine AT.imul M_184 rfl rfl ?_
    refine AT.bipush M_184 rfl (v := 7) (by decide) ?_
    refine AT.imul M_184 rfl rfl ?_
    rw [show (2 : Int32) * Int32.ofNat ent * 7 = Int32.ofNat (14 * ent) from by rw [show 14 * ent = 2 * ent * 7 by omega, Int32.ofNat_mul, Int32.ofNat_mul]; rfl]
    refine AT.newi M_184 rfl rfl (by omega) (fun h5 => ?_)
    refine AT.ast3 M_184 rfl rfl ?_
    refine AT.aload_n M_184 rfl rfl ?_
    refine AT.r10_19 M_184 rfl h2 h4 ?_
    refine AT.iload_n M_184 rfl rfl ?_
    refine AT.rr_log M_184 rfl rfl h2 h4 (by assumption) ?_
    refine AT.aload_n M_184 rfl rfl ?_
    refine AT.cs20 M_184 rfl M_180 rfl (Nat.le_of_ble_eq_true rfl) rfl (c_180 (n := dR (xD X) o s) (kd := 12) (v := dV (xD X) o 42 s) (src.log h2 h4 hs (by rw [Nat.zero_add]; exact Nat.le_refl _) (fun q hq => by rw [Nat.zero_add]; rfl)) (fun g hg => (hg.2.2.2.2.2.2.2.2.1 o s h2 h4 hs).2.2.1) (dst.fr h5 (dNewI_E (xD X) (14 * ent)) (by omega)) (by omega) (Or.inl rfl)) ?_ (Nat.le_of_ble_eq_true rfl) rfl
    refine AT.aload_n M_184 rfl rfl ?_
    refine AT.r10_19 M_184 rfl h2 h4 ?_
    refine AT.iload_n M_184 rfl rfl ?_
    refine AT.aload_n M_184 rfl rfl ?_
    refine AT.ws_log (n := 14 * ent) M_184 rfl rfl h2 h4 hs h5 (if_pos rfl) (by show 7 * ((xK X o).2.1 s).length ≤ _; omega) (fun j e1 he k hk => ?_) ?_
    · have hj : j < ((xK X o).2.1 s).length := (List.getElem?_eq_some_iff.mp he).1
      show vPut (fun _ => 0) 0 (dR (xD X) o s) (dV (xD X) o 42 s) (7 * j + k) = e1 k
      unfold vPut
      rw [if_pos ⟨Nat.zero_le _, by omega⟩, Nat.sub_zero]
      exact c7 j e1 he k hk
    · refine AT.vret M_184 rfl rfl ?_
      refine ⟨rfl, ?_, ⟨fun f i j hf => if_neg (fun z => hf z.2.1), fun p n e he => ?_⟩, ?_⟩
      · refine rRel0.logR h2 hs hL (L := 14 * ent) ?_ (Nat.le_refl _) _ rfl rfl rfl rfl
        omega
      · have hp : ¬ p = dC (xD X) + 1 := fun z => by have h9 := hz0; rw [z] at he; rw [he] at h9; have h8 : 100 + n = 0 := h9; omega
        show (if p = dC (xD X) + 1 then _ else if p = dC (xD X) + 1 then _ else if p = dC (xD X) + 1 then _ else dE (xD X) p) = _
        rw [if_neg hp, if_neg hp, if_neg hp]
        exact he
      · show 7 * ent ≤ (if o = o ∧ s = s then 14 * ent else _)
        rw [if_pos ⟨rfl, rfl⟩]; omega
  · refine AT.vret M_184 rfl rfl ?_
    refine ⟨rfl, rRel0.rf o ent X, rKeep.rf o X, ?_⟩
    rw [show Int32.ofNat ent * 7 = Int32.ofNat (7 * ent) from by rw [Nat.mul_comm, Int32.ofNat_mul]; rfl, i32_lt (by omega) (by omega)] at b8
    omega
/-- an entry with another term -/
def eWith (w : Nat → Int32) (t : Int32) : ENT := fun k => if k = 0 then t else w k
theorem rRel0.log {o n c z s : Nat} {X Y : XS} {K : KK} {l : List ENT} (h : rRel0 o n c z X Y K) : rRel0 o n c z X (xSetK Y o (kLog K s l)) (kLog K s l) := by
  obtain ⟨a1, a2, a3, a4, a5, a6, a7⟩ := h
  refine ⟨a1, fun a => ?_, a3, a4, a5, a6, a7⟩
  rw [xK_setK]
  split
  · rfl
  · rename_i e; rw [a2 a, if_neg e]
theorem c_185 {X : XS} {o s : Nat} (h2 : 2 ≤ o) (h4 : o < 4) (hs : s < 7) {b at0 : Nat} {y tm : Int32} {ww : Nat → Int32} (hL0 : 112 ≤ dR (xD X) o s) (hB : dR (xD X) o s < 20000000) (hE : ((xK X o).2.1 s).length + 1 < 1000000) (hat : y = Int32.ofNat at0) (ha2 : at0 < 2147483648) (hsrc : ∀ Y, rKeep o X Y → xK Y o = xK X o → srcV Y b at0 7 ww 12) : RU 185 [some (.ref (bB o)), some (.int (Int32.ofNat s)), some (.ref b), some (.int y), some (.int tm)] X none (fun Y => rRel0 o (((xK X o).2.1 s).length + 1) 0 0 X Y (kLog (xK X o) s ((xK X o).2.1 s ++ [eWith ww tm])) ∧ rKeep o X Y) := by
  refine AT.aload_n M_185 rfl rfl ?_
  refine AT.iload_n M_185 rfl rfl ?_
  refine AT.aload_n M_185 rfl rfl ?_
  refine AT.r10_18 M_185 rfl h2 h4 ?_
  refine AT.iload_n M_185 rfl rfl ?_
  refine AT.ra_siz M_185 rfl rfl h2 h4 (by assumption) ?_
  refine AT.iconst M_185 rfl (v := 1) (by decide) ?_
  refine AT.iadd M_185 rfl (i32_suc1 _) ?_
  refine AT.cv3w M_185 rfl M_184 rfl (Nat.le_of_ble_eq_true rfl) (xKd.of (sh_st h2 h4)) (by decide) (c_184 (ent := ((xK X o).2.1 s).length + 1) h2 h4 hs hL0 hB hE (by omega)) (fun Y hc8 => ?_) (Nat.le_of_ble_eq_true rfl) rfl
  obtain ⟨r1, k1, q1⟩ := hc8
  have eL : ((xK Y o).2.1 s).length = ((xK X o).2.1 s).length := by rw [r1.k]
  have hY := hsrc Y k1 r1.k
  refine AT.rep (fun hr => ?_)
  obtain ⟨c1, c2, c3, c4, c5, c6, c7⟩ := hr.choose_spec.2.2.2.2.2.2.2.2.1 o s h2 h4 hs
  refine AT.aload_n M_185 rfl rfl ?_
  refine AT.iload_n M_185 rfl rfl ?_
  refine AT.aload_n M_185 rfl rfl ?_
  refine AT.r10_19 M_185 rfl h2 h4 ?_
  refine AT.iload_n M_185 rfl rfl ?_
  refine AT.rr_log M_185 rfl rfl h2 h4 (by assumption) ?_
  refine AT.aload_n M_185 rfl rfl ?_
  refine AT.r10_18 M_185 rfl h2 h4 ?_
  refine AT.iload_n M_185 rfl rfl ?_
  refine AT.ra_siz M_185 rfl rfl h2 h4 (by assumption) ?_
  refine AT.bipush M_185 rfl (v := 7) (by decide) ?_
  refine AT.imul M_185 rfl rfl ?_
  refine AT.bipush M_185 rfl (v := 7) (by decide) ?_
  rw [show Int32.ofNat ((xK Y o).2.1 s).length * 7 = Int32.ofNat (7 * ((xK Y o).2.1 s).length) from by rw [Nat.mul_comm 7, Int32.ofNat_mul]; rfl]
  refine AT.acp M_185 rfl rfl (Nat.le_of_ble_eq_true rfl) (show (7 : Int32) = Int32.ofNat 7 from rfl) hat rfl ⟨by omega, by omega, by omega⟩ (Or.inl rfl) hY (dst.log h2 h4 hs (by omega) (fun j' e he k hk => ?_)) ?_
  · have hj := (List.getElem?_eq_some_iff.mp he).1
    unfold vPut
    rw [if_neg (by omega)]
    exact c7 j' e he k hk
  refine AT.aload_n M_185 rfl rfl ?_
  refine AT.r10_19 M_185 rfl h2 h4 ?_
  refine AT.iload_n M_185 rfl rfl ?_
  refine AT.rr_log M_185 rfl rfl h2 h4 (by assumption) ?_
  refine AT.aload_n M_185 rfl rfl ?_
  refine AT.r10_18 M_185 rfl h2 h4 ?_
  refine AT.iload_n M_185 rfl rfl ?_
  refine AT.ra_siz M_185 rfl rfl h2 h4 (by assumption) ?_
  refine AT.bipush M_185 rfl (v := 7) (by decide) ?_
  refine AT.imul M_185 rfl rfl ?_
  refine AT.iconst M_185 rfl (v := 0) (by decide) ?_
  refine AT.iadd M_185 rfl rfl ?_
  refine AT.iload M_185 rfl rfl ?_
  rw [show (xK (xSetD Y (dRowV (xD Y) o 42 s (vPut (dV (xD Y) o 42 s) (7 * ((xK Y o).2.1 s).length) 7 ww))) o) = xK Y o from rfl, show Int32.ofNat ((xK Y o).2.1 s).length * 7 + 0 = Int32.ofNat (7 * ((xK Y o).2.1 s).length) from by rw [Int32.add_zero, Nat.mul_comm 7, Int32.ofNat_mul]; rfl]
  refine AT.rs_log M_185 rfl rfl h2 h4 hs (by show 7 * ((xK Y o).2.1 s).length < dR (xD Y) o s; omega) (by omega) (Nat.le_refl _) ?_
  refine AT.aload_n M_185 rfl rfl ?_
  refine AT.r10_18 M_185 rfl h2 h4 ?_
  refine AT.iload_n M_185 rfl rfl ?_
  refine AT.dup2 M_185 rfl ?_
  refine AT.ra_siz M_185 rfl rfl h2 h4 hs ?_
  refine AT.iconst M_185 rfl (v := 1) (by decide) ?_
  refine AT.iadd M_185 rfl rfl ?_
  refine AT.rs_siz (l' := (xK Y o).2.1 s ++ [eWith ww tm]) M_185 rfl rfl h2 h4 hs (by rw [List.length_append, List.length_singleton]; exact i32_suc1 _) (by rw [List.length_append, List.length_singleton, eL]; exact q1) (fun j' e he k hk => ?_) ?_
  · show (if o = o ∧ 42 = 42 ∧ s = s then (if 7 * j' + k = 7 * ((xK Y o).2.1 s).length then tm else (if o = o ∧ 42 = 42 ∧ s = s then (vPut (dV (xD Y) o 42 s) (7 * ((xK Y o).2.1 s).length) 7 ww) (7 * j' + k) else _)) else _) = e k
    rw [if_pos ⟨rfl, rfl, rfl⟩]
    rcases Nat.lt_or_ge j' ((xK Y o).2.1 s).length with z | z
    · rw [List.getElem?_append_left z] at he
      rw [if_neg (by omega), if_pos ⟨rfl, rfl, rfl⟩]
      unfold vPut
      rw [if_neg (by omega)]
      exact c7 j' e he k hk
    · rw [List.getElem?_append_right z] at he
      have hj0 : j' - ((xK Y o).2.1 s).length = 0 := by
        have := (List.getElem?_eq_some_iff.mp he).1
        rw [List.length_singleton] at this
        omega
      rw [hj0] at he
      have he2 : eWith ww tm = e := Option.some.inj he
      subst he2
      unfold eWith
      by_cases hk0 : k = 0
      · rw [if_pos (by omega), if_pos hk0]
      · rw [if_neg (by omega), if_neg hk0, if_pos ⟨rfl, rfl, rfl⟩]
        unfold vPut
        rw [if_pos (by omega)]
        congr 1
        omega
  refine AT.vret M_185 rfl rfl ?_
  refine ⟨rfl, ?_, ⟨fun f i j hf => ?_, fun p n e he => k1.2 p n e he⟩⟩
  · have r3 := ((r1.row 42 s (vPut (dV (xD Y) o 42 s) (7 * ((xK Y o).2.1 s).length) 7 ww)).row 42 s (fun c => if c = 7 * ((xK Y o).2.1 s).length then tm else dV (xD (xSetD Y (dRowV (xD Y) o 42 s (vPut (dV (xD Y) o 42 s) (7 * ((xK Y o).2.1 s).length) 7 ww)))) o 42 s c)).log (s := s) (l := (xK X o).2.1 s ++ [eWith ww tm])
    rw [← r1.k] at r3 ⊢
    exact r3
  · show (if o = o ∧ f = 42 ∧ i = s then _ else if o = o ∧ f = 42 ∧ i = s then _ else dV (xD Y) o f i j) = _
    rw [if_neg (fun z => hf z.2.1), if_neg (fun z => hf z.2.1)]
    exact k1.1 f i j hf
