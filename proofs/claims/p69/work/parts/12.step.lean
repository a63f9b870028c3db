/-! ===== ONE PLAIN STEP ===== -/
/-- what is known of a frame -/
def qFrm (D : va_G) (dA : Nat → ClassId) (b base : Nat) (p : Program) (l : Launch) (R : Room) (s : State) (m : MethodId) (meth : Method) (c : Code) (o : Nat) (init : Bool) (bc : ByteArray) (nL fr lo : Nat) : Prop :=
  p.tables.exec = Jvm.exec ∧ c.code = bc ∧ c.maxLocals = nL ∧ s.vm.findClass (qOwn o) = some m.cls ∧ meth.locks = false ∧ l.stackTraces = false ∧ qCtx D dA base s ∧ fr ≤ R.frames ∧ lo ≤ R.locals ∧ (init = true → meth.name = "<init>")
abbrev qA (base : Nat) : Nat → Prop := fun q => base ≤ q
theorem qNx_spec {all tl : List PRow} {i x : Nat} (h : qNx tl x = true) (ht : all.drop (i + 1) = tl) : (all[i + 1]?).map (fun r => r.1) = some x := by
  subst ht
  unfold qNx at h
  split at h
  · cases h
  · rename_i r t he
    have h1 : all[i + 1]? = some r := by
      have := List.getElem?_drop (xs := all) (i := i + 1) (j := 0)
      rw [he] at this
      simpa using this.symm
    rw [h1]
    simpa using h
theorem qJp_spec {all : List PRow} {r1 pc : Nat} {off : Int} (h : qJp all r1 pc off = true) : ∃ tgt : Nat, (pc : Int) + off = (tgt : Int) ∧ (all[r1]?).map (fun r => r.1) = some tgt := by
  unfold qJp at h
  split at h
  · cases h
  · rename_i q he
    exact ⟨q.1, of_decide_eq_true h, by rw [he]; rfl⟩
theorem pII_inv {st : List Value} {f : Int32 → Int32 → List Value → Option PR} {q : PR} (h : pII st f = some q) : ∃ x y r, st = .int y :: .int x :: r ∧ f x y r = some q := by
  unfold pII at h
  split at h
  · exact ⟨_, _, _, rfl, h⟩
  · cases h
theorem pI_inv {st : List Value} {f : Int32 → List Value → Option PR} {q : PR} (h : pI st f = some q) : ∃ x r, st = .int x :: r ∧ f x r = some q := by
  unfold pI at h
  split at h
  · exact ⟨_, _, rfl, h⟩
  · cases h
theorem pLL_inv {st : List Value} {f : Int64 → Int64 → List Value → Option PR} {q : PR} (h : pLL st f = some q) : ∃ x y r, st = .long y :: .long x :: r ∧ f x y r = some q := by
  unfold pLL at h
  split at h
  · exact ⟨_, _, _, rfl, h⟩
  · cases h
theorem pDD_inv {st : List Value} {f : UInt64 → UInt64 → List Value → Option PR} {q : PR} (h : pDD st f = some q) : ∃ x y r, st = .double y :: .double x :: r ∧ f x y r = some q := by
  unfold pDD at h
  split at h
  · exact ⟨_, _, _, rfl, h⟩
  · cases h
theorem pLdI_inv {i nx : Nat} {ls : PV} {st : List Value} {g : PS} {q : PR} (h : pLdI i nx ls st g = some q) : ∃ x, ls[i]? = some (some (.int x)) ∧ q = (nx, ls, .int x :: st, g) := by
  unfold pLdI at h
  split at h
  · rename_i x hx; exact ⟨x, hx, (Option.some.inj h).symm⟩
  · cases h
theorem pLdL_inv {i nx : Nat} {ls : PV} {st : List Value} {g : PS} {q : PR} (h : pLdL i nx ls st g = some q) : ∃ x, ls[i]? = some (some (.long x)) ∧ q = (nx, ls, .long x :: st, g) := by
  unfold pLdL at h
  split at h
  · rename_i x hx; exact ⟨x, hx, (Option.some.inj h).symm⟩
  · cases h
theorem pLdD_inv {i nx : Nat} {ls : PV} {st : List Value} {g : PS} {q : PR} (h : pLdD i nx ls st g = some q) : ∃ x, ls[i]? = some (some (.double x)) ∧ q = (nx, ls, .double x :: st, g) := by
  unfold pLdD at h
  split at h
  · rename_i x hx; exact ⟨x, hx, (Option.some.inj h).symm⟩
  · cases h
theorem pLdA_inv {i nx : Nat} {ls : PV} {st : List Value} {g : PS} {q : PR} (h : pLdA i nx ls st g = some q) : (∃ x, ls[i]? = some (some (.ref x)) ∧ q = (nx, ls, .ref x :: st, g)) ∨ (ls[i]? = some (some .null) ∧ q = (nx, ls, .null :: st, g)) := by
  unfold pLdA at h
  split at h
  · rename_i x hx; exact Or.inl ⟨x, hx, (Option.some.inj h).symm⟩
  · rename_i hx; exact Or.inr ⟨hx, (Option.some.inj h).symm⟩
  · cases h
theorem pSt1_inv {i nx : Nat} {v : Value} {ls : PV} {st : List Value} {g : PS} {q : PR} (h : pSt1 i v nx ls st g = some q) : i < ls.length ∧ q = (nx, pSet1 ls i v, st, g) := by
  unfold pSt1 at h
  split at h
  · rename_i hi; exact ⟨hi, (Option.some.inj h).symm⟩
  · cases h
theorem pSt2_inv {i nx : Nat} {v : Value} {ls : PV} {st : List Value} {g : PS} {q : PR} (h : pSt2 i v nx ls st g = some q) : i + 1 < ls.length ∧ q = (nx, pSet2 ls i v, st, g) := by
  unfold pSt2 at h
  split at h
  · rename_i hi; exact ⟨hi, (Option.some.inj h).symm⟩
  · cases h
section QSTEP
variable {p : Program} {l : Launch} {e : Env} {R : Room} {s : State} {m : MethodId} {args : Array Value} {below : List Frame} {meth : Method} {c : Code} {H : Heap} {locs : List Loc} {cells slots : Nat} {Q : State → Prop}
variable {D : va_G} {dA : Nat → ClassId} {b base o nL fr lo : Nat} {init : Bool} {bc : ByteArray} {all tl : List PRow} {i pc : Nat} {lsM : Array Slot} {ls : PV} {st : List Value} {g : PS}
/-- the goal behind a step -/
def qK (D : va_G) (dA : Nat → ClassId) (b base nL : Nat) (all : List PRow) (p : Program) (l : Launch) (e : Env) (R : Room) (s : State) (m : MethodId) (args : Array Value) (below : List Frame) (meth : Method) (c : Code) (c0 z0 : Nat) (Q : State → Prop) (q : PR) : Prop :=
  ∀ (pc' : Nat) (lsM' : Array Slot) (H' : Heap) (locs' : List Loc), (all[q.1]?).map (fun r => r.1) = some pc' → qLs b base nL lsM' q.2.1 → qRel D dA b base q.2.2.2 H' → va_S (qA base) s.heap H' locs' →
    W p l e R s m args below meth c H' locs' (pC q.2.2.2 - c0) (pZ q.2.2.2 - z0) Q (F0 m pc' lsM' (q.2.2.1.map (qSh b base)))
/-- a branch -/
theorem qIf {P : Prop} [Decidable P] {tgt nx t pc3 : Nat} {c0 z0 : Nat} {q : PR} (h : pIf P tgt nx ls st g = some q) (k : qK D dA b base nL all p l e R s m args below meth c c0 z0 Q q)
    (hl : qLs b base nL lsM ls) (hR : qRel D dA b base g H) (hS : va_S (qA base) s.heap H locs) (ht : (all[tgt]?).map (fun r => r.1) = some t) (hn : (all[nx]?).map (fun r => r.1) = some pc3) :
    (P → W p l e R s m args below meth c H locs (pC g - c0) (pZ g - z0) Q (F0 m t lsM (st.map (qSh b base)))) ∧ (¬ P → W p l e R s m args below meth c H locs (pC g - c0) (pZ g - z0) Q (F0 m pc3 lsM (st.map (qSh b base)))) := by
  unfold pIf at h
  have hq := Option.some.inj h
  subst hq
  refine ⟨fun hP => ?_, fun hP => ?_⟩
  · have k1 := k t lsM H locs (by show (all[if P then tgt else nx]?).map _ = _; rw [if_pos hP]; exact ht) hl hR hS
    exact k1
  · have k1 := k pc3 lsM H locs (by show (all[if P then tgt else nx]?).map _ = _; rw [if_neg hP]; exact hn) hl hR hS
    exact k1

/-- the words that a frame may use -/
def qTs : List Cond := lw_tbl.filter qW
theorem qTs_of {w : Cond} (h : w ∈ lw_tbl) (h2 : qW w = true) : w ∈ qTs := List.mem_filter.mpr ⟨h, h2⟩
theorem qW_good {w : Cond} (h : goodWord w = true) : qW w = true := by
  cases w <;> first | rfl | exact h
theorem qHts {s : State} {args : Array Value} (h : qCtx D dA base s) : ∀ w ∈ qTs, w.before args s = true := fun w hw => h.1 w (List.mem_filter.mp hw).1 (List.mem_filter.mp hw).2 args
theorem qLayTs {ci : Nat} (h : ci < 12) : ∀ w ∈ u_ws (qOwn ci) (qTf ci) (pF ci), w ∈ qTs := fun w hw => qTs_of (qLay h w hw).1 (qW_good (qLay h w hw).2)
theorem qFok_spec {idx ci kf j : Nat} (h : qFok o idx ci kf j = true) : ∃ f : QL6, qFn j = f.2.2.2.2.1 ∧ f.1 = o ∧ f.2.1 = idx ∧ f.2.2.1 = ci ∧ f.2.2.2.1 = kf ∧ qFw f ∈ lw_tbl := by
  unfold qFok at h
  unfold qFn
  split at h
  · cases h
  · rename_i f hf
    simp only [Bool.and_eq_true, beq_iff_eq] at h
    refine ⟨f, ?_, h.1, h.2.1, h.2.2.1, h.2.2.2, ?_⟩
    · first | rfl | rw [hf]
    · exact qGet_mem (of_decide_eq_true (List.all_eq_true.mp qFL_ok f (List.mem_of_getElem? hf)))
theorem qArr.of {dA : Nat → ClassId} {kd : Nat} (h : qArr dA kd s) (n : Nat) (f : Nat → Value) : s.isArrayOf (arrV (dA kd) n f) (qTy kd) := by
  obtain ⟨-, kC, comp, h2, h3, -⟩ := h
  exact ⟨fun k z => (by cases z), kC, h2, comp, h3⟩
/-- a field's cell and where it lies -/
theorem qFld {a ci kf : Nat} (hctx : qCtx D dA base s) (hR : qRel D dA b base g H) (ha : pK g a = ci) (hkf : kf < pF ci) : a < pN g ∧ a ≠ 0 ∧ ∃ (cell : Cell) (cf fi : Nat) (kC0 : Class) (f : Field), H[qAd b base a]? = some cell ∧ cell.cls = D.1 ci ∧ cell.vm = .none ∧
    (∀ j, j < pF ci → cell.slots[D.2 ci j]? = some (qSh b base (pM g a j))) ∧ s.fieldFound? (qTf ci kf).1 (qTf ci kf).2.1 (qTf ci kf).2.2.1 = some (cf, kC0, fi, f) ∧ f.slot = D.2 ci kf ∧ f.isStatic = false := by
  have hci := pF_lt hkf
  have hlt : a < pN g := hR.lt (by rw [ha]; omega)
  have h0 : a ≠ 0 := hR.ne0 (by rw [ha]; omega)
  obtain ⟨cell, q1, q2, q3, q4⟩ := (hR.2.2.2.1 a hlt).1.1 (by rw [ha]; exact hci)
  rw [ha] at q2 q4
  obtain ⟨hSl, hfc, kC, hkC, hkind⟩ := hctx.2.1 ci hci
  obtain ⟨cf, kf0, fi, f, hi, hsl⟩ := hSl kf hkf
  exact ⟨hlt, h0, cell, cf, fi, kf0, f, q1, q2, q3, q4, hi, hsl, (u_facts hfc hkC (u_lays (qHts (args := #[]) hctx) (qLayTs hci) hkf) hi).1⟩

theorem q_getfield {len r1 r2 r3 c0 z0 : Nat} {idx : Nat} {q : PR} (F : qFrm D dA b base p l R s m meth c o init bc nL fr lo) (hok : qRowOk o init fr lo bc all tl (pc, .getfield idx, len, r1, r2, r3) = true) (ht : all.drop (i + 1) = tl) (hk : pKind (.getfield idx) r1 = 0)
    (hs : pStep (.getfield idx) (i + 1) r1 r2 ls st g = some q) (hl : qLs b base nL lsM ls) (hR : qRel D dA b base g H) (hS : va_S (qA base) s.heap H locs) (hA : ∀ q : Nat, s.heap.size ≤ q → qA base q) (hc : c0 ≤ pC g) (hz : z0 ≤ pZ g) (hC : pC q.2.2.2 - c0 ≤ R.cells) (hZ : pZ q.2.2.2 - z0 ≤ R.slots)
    (k : qK D dA b base nL all p l e R s m args below meth c c0 z0 Q q) : W p l e R s m args below meth c H locs (pC g - c0) (pZ g - z0) Q (F0 m pc lsM (st.map (qSh b base))) := by
  obtain ⟨hx, hb, hml, hown, hlocks, htr, hctx, hfr, hlo, hinit⟩ := id F
  unfold qRowOk at hok
  simp only [Bool.and_eq_true, decide_eq_true_eq, beq_iff_eq] at hok
  obtain ⟨d, h1, h2, h3⟩ := hok
  subst h1
  unfold pStep at hs
  dsimp only at hs
  split at hs
  · rename_i a r
    split at hs
    · rename_i hP
      have hq := Option.some.inj hs
      subst hq
      obtain ⟨hlt, h0, cell, cf, fi, kC0, f, q1, q2, q3, q4, hi, hsl, hst⟩ := qFld hctx hR hP.1 hP.2
      obtain ⟨f6, g0, g1, g2, g3, g4, hw⟩ := qFok_spec h3
      have hslot : cell.slots[f.slot]? = some (qSh b base (pM g a r2)) := by rw [hsl]; exact q4 r2 hP.2
      unfold qFw at hw
      rw [g1, g2, g3, g4] at hw
      split at hw
      · exact va_Wgetf hx hb hown (qHts (args := args) hctx _ (qTs_of hw rfl)) hi hst q1 (by rw [q3]; exact fun z => by cases z) hslot rfl rfl d (k _ _ _ _ (qNx_spec h2 ht) hl hR hS)
      · exact W.getf hx hb hown (qHts (args := args) hctx _ (qTs_of hw rfl)) hi hst q1 (by rw [q3]; exact fun z => by cases z) hslot rfl rfl d (k _ _ _ _ (qNx_spec h2 ht) hl hR hS)
    · cases hs
  · cases hs

theorem fits_narrow {ty : FieldType} {v : Value} (h : fits ty v = true) (hb : ty = .int ∨ ty = .boolean ∨ ty = .long ∨ ty = .double ∨ (∃ n, ty = .object n) ∨ ∃ t, ty = .array t) : narrow ty v = v := by
  rcases hb with rfl | rfl | rfl | rfl | ⟨n, rfl⟩ | ⟨t, rfl⟩
  · cases v <;> first | rfl | cases h
  · cases v with
    | int x =>
      simp only [fits, Bool.or_eq_true, beq_iff_eq] at h
      rcases h with rfl | rfl <;> rfl
    | _ => first | rfl | cases h
  · cases v <;> rfl
  · cases v <;> rfl
  · cases v <;> rfl
  · cases v <;> rfl
theorem pT_plain {ci kf : Nat} (hci : ci < 12) (h : kf < pF ci) : pT ci kf = .int ∨ pT ci kf = .boolean ∨ pT ci kf = .long ∨ pT ci kf = .double ∨ (∃ n, pT ci kf = .object n) ∨ ∃ t, pT ci kf = .array t := by
  have key : ((List.range 12).all fun ci => (List.range (pF ci)).all fun k => match pT ci k with | .int => true | .boolean => true | .long => true | .double => true | .object _ => true | .array _ => true | _ => false) = true := by decide +kernel
  have h1 := List.all_eq_true.mp (List.all_eq_true.mp key ci (List.mem_range.mpr hci)) kf (List.mem_range.mpr h)
  cases hp : pT ci kf <;> rw [hp] at h1 <;> first
    | exact Or.inl rfl
    | exact Or.inr (Or.inl rfl)
    | exact Or.inr (Or.inr (Or.inl rfl))
    | exact Or.inr (Or.inr (Or.inr (Or.inl rfl)))
    | exact Or.inr (Or.inr (Or.inr (Or.inr (Or.inl ⟨_, rfl⟩))))
    | exact Or.inr (Or.inr (Or.inr (Or.inr (Or.inr ⟨_, rfl⟩))))
    | cases h1
/-- the pure heap behind a field's write -/
theorem qPutF {a ci kf : Nat} {v : Value} {H' : Heap} {cell : Cell} (hctx : qCtx D dA base s) (hR : qRel D dA b base g H) (ha : pK g a = ci) (hkf : kf < pF ci) (hlt : a < pN g) (q2 : cell.cls = D.1 ci) (q3 : cell.vm = .none)
    (q4 : ∀ j, j < pF ci → cell.slots[D.2 ci j]? = some (qSh b base (pM g a j))) (e1 : H'[qAd b base a]? = some (cell.setSlot (D.2 ci kf) (qSh b base v))) (e2 : H'.size = H.size) (e3 : ∀ q, q ≠ qAd b base a → H'[q]? = H[q]?) : qRel D dA b base (pPut g a kf v) H' := by
  have hci := pF_lt hkf
  have hap : ∀ x y, x < pF ci → y < pF ci → x ≠ y → D.2 ci x ≠ D.2 ci y := by
    intro x y hx hy hne
    obtain ⟨hSl, -⟩ := hctx.2.1 ci hci
    obtain ⟨_, _, _, fa, hia, ea⟩ := hSl x hx
    obtain ⟨_, _, _, fb, hib, eb⟩ := hSl y hy
    rw [← ea, ← eb]
    refine u_apart (u_lays (qHts (args := #[]) hctx) (qLayTs hci) hx) (u_lays (qHts (args := #[]) hctx) (qLayTs hci) hy) hia hib ?_
    rw [(State.fieldFound?_type hia (qTf_ok ci hci x hx)).1, (State.fieldFound?_type hib (qTf_ok ci hci y hy)).1]
    exact qTf_nm ci hci x hx y hy hne
  refine hR.put hlt e2 e3 ⟨fun _ => ?_, fun z => ?_, fun z => ?_⟩ ⟨fun z => ?_, fun z => ?_⟩
  · rw [pK_put, ha]
    refine ⟨_, e1, q2, q3, fun j hj => ?_⟩
    rw [t_set q4 hap hkf (qSh b base v) j hj]
    unfold updV
    dsimp only
    rw [pM_put]
    by_cases e : j = kf
    · rw [if_pos e, if_pos ⟨rfl, e⟩]
    · rw [if_neg e, if_neg (fun z => e z.2)]
  · rw [pK_put, ha] at z; omega
  · rw [pK_put, ha] at z; omega
  · rw [pK_put, ha] at z; omega
  · rw [pK_put, ha] at z; omega

theorem qTf_own {ci kf o : Nat} (h : ci = o) (ho : o < 12) (hk : kf < pF ci) : (qTf ci kf).1 = qOwn o := by
  subst h
  have key : ((List.range 12).all fun ci => (List.range (pF ci)).all fun k => decide ((qTf ci k).1 = qOwn ci)) = true := by decide +kernel
  exact of_decide_eq_true (List.all_eq_true.mp (List.all_eq_true.mp key ci (List.mem_range.mpr ho)) kf (List.mem_range.mpr hk))

theorem q_putfield {len r1 r2 r3 c0 z0 : Nat} {idx : Nat} {q : PR} (F : qFrm D dA b base p l R s m meth c o init bc nL fr lo) (hok : qRowOk o init fr lo bc all tl (pc, .putfield idx, len, r1, r2, r3) = true) (ht : all.drop (i + 1) = tl) (hk : pKind (.putfield idx) r1 = 0)
    (hs : pStep (.putfield idx) (i + 1) r1 r2 ls st g = some q) (hl : qLs b base nL lsM ls) (hR : qRel D dA b base g H) (hS : va_S (qA base) s.heap H locs) (hA : ∀ q : Nat, s.heap.size ≤ q → qA base q) (hc : c0 ≤ pC g) (hz : z0 ≤ pZ g) (hC : pC q.2.2.2 - c0 ≤ R.cells) (hZ : pZ q.2.2.2 - z0 ≤ R.slots)
    (k : qK D dA b base nL all p l e R s m args below meth c c0 z0 Q q) : W p l e R s m args below meth c H locs (pC g - c0) (pZ g - z0) Q (F0 m pc lsM (st.map (qSh b base))) := by
  obtain ⟨hx, hb, hml, hown, hlocks, htr, hctx, hfr, hlo, hinit⟩ := id F
  unfold qRowOk at hok
  simp only [Bool.and_eq_true, decide_eq_true_eq, beq_iff_eq] at hok
  obtain ⟨d, h1, h2, h3, h4⟩ := hok
  subst h1
  unfold pStep at hs
  dsimp only at hs
  split at hs
  · rename_i v a r
    split at hs
    · rename_i hP
      have hq := Option.some.inj hs
      subst hq
      obtain ⟨hlt, h0, cell, cf, fi, kC0, f, q1, q2, q3, q4, hi, hsl, hst⟩ := qFld hctx hR hP.1 hP.2.1
      obtain ⟨f6, g0, g1, g2, g3, g4, hw⟩ := qFok_spec h3
      have hci := pF_lt hP.2.1
      obtain ⟨hSl, hfc, kC, hkC, hkind⟩ := hctx.2.1 r1 hci
      have hft := qSh_fits (b := b) (base := base) hP.2.2
      have hnr := fits_narrow hft (pT_plain hci hP.2.1)
      have hlay := qHts (args := args) hctx _ (qLayTs hci _ (u_in_lay hP.2.1))
      have hlts : f.slot < cell.slots.size := by rw [hsl]; exact k2_hasslot (q4 r2 hP.2.1)
      unfold qFw at hw
      rw [g1, g2, g3, g4] at hw
      unfold u_lay at hlay
      by_cases hfin : (qTf r1 r2).2.2.2 = true
      · rw [if_pos hfin] at hlay
        rw [if_pos hfin] at h4
        simp only [Bool.and_eq_true, decide_eq_true_eq, beq_iff_eq] at h4
        obtain ⟨j1, ⟨j2, j3⟩, j4⟩ := h4
        rw [g0] at j4
        rw [if_neg (by rw [j4]; decide)] at hw
        have hcf : m.cls = cf := by
          obtain ⟨_, _, c', _, _, _, -, -, hf', -, -, -, hown2, -⟩ := Cond.laysFinal_spec hlay
          have e1 : c' = cf := by have := hi.symm.trans hf'; simp at this; exact this.1.symm
          have e2 : (qTf r1 r2).1 = qOwn o := qTf_own j2 j3 hP.2.1
          rw [e2] at hown2
          rw [← e1]; exact Option.some.inj (hown.symm.trans hown2)
        have h6 := u_fits hfc hkC hkind (Or.inr hlay) hi (qTf_ok r1 hci r2 hP.2.1) hnr hft
        refine W.putFinK hx hb hown (qHts (args := args) hctx _ (qTs_of hw rfl)) hi hst hcf (hinit j1) (by rw [q2]; exact h6) q1 q3 hlts rfl rfl d fun H' e1 e2 e3 => ?_
        rw [hsl] at e1 ⊢
        exact k _ _ _ _ (qNx_spec h2 ht) hl (qPutF hctx hR hP.1 hP.2.1 hlt q2 q3 q4 e1 e2 e3) (hS.put e2 e3 (qAd_ge h0))
      · rw [if_neg hfin] at hlay
        have h6 := u_store hfc hkC hkind hlay hi (qTf_ok r1 hci r2 hP.2.1) hnr hft
        split at hw
        · refine va_WputK hx hb (f := f) hown (qHts (args := args) hctx _ (qTs_of hw rfl)) hi hst (by rw [q2]; exact h6) q1 q3 hlts rfl rfl d fun H' e1 e2 e3 => ?_
          rw [hsl] at e1 ⊢
          exact k _ _ _ _ (qNx_spec h2 ht) hl (qPutF hctx hR hP.1 hP.2.1 hlt q2 q3 q4 e1 e2 e3) (hS.put e2 e3 (qAd_ge h0))
        · refine W.putK hx hb (f := f) ⟨hown, qHts (args := args) hctx _ (qTs_of hw rfl), ⟨_, _, _, hi⟩, hst⟩ (by rw [q2]; exact h6) q1 q3 hlts rfl rfl d fun H' e1 e2 e3 => ?_
          rw [hsl] at e1 ⊢
          exact k _ _ _ _ (qNx_spec h2 ht) hl (qPutF hctx hR hP.1 hP.2.1 hlt q2 q3 q4 e1 e2 e3) (hS.put e2 e3 (qAd_ge h0))
    · cases hs
  · cases hs

/-- an array's cell -/
theorem qArrC {a : Nat} (hR : qRel D dA b base g H) (h1 : 12 ≤ pK g a) (h2 : pK g a ≤ 19) : a < pN g ∧ a ≠ 0 ∧ H[qAd b base a]? = some (arrV (dA (pK g a)) (pL g a) (fun j => qSh b base (pM g a j))) := by
  have hlt : a < pN g := hR.lt (by omega)
  exact ⟨hlt, hR.ne0 (by omega), (hR.2.2.2.1 a hlt).1.2.1 h1 h2⟩
theorem qTy_ref {kd : Nat} (h1 : 15 ≤ kd) (h2 : kd ≤ 19) : (qTy kd).isReference = true := by
  match kd, h1, h2 with
  | 15, _, _ => exact rfl
  | 16, _, _ => exact rfl
  | 17, _, _ => exact rfl
  | 18, _, _ => exact rfl
  | 19, _, _ => exact rfl
  | n + 20, _, h => exact absurd h (by omega)
/-- the pure heap behind an element's write -/
theorem qPutA {a j : Nat} {v : Value} {H' : Heap} (hR : qRel D dA b base g H) (h1 : 12 ≤ pK g a) (h2 : pK g a ≤ 19) (hv : pK g a = 12 → ∃ x : Int32, v = .int x) (hv2 : pK g a = 14 → v = .int 0 ∨ v = .int 1)
    (e1 : H'[qAd b base a]? = some ((arrV (dA (pK g a)) (pL g a) (fun j => qSh b base (pM g a j))).setSlot j (qSh b base v))) (e2 : H'.size = H.size) (e3 : ∀ q, q ≠ qAd b base a → H'[q]? = H[q]?) : qRel D dA b base (pPut g a j v) H' := by
  obtain ⟨hlt, h0, hcell⟩ := qArrC hR h1 h2
  have ht := (hR.2.2.2.1 a hlt).2
  refine hR.put hlt e2 e3 ⟨fun z => ?_, fun _ _ => ?_, fun z => ?_⟩ ⟨fun z q hq => ?_, fun z q hq => ?_⟩
  · rw [pK_put] at z; omega
  · rw [e1, arrV_store, pK_put, pL_put]
    congr 2
    funext q
    unfold updV
    rw [pM_put]
    by_cases e : q = j
    · rw [if_pos e, if_pos ⟨rfl, e⟩]
    · rw [if_neg e, if_neg (fun z => e z.2)]
  · rw [pK_put] at z; omega
  · rw [pM_put]
    rw [pK_put] at z
    rw [pL_put] at hq
    split
    · exact hv z
    · exact ht.1 z q hq
  · rw [pM_put]
    rw [pK_put] at z
    rw [pL_put] at hq
    split
    · exact hv2 z
    · exact ht.2 z q hq
theorem qIn {a : Nat} {i : Int32} {cA : ClassId} {f : Nat → Value} (h : ¬ (i < 0 ∨ pL g a ≤ i.toNatClampNeg)) : ¬ (i < 0 ∨ (arrV cA (pL g a) f).slots.size ≤ i.toNatClampNeg) := by rw [arrV_size]; exact h
theorem qRd {a : Nat} {i : Int32} {cA : ClassId} {f : Nat → Value} (h : ¬ (i < 0 ∨ pL g a ≤ i.toNatClampNeg)) : (arrV cA (pL g a) f).slots[i.toNatClampNeg]? = some (f i.toNatClampNeg) := arrV_read _ _ (Nat.not_le.mp fun z => h (Or.inr z))

theorem q_arraylength {len r1 r2 r3 c0 z0 : Nat} {q : PR} (F : qFrm D dA b base p l R s m meth c o init bc nL fr lo) (hok : qRowOk o init fr lo bc all tl (pc, .arraylength, len, r1, r2, r3) = true) (ht : all.drop (i + 1) = tl) (hk : pKind (.arraylength) r1 = 0)
    (hs : pStep (.arraylength) (i + 1) r1 r2 ls st g = some q) (hl : qLs b base nL lsM ls) (hR : qRel D dA b base g H) (hS : va_S (qA base) s.heap H locs) (hA : ∀ q : Nat, s.heap.size ≤ q → qA base q) (hc : c0 ≤ pC g) (hz : z0 ≤ pZ g) (hC : pC q.2.2.2 - c0 ≤ R.cells) (hZ : pZ q.2.2.2 - z0 ≤ R.slots)
    (k : qK D dA b base nL all p l e R s m args below meth c c0 z0 Q q) : W p l e R s m args below meth c H locs (pC g - c0) (pZ g - z0) Q (F0 m pc lsM (st.map (qSh b base))) := by
  obtain ⟨hx, hb, hml, hown, hlocks, htr, hctx, hfr, hlo, hinit⟩ := id F
  unfold qRowOk at hok
  simp only [Bool.and_eq_true, decide_eq_true_eq, beq_iff_eq] at hok
  obtain ⟨d, h1, h2⟩ := hok
  subst h1
  unfold pStep at hs
  dsimp only at hs
  split at hs
  · rename_i a r
    split at hs
    · rename_i hP
      have hq := Option.some.inj hs
      subst hq
      by_cases h20 : pK g a = 20
      · have hlt : a < pN g := hR.lt (by omega)
        obtain ⟨scr, q1, q2, q3, q4, q5, -⟩ := (hR.2.2.2.1 a hlt).1.2.2 h20
        obtain ⟨kC, comp, k1, k2⟩ := hctx.2.2.2.1
        exact W.alen hx hb q1 ⟨q3, kC, by rw [q2]; exact k1, comp, k2⟩ (by rw [q5]) rfl rfl d (k _ _ _ _ (qNx_spec h2 ht) hl hR hS)
      · obtain ⟨hlt, h0, hcell⟩ := qArrC hR hP.1 (by omega)
        exact W.alen hx hb hcell ((hctx.2.2.1 (pK g a) hP.1 (by omega)).of _ _) (by rw [arrV_size]) rfl rfl d (k _ _ _ _ (qNx_spec h2 ht) hl hR hS)
    · cases hs
  · cases hs

theorem q_iaload {len r1 r2 r3 c0 z0 : Nat} {q : PR} (F : qFrm D dA b base p l R s m meth c o init bc nL fr lo) (hok : qRowOk o init fr lo bc all tl (pc, .iaload, len, r1, r2, r3) = true) (ht : all.drop (i + 1) = tl) (hk : pKind (.iaload) r1 = 0)
    (hs : pStep (.iaload) (i + 1) r1 r2 ls st g = some q) (hl : qLs b base nL lsM ls) (hR : qRel D dA b base g H) (hS : va_S (qA base) s.heap H locs) (hA : ∀ q : Nat, s.heap.size ≤ q → qA base q) (hc : c0 ≤ pC g) (hz : z0 ≤ pZ g) (hC : pC q.2.2.2 - c0 ≤ R.cells) (hZ : pZ q.2.2.2 - z0 ≤ R.slots)
    (k : qK D dA b base nL all p l e R s m args below meth c c0 z0 Q q) : W p l e R s m args below meth c H locs (pC g - c0) (pZ g - z0) Q (F0 m pc lsM (st.map (qSh b base))) := by
  obtain ⟨hx, hb, hml, hown, hlocks, htr, hctx, hfr, hlo, hinit⟩ := id F
  unfold qRowOk at hok
  simp only [Bool.and_eq_true, decide_eq_true_eq, beq_iff_eq] at hok
  obtain ⟨d, h1, h2⟩ := hok
  subst h1
  unfold pStep at hs
  dsimp only at hs
  split at hs
  · rename_i x a r
    split at hs
    · rename_i hP
      have hq := Option.some.inj hs
      subst hq
      by_cases h20 : pK g a = 20
      · have hlt : a < pN g := hR.lt (by omega)
        obtain ⟨scr, q1, q2, q3, q4, q5, q6⟩ := (hR.2.2.2.1 a hlt).1.2.2 h20
        obtain ⟨kC, comp, k1, k2⟩ := hctx.2.2.2.1
        exact W.iald hx hb q1 ⟨q3, kC, by rw [q2]; exact k1, comp, k2⟩ q4 (by rw [q5]; exact hP.2) (q6 _ (Nat.not_le.mp fun z => hP.2 (Or.inr z))) rfl rfl d (k _ _ _ _ (qNx_spec h2 ht) hl hR hS)
      · have h12 : pK g a = 12 ∨ pK g a = 13 := by rcases hP.1 with z | z | z <;> omega
        obtain ⟨hlt, h0, hcell⟩ := qArrC (a := a) hR (by omega) (by omega)
        have hty := (hctx.2.2.1 (pK g a) (by omega) (by omega)).of (pL g a) (fun j => qSh b base (pM g a j))
        have ety : qTy (pK g a) = .int := by rcases h12 with z | z <;> rw [z] <;> rfl
        rw [ety] at hty
        exact W.iald hx hb hcell hty (fun z => by cases z) (qIn hP.2) (qRd hP.2) rfl rfl d (k _ _ _ _ (qNx_spec h2 ht) hl hR hS)
    · cases hs
  · cases hs

theorem q_laload {len r1 r2 r3 c0 z0 : Nat} {q : PR} (F : qFrm D dA b base p l R s m meth c o init bc nL fr lo) (hok : qRowOk o init fr lo bc all tl (pc, .laload, len, r1, r2, r3) = true) (ht : all.drop (i + 1) = tl) (hk : pKind (.laload) r1 = 0)
    (hs : pStep (.laload) (i + 1) r1 r2 ls st g = some q) (hl : qLs b base nL lsM ls) (hR : qRel D dA b base g H) (hS : va_S (qA base) s.heap H locs) (hA : ∀ q : Nat, s.heap.size ≤ q → qA base q) (hc : c0 ≤ pC g) (hz : z0 ≤ pZ g) (hC : pC q.2.2.2 - c0 ≤ R.cells) (hZ : pZ q.2.2.2 - z0 ≤ R.slots)
    (k : qK D dA b base nL all p l e R s m args below meth c c0 z0 Q q) : W p l e R s m args below meth c H locs (pC g - c0) (pZ g - z0) Q (F0 m pc lsM (st.map (qSh b base))) := by
  cases hs

theorem q_baload {len r1 r2 r3 c0 z0 : Nat} {q : PR} (F : qFrm D dA b base p l R s m meth c o init bc nL fr lo) (hok : qRowOk o init fr lo bc all tl (pc, .baload, len, r1, r2, r3) = true) (ht : all.drop (i + 1) = tl) (hk : pKind (.baload) r1 = 0)
    (hs : pStep (.baload) (i + 1) r1 r2 ls st g = some q) (hl : qLs b base nL lsM ls) (hR : qRel D dA b base g H) (hS : va_S (qA base) s.heap H locs) (hA : ∀ q : Nat, s.heap.size ≤ q → qA base q) (hc : c0 ≤ pC g) (hz : z0 ≤ pZ g) (hC : pC q.2.2.2 - c0 ≤ R.cells) (hZ : pZ q.2.2.2 - z0 ≤ R.slots)
    (k : qK D dA b base nL all p l e R s m args below meth c c0 z0 Q q) : W p l e R s m args below meth c H locs (pC g - c0) (pZ g - z0) Q (F0 m pc lsM (st.map (qSh b base))) := by
  cases hs

theorem q_aaload {len r1 r2 r3 c0 z0 : Nat} {q : PR} (F : qFrm D dA b base p l R s m meth c o init bc nL fr lo) (hok : qRowOk o init fr lo bc all tl (pc, .aaload, len, r1, r2, r3) = true) (ht : all.drop (i + 1) = tl) (hk : pKind (.aaload) r1 = 0)
    (hs : pStep (.aaload) (i + 1) r1 r2 ls st g = some q) (hl : qLs b base nL lsM ls) (hR : qRel D dA b base g H) (hS : va_S (qA base) s.heap H locs) (hA : ∀ q : Nat, s.heap.size ≤ q → qA base q) (hc : c0 ≤ pC g) (hz : z0 ≤ pZ g) (hC : pC q.2.2.2 - c0 ≤ R.cells) (hZ : pZ q.2.2.2 - z0 ≤ R.slots)
    (k : qK D dA b base nL all p l e R s m args below meth c c0 z0 Q q) : W p l e R s m args below meth c H locs (pC g - c0) (pZ g - z0) Q (F0 m pc lsM (st.map (qSh b base))) := by
  obtain ⟨hx, hb, hml, hown, hlocks, htr, hctx, hfr, hlo, hinit⟩ := id F
  unfold qRowOk at hok
  simp only [Bool.and_eq_true, decide_eq_true_eq, beq_iff_eq] at hok
  obtain ⟨d, h1, h2⟩ := hok
  subst h1
  unfold pStep at hs
  dsimp only at hs
  split at hs
  · rename_i x a r
    split at hs
    · rename_i hP
      have hq := Option.some.inj hs
      subst hq
      obtain ⟨hlt, h0, hcell⟩ := qArrC (a := a) hR (by omega) (by omega)
      have hty := (hctx.2.2.1 (pK g a) (by omega) (by omega)).of (pL g a) (fun j => qSh b base (pM g a j))
      exact W.aald hx hb hcell hty (qTy_ref hP.1 hP.2.1) (fun z => by cases z) (qIn hP.2.2) (qRd hP.2.2) rfl rfl d (k _ _ _ _ (qNx_spec h2 ht) hl hR hS)
    · cases hs
  · cases hs

theorem q_iastore {len r1 r2 r3 c0 z0 : Nat} {q : PR} (F : qFrm D dA b base p l R s m meth c o init bc nL fr lo) (hok : qRowOk o init fr lo bc all tl (pc, .iastore, len, r1, r2, r3) = true) (ht : all.drop (i + 1) = tl) (hk : pKind (.iastore) r1 = 0)
    (hs : pStep (.iastore) (i + 1) r1 r2 ls st g = some q) (hl : qLs b base nL lsM ls) (hR : qRel D dA b base g H) (hS : va_S (qA base) s.heap H locs) (hA : ∀ q : Nat, s.heap.size ≤ q → qA base q) (hc : c0 ≤ pC g) (hz : z0 ≤ pZ g) (hC : pC q.2.2.2 - c0 ≤ R.cells) (hZ : pZ q.2.2.2 - z0 ≤ R.slots)
    (k : qK D dA b base nL all p l e R s m args below meth c c0 z0 Q q) : W p l e R s m args below meth c H locs (pC g - c0) (pZ g - z0) Q (F0 m pc lsM (st.map (qSh b base))) := by
  obtain ⟨hx, hb, hml, hown, hlocks, htr, hctx, hfr, hlo, hinit⟩ := id F
  unfold qRowOk at hok
  simp only [Bool.and_eq_true, decide_eq_true_eq, beq_iff_eq] at hok
  obtain ⟨d, h1, h2⟩ := hok
  subst h1
  unfold pStep at hs
  dsimp only at hs
  split at hs
  · rename_i x y a r
    split at hs
    · rename_i hP
      have hq := Option.some.inj hs
      subst hq
      have h12 : pK g a = 12 ∨ pK g a = 13 := by
        have z9 := pKd_or r1
        have z8 := hP.1
        omega
      have hP2 := hP.2
      clear hP
      obtain ⟨hlt, h0, hcell⟩ := qArrC (a := a) hR (by omega) (by omega)
      have hty := (hctx.2.2.1 (pK g a) (by omega) (by omega)).of (pL g a) (fun j => qSh b base (pM g a j))
      have ety : qTy (pK g a) = .int := by rcases h12 with z | z <;> rw [z] <;> rfl
      rw [ety] at hty
      exact W.iast hx hb hcell hty (fun z => by cases z) (qIn hP2) rfl rfl d (fun H' e1 e2 e3 => k _ _ _ _ (qNx_spec h2 ht) hl (qPutA hR (by omega) (by omega) (fun _ => ⟨x, rfl⟩) (fun z => absurd z (by omega)) (by rw [e1]; rfl) e2 e3) (hS.put e2 e3 (qAd_ge h0)))
    · cases hs
  · cases hs

theorem q_lastore {len r1 r2 r3 c0 z0 : Nat} {q : PR} (F : qFrm D dA b base p l R s m meth c o init bc nL fr lo) (hok : qRowOk o init fr lo bc all tl (pc, .lastore, len, r1, r2, r3) = true) (ht : all.drop (i + 1) = tl) (hk : pKind (.lastore) r1 = 0)
    (hs : pStep (.lastore) (i + 1) r1 r2 ls st g = some q) (hl : qLs b base nL lsM ls) (hR : qRel D dA b base g H) (hS : va_S (qA base) s.heap H locs) (hA : ∀ q : Nat, s.heap.size ≤ q → qA base q) (hc : c0 ≤ pC g) (hz : z0 ≤ pZ g) (hC : pC q.2.2.2 - c0 ≤ R.cells) (hZ : pZ q.2.2.2 - z0 ≤ R.slots)
    (k : qK D dA b base nL all p l e R s m args below meth c c0 z0 Q q) : W p l e R s m args below meth c H locs (pC g - c0) (pZ g - z0) Q (F0 m pc lsM (st.map (qSh b base))) := by
  cases hs

theorem pNarB (x : Int32) : narrow .boolean (.int x) = .int 0 ∨ narrow .boolean (.int x) = .int 1 := by
  show Value.int (x &&& 1) = .int 0 ∨ Value.int (x &&& 1) = .int 1
  have h : x &&& 1 = 0 ∨ x &&& 1 = 1 := by
    obtain ⟨j, hj, e⟩ := pk_andE x (m := 1) 1 (by decide)
    rw [e]
    match j, hj with
    | 0, _ => exact Or.inl rfl
    | 1, _ => exact Or.inr rfl
    | n + 2, h => omega
  rcases h with h | h <;> rw [h]
  · exact Or.inl rfl
  · exact Or.inr rfl

theorem q_bastore {len r1 r2 r3 c0 z0 : Nat} {q : PR} (F : qFrm D dA b base p l R s m meth c o init bc nL fr lo) (hok : qRowOk o init fr lo bc all tl (pc, .bastore, len, r1, r2, r3) = true) (ht : all.drop (i + 1) = tl) (hk : pKind (.bastore) r1 = 0)
    (hs : pStep (.bastore) (i + 1) r1 r2 ls st g = some q) (hl : qLs b base nL lsM ls) (hR : qRel D dA b base g H) (hS : va_S (qA base) s.heap H locs) (hA : ∀ q : Nat, s.heap.size ≤ q → qA base q) (hc : c0 ≤ pC g) (hz : z0 ≤ pZ g) (hC : pC q.2.2.2 - c0 ≤ R.cells) (hZ : pZ q.2.2.2 - z0 ≤ R.slots)
    (k : qK D dA b base nL all p l e R s m args below meth c c0 z0 Q q) : W p l e R s m args below meth c H locs (pC g - c0) (pZ g - z0) Q (F0 m pc lsM (st.map (qSh b base))) := by
  cases hs

end QSTEP
