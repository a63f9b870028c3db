/-! ===== THE MACHINE DOES WHAT THE PURE MACHINE DOES ===== -/
def qFm (D : va_G) (dA : Nat → ClassId) (b base : Nat) (p : Program) (l : Launch) (R : Room) (s : State) (mid : MethodId) (meth : Method) (c : Code) (m : Nat) : Prop :=
  qFrm D dA b base p l R s mid meth c (qmO m) (decide ((qmY m).name = "<init>")) (qmB m) (qmL m) (qmF m) (qmG m) ∧ c.exceptionTable.toList = tableOf (qmH m) ∧ meth.sig.returnType = qmR m
/-- what a frame owes at its end -/
def qEnd (D : va_G) (dA : Nat → ClassId) (b base : Nat) (below : List Frame) (args : Array Value) (s : State) (c0 z0 : Nat) (o : PO) (g' : PS) : State → Prop := match o with
  | .inl v => MQ below (qQr D dA b base v g') args s (pC g' - c0) (pZ g' - z0) (qA base)
  | .inr e => vx_MQ below (fun _ _ _ _ => False) (qXr D dA b base e g') args s (pC g' - c0) (pZ g' - z0) (qA base)
/-- THE SIMULATION, for runs of n steps -/
def qSimAt (D : va_G) (dA : Nat → ClassId) (b base : Nat) (l : Launch) (n : Nat) : Prop := ∀ (m i : Nat) (ls : PV) (st : List Value) (g : PS) (o : PO) (g' : PS), pRun qPT n m i ls st g = some (o, g') →
  ∀ (p : Program) (e : Env) (R : Room) (s : State) (mid : MethodId) (args : Array Value) (below : List Frame) (meth : Method) (c : Code) (c0 z0 : Nat), m < 381 → qFm D dA b base p l R s mid meth c m →
    c0 ≤ pC g → z0 ≤ pZ g → pC g' - c0 ≤ R.cells → pZ g' - z0 ≤ R.slots → qK D dA b base (qmL m) (qRows m) p l e R s mid args below meth c c0 z0 (qEnd D dA b base below args s c0 z0 o g') (i, ls, st, g)
section QSIM
variable {D : va_G} {dA : Nat → ClassId} {b base : Nat} {l : Launch} {n : Nat}
theorem qFm_of {p : Program} {S : Spec} {e : Env} {R : Room} {s s₁ : State} {mid : MethodId} {args : Array Value} {below : List Frame} {meth : Method} {c : Code} {m : Nat} (hm : m < 381) (h2 : m ≠ 378) (hlt : l.stackTraces = false)
    (B : BodyLoose p l (qmY m) S (qmB m) (qmL m) (qmR m) e s mid args below meth c s₁) (hml : c.maxLocals = qmL m) (ht : c.exceptionTable.toList = tableOf (qmH m)) (hctx : qCtx D dA base s) (hfr : qmF m ≤ R.frames) (hlo : qmG m ≤ R.locals) : qFm D dA b base p l R s mid meth c m := by
  obtain ⟨-, g2, -⟩ := qMo_spec hm h2
  refine ⟨⟨B.exec, B.bytes, hml, ?_, B.notSynchronized, hlt, hctx, hfr, hlo, fun z => ?_⟩, ht, B.returns⟩
  · rw [← g2]; exact findClass_of_methodNamed B.named
  · rw [(name_of_methodNamed B.named B.method).1]; exact of_decide_eq_true z
/-- a method that returns -/
theorem qMet {m : Nat} {av : List Value} {g g' : PS} {v : Option Value} (hOK : qAllOk) (ih : qSimAt D dA b base l n) (hm : m < 381) (h2 : m ≠ 378) (hlt : l.stackTraces = false) (hr : pRun qPT n m 0 (pEntry (qmL m) av) [] g = some (.inl v, g')) (he : (pEnt av).length ≤ qmL m) :
    Met l (qmY m) [qCw (qMI m)] { frames := qmF m, locals := qmG m, cells := pC g' - pC g, slots := pZ g' - pZ g } (qPc D dA b base av g) (qQr D dA b base v g') (pC g' - pC g) (pZ g' - pZ g) (qA base) := by
  obtain ⟨g1, -⟩ := qMo_spec hm h2
  rw [qCw_eq]
  refine qOfW g1 ?_
  intro p e s mid args below meth c s₁ B hml ht hP
  obtain ⟨ha, hctx, hR⟩ := hP
  have hF : qFm D dA b base p l { frames := qmF m, locals := qmG m, cells := pC g' - pC g, slots := pZ g' - pZ g } s mid meth c m := qFm_of hm h2 hlt B hml ht hctx (Nat.le_refl _) (Nat.le_refl _)
  obtain ⟨r0, hr0, hr1⟩ := (hOK m hm).2
  have h := ih m 0 _ _ g _ g' hr p e _ s mid args below meth c (pC g) (pZ g) hm hF (Nat.le_refl _) (Nat.le_refl _) (Nat.le_refl _) (Nat.le_refl _) 0 _ s.heap [] (by show ((qRows m)[0]?).map _ = _; rw [hr0]; exact congrArg some hr1) (qEntry he) hR va_S.rf
  subst ha
  rw [lg_entry_eq]
  simp only [Nat.sub_self] at h
  exact h
theorem qCw_nil {c : QMI} (h : c.2.2.2.2.2.2.2.2.2.1 = []) : qCw c = Cond.code c.2.1 c.2.2.1 c.2.2.2.1 c.2.2.2.2.1 := by
  rw [qCw_eq, h]; rfl
theorem qCw_cons {c : QMI} {h : Nat × Nat × Nat × Nat} {t : List (Nat × Nat × Nat × Nat)} (e : c.2.2.2.2.2.2.2.2.2.1 = h :: t) : qCw c = Cond.codeWith c.2.1 c.2.2.1 c.2.2.2.1 c.2.2.2.2.1 (h :: t) := by
  rw [qCw_eq, e]; rfl
/-- a method that throws -/
theorem qMetX {m : Nat} {av : List Value} {g g' : PS} {x : Nat} (hOK : qAllOk) (ih : qSimAt D dA b base l n) (hm : m < 381) (h2 : m ≠ 378) (hlt : l.stackTraces = false) (hr : pRun qPT n m 0 (pEntry (qmL m) av) [] g = some (.inr x, g')) (he : (pEnt av).length ≤ qmL m) :
    vx_Met l (qmY m) [qCw (qMI m)] { frames := qmF m, locals := qmG m, cells := pC g' - pC g, slots := pZ g' - pZ g } (qPc D dA b base av g) (fun _ _ _ _ => False) (qXr D dA b base x g') (pC g' - pC g) (pZ g' - pZ g) (qA base) := by
  obtain ⟨g1, -⟩ := qMo_spec hm h2
  have hd : qHd m = [] := pRun_inr qPT n m 0 _ _ g x g' hr
  have hh := qH_none hm hd
  refine vx_ofW (ws' := []) (cc := qmB m) (maxL := qmL m) (ret := qmR m) g1 (by rw [qCw_nil hh]) ?_
  intro p e s mid args below meth c s₁ B hml ht hP
  obtain ⟨ha, hctx, hR⟩ := hP
  have ht2 : c.exceptionTable.toList = tableOf (qmH m) := by
    rw [hh]
    exact List.eq_nil_iff_forall_not_mem.mpr fun z hz => ht z hz
  have hF : qFm D dA b base p l { frames := qmF m, locals := qmG m, cells := pC g' - pC g, slots := pZ g' - pZ g } s mid meth c m := qFm_of hm h2 hlt B hml ht2 hctx (Nat.le_refl _) (Nat.le_refl _)
  obtain ⟨r0, hr0, hr1⟩ := (hOK m hm).2
  have h := ih m 0 _ _ g _ g' hr p e _ s mid args below meth c (pC g) (pZ g) hm hF (Nat.le_refl _) (Nat.le_refl _) (Nat.le_refl _) (Nat.le_refl _) 0 _ s.heap [] (by show ((qRows m)[0]?).map _ = _; rw [hr0]; exact congrArg some hr1) (qEntry he) hR va_S.rf
  subst ha
  rw [lg_entry_eq]
  simp only [Nat.sub_self] at h
  exact h
theorem pPop_inv {k : Nat} {st : List Value} {q : List Value × List Value} (h : pPop k st = some q) : st = q.1.reverse ++ q.2 ∧ q.1.length = k := by
  unfold pPop at h
  split at h
  · rename_i hk
    cases h
    refine ⟨?_, ?_⟩
    · show st = (st.take k).reverse.reverse ++ st.drop k
      rw [List.reverse_reverse, List.take_append_drop]
    · show (st.take k).reverse.length = k
      rw [List.length_reverse, List.length_take]
      omega
  · cases h
variable {p : Program} {e : Env} {R : Room} {s : State} {m : MethodId} {args : Array Value} {below : List Frame} {meth : Method} {c : Code} {H : Heap} {locs : List Loc} {cells slots : Nat} {Q : State → Prop}
/-- behind a call that has returned -/
theorem qBack {mc ms pc : Nat} {lsM : Array Slot} {st9 rest9 : List Value} {v : Option Value} {g1 : PS} {a : Array Value} (hr : va_Run p l e R s m args below meth c H locs cells slots mc ms (F0 m pc lsM st9) rest9 (qQr D dA b base v g1 a) (qA base)) (hS : va_S (qA base) s.heap H locs)
    (k : ∀ (H' : Heap) (locs' : List Loc), qRel D dA b base g1 H' → va_S (qA base) s.heap H' locs' → W p l e R s m args below meth c H' locs' (cells + mc) (slots + ms) Q (F0 m (pc + 3) lsM ((v.map (qSh b base)).toList ++ rest9))) : W p l e R s m args below meth c H locs cells slots Q (F0 m pc lsM st9) := by
  intro T hT X
  obtain ⟨v', st₀, t, T', L, h0, X', hL, e1, e2, ⟨hv, hR, hF⟩, st⟩ := hr T hT X
  cases hv
  obtain ⟨k1, k2, k3⟩ := vx_keep h0 e1 hS (fun _ _ h => h) (fun _ h => h) hL hF
  obtain ⟨t2, a1, b1⟩ := k T'.heap (locs ++ L) (by rw [e1]; exact hR) k3 T' rfl X'
  exact ⟨t2, st t2 a1, b1⟩
/-- behind a call that has thrown -/
theorem qBackX {mc ms pc x : Nat} {lsM : Array Slot} {st9 rest9 : List Value} {g1 : PS} (hr : vx_Run p l e R s m args below meth c H locs cells slots mc ms (F0 m pc lsM st9) rest9 (fun _ _ _ => False) (qXr D dA b base x g1) (qA base)) (hS : va_S (qA base) s.heap H locs)
    (k : ∀ (H' : Heap) (locs' : List Loc) (ce : Cell) (q : Addr), qRel D dA b base g1 H' → va_S (qA base) s.heap H' locs' → H'[q]? = some ce → ce.vm = .none → s.vm.findClass (qEx x) = some ce.cls → vx_W p l e R s m args below meth c H' locs' (cells + mc) (slots + ms) Q (F0 m pc lsM rest9) q) : W p l e R s m args below meth c H locs cells slots Q (F0 m pc lsM st9) := by
  intro T hT X
  rcases hr T hT X with ⟨v, st₀, t, T', L, h0, X', hL, e1, e2, hb, st⟩ | ⟨q, st₀, t, T', L, E, ce, h0, X', hL, e1, e2, ⟨hE, hR, hF⟩, hce, hcv, hcl, st⟩
  · exact hb.elim
  · subst hE
    obtain ⟨k1, k2, k3⟩ := vx_keep h0 e1 hS (fun _ _ h => h) (fun _ h => h) hL hF
    obtain ⟨t2, a1, b1⟩ := k T'.heap (locs ++ L) ce q (by rw [e1]; exact hR) k3 (by rw [e1]; exact hce) hcv hcl T' rfl X'
    exact ⟨t2, st.trans a1, b1⟩
/-- a receiver's cell -/
theorem qRcv {a o : Nat} {g : PS} (hctx : qCtx D dA base s) (hR : qRel D dA b base g H) (ha : pK g a = o) (ho : o < 12) : ∃ cellB : Cell, H[qAd b base a]? = some cellB ∧ cellB.vm.isStatics = false ∧ s.vm.findClass (qOwn o) = some cellB.cls := by
  have hlt : a < pN g := hR.lt (by omega)
  obtain ⟨cell, q1, q2, q3, q4⟩ := (hR.2.2.2.1 a hlt).1.1 (by omega)
  rw [ha] at q2
  obtain ⟨hSl, hfc, -⟩ := hctx.2.1 o ho
  exact ⟨cell, q1, by rw [q3]; rfl, by rw [q2]; exact hfc⟩
theorem qPcOf {av : List Value} {g : PS} {U : State} (hctx : qCtx D dA base s) (hR : qRel D dA b base g H) (hS : va_S (qA base) s.heap H locs) (hU : U.heap = H) (hW : s.WarmedH U.vm) : qPc D dA b base av g (av.map (qSh b base)).toArray U :=
  ⟨rfl, hctx.moved hW (by rw [hU]; exact Nat.le_trans hctx.2.2.2.2.1 hS.1) (fun q h1 h2 => by rw [hU]; exact hS.2.1 q h1 h2), by rw [hU]; exact hR⟩
theorem qStV {st rest As : List Value} {a : Nat} (h : st = (Value.ref a :: As).reverse ++ rest) : st.map (qSh b base) = (As.map (qSh b base)).reverse ++ .ref (qAd b base a) :: rest.map (qSh b base) := by
  subst h
  simp [List.map_reverse, qSh]
theorem qStS {st rest av : List Value} (h : st = av.reverse ++ rest) : st.map (qSh b base) = (av.map (qSh b base)).reverse ++ rest.map (qSh b base) := by
  subst h
  simp [List.map_reverse]
/-- a call that returns -/
theorem qCallR {mm i pc len r1 r2 r3 c0 z0 : Nat} {ins : Instr} {tl : List PRow} {ls : PV} {lsM : Array Slot} {st av rest : List Value} {g g1 : PS} {v : Option Value} (hOK : qAllOk) (ih : qSimAt D dA b base l n) (F : qFm D dA b base p l R s m meth c mm)
    (hok : qRowOk (qmO mm) (decide ((qmY mm).name = "<init>")) (qmF mm) (qmG mm) (qmB mm) (qRows mm) tl (pc, ins, len, r1, r2, r3) = true) (ht : (qRows mm).drop (i + 1) = tl) (hk : pKind ins r1 = 2) (hp : pPop (qmN (r1 - 10)) st = some (av, rest)) (hsm : rest.length ≤ 4 ∨ (rest.map fun v => v.category).sum ≤ 8)
    (he : (pEnt av).length ≤ qmL (r1 - 10)) (hv : pRv ins (qmO (r1 - 10)) av g = true) (hr : pRun qPT n (r1 - 10) 0 (pEntry (qmL (r1 - 10)) av) [] g = some (.inl v, g1)) (hl : qLs b base (qmL mm) lsM ls) (hR : qRel D dA b base g H) (hS : va_S (qA base) s.heap H locs)
    (hC : (pC g - c0) + (pC g1 - pC g) ≤ R.cells) (hZ : (pZ g - z0) + (pZ g1 - pZ g) ≤ R.slots) :
    va_Run p l e R s m args below meth c H locs (pC g - c0) (pZ g - z0) (pC g1 - pC g) (pZ g1 - pZ g) (F0 m pc lsM (st.map (qSh b base))) (rest.map (qSh b base)) (qQr D dA b base v g1 #[]) (qA base) ∧ ((qRows mm)[i + 1]?).map (fun r => r.1) = some (pc + 3) := by
  obtain ⟨⟨hx, hb, hml, hown, hlocks, htr, hctx, hfr, hlo, hinit⟩, htab, hret⟩ := id F
  obtain ⟨e1, e2⟩ := pPop_inv hp
  dsimp only at e1 e2
  have hW8 : 2 * (F0 m pc lsM (st.map (qSh b base))).monitorRoom + ((rest.map (qSh b base)).map fun v => v.category).sum ≤ 8 := by
    have := qSm (b := b) (base := base) hsm
    show 2 * 0 + _ ≤ 8
    omega
  have hts := qHts (args := args) hctx
  have htn := qHts (args := #[]) hctx
  have FX : CallFix p m c (qmB mm) (qmL mm) s args qTs (qOwn (qmO mm)) := ⟨hx, hb, hml, hown, hts⟩
  unfold qRowOk at hok
  cases ins <;> try (exact absurd hk (by decide))
  case invokevirtual idx =>
    simp only [Bool.and_eq_true, decide_eq_true_eq, beq_iff_eq] at hok
    obtain ⟨d, h1, h2, h3⟩ := hok
    subst h1
    refine ⟨?_, qNx_spec h2 ht⟩
    obtain ⟨nest, hn, hlw, f0, f1, f2, f3, f4⟩ := qMok_spec h3
    have h10 : 4 ≤ r1 := by
      rcases Nat.lt_or_ge r1 4 with z | z
      · have z1 := (f3 (by omega)).2
        split at z1 <;> omega
      · exact z
    obtain ⟨i1, i2, i3, i4, i5, i6, i7, -, -⟩ := f4 h10
    obtain ⟨s1, s2, s3⟩ := i7 rfl
    obtain ⟨g1', g2, g3, g4, g5, g6, g7⟩ := qMo_spec i2 i3
    have hmn : qMn r1 = qmY (r1 - 10) := by
      unfold qMn
      rw [if_neg (by omega), if_neg (by omega), if_neg (by omega), if_neg (by omega)]
    rw [hmn] at hlw
    rw [if_neg (by omega)] at g6
    unfold pRv at hv
    dsimp only at hv
    cases av with
    | nil => cases hv
    | cons v0 As =>
      cases v0 <;> try (exact absurd (show false = true from hv) (by decide))
      case ref a =>
        have hv2 := of_decide_eq_true hv
        have hlen : As.length + 1 = qmN (r1 - 10) := e2
        have hd1 : (parseMethodDescriptor (qmY (r1 - 10)).desc).map (fun d => d.parameters.length) = some (As.map (qSh b base)).length := by
          rw [g4, List.length_map, s1]
          exact congrArg some (by omega)
        have hM := qMet (av := .ref a :: As) hOK ih i2 i3 htr hr he
        have hcell := qRcv hctx hR hv2.1 hv2.2
        have hPV : PreV s H (qOwn (qmO (r1 - 10))) (qAd b base a) (qPc D dA b base (.ref a :: As) g) (As.map (qSh b base)) := ⟨qPc_blind, hcell, fun U hU hW => qPcOf hctx hR hS hU hW⟩
        have hcw := qCw_nil s2
        have hinW : Cond.initialized (qOwn (qmO (r1 - 10))) ∈ lw_tbl := by rw [← g2]; exact g7
        rcases i4 with z | z
        · rw [if_neg (by omega)] at hlw
          have cw := cwV (R := R) (own := qOwn (qmO mm)) (C := qOwn (qmO (r1 - 10))) (index := idx) (y := qmY (r1 - 10)) (bytes := qmB (r1 - 10)) (maxL := qmL (r1 - 10)) (ret := qmR (r1 - 10)) (ws := [qCw (qMI (r1 - 10))]) (ws' := []) (rm := { frames := qmF (r1 - 10), locals := qmG (r1 - 10), cells := pC g1 - pC g, slots := pZ g1 - pZ g }) (mc := pC g1 - pC g) (ms := pZ g1 - pZ g) (As.map (qSh b base)).length hts
            (fun w hw => by
              unfold wsV at hw
              rcases List.mem_append.mp hw with hw | hw
              · simp only [List.mem_cons, List.not_mem_nil, or_false] at hw
                rcases hw with rfl | rfl | rfl | rfl
                · exact ⟨qTs_of hlw rfl, Or.inl rfl⟩
                · exact ⟨qTs_of g6 rfl, Or.inl rfl⟩
                · exact ⟨qTs_of s3 rfl, Or.inl rfl⟩
                · exact ⟨qTs_of hinW rfl, Or.inl rfl⟩
              · exact qCw_in i2 i3 w hw) (by rw [hcw]) rfl rfl ⟨g2, g3.1, g3.2, hd1⟩ ⟨by show qmF (r1 - 10) + 1 ≤ _; omega, by show 8 + (qmL (r1 - 10) + 11) + qmG (r1 - 10) ≤ _; omega⟩
          exact va_runV FX hM cw hPV rfl rfl hl.1 (qStV e1) hW8 d ⟨hC, hZ⟩
        · rw [if_pos z] at hlw
          have cw := va_cnB (R := R) (own := qOwn (qmO mm)) (host := if qmO mm ≤ 9 then RX9 else RX11) (index := idx) (y := qmY (r1 - 10)) (bytes := qmB (r1 - 10)) (maxL := qmL (r1 - 10)) (ret := qmR (r1 - 10)) (ws := [qCw (qMI (r1 - 10))]) (ws' := []) (rm := { frames := qmF (r1 - 10), locals := qmG (r1 - 10), cells := pC g1 - pC g, slots := pZ g1 - pZ g }) (mc := pC g1 - pC g) (ms := pZ g1 - pZ g) (As.map (qSh b base)).length hts
            (qCw_in i2 i3) (by rw [hcw]) rfl rfl (htn _ (qTs_of hlw rfl)) (hts _ (qTs_of g7 rfl)) ⟨g3.1, g3.2, hd1⟩ ⟨by show qmF (r1 - 10) + 1 ≤ _; omega, by show 8 + (qmL (r1 - 10) + 11) + qmG (r1 - 10) ≤ _; omega⟩
          exact va_runVN FX hM ⟨cw, hts _ (qTs_of g6 rfl), hts _ (qTs_of s3 rfl)⟩ hPV rfl rfl hl.1 (qStV e1) hW8 d ⟨hC, hZ⟩
  case invokestatic idx =>
    simp only [Bool.and_eq_true, decide_eq_true_eq, beq_iff_eq] at hok
    obtain ⟨d, h1, h2, h3⟩ := hok
    subst h1
    refine ⟨?_, qNx_spec h2 ht⟩
    obtain ⟨nest, hn, hlw, f0, f1, f2, f3, f4⟩ := qMok_spec h3
    have h10 : 4 ≤ r1 := by
      rcases Nat.lt_or_ge r1 4 with z | z
      · unfold pKind at hk
        dsimp only at hk
        split at hk
        · omega
        · first | omega | (rw [if_pos z] at hk; omega)
      · exact z
    obtain ⟨i1, i2, i3, i4, i5, i6, -, i7, -⟩ := f4 h10
    obtain ⟨s1, s2⟩ := i7 rfl
    obtain ⟨g1', g2, g3, g4, g5, g6, g7⟩ := qMo_spec i2 i3
    have hmn : qMn r1 = qmY (r1 - 10) := by
      unfold qMn
      rw [if_neg (by omega), if_neg (by omega), if_neg (by omega), if_neg (by omega)]
    rw [hmn] at hlw
    rw [if_pos s1] at g6
    have hd1 : (parseMethodDescriptor (qmY (r1 - 10)).desc).map (fun d => d.parameters.length) = some (av.map (qSh b base)).length := by
      rw [g4, List.length_map, s1]
      exact congrArg some (by omega)
    have hM := qMet (av := av) hOK ih i2 i3 htr hr he
    have hPS : PreS s H (qPc D dA b base av g) (av.map (qSh b base)) := ⟨qPc_blind, fun U hU hW => qPcOf hctx hR hS hU hW⟩
    have hgin : ∀ (hlw : Cond.methodLink (qOwn (qmO mm)) idx (qmY (r1 - 10)) ∈ lw_tbl), GoodIn qTs (va_wsS (qOwn (qmO mm)) idx (qmY (r1 - 10)) [qCw (qMI (r1 - 10))]) := fun hlw w hw => by
      unfold va_wsS at hw
      rcases List.mem_append.mp hw with hw | hw
      · simp only [List.mem_cons, List.not_mem_nil, or_false] at hw
        rcases hw with rfl | rfl | rfl
        · exact ⟨qTs_of hlw rfl, Or.inl rfl⟩
        · exact ⟨qTs_of g6 rfl, Or.inl rfl⟩
        · exact ⟨qTs_of g7 rfl, Or.inl rfl⟩
      · exact qCw_in i2 i3 w hw
    have hrm : qmF (r1 - 10) + 1 ≤ R.frames ∧ 8 + (qmL (r1 - 10) + 11) + qmG (r1 - 10) ≤ R.locals := ⟨by omega, by omega⟩
    rcases i4 with z | z
    · rw [if_neg (by omega)] at hlw
      cases hhc : qmH (r1 - 10) with
      | nil =>
        have cw := va_cwS (R := R) (own := qOwn (qmO mm)) (index := idx) (y := qmY (r1 - 10)) (bytes := qmB (r1 - 10)) (maxL := qmL (r1 - 10)) (ret := qmR (r1 - 10)) (ws := [qCw (qMI (r1 - 10))]) (ws' := []) (rm := { frames := qmF (r1 - 10), locals := qmG (r1 - 10), cells := pC g1 - pC g, slots := pZ g1 - pZ g }) (mc := pC g1 - pC g) (ms := pZ g1 - pZ g) (av.map (qSh b base)).length hts
          (hgin hlw) (by rw [qCw_nil hhc]) rfl rfl ⟨g3.1, g3.2, hd1⟩ hrm
        exact va_runS (As := av.map (qSh b base)) FX hM cw hPS rfl rfl hl.1 (qStS e1) hW8 d ⟨hC, hZ⟩
      | cons h0 t0 =>
        have cw := vx_cwSW (R := R) (own := qOwn (qmO mm)) (index := idx) (y := qmY (r1 - 10)) (bytes := qmB (r1 - 10)) (maxL := qmL (r1 - 10)) (ret := qmR (r1 - 10)) (hh := h0 :: t0) (ws := [qCw (qMI (r1 - 10))]) (ws' := []) (rm := { frames := qmF (r1 - 10), locals := qmG (r1 - 10), cells := pC g1 - pC g, slots := pZ g1 - pZ g }) (mc := pC g1 - pC g) (ms := pZ g1 - pZ g) (av.map (qSh b base)).length hts
          (hgin hlw) (by rw [qCw_cons hhc]) rfl rfl ⟨g3.1, g3.2, hd1⟩ hrm
        exact vx_runSW (As := av.map (qSh b base)) FX hM cw hPS rfl rfl hl.1 (qStS e1) hW8 d ⟨hC, hZ⟩
    · rw [if_pos z] at hlw
      have hhc : qmH (r1 - 10) = [] := s2.resolve_right (by omega)
      have cw := va_cnB (R := R) (own := qOwn (qmO mm)) (host := if qmO mm ≤ 9 then RX9 else RX11) (index := idx) (y := qmY (r1 - 10)) (bytes := qmB (r1 - 10)) (maxL := qmL (r1 - 10)) (ret := qmR (r1 - 10)) (ws := [qCw (qMI (r1 - 10))]) (ws' := []) (rm := { frames := qmF (r1 - 10), locals := qmG (r1 - 10), cells := pC g1 - pC g, slots := pZ g1 - pZ g }) (mc := pC g1 - pC g) (ms := pZ g1 - pZ g) (av.map (qSh b base)).length hts
        (qCw_in i2 i3) (by rw [qCw_nil hhc]) rfl rfl (htn _ (qTs_of hlw rfl)) (hts _ (qTs_of g7 rfl)) ⟨g3.1, g3.2, hd1⟩ hrm
      exact va_runSN (As := av.map (qSh b base)) FX hM ⟨cw, hts _ (qTs_of g6 rfl), trivial⟩ hPS rfl rfl hl.1 (qStS e1) hW8 d ⟨hC, hZ⟩
  case invokespecial idx =>
    have h9 : r1 ≠ 0 ∧ r1 ≠ 9 := by
      unfold pKind at hk
      dsimp only at hk
      refine ⟨fun z => ?_, fun z => ?_⟩
      · first | omega | (rw [if_pos z] at hk; omega)
      · rw [if_neg (by omega), if_pos z] at hk; omega
    simp only [Bool.and_eq_true, decide_eq_true_eq, beq_iff_eq, Bool.or_eq_true] at hok
    obtain ⟨d, h1, h2, h3⟩ := hok
    subst h1
    refine ⟨?_, qNx_spec h2 ht⟩
    obtain ⟨nest, hn, hlw, f0, f1, f2, f3, f4⟩ := qMok_spec (h3.resolve_left h9.2)
    have h10 : 4 ≤ r1 := by
      rcases Nat.lt_or_ge r1 4 with z | z
      · have z1 := (f3 (by omega)).2
        rw [if_neg h9.1] at z1
        omega
      · exact z
    obtain ⟨i1, i2, i3, i4, i5, i6, -, -, i7⟩ := f4 h10
    obtain ⟨s1, s2, s3, s4⟩ := i7 rfl
    obtain ⟨g1', g2, g3, g4, g5, g6, g7⟩ := qMo_spec i2 i3
    have hmn : qMn r1 = qmY (r1 - 10) := by
      unfold qMn
      rw [if_neg (by omega), if_neg (by omega), if_neg (by omega), if_neg (by omega)]
    rw [hmn] at hlw
    rw [if_neg (by omega)] at g6
    unfold pRv at hv
    dsimp only at hv
    cases av with
    | nil => cases hv
    | cons v0 As =>
      cases v0 <;> try (exact absurd (show false = true from hv) (by decide))
      case ref a =>
        have hlen : As.length + 1 = qmN (r1 - 10) := e2
        have hd1 : (parseMethodDescriptor (qmY (r1 - 10)).desc).map (fun d => d.parameters.length) = some (As.map (qSh b base)).length := by
          rw [g4, List.length_map, s1]
          exact congrArg some (by omega)
        have hM := qMet (av := .ref a :: As) hOK ih i2 i3 htr hr he
        have hPS : PreS s H (qPc D dA b base (.ref a :: As) g) (.ref (qAd b base a) :: As.map (qSh b base)) := ⟨qPc_blind, fun U hU hW => qPcOf hctx hR hS hU hW⟩
        have hcw : [qCw (qMI (r1 - 10))] = Cond.code (qmY (r1 - 10)) (qmB (r1 - 10)) (qmL (r1 - 10)) none :: [] := by rw [qCw_nil s2]; exact congrArg (fun z => [Cond.code (qmY (r1 - 10)) (qmB (r1 - 10)) (qmL (r1 - 10)) z]) s4
        have hrm : qmF (r1 - 10) + 1 ≤ R.frames ∧ 8 + (qmL (r1 - 10) + 11) + qmG (r1 - 10) ≤ R.locals := ⟨by omega, by omega⟩
        rcases i4 with z | z
        · rw [if_neg (by omega)] at hlw
          have cw := cwI (R := R) (own := qOwn (qmO mm)) (index := idx) (y := qmY (r1 - 10)) (bytes := qmB (r1 - 10)) (maxL := qmL (r1 - 10)) (ws := [qCw (qMI (r1 - 10))]) (ws' := []) (rm := { frames := qmF (r1 - 10), locals := qmG (r1 - 10), cells := pC g1 - pC g, slots := pZ g1 - pZ g }) (mc := pC g1 - pC g) (ms := pZ g1 - pZ g) (As.map (qSh b base)).length hts
            (qCw_in i2 i3) hcw rfl rfl (hts _ (qTs_of g7 rfl)) (hts _ (qTs_of hlw rfl)) (hts _ (qTs_of g6 rfl)) s3 ⟨g3.1, g3.2, hd1⟩ hrm
          exact va_runI FX hM cw hPS rfl rfl hl.1 (qStV e1) hW8 d ⟨hC, hZ⟩
        · rw [if_pos z] at hlw
          have cw := va_cnB (R := R) (own := qOwn (qmO mm)) (host := if qmO mm ≤ 9 then RX9 else RX11) (index := idx) (y := qmY (r1 - 10)) (bytes := qmB (r1 - 10)) (maxL := qmL (r1 - 10)) (ret := none) (ws := [qCw (qMI (r1 - 10))]) (ws' := []) (rm := { frames := qmF (r1 - 10), locals := qmG (r1 - 10), cells := pC g1 - pC g, slots := pZ g1 - pZ g }) (mc := pC g1 - pC g) (ms := pZ g1 - pZ g) (As.map (qSh b base)).length hts
            (qCw_in i2 i3) hcw rfl rfl (htn _ (qTs_of hlw rfl)) (hts _ (qTs_of g7 rfl)) ⟨g3.1, g3.2, hd1⟩ hrm
          exact va_runIN FX hM ⟨cw, s3, hts _ (qTs_of g6 rfl)⟩ hPS rfl rfl hl.1 (qStV e1) hW8 d ⟨hC, hZ⟩
  all_goals (unfold pKind at hk; dsimp only at hk; first | omega | (split at hk <;> omega))
/-- a call that throws -/
theorem qCallX {mm i pc len r1 c0 z0 x : Nat} {r2 r3 : Nat} {ins : Instr} {tl : List PRow} {ls : PV} {lsM : Array Slot} {st av rest : List Value} {g g1 : PS} (hOK : qAllOk) (ih : qSimAt D dA b base l n) (F : qFm D dA b base p l R s m meth c mm)
    (hok : qRowOk (qmO mm) (decide ((qmY mm).name = "<init>")) (qmF mm) (qmG mm) (qmB mm) (qRows mm) tl (pc, ins, len, r1, r2, r3) = true) (hk : pKind ins r1 = 2) (hr2 : r2 = 0) (hp : pPop (qmN (r1 - 10)) st = some (av, rest)) (hsm : rest.length ≤ 4 ∨ (rest.map fun v => v.category).sum ≤ 8)
    (he : (pEnt av).length ≤ qmL (r1 - 10)) (hv : pRv ins (qmO (r1 - 10)) av g = true) (hr : pRun qPT n (r1 - 10) 0 (pEntry (qmL (r1 - 10)) av) [] g = some (.inr x, g1)) (hl : qLs b base (qmL mm) lsM ls) (hR : qRel D dA b base g H) (hS : va_S (qA base) s.heap H locs)
    (hC : (pC g - c0) + (pC g1 - pC g) ≤ R.cells) (hZ : (pZ g - z0) + (pZ g1 - pZ g) ≤ R.slots) :
    vx_Run p l e R s m args below meth c H locs (pC g - c0) (pZ g - z0) (pC g1 - pC g) (pZ g1 - pZ g) (F0 m pc lsM (st.map (qSh b base))) (rest.map (qSh b base)) (fun _ _ _ => False) (qXr D dA b base x g1) (qA base) := by
  obtain ⟨⟨hx, hb, hml, hown, hlocks, htr, hctx, hfr, hlo, hinit⟩, htab, hret⟩ := id F
  obtain ⟨e1, e2⟩ := pPop_inv hp
  dsimp only at e1 e2
  have hW8 : 2 * (F0 m pc lsM (st.map (qSh b base))).monitorRoom + ((rest.map (qSh b base)).map fun v => v.category).sum ≤ 8 := by
    have := qSm (b := b) (base := base) hsm
    show 2 * 0 + _ ≤ 8
    omega
  have hts := qHts (args := args) hctx
  have FX : CallFix p m c (qmB mm) (qmL mm) s args qTs (qOwn (qmO mm)) := ⟨hx, hb, hml, hown, hts⟩
  unfold qRowOk at hok
  cases ins <;> try (exact absurd hk (by decide))
  case invokevirtual idx =>
    simp only [Bool.and_eq_true, decide_eq_true_eq, beq_iff_eq] at hok
    obtain ⟨d, h1, h2, h3⟩ := hok
    subst h1
    obtain ⟨nest, hn, hlw, f0, f1, f2, f3, f4⟩ := qMok_spec h3
    have h10 : 4 ≤ r1 := by
      rcases Nat.lt_or_ge r1 4 with z | z
      · have z1 := (f3 (by omega)).2
        split at z1 <;> omega
      · exact z
    obtain ⟨i1, i2, i3, i4, i5, i6, i7, -, -⟩ := f4 h10
    obtain ⟨s1, s2, s3⟩ := i7 rfl
    obtain ⟨g1', g2, g3, g4, g5, g6, g7⟩ := qMo_spec i2 i3
    have hmn : qMn r1 = qmY (r1 - 10) := by
      unfold qMn
      rw [if_neg (by omega), if_neg (by omega), if_neg (by omega), if_neg (by omega)]
    rw [hmn, if_neg (by omega)] at hlw
    rw [if_neg (by omega)] at g6
    unfold pRv at hv
    dsimp only at hv
    cases av with
    | nil => cases hv
    | cons v0 As =>
      cases v0 <;> try (exact absurd (show false = true from hv) (by decide))
      case ref a =>
        have hv2 := of_decide_eq_true hv
        have hlen : As.length + 1 = qmN (r1 - 10) := e2
        have hd1 : (parseMethodDescriptor (qmY (r1 - 10)).desc).map (fun d => d.parameters.length) = some (As.map (qSh b base)).length := by
          rw [g4, List.length_map, s1]
          exact congrArg some (by omega)
        have hM := qMetX (av := .ref a :: As) hOK ih i2 i3 htr hr he
        have hcell := qRcv hctx hR hv2.1 hv2.2
        have hPV : PreV s H (qOwn (qmO (r1 - 10))) (qAd b base a) (qPc D dA b base (.ref a :: As) g) (As.map (qSh b base)) := ⟨qPc_blind, hcell, fun U hU hW => qPcOf hctx hR hS hU hW⟩
        have hinW : Cond.initialized (qOwn (qmO (r1 - 10))) ∈ lw_tbl := by rw [← g2]; exact g7
        have cw := cwV (R := R) (own := qOwn (qmO mm)) (C := qOwn (qmO (r1 - 10))) (index := idx) (y := qmY (r1 - 10)) (bytes := qmB (r1 - 10)) (maxL := qmL (r1 - 10)) (ret := qmR (r1 - 10)) (ws := [qCw (qMI (r1 - 10))]) (ws' := []) (rm := { frames := qmF (r1 - 10), locals := qmG (r1 - 10), cells := pC g1 - pC g, slots := pZ g1 - pZ g }) (mc := pC g1 - pC g) (ms := pZ g1 - pZ g) (As.map (qSh b base)).length hts
            (fun w hw => by
              unfold wsV at hw
              rcases List.mem_append.mp hw with hw | hw
              · simp only [List.mem_cons, List.not_mem_nil, or_false] at hw
                rcases hw with rfl | rfl | rfl | rfl
                · exact ⟨qTs_of hlw rfl, Or.inl rfl⟩
                · exact ⟨qTs_of g6 rfl, Or.inl rfl⟩
                · exact ⟨qTs_of s3 rfl, Or.inl rfl⟩
                · exact ⟨qTs_of hinW rfl, Or.inl rfl⟩
              · exact qCw_in i2 i3 w hw) (by rw [qCw_nil s2]) rfl rfl ⟨g2, g3.1, g3.2, hd1⟩ ⟨by show qmF (r1 - 10) + 1 ≤ _; omega, by show 8 + (qmL (r1 - 10) + 11) + qmG (r1 - 10) ≤ _; omega⟩
        exact vx_runV FX hM cw hPV rfl rfl hl.1 (qStV e1) hW8 d ⟨hC, hZ⟩
  case invokestatic idx =>
    simp only [Bool.and_eq_true, decide_eq_true_eq, beq_iff_eq] at hok
    obtain ⟨d, h1, h2, h3⟩ := hok
    subst h1
    obtain ⟨nest, hn, hlw, f0, f1, f2, f3, f4⟩ := qMok_spec h3
    have h10 : 4 ≤ r1 := by
      rcases Nat.lt_or_ge r1 4 with z | z
      · unfold pKind at hk
        dsimp only at hk
        split at hk
        · omega
        · first | omega | (rw [if_pos z] at hk; omega)
      · exact z
    obtain ⟨i1, i2, i3, i4, i5, i6, -, i7, -⟩ := f4 h10
    obtain ⟨s1, s2⟩ := i7 rfl
    obtain ⟨g1', g2, g3, g4, g5, g6, g7⟩ := qMo_spec i2 i3
    have hmn : qMn r1 = qmY (r1 - 10) := by
      unfold qMn
      rw [if_neg (by omega), if_neg (by omega), if_neg (by omega), if_neg (by omega)]
    rw [hmn, if_neg (by omega)] at hlw
    rw [if_pos s1] at g6
    have hd1 : (parseMethodDescriptor (qmY (r1 - 10)).desc).map (fun d => d.parameters.length) = some (av.map (qSh b base)).length := by
      rw [g4, List.length_map, s1]
      exact congrArg some (by omega)
    have hM := qMetX (av := av) hOK ih i2 i3 htr hr he
    have hPS : PreS s H (qPc D dA b base av g) (av.map (qSh b base)) := ⟨qPc_blind, fun U hU hW => qPcOf hctx hR hS hU hW⟩
    have hhc : qmH (r1 - 10) = [] := qH_none i2 (pRun_inr qPT n (r1 - 10) 0 _ _ g x g1 hr)
    have cw := va_cwS (R := R) (own := qOwn (qmO mm)) (index := idx) (y := qmY (r1 - 10)) (bytes := qmB (r1 - 10)) (maxL := qmL (r1 - 10)) (ret := qmR (r1 - 10)) (ws := [qCw (qMI (r1 - 10))]) (ws' := []) (rm := { frames := qmF (r1 - 10), locals := qmG (r1 - 10), cells := pC g1 - pC g, slots := pZ g1 - pZ g }) (mc := pC g1 - pC g) (ms := pZ g1 - pZ g) (av.map (qSh b base)).length hts
      (fun w hw => by
      unfold va_wsS at hw
      rcases List.mem_append.mp hw with hw | hw
      · simp only [List.mem_cons, List.not_mem_nil, or_false] at hw
        rcases hw with rfl | rfl | rfl
        · exact ⟨qTs_of hlw rfl, Or.inl rfl⟩
        · exact ⟨qTs_of g6 rfl, Or.inl rfl⟩
        · exact ⟨qTs_of g7 rfl, Or.inl rfl⟩
      · exact qCw_in i2 i3 w hw) (by rw [qCw_nil hhc]) rfl rfl ⟨g3.1, g3.2, hd1⟩ ⟨by show qmF (r1 - 10) + 1 ≤ _; omega, by show 8 + (qmL (r1 - 10) + 11) + qmG (r1 - 10) ≤ _; omega⟩
    exact vx_runS (As := av.map (qSh b base)) FX hM cw hPS rfl rfl hl.1 (qStS e1) hW8 d ⟨hC, hZ⟩
  case invokespecial idx =>
    have h9 : r1 ≠ 9 := by
      unfold pKind at hk
      dsimp only at hk
      intro z
      rw [if_neg (by omega), if_pos z] at hk; omega
    simp only [Bool.and_eq_true, decide_eq_true_eq, beq_iff_eq, Bool.or_eq_true] at hok
    obtain ⟨nest, hn, -⟩ := qMok_spec (hok.2.2.2.resolve_left h9)
    omega
  all_goals (unfold pKind at hk; dsimp only at hk; first | omega | (split at hk <;> omega))
end QSIM
