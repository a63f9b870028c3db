/-! THE CLAIM OUT OF ONE WALK OF THE LAW'S BODY. Your part is whole_start (and what it stands on); all else here is the same for every law, but numbers. -/
def R_law : String := "QuorumLogLaw"
def lw_P (b : Addr) (xs : List Int32) (args : Array Value) (s : State) : Prop := args = #[.ref b] ∧ s.IntsAt b xs ∧ xs.length ≤ 260 ∧ (Jvm.Cond.and given_1 narrow_1).before args s = true
def lw_Q (_ : Array Value) (s : State) (o : Outcome) (t : State) : Prop := o = .returned (some (.int 1)) ∧ Framed s o t [] room_1.cells room_1.slots
def lw_Z (below : List Frame) (a : Array Value) (s : State) : State → Prop := fun t => ∃ o, t.status = .running ∧ Ended t below o ∧ lw_Q a s o t
/-- the law's own end, with 1 on the stack, nothing written that was there before, its room as the claim has it -/
theorem lw_ret {p : Program} {l : Launch} {e : Env} {s : State} {m : MethodId} {below : List Frame} {meth : Method} {c : Code} {b : Nat} (hx : p.tables.exec = Jvm.exec) (hb : c.code = code) (hr : meth.sig.returnType = ret) (hlocks : meth.locks = false) {pc : Nat} {H : Heap} {ls : Array Slot} (hdg : decode code pc = .ok (.ireturn, 1)) : W p l e room_1 s m #[Value.ref b] below meth c H [] room_1.cells room_1.slots (lw_Z below #[Value.ref b] s) (F0 m pc ls [.int 1]) := by
  intro T hT X
  obtain ⟨fs, hret, hrun, hended, hW, hframe⟩ := X.leave (v := some (.int 1)) (hlocks := hlocks) (fun h => by rw [hr] at h; cases h)
  have hmeth' : T.vm.method? m = some meth := X.method'
  refine ⟨T.setFrames fs, ?_, .returned (some (.int 1)), hrun, hended, rfl, ⟨_, rfl⟩, hW, hframe⟩
  jvm_step X.here [X.here.top, hx, hb, hdg, hmeth', hr, ret, narrow_b1]
  (try refine ⟨rfl, ?_⟩); (try refine ⟨rfl, ?_⟩)
  first | (intro acts; rw [hret _ acts rfl rfl rfl]) | rw [hret _ _ rfl rfl rfl]
  exact Steps.refl _
/-- what holds at the law's entry: the machine, the code, the tables' words (any of lw_tbl by 'hts w (by decide +kernel)'), the script of L ints xs at the cell b, what the Statement gives of the start (any of its parts by flat_of_before) -/
def lw_At (p : Program) (s : State) (m : MethodId) (meth : Method) (c : Code) (b L : Nat) (xs : Nat → Int32) : Prop :=
  p.tables.exec = Jvm.exec ∧ c.code = code ∧ meth.sig.returnType = ret ∧ c.maxLocals = 12 ∧ s.vm.findClass R_law = some m.cls ∧ (∀ w ∈ lw_tbl, w.before #[Value.ref b] s = true) ∧ va_X b L xs s s.heap ∧ b < s.heap.size ∧ meth.locks = false ∧ (Jvm.Cond.and given_1 narrow_1).before #[Value.ref b] s = true ∧ c.exceptionTable.toList = []
/-- the pure heap at the start: the script alone -/
def qG0 (L : Nat) (xs : Nat → Int32) : PS := (fun x => if x = 0 then 20 else 50, fun x => if x = 0 then L else 0, fun x j => if x = 0 then .int (xs j) else .null, 1, 0, 0)
/-- WHAT IS LEFT TO SHOW, of the pure machine alone -/
def qGoal : Prop := ∀ (L : Nat) (xs : Nat → Int32), L ≤ 260 → ∃ (n : Nat) (g' : PS), pRun qPT n 378 0 (pEntry 12 [.ref 0]) [] (qG0 L xs) = some (.inl (some (.int 1)), g') ∧ pC g' ≤ 600000 ∧ pZ g' ≤ 7000000
def qStrW (t : Nat × Nat × Nat × Nat × Nat × Nat) (w : Cond) : Bool := match w with | .stringRef c k _ => c == RX9 && k == t.2.1 | _ => false
set_option maxRecDepth 100000 in
theorem qStr_ok : qTH.all (fun t => lw_tbl.any (qStrW t)) = true := by decide +kernel
theorem qStr {t : Nat × Nat × Nat × Nat × Nat × Nat} (h : t ∈ qTH) : ∃ tx, Cond.stringRef RX9 t.2.1 tx ∈ lw_tbl := by
  obtain ⟨w, hw, h1⟩ := List.any_eq_true.mp (List.all_eq_true.mp qStr_ok t h)
  unfold qStrW at h1
  split at h1
  · simp only [Bool.and_eq_true, beq_iff_eq] at h1
    rename_i c k tx
    exact ⟨tx, by rw [← h1.1, ← h1.2]; exact hw⟩
  · cases h1
theorem qNcs (args : Array Value) (s : State) (h : (Jvm.Cond.and given_1 narrow_1).before args s = true) : ∀ x y : Nat, x < 3 → y < 3 → x ≠ y → va_Nc (qEx x) (qEx y) s := by
  have hs := flat_of_before _ h
  intro x y hx hy hn
  rcases (show x = 0 ∨ x = 1 ∨ x = 2 by omega) with rfl | rfl | rfl <;> rcases (show y = 0 ∨ y = 1 ∨ y = 2 by omega) with rfl | rfl | rfl <;> first
    | exact absurd rfl hn
    | exact va_Nc.of (hs _ (by decide +kernel))
theorem qArrs (args : Array Value) (s : State) (hts : ∀ w ∈ lw_tbl, w.before args s = true) (kd : Nat) (h1 : 12 ≤ kd) (h2 : kd ≤ 19) : ∃ c : ClassId, s.vm.findClass ("[" ++ (qTy kd).toString) = some c ∧ ∃ (kC : Class) (comp : ClassId), s.vm.classes[c]? = some kC ∧ kC.kind = .array comp (qTy kd) ∧ (15 ≤ kd → s.vm.findClass (qEn kd) = some comp) := by
  rcases (show kd = 12 ∨ kd = 13 ∨ kd = 14 ∨ kd = 15 ∨ kd = 16 ∨ kd = 17 ∨ kd = 18 ∨ kd = 19 by omega) with rfl | rfl | rfl | rfl | rfl | rfl | rfl | rfl
  · obtain ⟨c, k, comp, h3, h4, h5⟩ := Cond.arrayClass_spec (hts (.arrayClass .int) (by decide +kernel))
    exact ⟨c, h3, k, comp, h4, h5, fun z => by omega⟩
  · obtain ⟨c, k, comp, h3, h4, h5⟩ := Cond.arrayClass_spec (hts (.arrayClass .int) (by decide +kernel))
    exact ⟨c, h3, k, comp, h4, h5, fun z => by omega⟩
  · obtain ⟨c, k, comp, h3, h4, h5⟩ := Cond.arrayClass_spec (hts (.arrayClass .int) (by decide +kernel))
    exact ⟨c, h3, k, comp, h4, h5, fun z => by omega⟩
  · obtain ⟨comp, c, k, h3, -, h4, h5, h6⟩ := Cond.arrayOver_spec (hts _ qArrO_15)
    exact ⟨c, h6, k, comp, h4, h5, fun _ => h3⟩
  · obtain ⟨comp, c, k, h3, -, h4, h5, h6⟩ := Cond.arrayOver_spec (hts _ qArrO_16)
    exact ⟨c, h6, k, comp, h4, h5, fun _ => h3⟩
  · obtain ⟨comp, c, k, h3, -, h4, h5, h6⟩ := Cond.arrayOver_spec (hts _ qArrO_17)
    exact ⟨c, h6, k, comp, h4, h5, fun _ => h3⟩
  · obtain ⟨comp, c, k, h3, -, h4, h5, h6⟩ := Cond.arrayOver_spec (hts _ qArrO_18)
    exact ⟨c, h6, k, comp, h4, h5, fun _ => h3⟩
  · obtain ⟨comp, c, k, h3, -, h4, h5, h6⟩ := Cond.arrayOver_spec (hts _ qArrO_15)
    exact ⟨c, h6, k, comp, h4, h5, fun _ => h3⟩
theorem whole_start (hOK : qAllOk) (hG : qGoal) {p : Program} {e : Env} {s : State} {m : MethodId} {below : List Frame} {meth : Method} {c : Code} (l : Launch) (hflags : l.flags = flags0) {b L : Nat} {xs : Nat → Int32} (hL : L ≤ 260) (C0 : lw_At p s m meth c b L xs) :
    W p l e room_1 s m #[Value.ref b] below meth c s.heap [] 0 0 (lw_Z below #[Value.ref b] s) (entryFrame m ([Value.ref b] : List Value).toArray 12) := by
  obtain ⟨hx, hb, hr, hml, hown, hts, hX, hbl, hlocks, hgv, htab⟩ := id C0
  obtain ⟨n, g', hrun, hC, hZ⟩ := hG L xs hL
  have hcl : ∀ ci : Nat, ∃ q : ClassId × (Nat → Nat), ci < 12 → u_Kn s (qOwn ci) (qTf ci) (pF ci) q.1 q.2 := fun ci => by
    by_cases h : ci < 12
    · obtain ⟨cC, iS, h1⟩ := u_known (ws := lw_tbl) (args := #[Value.ref b]) (C := qOwn ci) (T := qTf ci) (N := pF ci) (n := pF ci) hts (fun w hw => (qLay h w hw).1) (hts _ (qIns h).1)
      exact ⟨(cC, iS), fun _ => h1⟩
    · exact ⟨(0, fun _ => 0), fun z => absurd z h⟩
  obtain ⟨scr, hcb, hof, hkn, hsz, hval⟩ := id hX
  have har : ∀ kd : Nat, ∃ c9 : ClassId, (12 ≤ kd → kd ≤ 19 → s.vm.findClass ("[" ++ (qTy kd).toString) = some c9 ∧ ∃ (kC : Class) (comp : ClassId), s.vm.classes[c9]? = some kC ∧ kC.kind = .array comp (qTy kd) ∧ (15 ≤ kd → s.vm.findClass (qEn kd) = some comp)) ∧ (kd = 20 → c9 = scr.cls) := fun kd => by
    by_cases h : 12 ≤ kd ∧ kd ≤ 19
    · obtain ⟨c9, h1⟩ := qArrs #[Value.ref b] s hts kd h.1 h.2
      exact ⟨c9, fun _ _ => h1, fun z => by omega⟩
    · exact ⟨scr.cls, fun z1 z2 => absurd ⟨z1, z2⟩ h, fun _ => rfl⟩
  obtain ⟨D, hD⟩ : ∃ D : va_G, ∀ ci, ci < 12 → u_Kn s (qOwn ci) (qTf ci) (pF ci) (D.1 ci) (D.2 ci) := ⟨(fun ci => (Classical.choose (hcl ci)).1, fun ci => (Classical.choose (hcl ci)).2), fun ci h => Classical.choose_spec (hcl ci) h⟩
  obtain ⟨dA, hA⟩ : ∃ dA : Nat → ClassId, ∀ kd, (12 ≤ kd → kd ≤ 19 → qArr dA kd s) ∧ (kd = 20 → dA kd = scr.cls) := ⟨fun kd => Classical.choose (har kd), fun kd => Classical.choose_spec (har kd)⟩
  have hbase : ∀ a : Nat, a < s.heap.size → ¬ (fun q : Nat => s.heap.size ≤ q) a := fun a h => Nat.not_le.mpr h
  have hflat := flat_of_before _ hgv
  have hctx : qCtx D dA s.heap.size s := by
    refine ⟨fun w hw hk a => qW_warm hk (State.WarmedH.refl s) (hts w hw), hD, fun kd h1 h2 => (hA kd).1 h1 h2, ?_, Nat.le_refl _, ?_, ?_, fun j t ht => ?_, qNcs _ s hgv⟩
    · obtain ⟨-, k, hk, comp, hkind⟩ := hof
      exact ⟨k, comp, by rw [(hA 20).2 rfl]; exact hk, hkind⟩
    · exact vx_Zqof (hts (.laysStatic Bundle.tN "UNASSIGNED_STACK" Bundle.steD) (by decide +kernel)) (hts (.initialized Bundle.tN) (by decide +kernel)) (hflat _ (by decide +kernel)) hbase
    · exact vx_Zqof (hts (.laysStatic Bundle.tN "SUPPRESSED_SENTINEL" Bundle.listD) (by decide +kernel)) (hts (.initialized Bundle.tN) (by decide +kernel)) (hflat _ (by decide +kernel)) hbase
    · obtain ⟨tx, htx⟩ := qStr (List.mem_of_getElem? ht)
      obtain ⟨cur, hcur⟩ : ∃ cur, s.vm.findClass RX9 = some cur := ⟨_, (hD 9 (by omega)).2.1⟩
      have h9 := hts _ htx
      obtain ⟨k, cf, i, a, -, -, -, -, -, h6⟩ := Cond.stringRef_spec hcur h9
      exact ⟨tx, a, h9, h6⟩
  have hR : qRel D dA b s.heap.size (qG0 L xs) s.heap := by
    refine ⟨hbl, Nat.le_refl _, rfl, fun k hk => ?_, fun k hk => ?_, rfl, fun k hk => ?_⟩
    · have e : k = 0 := Nat.lt_one_iff.mp hk
      subst e
      have hk0 : pK (qG0 L xs) 0 = 20 := rfl
      refine ⟨⟨fun z => by rw [hk0] at z; omega, fun _ z => by rw [hk0] at z; omega, fun _ => ?_⟩, ⟨fun z => by rw [hk0] at z; omega, fun z => by rw [hk0] at z; omega⟩⟩
      exact ⟨scr, hcb, ((hA 20).2 rfl).symm, hof.1, hkn, hsz, fun j hj => hval j hj⟩
    · show (if k = 0 then 20 else 50) = 50
      rw [if_neg (by intro z; rw [z] at hk; exact absurd (show 1 ≤ 0 from hk) (by decide))]
    · show (if k = 0 then 20 else 50) ≠ 20
      rw [if_neg hk]; decide
  have hF : qFm D dA b s.heap.size p l room_1 s m meth c 378 := by
    refine ⟨⟨hx, hb, hml, hown, hlocks, ?_, hctx, ?_, ?_, fun z => ?_⟩, htab, hr⟩
    · unfold Launch.stackTraces
      rw [hflags]
      decide +kernel
    · exact Nat.le_of_ble_eq_true rfl
    · exact Nat.le_of_ble_eq_true rfl
    · exact absurd (of_decide_eq_true z) (by decide +kernel)
  have hK := qSim (D := D) (dA := dA) (b := b) (base := s.heap.size) (l := l) hOK n 378 0 _ _ _ _ g' hrun p e room_1 s m #[Value.ref b] below meth c 0 0 (by decide) hF (Nat.le_refl _) (Nat.le_refl _) (Nat.le_trans hC (Nat.le_of_ble_eq_true rfl)) (Nat.le_trans hZ (Nat.le_of_ble_eq_true rfl))
  have hE := qEntry (b := b) (base := s.heap.size) (nL := 12) (av := [.ref 0]) (by decide)
  obtain ⟨r0, hr0, hr1⟩ := (hOK 378 (by decide)).2
  have hW := hK 0 _ s.heap [] (by show ((qRows 378)[0]?).map _ = _; rw [hr0]; exact congrArg some hr1) hE hR va_S.rf
  rw [lg_entry_eq]
  intro T hT X
  obtain ⟨t, h1, o, h2, h3, h4, Lc, h5, h6⟩ := hW T hT X
  refine ⟨t, h1, o, h2, h3, h4.1, ?_⟩
  exact ⟨h5.1, h5.2.1, h5.2.2.weaken (fun y hy hlt => absurd hlt (Nat.not_lt.mpr (h6 y hy))) (Nat.le_trans hC (Nat.le_of_ble_eq_true rfl)) (Nat.le_trans hZ (Nat.le_of_ble_eq_true rfl))⟩
set_option maxHeartbeats 4000000 in
theorem lw_walk (hOK : qAllOk) (hG : qGoal) (l : Launch) (hflags : l.flags = flags0) (b : Addr) (xs : List Int32) : MetFree l x (headSpec (Jvm.Cond.code x code maxLocals ret :: tables_1) room_1) (lw_P b xs) (fun _ _ _ _ _ => True) lw_Q := by
  refine MetFree.of_bodyS (code := code) (maxLocals := maxLocals) (ret := ret) (by decide) ?_ ?_
  · intro args s m h hn
    obtain ⟨meth, c, h1, h2, h3, h4, h5, h6, -, -⟩ := Cond.code_spec hn (atoms_spec (ws := Jvm.Cond.code x code maxLocals ret :: tables_1) h _ List.mem_cons_self)
    exact ⟨meth, c, h1, h2, h3, h4, h5, h6⟩
  · intro p e s m args below meth c s₁ B hml0 hP _
    obtain ⟨rfl, hx, hbd, hgv⟩ := hP
    obtain ⟨scr, harrAt, hlist, hof, hsmall⟩ := hx
    obtain ⟨hcb, hkn, -, -⟩ := State.arrayAt?_spec harrAt
    have hown : s.vm.findClass R_law = some m.cls := findClass_of_methodNamed B.named
    have hts0 : ∀ c ∈ (Jvm.Cond.code x code maxLocals ret :: tables_1), c.before #[Value.ref b] s = true := atoms_spec (ws := Jvm.Cond.code x code maxLocals ret :: tables_1) B.pre
    have hts : ∀ w ∈ lw_tbl, w.before #[Value.ref b] s = true := k2_hts_sels lw_privs (fun w hw => hts0 w (List.mem_cons_of_mem _ hw)) lw_privs_ok
    have hml : c.maxLocals = 12 := B.maxLocals_eq (hts0 _ List.mem_cons_self)
    have X₀ : Stand p l e room_1 s m #[Value.ref b] below meth c s₁ [] 0 0 := Stand.of_body B
    have hh0 : s₁.heap = s.heap := by rw [B.state]; rfl
    have hsz : scr.slots.size = xs.length := by rw [← Array.length_toList, hlist, List.length_map]
    have hval : ∀ j : Nat, j < xs.length → scr.slots[j]? = some (.int (xs.getD j 0)) := fun j hj => by
      rw [← Array.getElem?_toList, hlist]
      simp [hj]
    have hbl : b < s.heap.size := (Array.getElem?_eq_some_iff.mp hcb).1
    have hX : va_X b xs.length (fun j => xs.getD j 0) s s.heap := ⟨scr, hcb, hof, hkn, hsz, hval⟩
    have K : W p l e room_1 s m #[Value.ref b] below meth c s₁.heap [] 0 0 (lw_Z below #[Value.ref b] s) (entryFrame m ([Value.ref b] : List Value).toArray 12) := by
      rw [hh0]
      refine whole_start hOK hG l hflags hbd ⟨B.exec, B.bytes, B.returns, hml, hown, hts, hX, hbl, B.notSynchronized, hgv, ?_⟩
      obtain ⟨meth9, c9, h1, h2, -, -, -, -, h7, -⟩ := Cond.code_spec B.named (hts0 _ List.mem_cons_self)
      cases Option.some.inj (h1.symm.trans B.method)
      cases Option.some.inj (h2.symm.trans (Stand.of_body B).code)
      rw [Array.isEmpty_iff.mp h7]
    obtain ⟨t, a1, o, b1, b2, b3⟩ := K s₁ rfl X₀
    exact ⟨t, o, a1, b1, b2, b3⟩
theorem lw_pre_spec {args : Array Value} {s : State} (h : (Jvm.Cond.and given_1 narrow_1).before args s = true) (hr : rest_1_c.before args s = true) : ∃ (b : Addr) (xs : List Int32), lw_P b xs args s := by
  have hs := flat_of_before _ h
  have hq := flat_of_before _ hr
  have hc : (Cond.count 1).before args s = true := hs _ (by decide +kernel)
  have harr : (Cond.arrayOf (.arg 0) .int).before args s = true := hs _ (by decide +kernel)
  have hle : (Cond.le (.length (.arg 0)) (.int 260)).before args s = true := hs _ (by decide +kernel)
  have hlen : (Cond.isInt (.length (.arg 0))).before args s = true := hq _ (by decide +kernel)
  have hall : (Cond.all (.arg 0) (.isInt (.elem (.arg 0) (.index 0)))).before args s = true := hq _ (by decide +kernel)
  obtain ⟨b, xs, hb, hx⟩ := State.ints_of_pre rfl harr hlen hall
  have hsm : xs.length < 2 ^ 31 := hx.choose_spec.2.2.2
  have hev : (Term.length (.arg 0)).eval args s none [] s = some (.int xs.length.toInt32) := hx.length_eval hb
  have hv := Cond.le_ints hev (show (Term.int 260).eval args s none [] s = some (.int 260) from rfl)
  have hd : xs.length.toInt32 ≤ 260 := by
    simpa [Cond.before, Cond.holds, hv] using hle
  have hN : xs.length ≤ 260 := (Int32.ofNat_le_ofNat hsm (by decide)).mp (show Int32.ofNat xs.length ≤ Int32.ofNat 260 from hd)
  exact ⟨b, xs, Cond.one_arg hc (show args[0]? = some (.ref b) from hb), hx, hN, h⟩
theorem lw_comes (hOK : qAllOk) (hG : qGoal) (l : Launch) (hflags : l.flags = flags0) : Comes l x (Jvm.Cond.code x code maxLocals ret :: tables_1) room_1 (fun tb e args s => Calls_1 tb e args s ∧ rest_1 tb e args s ∧ Pre_1 tb e args s)
    (fun _ _ args s o t => lw_Q args s o t) := by
  intro p e ha hc hk s m args below hf hfit hheap happ hpre
  obtain ⟨b, xs, hP⟩ := lw_pre_spec hpre.2.2 hpre.2.1
  obtain ⟨k, o, h1, h2, h3, hQ⟩ := lw_walk hOK hG l hflags b xs p e ha hc hk s m args below hf ((Spec.applies_iff_loose hf).mp happ).1 hP trivial
  exact ⟨k, o, h1, h2, h3, hQ⟩
theorem lw_frame {s t : State} {o : Outcome} {args : Array Value} (h : Framed s o t [] room_1.cells room_1.slots) :
    Framed s o t (fieldLocs frame_1_writes args s ++ arrayLocs frame_1_arrays args s ++ staticLocs frame_1_statics s) room_1.cells room_1.slots := h
theorem lw_limb (hOK : qAllOk) (hG : qGoal) (L : Cond) (hL : ∀ (args : Array Value) (s t : State), L.after args s (.returned (some (.int 1))) t = true) :
    ArmFor flags0 classFile x code maxLocals ret World_1 tables_1 room_1 Calls_1 rest_1 Pre_1
      (fun tb e a s o t => postC L tb e a s o t ∧ Framed s o t (fieldLocs frame_1_writes a s ++ arrayLocs frame_1_arrays a s ++ staticLocs frame_1_statics s) room_1.cells room_1.slots) := by
  intro l hflags _ _ p e ha hc hk s m args below hf hfit hheap happ hpre
  obtain ⟨k, o, h1, h2, h3, rfl, hF⟩ := lw_comes hOK hG l hflags p e ha hc hk s m args below hf hfit hheap happ hpre
  exact ⟨k, _, h1, h2, h3, hL args s _, lw_frame hF⟩
theorem q_claim (hOK : qAllOk) (hG : qGoal) : Claimed_1_1 ∧ Claimed_1_2 := ⟨lw_limb hOK hG limb_1_1 (fun args s t => by simp [limb_1_1, Cond.after, Cond.holds, Cond.value]), lw_limb hOK hG limb_1_2 (fun args s t => Cond.after_iff.mpr (by
  first | (rw [show limb_1_2 = Cond.eq .result (.int 1) from rfl, Cond.eq_ints (x := 1) (y := 1) rfl rfl]; simp; done) | (simp [limb_1_2, Cond.value, Term.eval]; done)))⟩
