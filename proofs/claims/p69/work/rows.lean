section
/-! ===== BEGIN words of one list among another's, by their places ===== -/
theorem goodIn_r {big : List Cond} (ws : List Cond) (ps : List Nat) (hp : ws = ps.filterMap (fun i => big[i]?)) (h : ws.all goodWord = true) : GoodIn big ws := by
  intro w hw
  have h1 := List.all_eq_true.mp h w hw
  rw [hp] at hw
  obtain ⟨i, -, hi⟩ := List.mem_filterMap.mp hw
  have hm : w ∈ big := by first | exact List.mem_of_getElem? hi | exact List.getElem?_mem hi
  exact ⟨hm, good_of_word h1⟩
theorem goodIn_app {big a b : List Cond} (ha : GoodIn big a) (hb : GoodIn big b) : GoodIn big (a ++ b) := fun w h => (List.mem_append.mp h).elim (ha w) (hb w)
theorem goodIn_ca {big a b : List Cond} {c : Cond} (ha : GoodIn big (c :: a)) (hb : GoodIn big b) : GoodIn big (c :: (a ++ b)) := fun w h => (List.mem_cons.mp h).elim (fun e => ha w (List.mem_cons.mpr (Or.inl e))) (fun h => (List.mem_append.mp h).elim (fun h => ha w (List.mem_cons.mpr (Or.inr h))) (hb w))
theorem goodIn_sub {big ws : List Cond} (hm : ∀ w ∈ ws, w ∈ big) (h : ws.all goodWord = true) : GoodIn big ws := fun w hw => ⟨hm w hw, good_of_word (List.all_eq_true.mp h w hw)⟩
/-! ===== END ===== -/

/-! ===== BEGIN exceptions that leave a method, and their catching by the caller (launches without stack traces) ===== -/
section VXA
/-! The laws vx_back, vx_callV, vx_callS, vx_callSW, vx_throw0, vx_throwS follow proofs of the library, with one case more: JvmDerived/Free/Laws.lean (Back.of_free), Shelf42/LK1.lean (callV, callS), Shelf/KitTraced.lean (throwNew0V, throwNewS). -/
/-- where a method has thrown q: the class by its name, the cell, what was written, the world -/
def vx_T (XC : String → State → State → Prop) (st : State) (q : Addr) (t : State) (mc ms : Nat) (free : Addr → Prop) : Prop :=
  ∃ (E : String) (ce : Cell) (L : List Loc), XC E st t ∧ t.heap[q]? = some ce ∧ ce.vm = .none ∧ st.vm.findClass E = some ce.cls ∧ st.WarmedH t.vm ∧ st.sameButNew ({ t with vm := st.vm } : State) L mc ms ∧ ∀ z ∈ L, free z.base
def vx_Q (Qc : Array Value → State → Outcome → State → Prop) (XC : String → State → State → Prop) (mc ms : Nat) (free : Addr → Prop) : Array Value → State → Outcome → State → Prop := fun a st o t =>
  (Qc a st o t ∧ ∃ L, FrameEnd st o t L mc ms ∧ ∀ q ∈ L, free q.base) ∨ ∃ q, o = .threw q ∧ vx_T XC st q t mc ms free
/-- a callee that returns or throws -/
def vx_Met (l : Launch) (y : MethodName) (ws : List Cond) (rm : Room) (Pc : Array Value → State → Prop) (Qc : Array Value → State → Outcome → State → Prop) (XC : String → State → State → Prop) (mc ms : Nat) (free : Addr → Prop) : Prop :=
  MetFree l y (headSpec ws rm) Pc (fun _ _ _ _ _ => True) (vx_Q Qc XC mc ms free)
def vx_Post (XC : String → State → State → Prop) (mc ms : Nat) (free : Addr → Prop) : Pt → Array Value → Addr → Pt → Prop := fun A a q B =>
  ∃ (g : JFrame) (mk : MethodId) (t : State) (L : List Loc) (E : String) (ce : Cell), B.U.heap = t.heap ∧ B.U.vm = t.vm ∧ XC E (A.U.calling g mk a) t ∧ t.heap[q]? = some ce ∧ ce.vm = .none ∧ A.U.vm.findClass E = some ce.cls ∧ B.locs = A.locs ++ L ∧ (∀ z ∈ L, free z.base) ∧ B.cells = A.cells + mc ∧ B.slots = A.slots + ms
def vx_Back (l : Launch) (R : Room) (p : Program) (e : Env) (below : List Frame) (s : State) (sargs : Array Value) (y : MethodName) (len W9 : Nat)
    (Pre : Pt → Array Value → Prop) (Post : Pt → Array Value → Option Value → Pt → Prop) (PostX : Pt → Array Value → Addr → Pt → Prop) : Prop :=
  ∀ (m : MethodId) (meth : Method) (c : Code) (A : Pt) (g : JFrame) (ig : Instr) (mk : MethodId) (a : Array Value),
    Stand p l e R s m sargs below meth c A.U A.locs A.cells A.slots → g.method = m → g.locals.size = c.maxLocals → decode c.code g.pc = .ok (ig, len) →
    2 * g.monitorRoom + (g.stack.map fun v => v.category).sum ≤ W9 → A.U.methodNamed? y = some mk → Pre A a →
    (∃ (v : Option Value) (B : Pt), Stand p l e R s m sargs below meth c B.U B.locs B.cells B.slots ∧ Post A a v B ∧
      Steps p.tables e below (doInvoke e (A.U.setTop g) [] mk a).1 (B.U.setTop { g with pc := g.pc + len, stack := v.toList ++ g.stack })) ∨
    (∃ (q : Addr) (B : Pt), Stand p l e R s m sargs below meth c B.U B.locs B.cells B.slots ∧ PostX A a q B ∧
      Steps p.tables e below (doInvoke e (A.U.setTop g) [] mk a).1 ((B.U.setTop g).pushFrame (.throwing q)))
section Payer
variable {l : Launch} {R : Room} {p : Program} {e : Env} {below : List Frame} {s : State} {sargs : Array Value} {y : MethodName} {len W9 : Nat}
theorem vx_back {ws : List Cond} {rm : Room} {Pc : Array Value → State → Prop} {Qc : Array Value → State → Outcome → State → Prop} {XC : String → State → State → Prop} {mc ms : Nat} {free : Addr → Prop} {bytes : ByteArray} {maxL : Nat} {ret : Option FieldType}
    (hM : vx_Met l y ws rm Pc Qc XC mc ms free) (hblind : FrameBlind Pc) (hrc : rm.cells = mc) (hrs : rm.slots = ms)
    (hframes : rm.frames + 1 ≤ R.frames) (hlocals : W9 + (maxL + 11) + rm.locals ≤ R.locals)
    (hws : ∀ w ∈ ws, ∀ a' U, s.WarmedH U.vm → w.before a' U = true) (hcode : Cond.code y bytes maxL ret ∈ ws) (hinit : ∀ a' U, s.WarmedH U.vm → (Cond.initialized y.cls).before a' U = true) :
    vx_Back l R p e below s sargs y len W9 (PreOf R mc ms Pc) (PostOf Qc mc ms free) (vx_Post XC mc ms free) := by
  intro m meth c A g ig mk a X hg hsize hdg hW hn hp
  have h1 : (headSpec ws rm).pre.before a A.U = true := atoms_intro fun w hw => hws w hw _ _ X.warmed
  have h2 : (Cond.code y bytes maxL ret).before a A.U = true := hws _ hcode _ _ X.warmed
  have h3 : (Cond.initialized y.cls).before a A.U = true := hinit _ _ X.warmed
  have h4 : A.cells + (headSpec ws rm).room.cells ≤ R.cells := by rw [show (headSpec ws rm).room.cells = mc from hrc]; exact hp.1
  have h5 : A.slots + (headSpec ws rm).room.slots ≤ R.slots := by rw [show (headSpec ws rm).room.slots = ms from hrs]; exact hp.2.1
  have hPc : Pc a (A.U.calling g mk a) := hblind _ _ _ _ hp.2.2
  obtain ⟨U, Ls, c0, s0⟩ := A
  dsimp only [Pt.U, Pt.locs, Pt.cells, Pt.slots] at h1 h2 h3 h4 h5 X hn hPc ⊢
  obtain ⟨methY, cY, hmY, hcY, -, hlY, -, -, -, -⟩ := Cond.code_spec hn h2
  obtain ⟨kY, hkY, -⟩ := className_of_methodNamed hn
  have hinitY : kY.init = .initialized := Cond.initialized_spec (findClass_of_methodNamed hn) hkY h3
  have h : At U g.method c below := by rw [hg]; exact X.here
  have hlocals9 : W9 + (maxL + 11) + (headSpec ws rm).room.locals ≤ R.locals := hlocals
  have happ : (headSpec ws rm).appliesLoose y e.platform (U.calling g mk a) = true :=
    Spec.appliesLoose_calling (g := g) h hdg hn hkY hinitY
      (X.room_calling (g := g) (R' := (headSpec ws rm).room) hsize hmY hcY hframes (by rw [hlY]; omega) h4 h5) h1
  obtain ⟨mid, hmid⟩ := h.above
  have hfr : (U.setTop g).frames = (.java g :: mid) ++ below := by rw [State.frames_setTop' g h.top, hmid]; rfl
  obtain ⟨o, s₂, hsteps, -, hend, hq⟩ := Steps.callFree hM p X.admits X.cas X.clock (acts := []) hfr happ hPc trivial
  have hq' : vx_Q Qc XC mc ms free a (U.calling g mk a) o s₂ := hq
  rw [State.frames_setTop' g h.top] at hend
  obtain ⟨g₀, hg0⟩ := Option.isSome_iff_exists.mp h.top
  obtain ⟨r, hr⟩ := State.topJava?_eq_some.mp hg0
  have hr' : (({ U with heap := s₂.heap, slotsUsed := s₂.slotsUsed } : State).setVm s₂.vm).frames = .java g₀ :: r := hr
  rcases hq' with ⟨hqc, L, hfe, hL⟩ | ⟨q, rfl, E, ce, L, hx, hce, hcv, hcl, hW₂, hsm, hL⟩
  · obtain ⟨⟨v, rfl⟩, hW₂, e2, q2, q3, q4, q5, q6⟩ := id hfe
    have e3 : s₂ = ({ (U.calling g mk a).setFrames s₂.frames with heap := s₂.heap, slotsUsed := s₂.slotsUsed } : State).setVm s₂.vm := by
      have : s₂ = ({ s₂ with vm := (U.calling g mk a).vm } : State).setVm s₂.vm := rfl
      rw [e2] at this
      exact this
    obtain ⟨c₂, i₂, len₂, hc₂, hd₂, hf₂⟩ := hend
    have hW' : U.WarmedH s₂.vm := hW₂
    have hcc : c₂ = c := by
      have h1 : s₂.code? g.method = U.code? g.method := by
        rw [State.code?_eq, State.code?_eq, hW'.alike.method?]
      exact Option.some.inj (hc₂.symm.trans (h1.trans h.code))
    subst hcc
    have hlen : len₂ = len := by rw [hdg] at hd₂; cases hd₂; rfl
    subst hlen
    have hs₂ : s₂ = (({ U with heap := s₂.heap, slotsUsed := s₂.slotsUsed } : State).setVm s₂.vm).setTop { g with pc := g.pc + len₂, stack := v.toList ++ g.stack } := by
      refine e3.trans ?_
      rw [hf₂, State.calling_eq h.top, State.setFrames_setFrames, State.setTop_of_frames _ hr', hr]
      rfl
    have hsame : U.sameButNew ({ U with heap := s₂.heap, slotsUsed := s₂.slotsUsed } : State) L mc ms := by
      refine ⟨?_, q2, q3, q4, q5, q6⟩
      obtain ⟨t, ht, -⟩ := State.frames_cons hr
      show ({ U with heap := s₂.heap, slotsUsed := s₂.slotsUsed } : State) = { U.setFrames U.frames with heap := s₂.heap, slotsUsed := s₂.slotsUsed }
      rw [State.setFrames_self ht]
    subst hg
    refine Or.inl ⟨v, ⟨(({ U with heap := s₂.heap, slotsUsed := s₂.slotsUsed } : State).setVm s₂.vm), Ls ++ L, c0 + mc, s0 + ms⟩,
      ⟨X.admits, X.cas, X.clock, X.frames, X.room, X.hears, X.method, X.code, (X.here.setHeapUsed s₂.heap s₂.slotsUsed).setVm hW'.alike, X.tail, State.WarmedH.trans X.warmed hW', X.limits, X.bytes, X.same.trans (hsame.setVm s.vm)⟩,
      ⟨g, mk, s₂, L, rfl, rfl, hqc, rfl, hL, rfl, rfl⟩, ?_⟩
    show Steps p.tables e below _ ((({ U with heap := s₂.heap, slotsUsed := s₂.slotsUsed } : State).setVm s₂.vm).setTop { g with pc := g.pc + len₂, stack := v.toList ++ g.stack })
    rw [← hs₂]
    exact hsteps
  · obtain ⟨e2, q2, q3, q4, q5, q6⟩ := id hsm
    have e3 : s₂ = ({ (U.calling g mk a).setFrames s₂.frames with heap := s₂.heap, slotsUsed := s₂.slotsUsed } : State).setVm s₂.vm := by
      have : s₂ = ({ s₂ with vm := (U.calling g mk a).vm } : State).setVm s₂.vm := rfl
      rw [e2] at this
      exact this
    have hf₂ : s₂.frames = .throwing q :: .java g :: U.frames.tail := hend
    have hW' : U.WarmedH s₂.vm := hW₂
    have hs₂ : s₂ = ((({ U with heap := s₂.heap, slotsUsed := s₂.slotsUsed } : State).setVm s₂.vm).setTop g).pushFrame (.throwing q) := by
      refine e3.trans ?_
      rw [hf₂, State.calling_eq h.top, State.setFrames_setFrames, State.pushFrame, State.frames_setTop _ hr', State.setTop_of_frames _ hr', State.setFrames_setFrames, hr]
      rfl
    have hsame : U.sameButNew ({ U with heap := s₂.heap, slotsUsed := s₂.slotsUsed } : State) L mc ms := by
      refine ⟨?_, q2, q3, q4, q5, q6⟩
      obtain ⟨t, ht, -⟩ := State.frames_cons hr
      show ({ U with heap := s₂.heap, slotsUsed := s₂.slotsUsed } : State) = { U.setFrames U.frames with heap := s₂.heap, slotsUsed := s₂.slotsUsed }
      rw [State.setFrames_self ht]
    subst hg
    refine Or.inr ⟨q, ⟨(({ U with heap := s₂.heap, slotsUsed := s₂.slotsUsed } : State).setVm s₂.vm), Ls ++ L, c0 + mc, s0 + ms⟩,
      ⟨X.admits, X.cas, X.clock, X.frames, X.room, X.hears, X.method, X.code, (X.here.setHeapUsed s₂.heap s₂.slotsUsed).setVm hW'.alike, X.tail, State.WarmedH.trans X.warmed hW', X.limits, X.bytes, X.same.trans (hsame.setVm s.vm)⟩,
      ⟨g, mk, s₂, L, E, ce, rfl, rfl, hx, hce, hcv, hcl, rfl, hL, rfl, rfl⟩, ?_⟩
    show Steps p.tables e below _ (((({ U with heap := s₂.heap, slotsUsed := s₂.slotsUsed } : State).setVm s₂.vm).setTop g).pushFrame (.throwing q))
    rw [← hs₂]
    exact hsteps
end Payer
section Calls
variable {p : Program} {l : Launch} {e : Env} {R : Room} {s : State} {m : MethodId} {args : Array Value} {below : List Frame} {meth : Method} {c : Code} {T : State} {locs : List Loc} {cells slots : Nat}
theorem vx_callV (X : Stand p l e R s m args below meth c T locs cells slots) (hexec : p.tables.exec = Jvm.exec) {own C : String} {index : Nat} {y : MethodName} {bytes : ByteArray} {maxL : Nat} {ret : Option FieldType}
    (hown : s.vm.findClass own = some m.cls) (hlink : (Cond.methodLink own index y).before args s = true) (hinst : (Cond.instanceMethod y).before args s = true) (hsel : (Cond.selects C y y).before args s = true)
    (hcode : (Cond.code y bytes maxL ret).before args s = true) (hy : y.cls ≠ "java/lang/invoke/MethodHandle" ∧ y.cls ≠ "java/lang/invoke/VarHandle")
    {W9 : Nat} {Pre : Pt → Array Value → Prop} {Post : Pt → Array Value → Option Value → Pt → Prop} {PostX : Pt → Array Value → Addr → Pt → Prop} (hK : vx_Back l R p e below s args y 3 W9 Pre Post PostX)
    {b : Addr} {cellB : Cell} (hcell : T.heap[b]? = some cellB) (hobj : cellB.vm.isStatics = false) (hcls : s.vm.findClass C = some cellB.cls)
    {g : JFrame} (hg : g.method = m) (hsize : g.locals.size = c.maxLocals) {argsL rest : List Value} (hlen : ∀ sig, parseMethodDescriptor y.desc = some sig → argsL.length = sig.parameters.length)
    (hstack : g.stack = argsL.reverse ++ .ref b :: rest) (hW : 2 * g.monitorRoom + (rest.map fun v => v.category).sum ≤ W9) (hdg : decode c.code g.pc = .ok (.invokevirtual index, 3))
    (hpre : ∀ vm₁, s.WarmedH vm₁ → Pre ⟨T.setVm vm₁, locs, cells, slots⟩ (Value.ref b :: argsL).toArray) :
    (∃ (v : Option Value) (vm₁ : Vm) (B : Pt), s.WarmedH vm₁ ∧ Stand p l e R s m args below meth c B.U B.locs B.cells B.slots ∧ Post ⟨T.setVm vm₁, locs, cells, slots⟩ (Value.ref b :: argsL).toArray v B ∧
      ∀ target, Steps p.tables e below (B.U.setTop { g with pc := g.pc + 3, stack := v.toList ++ rest }) target → Steps p.tables e below (T.setTop g) target) ∨
    (∃ (q : Addr) (vm₁ : Vm) (B : Pt), s.WarmedH vm₁ ∧ Stand p l e R s m args below meth c B.U B.locs B.cells B.slots ∧ PostX ⟨T.setVm vm₁, locs, cells, slots⟩ (Value.ref b :: argsL).toArray q B ∧
      Steps p.tables e below (T.setTop g) ((B.U.setTop { g with stack := rest }).pushFrame (.throwing q))) := by
  obtain ⟨mk, methM, hnamed, hmethM, hstM, habM⟩ := Cond.instanceMethod_spec hinst
  obtain ⟨methM', cM, hmethM', -, -, -, -, -, -, hsigM⟩ := Cond.code_spec hnamed hcode
  cases hmethM.symm.trans hmethM'
  obtain ⟨c2, r2, m2, q1, q2, q3, q4, kP, hkP, hkPi⟩ := Cond.selects_spec hsel
  cases hcls.symm.trans q1
  cases (State.methodFound?_of_named hnamed hy).symm.trans q2
  cases hnamed.symm.trans q3
  have hselP : selectMethod e.platform s.vm cellB.cls mk = .method mk := by rw [Launch.admits_selectMethod X.admits]; exact q4
  obtain ⟨vm₁, X₁, hstep₁⟩ := X.invokevirtual hexec hown hlink hnamed hmethM hstM hkP hkPi hy (a := b) (cell := cellB) hcell
    (fun z h => by rw [h] at hobj; cases hobj) hselP hmethM habM hkP hkPi (g := g) hg (argsL := argsL) (rest := rest) (hlen _ hsigM) hstack hdg
  rcases hK m meth c ⟨T.setVm vm₁, locs, cells, slots⟩ { g with stack := rest } (.invokevirtual index) mk (Value.ref b :: argsL).toArray X₁ hg hsize hdg hW (X₁.named hnamed) (hpre vm₁ X₁.warmed) with ⟨v, B, X', hpost, hsteps⟩ | ⟨q, B, X', hpost, hsteps⟩
  · exact Or.inl ⟨v, vm₁, B, X₁.warmed, X', hpost, fun target h => hstep₁ _ fun acts => by rw [doInvoke_state]; exact hsteps.trans h⟩
  · exact Or.inr ⟨q, vm₁, B, X₁.warmed, X', hpost, hstep₁ _ fun acts => by rw [doInvoke_state]; exact hsteps⟩
theorem vx_callS (X : Stand p l e R s m args below meth c T locs cells slots) (hexec : p.tables.exec = Jvm.exec) {own : String} {index : Nat} {y : MethodName} {bytes : ByteArray} {maxL : Nat} {ret : Option FieldType}
    (hown : s.vm.findClass own = some m.cls) (hlink : (Cond.methodLink own index y).before args s = true) (hstat : (Cond.static y).before args s = true) (hinit : (Cond.initialized y.cls).before args s = true)
    (hcode : (Cond.code y bytes maxL ret).before args s = true) (hy : y.cls ≠ "java/lang/invoke/MethodHandle" ∧ y.cls ≠ "java/lang/invoke/VarHandle")
    {W9 : Nat} {Pre : Pt → Array Value → Prop} {Post : Pt → Array Value → Option Value → Pt → Prop} {PostX : Pt → Array Value → Addr → Pt → Prop} (hK : vx_Back l R p e below s args y 3 W9 Pre Post PostX)
    {g : JFrame} (hg : g.method = m) (hsize : g.locals.size = c.maxLocals) {argsL rest : List Value} (hlen : ∀ sig, parseMethodDescriptor y.desc = some sig → argsL.length = sig.parameters.length)
    (hstack : g.stack = argsL.reverse ++ rest) (hW : 2 * g.monitorRoom + (rest.map fun v => v.category).sum ≤ W9) (hdg : decode c.code g.pc = .ok (.invokestatic index, 3))
    (hpre : ∀ vm₁, s.WarmedH vm₁ → Pre ⟨T.setVm vm₁, locs, cells, slots⟩ argsL.toArray) :
    (∃ (v : Option Value) (vm₁ : Vm) (B : Pt), s.WarmedH vm₁ ∧ Stand p l e R s m args below meth c B.U B.locs B.cells B.slots ∧ Post ⟨T.setVm vm₁, locs, cells, slots⟩ argsL.toArray v B ∧
      ∀ target, Steps p.tables e below (B.U.setTop { g with pc := g.pc + 3, stack := v.toList ++ rest }) target → Steps p.tables e below (T.setTop g) target) ∨
    (∃ (q : Addr) (vm₁ : Vm) (B : Pt), s.WarmedH vm₁ ∧ Stand p l e R s m args below meth c B.U B.locs B.cells B.slots ∧ PostX ⟨T.setVm vm₁, locs, cells, slots⟩ argsL.toArray q B ∧
      Steps p.tables e below (T.setTop g) ((B.U.setTop { g with stack := rest }).pushFrame (.throwing q))) := by
  obtain ⟨mk, hnamed⟩ := Cond.code_named hcode
  obtain ⟨methM, cM, hmethM, -, -, -, -, -, -, hsigM⟩ := Cond.code_spec hnamed hcode
  have hstatic : methM.isStatic = true := Cond.static_spec hnamed hmethM hstat
  obtain ⟨kP, hkP, -⟩ := className_of_methodNamed hnamed
  have hinitP : kP.init = .initialized := Cond.initialized_spec (findClass_of_methodNamed hnamed) hkP hinit
  obtain ⟨vm₁, X₁, hstep₁⟩ := X.invokestatic hexec hown hlink hnamed hmethM hstatic hkP hinitP hy (g := g) hg (argsL := argsL) (rest := rest) (hlen _ hsigM) hstack hdg
  rcases hK m meth c ⟨T.setVm vm₁, locs, cells, slots⟩ { g with stack := rest } (.invokestatic index) mk argsL.toArray X₁ hg hsize hdg hW (X₁.named hnamed) (hpre vm₁ X₁.warmed) with ⟨v, B, X', hpost, hsteps⟩ | ⟨q, B, X', hpost, hsteps⟩
  · exact Or.inl ⟨v, vm₁, B, X₁.warmed, X', hpost, fun target h => hstep₁ _ fun acts => by rw [doInvoke_state]; exact hsteps.trans h⟩
  · exact Or.inr ⟨q, vm₁, B, X₁.warmed, X', hpost, hstep₁ _ fun acts => by rw [doInvoke_state]; exact hsteps⟩
end Calls
theorem vx_cls {s : State} {T : State} {vm₁ : Vm} {E : String} {k : ClassId} (hW : s.WarmedH vm₁) (h : (T.setVm vm₁).vm.findClass E = some k) : s.vm.findClass E = some k := by
  have h1 : vm₁.findClass E = some k := h
  rw [hW.alike.findClass] at h1
  exact h1
/-- the method's frame g, with q thrown over it -/
def vx_W (p : Program) (l : Launch) (e : Env) (R : Room) (s : State) (m : MethodId) (args : Array Value) (below : List Frame) (meth : Method) (c : Code) (H : Heap) (locs : List Loc) (cells slots : Nat) (Q : State → Prop) (g : JFrame) (q : Addr) : Prop :=
  ∀ T : State, T.heap = H → Stand p l e R s m args below meth c T locs cells slots → ∃ t, Steps p.tables e below ((T.setTop g).pushFrame (.throwing q)) t ∧ Q t
def vx_Run (p : Program) (l : Launch) (e : Env) (R : Room) (s : State) (m : MethodId) (args : Array Value) (below : List Frame) (meth : Method) (c : Code) (H : Heap) (locs : List Loc) (cells slots mc ms : Nat) (g : JFrame) (rest : List Value) (Qa : State → Outcome → State → Prop) (XC : String → State → State → Prop) (free : Addr → Prop) : Prop :=
  ∀ T : State, T.heap = H → Stand p l e R s m args below meth c T locs cells slots →
    (∃ (v : Option Value) (st₀ t T' : State) (L : List Loc), st₀.heap = H ∧ Stand p l e R s m args below meth c T' (locs ++ L) (cells + mc) (slots + ms) ∧ (∀ q ∈ L, free q.base) ∧ T'.heap = t.heap ∧ T'.vm = t.vm ∧ Qa st₀ (.returned v) t ∧
      Goes p e below T g T' { g with pc := g.pc + 3, stack := v.toList ++ rest }) ∨
    (∃ (q : Addr) (st₀ t T' : State) (L : List Loc) (E : String) (ce : Cell), st₀.heap = H ∧ Stand p l e R s m args below meth c T' (locs ++ L) (cells + mc) (slots + ms) ∧ (∀ z ∈ L, free z.base) ∧ T'.heap = t.heap ∧ T'.vm = t.vm ∧ XC E st₀ t ∧ t.heap[q]? = some ce ∧ ce.vm = .none ∧ s.vm.findClass E = some ce.cls ∧
      Steps p.tables e below (T.setTop g) ((T'.setTop { g with stack := rest }).pushFrame (.throwing q)))
def vx_X {S : Type} (px : S → Prop) (B : String → S → State → Prop) (A : Nat → Prop) : String → State → State → Prop := fun E st t => ∃ u : S, px u ∧ B E u t ∧ va_F A st t
section Runs
variable {p : Program} {l : Launch} {e : Env} {R : Room} {s : State} {m : MethodId} {args : Array Value} {below : List Frame} {meth : Method} {c : Code} {H : Heap} {locs : List Loc} {cells slots : Nat}
variable {y : MethodName} {bytes cc : ByteArray} {maxL nL mc ms n index : Nat} {ret : Option FieldType} {ws : List Cond} {rm : Room} {Pc : Array Value → State → Prop} {Qc : Array Value → State → Outcome → State → Prop} {XC : String → State → State → Prop} {free : Addr → Prop} {Ts : List Cond} {own C : String} {b : Addr} {As rest : List Value} {g : JFrame}
theorem vx_callBack (cb : CallB R s args own index y bytes maxL ret ws rm mc ms n) (hM : vx_Met l y ws rm Pc Qc XC mc ms free) (hbl : FrameBlind Pc) : vx_Back l R p e below s args y 3 8 (PreOf R mc ms Pc) (PostOf Qc mc ms free) (vx_Post XC mc ms free) := by
  obtain ⟨hrc, hrs, hfr, hlo, hws, hcw, -, hini, -⟩ := cb
  exact vx_back (bytes := bytes) (maxL := maxL) (ret := ret) hM hbl hrc hrs hfr hlo hws hcw (fun a' U hW => word_at hW (Or.inl (by first | rfl | simp [Cond.onTables, Cond.keeps, Cond.steady])) hini)
theorem vx_runV (S : CallFix p m c cc nL s args Ts own) (hM : vx_Met l y ws rm Pc Qc XC mc ms free) (cw : CallW R s args own C index y bytes maxL ret ws rm mc ms n) (hp : PreV s H C b Pc As)
    (hg : g.method = m) (hn : As.length = n) (hsize : g.locals.size = nL) (hstack : g.stack = As.reverse ++ .ref b :: rest) (hW : 2 * g.monitorRoom + (rest.map fun v => v.category).sum ≤ 8) (hdg : decode cc g.pc = .ok (.invokevirtual index, 3)) (hf : cells + mc ≤ R.cells ∧ slots + ms ≤ R.slots) :
    vx_Run p l e R s m args below meth c H locs cells slots mc ms g rest (Qc (Value.ref b :: As).toArray) XC free := by
  have hK : vx_Back l R p e below s args y 3 8 (PreOf R mc ms Pc) (PostOf Qc mc ms free) (vx_Post XC mc ms free) := vx_callBack cw.1 hM hp.1
  obtain ⟨⟨-, -, -, -, -, -, hcode, -, hy, hlen, hl⟩, hin, hse⟩ := cw
  obtain ⟨hx, hb, hml, ho, -⟩ := S
  obtain ⟨-, ⟨cellB, hcB, hoB, hclB⟩, hPc⟩ := hp
  intro T hT X
  rcases vx_callV X hx (C := C) (bytes := bytes) (maxL := maxL) (ret := ret) ho hl hin hse hcode hy hK (by rw [hT]; exact hcB) hoB hclB hg (hsize.trans hml.symm) (argsL := As) (rest := rest) (fun sig h => hn.trans (hlen sig h)) hstack hW (by rw [hb]; exact hdg)
    (fun vm₁ hW₁ => ⟨hf.1, hf.2, hPc (T.setVm vm₁) hT hW₁⟩) with ⟨v, vm₁, ⟨U', l2, c2, s2⟩, hW₁, X', ⟨g', mk, t, L, e1, e2, hq, h1, hL, h2, h3⟩, st⟩ | ⟨q, vm₁, ⟨U', l2, c2, s2⟩, hW₁, X', ⟨g', mk, t, L, E, ce, e1, e2, hq, hce, hcv, hcl, h1, hL, h2, h3⟩, st⟩
  · dsimp only [Pt.U, Pt.locs, Pt.cells, Pt.slots] at X' e1 e2 h1 h2 h3 st
    subst h1; subst h2; subst h3
    exact Or.inl ⟨v, (T.setVm vm₁).calling g' mk (Value.ref b :: As).toArray, t, U', L, hT, X', hL, e1, e2, hq, st⟩
  · dsimp only [Pt.U, Pt.locs, Pt.cells, Pt.slots] at X' e1 e2 h1 h2 h3 st hcl
    subst h1; subst h2; subst h3
    exact Or.inr ⟨q, (T.setVm vm₁).calling g' mk (Value.ref b :: As).toArray, t, U', L, E, ce, hT, X', hL, e1, e2, hq, hce, hcv, vx_cls hW₁ hcl, st⟩
theorem vx_runS (S : CallFix p m c cc nL s args Ts own) (hM : vx_Met l y ws rm Pc Qc XC mc ms free) (cw : CallB R s args own index y bytes maxL ret ws rm mc ms n ∧ (Cond.static y).before args s = true) (hp : PreS s H Pc As)
    (hg : g.method = m) (hn : As.length = n) (hsize : g.locals.size = nL) (hstack : g.stack = As.reverse ++ rest) (hW : 2 * g.monitorRoom + (rest.map fun v => v.category).sum ≤ 8) (hdg : decode cc g.pc = .ok (.invokestatic index, 3)) (hf : cells + mc ≤ R.cells ∧ slots + ms ≤ R.slots) :
    vx_Run p l e R s m args below meth c H locs cells slots mc ms g rest (Qc As.toArray) XC free := by
  have hK : vx_Back l R p e below s args y 3 8 (PreOf R mc ms Pc) (PostOf Qc mc ms free) (vx_Post XC mc ms free) := vx_callBack cw.1 hM hp.1
  obtain ⟨⟨-, -, -, -, -, -, hcode, hini, hy, hlen, hl⟩, hstt⟩ := cw
  obtain ⟨hx, hb, hml, ho, -⟩ := S
  intro T hT X
  rcases vx_callS X hx (bytes := bytes) (maxL := maxL) (ret := ret) ho hl hstt hini hcode hy hK hg (hsize.trans hml.symm) (argsL := As) (rest := rest) (fun sig h => hn.trans (hlen sig h)) hstack hW (by rw [hb]; exact hdg)
    (fun vm₁ hW₁ => ⟨hf.1, hf.2, hp.2 (T.setVm vm₁) hT hW₁⟩) with ⟨v, vm₁, ⟨U', l2, c2, s2⟩, hW₁, X', ⟨g', mk, t, L, e1, e2, hq, h1, hL, h2, h3⟩, st⟩ | ⟨q, vm₁, ⟨U', l2, c2, s2⟩, hW₁, X', ⟨g', mk, t, L, E, ce, e1, e2, hq, hce, hcv, hcl, h1, hL, h2, h3⟩, st⟩
  · dsimp only [Pt.U, Pt.locs, Pt.cells, Pt.slots] at X' e1 e2 h1 h2 h3 st
    subst h1; subst h2; subst h3
    exact Or.inl ⟨v, (T.setVm vm₁).calling g' mk As.toArray, t, U', L, hT, X', hL, e1, e2, hq, st⟩
  · dsimp only [Pt.U, Pt.locs, Pt.cells, Pt.slots] at X' e1 e2 h1 h2 h3 st hcl
    subst h1; subst h2; subst h3
    exact Or.inr ⟨q, (T.setVm vm₁).calling g' mk As.toArray, t, U', L, E, ce, hT, X', hL, e1, e2, hq, hce, hcv, vx_cls hW₁ hcl, st⟩
end Runs
section Rows
variable {p : Program} {l : Launch} {e : Env} {R : Room} {s : State} {m : MethodId} {args : Array Value} {below : List Frame} {meth : Method} {c : Code} {H : Heap} {locs : List Loc} {cells slots : Nat} {Q : State → Prop}
variable {mc ms : Nat} {free : Addr → Prop} {A0 A1 : Nat → Prop} {H0 : Heap} {a : Array Value} {pc : Nat} {ls : Array Slot} {st0 rest : List Value}
theorem vx_keep {st₀ t T' : State} {L : List Loc} (h0 : st₀.heap = H) (e1 : T'.heap = t.heap) (hS : va_S A0 H0 H locs) (hA : ∀ q, q < H.size → A1 q → A0 q) (hf : ∀ q, free q → A0 q) (hL : ∀ q ∈ L, free q.base) (hF : va_F A1 st₀ t) :
    H.size ≤ T'.heap.size ∧ (∀ q : Nat, q < H.size → ¬ A1 q → T'.heap[q]? = H[q]?) ∧ va_S A0 H0 T'.heap (locs ++ L) := by
  obtain ⟨hz, hk⟩ := hF
  rw [h0] at hz hk
  exact ⟨by rw [e1]; exact hz, fun q h1 h2 => by rw [e1]; exact hk q h1 h2,
    ⟨Nat.le_trans hS.1 (by rw [e1]; exact hz), fun q h1 h2 => by rw [e1, hk q (Nat.lt_of_lt_of_le h1 hS.1) (fun z => h2 (hA q (Nat.lt_of_lt_of_le h1 hS.1) z))]; exact hS.2.1 q h1 h2, fun q hq => by
      rcases List.mem_append.mp hq with h | h
      · exact hS.2.2 q h
      · exact hf _ (hL q h)⟩⟩
theorem vx_calli {S SX : Type} {post : Int32 → S → Prop} {px : SX → Prop} {B : S → State → Prop} {BX : String → SX → State → Prop} {AX : Nat → Prop} (hr : vx_Run p l e R s m args below meth c H locs cells slots mc ms (F0 m pc ls st0) rest (va_Qi post B A1 a) (vx_X px BX AX) free) (hS : va_S A0 H0 H locs) (hA : ∀ q, q < H.size → A1 q → A0 q) (hf : ∀ q, free q → A0 q) (hAX : ∀ q, q < H.size → AX q → A0 q)
    (kx : ∀ (E : String) (ce : Cell) (q9 : Addr) (u : SX) (t : State) (H1 : Heap) (locs1 : List Loc), t.heap = H1 → s.vm.Alike t.vm → px u → BX E u t → H.size ≤ H1.size → (∀ q : Nat, q < H.size → ¬ AX q → H1[q]? = H[q]?) → va_S A0 H0 H1 locs1 → H1[q9]? = some ce → ce.vm = .none → s.vm.findClass E = some ce.cls → vx_W p l e R s m args below meth c H1 locs1 (cells + mc) (slots + ms) Q (F0 m pc ls rest) q9)
    (kk : ∀ (r : Int32) (u : S) (t : State) (H1 : Heap) (locs1 : List Loc), t.heap = H1 → s.vm.Alike t.vm → post r u → B u t → H.size ≤ H1.size → (∀ q : Nat, q < H.size → ¬ A1 q → H1[q]? = H[q]?) → va_S A0 H0 H1 locs1 → W p l e R s m args below meth c H1 locs1 (cells + mc) (slots + ms) Q (F0 m (pc + 3) ls (.int r :: rest))) : W p l e R s m args below meth c H locs cells slots Q (F0 m pc ls st0) := by
  intro T hT X
  rcases hr T hT X with ⟨v, st₀, t, T', L, h0, X', hL, e1, e2, ⟨⟨r, u, hv, hp, hb⟩, hF⟩, st⟩ | ⟨q, st₀, t, T', L, E, ce, h0, X', hL, e1, e2, ⟨u, hp, hb, hF⟩, hce, hcv, hcl, st⟩
  · cases hv
    obtain ⟨k1, k2, k3⟩ := vx_keep h0 e1 hS hA hf hL hF
    obtain ⟨t2, a1, b1⟩ := kk r u t T'.heap (locs ++ L) e1.symm (by rw [← e2]; exact X'.warmed.alike) hp hb k1 k2 k3 T' rfl X'
    exact ⟨t2, st t2 a1, b1⟩
  · obtain ⟨k1, k2, k3⟩ := vx_keep h0 e1 hS hAX hf hL hF
    obtain ⟨t2, a1, b1⟩ := kx E ce q u t T'.heap (locs ++ L) e1.symm (by rw [← e2]; exact X'.warmed.alike) hp hb k1 k2 k3 (by rw [e1]; exact hce) hcv hcl T' rfl X'
    exact ⟨t2, st.trans a1, b1⟩
theorem vx_calll {S SX : Type} {post : Int64 → S → Prop} {px : SX → Prop} {B : S → State → Prop} {BX : String → SX → State → Prop} {AX : Nat → Prop} (hr : vx_Run p l e R s m args below meth c H locs cells slots mc ms (F0 m pc ls st0) rest (va_Ql post B A1 a) (vx_X px BX AX) free) (hS : va_S A0 H0 H locs) (hA : ∀ q, q < H.size → A1 q → A0 q) (hf : ∀ q, free q → A0 q) (hAX : ∀ q, q < H.size → AX q → A0 q)
    (kx : ∀ (E : String) (ce : Cell) (q9 : Addr) (u : SX) (t : State) (H1 : Heap) (locs1 : List Loc), t.heap = H1 → s.vm.Alike t.vm → px u → BX E u t → H.size ≤ H1.size → (∀ q : Nat, q < H.size → ¬ AX q → H1[q]? = H[q]?) → va_S A0 H0 H1 locs1 → H1[q9]? = some ce → ce.vm = .none → s.vm.findClass E = some ce.cls → vx_W p l e R s m args below meth c H1 locs1 (cells + mc) (slots + ms) Q (F0 m pc ls rest) q9)
    (kk : ∀ (r : Int64) (u : S) (t : State) (H1 : Heap) (locs1 : List Loc), t.heap = H1 → s.vm.Alike t.vm → post r u → B u t → H.size ≤ H1.size → (∀ q : Nat, q < H.size → ¬ A1 q → H1[q]? = H[q]?) → va_S A0 H0 H1 locs1 → W p l e R s m args below meth c H1 locs1 (cells + mc) (slots + ms) Q (F0 m (pc + 3) ls (.long r :: rest))) : W p l e R s m args below meth c H locs cells slots Q (F0 m pc ls st0) := by
  intro T hT X
  rcases hr T hT X with ⟨v, st₀, t, T', L, h0, X', hL, e1, e2, ⟨⟨r, u, hv, hp, hb⟩, hF⟩, st⟩ | ⟨q, st₀, t, T', L, E, ce, h0, X', hL, e1, e2, ⟨u, hp, hb, hF⟩, hce, hcv, hcl, st⟩
  · cases hv
    obtain ⟨k1, k2, k3⟩ := vx_keep h0 e1 hS hA hf hL hF
    obtain ⟨t2, a1, b1⟩ := kk r u t T'.heap (locs ++ L) e1.symm (by rw [← e2]; exact X'.warmed.alike) hp hb k1 k2 k3 T' rfl X'
    exact ⟨t2, st t2 a1, b1⟩
  · obtain ⟨k1, k2, k3⟩ := vx_keep h0 e1 hS hAX hf hL hF
    obtain ⟨t2, a1, b1⟩ := kx E ce q u t T'.heap (locs ++ L) e1.symm (by rw [← e2]; exact X'.warmed.alike) hp hb k1 k2 k3 (by rw [e1]; exact hce) hcv hcl T' rfl X'
    exact ⟨t2, st.trans a1, b1⟩
theorem vx_callf {S SX : Type} {post : UInt32 → S → Prop} {px : SX → Prop} {B : S → State → Prop} {BX : String → SX → State → Prop} {AX : Nat → Prop} (hr : vx_Run p l e R s m args below meth c H locs cells slots mc ms (F0 m pc ls st0) rest (va_Qf post B A1 a) (vx_X px BX AX) free) (hS : va_S A0 H0 H locs) (hA : ∀ q, q < H.size → A1 q → A0 q) (hf : ∀ q, free q → A0 q) (hAX : ∀ q, q < H.size → AX q → A0 q)
    (kx : ∀ (E : String) (ce : Cell) (q9 : Addr) (u : SX) (t : State) (H1 : Heap) (locs1 : List Loc), t.heap = H1 → s.vm.Alike t.vm → px u → BX E u t → H.size ≤ H1.size → (∀ q : Nat, q < H.size → ¬ AX q → H1[q]? = H[q]?) → va_S A0 H0 H1 locs1 → H1[q9]? = some ce → ce.vm = .none → s.vm.findClass E = some ce.cls → vx_W p l e R s m args below meth c H1 locs1 (cells + mc) (slots + ms) Q (F0 m pc ls rest) q9)
    (kk : ∀ (r : UInt32) (u : S) (t : State) (H1 : Heap) (locs1 : List Loc), t.heap = H1 → s.vm.Alike t.vm → post r u → B u t → H.size ≤ H1.size → (∀ q : Nat, q < H.size → ¬ A1 q → H1[q]? = H[q]?) → va_S A0 H0 H1 locs1 → W p l e R s m args below meth c H1 locs1 (cells + mc) (slots + ms) Q (F0 m (pc + 3) ls (.float r :: rest))) : W p l e R s m args below meth c H locs cells slots Q (F0 m pc ls st0) := by
  intro T hT X
  rcases hr T hT X with ⟨v, st₀, t, T', L, h0, X', hL, e1, e2, ⟨⟨r, u, hv, hp, hb⟩, hF⟩, st⟩ | ⟨q, st₀, t, T', L, E, ce, h0, X', hL, e1, e2, ⟨u, hp, hb, hF⟩, hce, hcv, hcl, st⟩
  · cases hv
    obtain ⟨k1, k2, k3⟩ := vx_keep h0 e1 hS hA hf hL hF
    obtain ⟨t2, a1, b1⟩ := kk r u t T'.heap (locs ++ L) e1.symm (by rw [← e2]; exact X'.warmed.alike) hp hb k1 k2 k3 T' rfl X'
    exact ⟨t2, st t2 a1, b1⟩
  · obtain ⟨k1, k2, k3⟩ := vx_keep h0 e1 hS hAX hf hL hF
    obtain ⟨t2, a1, b1⟩ := kx E ce q u t T'.heap (locs ++ L) e1.symm (by rw [← e2]; exact X'.warmed.alike) hp hb k1 k2 k3 (by rw [e1]; exact hce) hcv hcl T' rfl X'
    exact ⟨t2, st.trans a1, b1⟩
theorem vx_calld {S SX : Type} {post : UInt64 → S → Prop} {px : SX → Prop} {B : S → State → Prop} {BX : String → SX → State → Prop} {AX : Nat → Prop} (hr : vx_Run p l e R s m args below meth c H locs cells slots mc ms (F0 m pc ls st0) rest (va_Qd post B A1 a) (vx_X px BX AX) free) (hS : va_S A0 H0 H locs) (hA : ∀ q, q < H.size → A1 q → A0 q) (hf : ∀ q, free q → A0 q) (hAX : ∀ q, q < H.size → AX q → A0 q)
    (kx : ∀ (E : String) (ce : Cell) (q9 : Addr) (u : SX) (t : State) (H1 : Heap) (locs1 : List Loc), t.heap = H1 → s.vm.Alike t.vm → px u → BX E u t → H.size ≤ H1.size → (∀ q : Nat, q < H.size → ¬ AX q → H1[q]? = H[q]?) → va_S A0 H0 H1 locs1 → H1[q9]? = some ce → ce.vm = .none → s.vm.findClass E = some ce.cls → vx_W p l e R s m args below meth c H1 locs1 (cells + mc) (slots + ms) Q (F0 m pc ls rest) q9)
    (kk : ∀ (r : UInt64) (u : S) (t : State) (H1 : Heap) (locs1 : List Loc), t.heap = H1 → s.vm.Alike t.vm → post r u → B u t → H.size ≤ H1.size → (∀ q : Nat, q < H.size → ¬ A1 q → H1[q]? = H[q]?) → va_S A0 H0 H1 locs1 → W p l e R s m args below meth c H1 locs1 (cells + mc) (slots + ms) Q (F0 m (pc + 3) ls (.double r :: rest))) : W p l e R s m args below meth c H locs cells slots Q (F0 m pc ls st0) := by
  intro T hT X
  rcases hr T hT X with ⟨v, st₀, t, T', L, h0, X', hL, e1, e2, ⟨⟨r, u, hv, hp, hb⟩, hF⟩, st⟩ | ⟨q, st₀, t, T', L, E, ce, h0, X', hL, e1, e2, ⟨u, hp, hb, hF⟩, hce, hcv, hcl, st⟩
  · cases hv
    obtain ⟨k1, k2, k3⟩ := vx_keep h0 e1 hS hA hf hL hF
    obtain ⟨t2, a1, b1⟩ := kk r u t T'.heap (locs ++ L) e1.symm (by rw [← e2]; exact X'.warmed.alike) hp hb k1 k2 k3 T' rfl X'
    exact ⟨t2, st t2 a1, b1⟩
  · obtain ⟨k1, k2, k3⟩ := vx_keep h0 e1 hS hAX hf hL hF
    obtain ⟨t2, a1, b1⟩ := kx E ce q u t T'.heap (locs ++ L) e1.symm (by rw [← e2]; exact X'.warmed.alike) hp hb k1 k2 k3 (by rw [e1]; exact hce) hcv hcl T' rfl X'
    exact ⟨t2, st.trans a1, b1⟩
theorem vx_callv {S SX : Type} {post : S → Prop} {px : SX → Prop} {B : S → State → Prop} {BX : String → SX → State → Prop} {AX : Nat → Prop} (hr : vx_Run p l e R s m args below meth c H locs cells slots mc ms (F0 m pc ls st0) rest (va_Qv post B A1 a) (vx_X px BX AX) free) (hS : va_S A0 H0 H locs) (hA : ∀ q, q < H.size → A1 q → A0 q) (hf : ∀ q, free q → A0 q) (hAX : ∀ q, q < H.size → AX q → A0 q)
    (kx : ∀ (E : String) (ce : Cell) (q9 : Addr) (u : SX) (t : State) (H1 : Heap) (locs1 : List Loc), t.heap = H1 → s.vm.Alike t.vm → px u → BX E u t → H.size ≤ H1.size → (∀ q : Nat, q < H.size → ¬ AX q → H1[q]? = H[q]?) → va_S A0 H0 H1 locs1 → H1[q9]? = some ce → ce.vm = .none → s.vm.findClass E = some ce.cls → vx_W p l e R s m args below meth c H1 locs1 (cells + mc) (slots + ms) Q (F0 m pc ls rest) q9)
    (kk : ∀ (u : S) (t : State) (H1 : Heap) (locs1 : List Loc), t.heap = H1 → s.vm.Alike t.vm → post u → B u t → H.size ≤ H1.size → (∀ q : Nat, q < H.size → ¬ A1 q → H1[q]? = H[q]?) → va_S A0 H0 H1 locs1 → W p l e R s m args below meth c H1 locs1 (cells + mc) (slots + ms) Q (F0 m (pc + 3) ls (rest))) : W p l e R s m args below meth c H locs cells slots Q (F0 m pc ls st0) := by
  intro T hT X
  rcases hr T hT X with ⟨v, st₀, t, T', L, h0, X', hL, e1, e2, ⟨⟨u, hv, hp, hb⟩, hF⟩, st⟩ | ⟨q, st₀, t, T', L, E, ce, h0, X', hL, e1, e2, ⟨u, hp, hb, hF⟩, hce, hcv, hcl, st⟩
  · cases hv
    obtain ⟨k1, k2, k3⟩ := vx_keep h0 e1 hS hA hf hL hF
    obtain ⟨t2, a1, b1⟩ := kk u t T'.heap (locs ++ L) e1.symm (by rw [← e2]; exact X'.warmed.alike) hp hb k1 k2 k3 T' rfl X'
    exact ⟨t2, st t2 a1, b1⟩
  · obtain ⟨k1, k2, k3⟩ := vx_keep h0 e1 hS hAX hf hL hF
    obtain ⟨t2, a1, b1⟩ := kx E ce q u t T'.heap (locs ++ L) e1.symm (by rw [← e2]; exact X'.warmed.alike) hp hb k1 k2 k3 (by rw [e1]; exact hce) hcv hcl T' rfl X'
    exact ⟨t2, st.trans a1, b1⟩
/-- caught by the row x of this method's table; the rows ahead don't take it -/
theorem vx_catch {own name : String} {E : String} {ce : Cell} {q : Addr} (hown : s.vm.findClass own = some m.cls) (pre : List ExceptionTableEntry) (x : ExceptionTableEntry) (suf : List ExceptionTableEntry) (hsplit : c.exceptionTable.toList = pre ++ x :: suf)
    (hpass : ∀ z ∈ pre, covers z pc = false ∨ (z.catchType ≠ 0 ∧ ∃ nm : String, (Cond.classLink own z.catchType nm).before args s = true ∧ va_Nc E nm s)) (hx : covers x pc = true) (h0 : x.catchType ≠ 0)
    (hlink : (Cond.classLink own x.catchType name).before args s = true) (hcast : (Cond.castable E name).before args s = true) (hcell : H[q]? = some ce) (hv : ce.vm = .none) (hcl : s.vm.findClass E = some ce.cls)
    (kk : W p l e R s m args below meth c H locs cells slots Q (F0 m x.handlerPc ls [.ref q])) : vx_W p l e R s m args below meth c H locs cells slots Q (F0 m pc ls rest) q := by
  intro T hT X
  have hpl : e.platform.magicAccessors = ({} : Platform).magicAccessors := by rw [X.admits.platform]
  obtain ⟨c3, c4, hc3, hc4, hasg⟩ := Cond.castable_spec hcast
  cases Option.some.inj (hc3.symm.trans hcl)
  obtain ⟨c5, hc5, hcl5⟩ := Cond.classLink_spec hown hlink e.platform hpl
  cases Option.some.inj (hc4.symm.trans hc5)
  obtain ⟨vm', X', st⟩ := X.thenCaughtThrough q (g := F0 m pc ls rest) rfl (Steps.refl _) (by rw [hT]; exact hcell) (by rw [hv]; rfl) (by obtain ⟨k9, h9, -⟩ := Vm.findClass_spec hcl; exact ⟨k9, h9⟩) pre x suf hsplit
    (fun z hz => by
      rcases hpass z hz with h | ⟨hz0, nm, hl1, hn1⟩
      · exact Or.inl h
      · obtain ⟨c6, hc6, hcl6⟩ := Cond.classLink_spec hown hl1 e.platform hpl
        obtain ⟨a8, b8, h1, h2, h3⟩ := hn1
        cases Option.some.inj (h1.symm.trans hcl)
        cases Option.some.inj (h2.symm.trans hc6)
        exact Or.inr ⟨hz0, _, hcl6, h3⟩) hx (Or.inr ⟨h0, c4, hcl5, hasg⟩)
  obtain ⟨t, a1, b1⟩ := kk (T.setVm vm') hT X'
  exact ⟨t, st.trans a1, b1⟩
end Rows
section Ends
variable {p : Program} {l : Launch} {e : Env} {R : Room} {s : State} {m : MethodId} {args : Array Value} {below : List Frame} {meth : Method} {c : Code} {H : Heap} {locs : List Loc} {cells slots : Nat} {Q : State → Prop}
variable {mc ms : Nat} {free : Addr → Prop} {A0 A1 : Nat → Prop} {H0 : Heap} {a : Array Value} {ls : Array Slot} {st0 rest : List Value}
variable {Qc : Array Value → State → Outcome → State → Prop} {XC : String → State → State → Prop}
/-- what a body that may throw owes at its end -/
def vx_MQ (below : List Frame) (Qc : Array Value → State → Outcome → State → Prop) (XC : String → State → State → Prop) (a : Array Value) (s : State) (mc ms : Nat) (free : Addr → Prop) : State → Prop := fun t =>
  ∃ o, t.status = .running ∧ Ended t below o ∧ vx_Q Qc XC mc ms free a s o t
theorem vx_ret {g : JFrame} {mc ms : Nat} (k : W p l e R s m args below meth c H locs cells slots (MQ below Qc args s mc ms free) g) : W p l e R s m args below meth c H locs cells slots (vx_MQ below Qc XC args s mc ms free) g := by
  intro T hT X
  obtain ⟨t, a1, o, b1, b2, b3, b4⟩ := k T hT X
  exact ⟨t, a1, o, b1, b2, Or.inl ⟨b3, b4⟩⟩
/-- not caught here: it goes on to the caller -/
theorem vx_widen {g : JFrame} {q : Addr} {k n : Nat} (h1 : cells ≤ k) (h2 : slots ≤ n) (kk : vx_W p l e R s m args below meth c H locs k n Q g q) : vx_W p l e R s m args below meth c H locs cells slots Q g q := fun T hT X => kk T hT (stand_widen X h1 h2)
theorem vx_out {pc : Nat} {E : String} {ce : Cell} {q : Addr} {mc ms : Nat} (hout : ∀ x ∈ c.exceptionTable.toList, covers x pc = false) (hlocks : meth.locks = false) (hcell : H[q]? = some ce) (hv : ce.vm = .none) (hcl : s.vm.findClass E = some ce.cls)
    (hx : ∀ t : State, t.heap = H → s.vm.Alike t.vm → XC E s t) (hf : ∀ z ∈ locs, free z.base) (hc : cells ≤ mc) (hs : slots ≤ ms) :
    vx_W p l e R s m args below meth c H locs cells slots (vx_MQ below Qc XC args s mc ms free) (F0 m pc ls rest) q := by
  intro T hT X
  obtain ⟨st1, hrun, hend, hW, hsm⟩ := X.leaveThrown q (g := F0 m pc ls rest) rfl rfl rfl hout hlocks
  have hcell9 : (T.setFrames (.throwing q :: below)).heap[q]? = some ce := by
    show T.heap[q]? = some ce
    rw [hT]; exact hcell
  exact ⟨_, st1, .threw q, hrun, hend, Or.inr ⟨q, rfl, E, ce, locs, hx _ hT hW.alike, hcell9, hv, hcl, hW, hsm.mono hc hs, hf⟩⟩
theorem vx_frame {U : State} {k n : Nat} (h : s.sameButNew ({ U with vm := s.vm } : State) locs k n) : s.heap.size ≤ U.heap.size ∧ ∀ q : Nat, q < s.heap.size → (∀ z ∈ locs, z.base ≠ q) → U.heap[q]? = s.heap[q]? := by
  obtain ⟨-, h2, -, -, -, h6⟩ := h
  refine ⟨h2, fun q hq hz => ?_⟩
  obtain ⟨c9, e1, e2, e3, e4⟩ := h6 q _ (Array.getElem?_eq_getElem hq)
  have hs : c9.slots = (s.heap[q]).slots := Array.ext_getElem? fun i => e4 i fun hm => hz _ hm rfl
  have h9 : c9 = s.heap[q] := by
    rw [hs] at e2
    exact e2
  have e5 : U.heap[q]? = some c9 := e1
  rw [e5, h9, Array.getElem?_eq_getElem hq]
/-- the words of a throw but the four that speak of the heap -/
def vx_no (w : Cond) : Bool := decide (w ≠ .isRef (.static Bundle.tN "UNASSIGNED_STACK" Bundle.steD)) && decide (w ≠ .isRef (.static Bundle.tN "SUPPRESSED_SENTINEL" Bundle.listD)) && decide (w ≠ .laysStatic Bundle.tN "UNASSIGNED_STACK" Bundle.steD) && decide (w ≠ .laysStatic Bundle.tN "SUPPRESSED_SENTINEL" Bundle.listD)
def vx_at0 (own : String) (ic : Nat) (X : String) (names : List String) : List Cond := (Bundle.ownAtoms0 own ic X names).filter vx_no
def vx_atS (own : String) (ic : Nat) (X : String) (names : List String) : List Cond := (Bundle.ownAtoms own ic X names).filter vx_no
/-- a word that the tables alone decide, or a good one -/
def vx_ot (w : Cond) : Bool := w.onTables || goodWord w
theorem vx_ot_at {args a' : Array Value} {s U : State} {w : Cond} (hW : s.WarmedH U.vm) (hvm : s.vm = U.vm) (hg : vx_ot w = true) (h : w.before args s = true) : w.before a' U = true := by
  simp only [vx_ot, Bool.or_eq_true] at hg
  rcases hg with hg | hg
  · exact va_tabs hg hvm h
  · exact word_at hW (good_of_word hg) h
/-- a list's words: the good ones out of the method's own list, the others by premises of their own -/
theorem vx_hat {args : Array Value} {s : State} {L B : List Cond} (h1 : ∀ w ∈ L.filter goodWord, w.before args s = true) (h2 : ∀ w ∈ L.filter (fun w => !goodWord w), w ∈ B) (h3 : ∀ w ∈ B, w.before args s = true) : ∀ w ∈ L, w.before args s = true := by
  intro w hw
  by_cases g : goodWord w = true
  · exact h1 w (List.mem_filter.mpr ⟨hw, g⟩)
  · refine h3 w (h2 w (List.mem_filter.mpr ⟨hw, ?_⟩))
    show (!goodWord w) = true
    cases hgw : goodWord w
    · rfl
    · exact absurd hgw g
theorem vx_c {args : Array Value} {s : State} {w : Cond} {B : List Cond} (h : w.before args s = true) (t : ∀ w ∈ B, w.before args s = true) : ∀ w' ∈ w :: B, w'.before args s = true := fun w' h' => (List.mem_cons.mp h').elim (fun e => by rw [e]; exact h) (t w')
theorem vx_n {args : Array Value} {s : State} : ∀ w ∈ ([] : List Cond), w.before args s = true := fun _ h => nomatch h
theorem vx_own {args : Array Value} {s : State} {L : List Cond} (h1 : ∀ w ∈ L.filter vx_no, w.before args s = true)
    (hU : (Cond.isRef (.static Bundle.tN "UNASSIGNED_STACK" Bundle.steD)).before args s = true) (hN : (Cond.isRef (.static Bundle.tN "SUPPRESSED_SENTINEL" Bundle.listD)).before args s = true)
    (lU : (Cond.laysStatic Bundle.tN "UNASSIGNED_STACK" Bundle.steD).before args s = true) (lN : (Cond.laysStatic Bundle.tN "SUPPRESSED_SENTINEL" Bundle.listD).before args s = true) : ∀ w ∈ L, w.before args s = true := by
  intro w hw
  by_cases e1 : w = .isRef (.static Bundle.tN "UNASSIGNED_STACK" Bundle.steD)
  · rw [e1]; exact hU
  · by_cases e2 : w = .isRef (.static Bundle.tN "SUPPRESSED_SENTINEL" Bundle.listD)
    · rw [e2]; exact hN
    · by_cases e3 : w = .laysStatic Bundle.tN "UNASSIGNED_STACK" Bundle.steD
      · rw [e3]; exact lU
      · by_cases e4 : w = .laysStatic Bundle.tN "SUPPRESSED_SENTINEL" Bundle.listD
        · rw [e4]; exact lN
        · exact h1 w (List.mem_filter.mpr ⟨hw, by unfold vx_no; rw [decide_eq_true e1, decide_eq_true e2, decide_eq_true e3, decide_eq_true e4]; rfl⟩)
/-- where a static field lies, its class's statics cell in H -/
def vx_L (C n d : String) (A : Nat → Prop) (U : State) (H : Heap) : Prop := ∃ (c : ClassId) (k : Class) (i : Nat) (f : Field) (a : Nat) (cell : Cell), U.vm.findClass C = some c ∧ U.fieldFound? C n d = some (c, k, i, f) ∧ f.isStatic = true ∧ k.statics = some a ∧ H[a]? = some cell ∧ cell.vm.isStatics = true ∧ cell.cls = c ∧ f.slot < cell.slots.size ∧ k.staticTypes[f.slot]? = some f.type ∧ ¬ A a
theorem vx_L.moved {C n d : String} {A : Nat → Prop} {u U : State} {H : Heap} (hvm : u.vm.Alike U.vm) (h : vx_L C n d A u H) : vx_L C n d A U H := by
  obtain ⟨c, k, i, f, a, cell, h1, h2, h3, h4, h5, h6, h7, h8, h9, h10⟩ := h
  obtain ⟨k', hi', he⟩ := State.fieldFound?_setVm hvm h2
  exact ⟨c, k', i, f, a, cell, by rw [hvm.findClass]; exact h1, hi', h3, by rw [he]; exact h4, h5, h6, h7, h8, by rw [he]; exact h9, h10⟩
theorem vx_L.kept {C n d : String} {A : Nat → Prop} {U : State} {H H1 : Heap} (h : vx_L C n d A U H) (hq : ∀ a : Nat, a < H.size → ¬ A a → H1[a]? = H[a]?) : vx_L C n d A U H1 := by
  obtain ⟨c, k, i, f, a, cell, h1, h2, h3, h4, h5, h6, h7, h8, h9, h10⟩ := h
  exact ⟨c, k, i, f, a, cell, h1, h2, h3, h4, by rw [hq a (Array.getElem?_eq_some_iff.mp h5).1 h10]; exact h5, h6, h7, h8, h9, h10⟩
theorem vx_L.narrow {C n d : String} {A B : Nat → Prop} {U : State} {H : Heap} (h : vx_L C n d A U H) (hAB : ∀ q, B q → A q) : vx_L C n d B U H := by
  obtain ⟨c, k, i, f, a, cell, h1, h2, h3, h4, h5, h6, h7, h8, h9, h10⟩ := h
  exact ⟨c, k, i, f, a, cell, h1, h2, h3, h4, h5, h6, h7, h8, h9, fun z => h10 (hAB _ z)⟩
theorem vx_L.word {C n d : String} {A : Nat → Prop} {s : State} {args : Array Value} (h : vx_L C n d A s s.heap) : (Cond.laysStatic C n d).before args s = true := by
  obtain ⟨c, k, i, f, a, cell, h1, h2, h3, h4, h5, h6, h7, h8, h9, -⟩ := h
  show (Cond.laysStatic C n d).holds args s none s [] = true
  exact Cond.laysStatic_of h1 h2 h3 h4 h5 h6 h7 h8 h9
/-- .. and what it holds: null or some reference -/
def vx_Zq (C n d : String) (A : Nat → Prop) (U : State) (H : Heap) : Prop := va_Zq C n d A U H ∧ vx_L C n d A U H
theorem vx_Zq.moved {C n d : String} {A : Nat → Prop} {u U : State} {H : Heap} (hvm : u.vm.Alike U.vm) (h : vx_Zq C n d A u H) : vx_Zq C n d A U H := ⟨va_Zq.moved hvm h.1, vx_L.moved hvm h.2⟩
theorem vx_Zq.kept {C n d : String} {A : Nat → Prop} {U : State} {H H1 : Heap} (h : vx_Zq C n d A U H) (hq : ∀ a : Nat, a < H.size → ¬ A a → H1[a]? = H[a]?) : vx_Zq C n d A U H1 := ⟨va_Zq.kept h.1 hq, vx_L.kept h.2 hq⟩
theorem vx_Zq.narrow {C n d : String} {A B : Nat → Prop} {U : State} {H : Heap} (h : vx_Zq C n d A U H) (hAB : ∀ q, B q → A q) : vx_Zq C n d B U H := ⟨va_Zq.narrow h.1 hAB, vx_L.narrow h.2 hAB⟩
theorem vx_Zqof {args : Array Value} {s : State} {C n d : String} {A : Nat → Prop} (hl : (Cond.laysStatic C n d).before args s = true) (hini : (Cond.initialized C).before args s = true) (h : (Cond.isRef (.static C n d)).before args s = true) (hA : ∀ a : Nat, a < s.heap.size → ¬ A a) : vx_Zq C n d A s s.heap := by
  refine ⟨va_Zqof hl hini h hA, ?_⟩
  obtain ⟨c, k, i, f, a, cell, h1, h2, h3, h4, h5, h6, h7, h8, h9⟩ := Cond.laysStatic_spec hl
  exact ⟨c, k, i, f, a, cell, h1, h2, h3, h4, h5, h6, h7, h8, h9, hA a (Array.getElem?_eq_some_iff.mp h5).1⟩
theorem vx_isRef {C n d : String} {v : Value} {A : Nat → Prop} {s : State} {args : Array Value} (h : va_Z C n d v A s s.heap) (hv : v.isRef = true) : (Cond.isRef (.static C n d)).before args s = true := by
  obtain ⟨cf, kf, fi, f, a, cell, h1, h2, h3, h4, h5, h6, h7, -⟩ := h
  have he : (Term.static C n d).eval args s none [] s = some v := by
    simp [Term.eval, State.fieldNamed?, h1, h2, h4, h5, h6, h7]
  simp only [Cond.before, Cond.holds, Cond.value, he]
  cases v <;> simp_all [Value.isRef]
theorem vx_isRefq {C n d : String} {A : Nat → Prop} {s : State} {args : Array Value} (h : va_Zq C n d A s s.heap) : (Cond.isRef (.static C n d)).before args s = true := by
  rcases h with h | ⟨t, h⟩
  · exact vx_isRef h rfl
  · exact vx_isRef h rfl
/-- the same frame, seen from here: as if the method were called anew in this heap -/
theorem vx_rebase {T : State} (X : Stand p l e R s m args below meth c T locs cells slots) {R' : Room} (hf : R'.frames ≤ R.frames) (hl : R'.locals ≤ R.locals) (hc : cells + R'.cells ≤ R.cells) (hs : slots + R'.slots ≤ R.slots) :
    Stand p l e R' ((T.setVm s.vm).setFrames (.invoking m args :: below)) m args below meth c T [] 0 0 := by
  have htop : (T.setVm s.vm).topJava?.isSome := X.here.top
  have hF : ((T.setVm s.vm).setFrames (.invoking m args :: below)).frames = .invoking m args :: below := State.frames_setFrames _ (State.cur_lt_of_top htop)
  obtain ⟨g₀, hg0⟩ := Option.isSome_iff_exists.mp htop
  obtain ⟨r, hr⟩ := State.topJava?_eq_some.mp hg0
  have hl9 : e.platform.stackLimits (T.setVm s.vm).me = e.platform.stackLimits s.me := X.limits
  have hb9 : (T.setVm s.vm).me.stackBytes = s.me.stackBytes := X.bytes
  refine ⟨X.admits, X.cas, X.clock, hF, ?_, X.hears, X.method, X.code, X.here, X.tail, X.warmed, ?_, ?_, ?_⟩
  · have h := X.room
    have hU : ((T.setVm s.vm).setFrames (.invoking m args :: below)).localsInUse = s.localsInUse := by
      rw [State.localsInUse_invoking hF (meth := meth) (c := c) X.method X.code, State.localsInUse_invoking X.frames X.method X.code]
    simp only [State.hasRoom, Bool.and_eq_true, decide_eq_true_eq] at h ⊢
    obtain ⟨⟨⟨⟨h1, h2, h3, h4, h5, h6⟩, h7⟩, h8⟩, h9⟩ := h
    rw [X.frames, List.length_cons] at h2 h3
    have q1 := X.heapSize
    have q2 := X.used
    simp only [hF, hU, List.length_cons, State.stackLimits_setFrames, State.stackBytes_setFrames, hl9, hb9]
    refine ⟨⟨⟨⟨by omega, by omega, by omega, by omega, by omega, h6⟩, ?_⟩, ?_⟩, X.book⟩
    · show T.heap.size + R'.cells ≤ e.platform.maxCells
      omega
    · show T.slotsUsed + R'.slots ≤ e.platform.maxSlots
      omega
  · rw [State.stackLimits_setFrames]; rfl
  · rw [State.stackBytes_setFrames]; rfl
  · refine ⟨?_, Nat.le_refl _, Nat.le_refl _, ?_, ?_, fun a c9 h9 => ⟨c9, h9, rfl, rfl, fun _ _ => rfl⟩⟩
    · obtain ⟨t, ht, -⟩ := State.frames_cons hr
      show T.setVm s.vm = { ((T.setVm s.vm).setFrames (.invoking m args :: below)).setFrames (T.setVm s.vm).frames with heap := T.heap, slotsUsed := T.slotsUsed }
      rw [State.setFrames_setFrames, State.setFrames_self ht]
      rfl
    · show T.slotsUsed = T.slotsUsed + ((T.heap.toList.drop T.heap.size).map (·.slots.size)).sum
      rw [List.drop_eq_nil_of_le (Nat.le_of_eq Array.length_toList)]
      rfl
    · show ((T.heap.toList.drop T.heap.size).map (·.slots.size)).sum ≤ 0
      rw [List.drop_eq_nil_of_le (Nat.le_of_eq Array.length_toList)]
      exact Nat.le_refl _
/-- 'throw new E()': new; dup; invokespecial; athrow -/
theorem vx_throw0 {cc : ByteArray} {pc : Nat} (hexec : p.tables.exec = Jvm.exec) (hb : c.code = cc) (hl : l.stackTraces = false) {own cls : String} {names : List String} {ik ic mc ms : Nat} {A : Nat → Prop}
    (hown : s.vm.findClass own = some m.cls) (hcls : Bundle.fit cls = true) (hnames : ∀ n ∈ names, Bundle.fit n = true)
    (hk : (Cond.classLink own ik cls).before args s = true) (hini : (Cond.initialized cls).before args s = true) (hat : ∀ w ∈ vx_at0 own ic cls names, w.before args s = true)
    (hgood : ∀ w ∈ Cond.classLink own ik cls :: Cond.initialized cls :: vx_at0 own ic cls names, vx_ot w = true)
    (hU : vx_Zq Bundle.tN "UNASSIGNED_STACK" Bundle.steD A s s.heap) (hN : vx_Zq Bundle.tN "SUPPRESSED_SENTINEL" Bundle.listD A s s.heap) (hS : va_S A s.heap H locs) (hsize : ls.size = c.maxLocals)
    (d0 : decode cc pc = .ok (.new ik, 3)) (d3 : decode cc (pc + 3) = .ok (.dup, 1)) (d4 : decode cc (pc + 4) = .ok (.invokespecial ic, 3)) (d7 : decode cc (pc + 7) = .ok (.athrow, 1))
    (hout : ∀ x ∈ c.exceptionTable.toList, covers x (pc + 7) = false)
    (hRframes : names.length + 3 < R.frames) (hRlocals : (rest.map fun v => v.category).sum + (13 * (names.length + 1) + 42) ≤ R.locals) (hRcells : cells + 1 ≤ R.cells) (hRslots : slots + 6 ≤ R.slots) (hlocks : meth.locks = false)
    (hx : ∀ t : State, s.vm.Alike t.vm → H.size ≤ t.heap.size → (∀ q : Nat, q < H.size → t.heap[q]? = H[q]?) → XC cls s t)
    (hf : ∀ z ∈ locs, free z.base) (hc : cells + 1 ≤ mc) (hs : slots + 6 ≤ ms) :
    W p l e R s m args below meth c H locs cells slots (vx_MQ below Qc XC args s mc ms free) (F0 m pc ls rest) := by
  intro T hT X
  have htr : e.platform.stackTraces = false := (show e.platform.stackTraces = l.stackTraces by rw [X.admits.platform]).trans hl
  have Y := vx_rebase X (R' := { frames := R.frames, locals := R.locals, cells := 1, slots := 6 }) (Nat.le_refl _) (Nat.le_refl _) hRcells hRslots
  obtain ⟨s', hA⟩ : ∃ z, z = (T.setVm s.vm).setFrames (.invoking m args :: below) := ⟨_, rfl⟩
  rw [← hA] at Y
  have hvm : s'.vm = s.vm := by rw [hA]; rfl
  have hhp : s'.heap = H := by rw [hA]; exact hT
  have hW0 : s.WarmedH s'.vm := by rw [hvm]; exact State.WarmedH.refl s
  have hat' : ∀ w ∈ vx_at0 own ic cls names, w.before args s' = true := fun w hw => vx_ot_at hW0 hvm.symm (hgood w (List.mem_cons_of_mem _ (List.mem_cons_of_mem _ hw))) (hat w hw)
  have hk' : (Cond.classLink own ik cls).before args s' = true := vx_ot_at hW0 hvm.symm (hgood _ List.mem_cons_self) hk
  have hini' : (Cond.initialized cls).before args s' = true := vx_ot_at hW0 hvm.symm (hgood _ (List.mem_cons_of_mem _ List.mem_cons_self)) hini
  have hU' : vx_Zq Bundle.tN "UNASSIGNED_STACK" Bundle.steD A s' s'.heap := by rw [hhp]; exact vx_Zq.moved hW0.alike (hU.kept hS.2.1)
  have hN' : vx_Zq Bundle.tN "SUPPRESSED_SENTINEL" Bundle.listD A s' s'.heap := by rw [hhp]; exact vx_Zq.moved hW0.alike (hN.kept hS.2.1)
  have h : ∀ w ∈ Bundle.ownAtoms0 own ic cls names, w.before args s' = true := vx_own hat' (vx_isRefq hU'.1) (vx_isRefq hN'.1) hU'.2.word hN'.2.word
  have hown' : s'.vm.findClass own = some m.cls := by rw [hvm]; exact hown
  have hins : (Cond.instantiable cls 6).before args s' = true := h _ (by simp [Bundle.ownAtoms0])
  obtain ⟨vm₁, cX, kX, hfX, hkX, -, -, X₁, st1⟩ := Y.newCold hexec (own := own) (C := cls) (index := ik) (n := 6) hown' hk' hins hini'
    (g := F0 m pc ls rest) rfl (by rw [hb]; exact d0) (Nat.le_refl _) (Nat.le_refl _)
  generalize hT1 : (T.setVm vm₁).pushCell { cls := cX, slots := kX.instanceTypes.map defaultValue, vm := .none } = T1 at X₁ st1
  have hcat : (Value.ref T.heap.size).category = 1 := rfl
  have hcellA : T1.heap[T.heap.size]? = some (freshCell cX kX) := by rw [← hT1]; exact State.heap_pushCell_size _ _
  have d3' : decode c.code (pc + 3) = .ok (.dup, 1) := by rw [hb]; exact d3
  obtain ⟨U, hsteps, hrun, hend, hW, hsame, ce, hce, hO⟩ := X₁.ctorThrow0 hexec htr (own := own) (cls := cls) (names := names) (ic := ic) hown' hcls hnames h (fun x hx => nomatch hx) hfX hkX hcellA (by rw [hhp, hT]; exact Nat.le_refl _)
    (g := { method := m, pc := pc + 4, locals := ls, stack := .ref T.heap.size :: .ref T.heap.size :: rest, locked := none }) rfl hsize rfl rfl (rest := rest) rfl
    (by rw [hb]; exact d4) (by rw [hb]; exact d7) hout hRframes (by simp only [List.map_cons, List.sum_cons, hcat]; omega) hlocks
  obtain ⟨f1, f2⟩ := vx_frame hsame
  rw [hhp] at f1 f2
  have hWs : s.WarmedH U.vm := State.WarmedH.trans hW0 hW
  have hcl : s.vm.findClass cls = some ce.cls := by
    have h9 := hO.cls
    rw [hvm] at h9
    exact h9
  have hall : s.sameButNew ({ U with vm := s.vm } : State) locs mc ms := by
    subst hA
    obtain ⟨e1, e2⟩ := hsame
    rw [State.setFrames_setFrames] at e1
    have h2 : (T.setVm s.vm).sameButNew ({ U with vm := s.vm } : State) [] (0 + 1) (0 + 6) := ⟨e1, e2⟩
    have h3 := X.same.trans h2
    rw [List.append_nil] at h3
    exact h3.mono hc hs
  refine ⟨U, ?_, .threw T.heap.size, hrun, hend, Or.inr ⟨T.heap.size, rfl, cls, ce, locs, hx U hWs.alike f1 (fun q hq => f2 q hq (fun z hz => nomatch hz)), hce, hO.vm, hcl, hWs, hall, hf⟩⟩
  refine st1 _ ?_
  show Steps p.tables e below (T1.setTop { method := m, pc := pc + 3, locals := ls, stack := .ref T.heap.size :: rest, locked := none }) _
  jvm_step X₁.here [X₁.here.top, hexec, d3', Value.category]
  exact hsteps
/-- 'throw new E("text")': new; dup; ldc; invokespecial; athrow -/
theorem vx_throwS {cc : ByteArray} {pc : Nat} (hexec : p.tables.exec = Jvm.exec) (hb : c.code = cc) (hl : l.stackTraces = false) {own cls text : String} {names : List String} {ik is ic mc ms sa : Nat} {A : Nat → Prop}
    (hown : s.vm.findClass own = some m.cls) (hcls : Bundle.fit cls = true) (hnames : ∀ n ∈ names, Bundle.fit n = true)
    (hk : (Cond.classLink own ik cls).before args s = true) (hini : (Cond.initialized cls).before args s = true) (hstr : vk_R own is text sa s) (hat : ∀ w ∈ vx_atS own ic cls names, w.before args s = true)
    (hgood : ∀ w ∈ Cond.classLink own ik cls :: Cond.initialized cls :: vx_atS own ic cls names, vx_ot w = true)
    (hU : vx_Zq Bundle.tN "UNASSIGNED_STACK" Bundle.steD A s s.heap) (hN : vx_Zq Bundle.tN "SUPPRESSED_SENTINEL" Bundle.listD A s s.heap) (hS : va_S A s.heap H locs) (hsize : ls.size = c.maxLocals)
    (d0 : decode cc pc = .ok (.new ik, 3)) (d3 : decode cc (pc + 3) = .ok (.dup, 1)) (d4 : decode cc (pc + 4) = .ok (.ldc is, 2)) (d6 : decode cc (pc + 6) = .ok (.invokespecial ic, 3)) (d9 : decode cc (pc + 9) = .ok (.athrow, 1))
    (hout : ∀ x ∈ c.exceptionTable.toList, covers x (pc + 9) = false)
    (hRframes : names.length + 3 < R.frames) (hRlocals : (rest.map fun v => v.category).sum + (13 * (names.length + 1) + 43) ≤ R.locals) (hRcells : cells + 1 ≤ R.cells) (hRslots : slots + 6 ≤ R.slots) (hlocks : meth.locks = false)
    (hx : ∀ t : State, s.vm.Alike t.vm → H.size ≤ t.heap.size → (∀ q : Nat, q < H.size → t.heap[q]? = H[q]?) → XC cls s t)
    (hf : ∀ z ∈ locs, free z.base) (hc : cells + 1 ≤ mc) (hs : slots + 6 ≤ ms) :
    W p l e R s m args below meth c H locs cells slots (vx_MQ below Qc XC args s mc ms free) (F0 m pc ls rest) := by
  intro T hT X
  have htr : e.platform.stackTraces = false := (show e.platform.stackTraces = l.stackTraces by rw [X.admits.platform]).trans hl
  have Y := vx_rebase X (R' := { frames := R.frames, locals := R.locals, cells := 1, slots := 6 }) (Nat.le_refl _) (Nat.le_refl _) hRcells hRslots
  obtain ⟨s', hA⟩ : ∃ z, z = (T.setVm s.vm).setFrames (.invoking m args :: below) := ⟨_, rfl⟩
  rw [← hA] at Y
  have hvm : s'.vm = s.vm := by rw [hA]; rfl
  have hhp : s'.heap = H := by rw [hA]; exact hT
  have hW0 : s.WarmedH s'.vm := by rw [hvm]; exact State.WarmedH.refl s
  have hat' : ∀ w ∈ vx_atS own ic cls names, w.before args s' = true := fun w hw => vx_ot_at hW0 hvm.symm (hgood w (List.mem_cons_of_mem _ (List.mem_cons_of_mem _ hw))) (hat w hw)
  have hk' : (Cond.classLink own ik cls).before args s' = true := vx_ot_at hW0 hvm.symm (hgood _ List.mem_cons_self) hk
  have hini' : (Cond.initialized cls).before args s' = true := vx_ot_at hW0 hvm.symm (hgood _ (List.mem_cons_of_mem _ List.mem_cons_self)) hini
  have hU' : vx_Zq Bundle.tN "UNASSIGNED_STACK" Bundle.steD A s' s'.heap := by rw [hhp]; exact vx_Zq.moved hW0.alike (hU.kept hS.2.1)
  have hN' : vx_Zq Bundle.tN "SUPPRESSED_SENTINEL" Bundle.listD A s' s'.heap := by rw [hhp]; exact vx_Zq.moved hW0.alike (hN.kept hS.2.1)
  have h : ∀ w ∈ Bundle.ownAtoms own ic cls names, w.before args s' = true := vx_own hat' (vx_isRefq hU'.1) (vx_isRefq hN'.1) hU'.2.word hN'.2.word
  have hown' : s'.vm.findClass own = some m.cls := by rw [hvm]; exact hown
  have hins : (Cond.instantiable cls 6).before args s' = true := h _ (by simp [Bundle.ownAtoms])
  obtain ⟨vm₁, cX, kX, hfX, hkX, -, -, X₁, st1⟩ := Y.newCold hexec (own := own) (C := cls) (index := ik) (n := 6) hown' hk' hins hini'
    (g := F0 m pc ls rest) rfl (by rw [hb]; exact d0) (Nat.le_refl _) (Nat.le_refl _)
  generalize hT1 : (T.setVm vm₁).pushCell { cls := cX, slots := kX.instanceTypes.map defaultValue, vm := .none } = T1 at X₁ st1
  have hcat : (Value.ref T.heap.size).category = 1 := rfl
  have hcellA : T1.heap[T.heap.size]? = some (freshCell cX kX) := by rw [← hT1]; exact State.heap_pushCell_size _ _
  have d3' : decode c.code (pc + 3) = .ok (.dup, 1) := by rw [hb]; exact d3
  have d4' : decode c.code (pc + 4) = .ok (.ldc is, 2) := by rw [hb]; exact d4
  have hstr' : vk_R own is text sa s' := vk_R.warm hW0 hstr
  obtain ⟨U, hsteps, hrun, hend, hW, hsame, ce, hce, hO⟩ := X₁.ctorThrowS hexec htr (own := own) (cls := cls) (names := names) (ic := ic) hown' hcls hnames h (fun x hx => nomatch hx) hfX hkX hcellA (by rw [hhp, hT]; exact Nat.le_refl _) (msg := .ref sa) rfl
    (g := { method := m, pc := pc + 6, locals := ls, stack := .ref sa :: .ref T.heap.size :: .ref T.heap.size :: rest, locked := none }) rfl hsize rfl rfl (rest := rest) rfl
    (by rw [hb]; exact d6) (by rw [hb]; exact d9) hout hRframes (by simp only [List.map_cons, List.sum_cons, hcat]; omega) hlocks
  obtain ⟨f1, f2⟩ := vx_frame hsame
  rw [hhp] at f1 f2
  have hWs : s.WarmedH U.vm := State.WarmedH.trans hW0 hW
  have hcl : s.vm.findClass cls = some ce.cls := by
    have h9 := hO.cls
    rw [hvm] at h9
    exact h9
  have hall : s.sameButNew ({ U with vm := s.vm } : State) locs mc ms := by
    subst hA
    obtain ⟨e1, e2⟩ := hsame
    rw [State.setFrames_setFrames] at e1
    have h2 : (T.setVm s.vm).sameButNew ({ U with vm := s.vm } : State) [] (0 + 1) (0 + 6) := ⟨e1, e2⟩
    have h3 := X.same.trans h2
    rw [List.append_nil] at h3
    exact h3.mono hc hs
  refine ⟨U, ?_, .threw T.heap.size, hrun, hend, Or.inr ⟨T.heap.size, rfl, cls, ce, locs, hx U hWs.alike f1 (fun q hq => f2 q hq (fun z hz => nomatch hz)), hce, hO.vm, hcl, hWs, hall, hf⟩⟩
  refine st1 _ ?_
  show Steps p.tables e below (T1.setTop { method := m, pc := pc + 3, locals := ls, stack := .ref T.heap.size :: rest, locked := none }) _
  jvm_step X₁.here [X₁.here.top, hexec, d3', Value.category]
  exact X₁.ldcString hexec (own := own) (text := text) (index := is) (a := sa) hown' hstr'.1 hstr'.2
    (g := { method := m, pc := pc + 4, locals := ls, stack := .ref T.heap.size :: .ref T.heap.size :: rest, locked := none }) rfl d4' _ hsteps
/-- 'throw new E("text")', the text by a wide index -/
theorem vx_throwSW {cc : ByteArray} {pc : Nat} (hexec : p.tables.exec = Jvm.exec) (hb : c.code = cc) (hl : l.stackTraces = false) {own cls text : String} {names : List String} {ik is ic mc ms sa : Nat} {A : Nat → Prop}
    (hown : s.vm.findClass own = some m.cls) (hcls : Bundle.fit cls = true) (hnames : ∀ n ∈ names, Bundle.fit n = true)
    (hk : (Cond.classLink own ik cls).before args s = true) (hini : (Cond.initialized cls).before args s = true) (hstr : vk_R own is text sa s) (hat : ∀ w ∈ vx_atS own ic cls names, w.before args s = true)
    (hgood : ∀ w ∈ Cond.classLink own ik cls :: Cond.initialized cls :: vx_atS own ic cls names, vx_ot w = true)
    (hU : vx_Zq Bundle.tN "UNASSIGNED_STACK" Bundle.steD A s s.heap) (hN : vx_Zq Bundle.tN "SUPPRESSED_SENTINEL" Bundle.listD A s s.heap) (hS : va_S A s.heap H locs) (hsize : ls.size = c.maxLocals)
    (d0 : decode cc pc = .ok (.new ik, 3)) (d3 : decode cc (pc + 3) = .ok (.dup, 1)) (d4 : decode cc (pc + 4) = .ok (.ldc_w is, 3)) (d7 : decode cc (pc + 7) = .ok (.invokespecial ic, 3)) (d10 : decode cc (pc + 10) = .ok (.athrow, 1))
    (hout : ∀ x ∈ c.exceptionTable.toList, covers x (pc + 10) = false)
    (hRframes : names.length + 3 < R.frames) (hRlocals : (rest.map fun v => v.category).sum + (13 * (names.length + 1) + 43) ≤ R.locals) (hRcells : cells + 1 ≤ R.cells) (hRslots : slots + 6 ≤ R.slots) (hlocks : meth.locks = false)
    (hx : ∀ t : State, s.vm.Alike t.vm → H.size ≤ t.heap.size → (∀ q : Nat, q < H.size → t.heap[q]? = H[q]?) → XC cls s t)
    (hf : ∀ z ∈ locs, free z.base) (hc : cells + 1 ≤ mc) (hs : slots + 6 ≤ ms) :
    W p l e R s m args below meth c H locs cells slots (vx_MQ below Qc XC args s mc ms free) (F0 m pc ls rest) := by
  intro T hT X
  have htr : e.platform.stackTraces = false := (show e.platform.stackTraces = l.stackTraces by rw [X.admits.platform]).trans hl
  have Y := vx_rebase X (R' := { frames := R.frames, locals := R.locals, cells := 1, slots := 6 }) (Nat.le_refl _) (Nat.le_refl _) hRcells hRslots
  obtain ⟨s', hA⟩ : ∃ z, z = (T.setVm s.vm).setFrames (.invoking m args :: below) := ⟨_, rfl⟩
  rw [← hA] at Y
  have hvm : s'.vm = s.vm := by rw [hA]; rfl
  have hhp : s'.heap = H := by rw [hA]; exact hT
  have hW0 : s.WarmedH s'.vm := by rw [hvm]; exact State.WarmedH.refl s
  have hat' : ∀ w ∈ vx_atS own ic cls names, w.before args s' = true := fun w hw => vx_ot_at hW0 hvm.symm (hgood w (List.mem_cons_of_mem _ (List.mem_cons_of_mem _ hw))) (hat w hw)
  have hk' : (Cond.classLink own ik cls).before args s' = true := vx_ot_at hW0 hvm.symm (hgood _ List.mem_cons_self) hk
  have hini' : (Cond.initialized cls).before args s' = true := vx_ot_at hW0 hvm.symm (hgood _ (List.mem_cons_of_mem _ List.mem_cons_self)) hini
  have hU' : vx_Zq Bundle.tN "UNASSIGNED_STACK" Bundle.steD A s' s'.heap := by rw [hhp]; exact vx_Zq.moved hW0.alike (hU.kept hS.2.1)
  have hN' : vx_Zq Bundle.tN "SUPPRESSED_SENTINEL" Bundle.listD A s' s'.heap := by rw [hhp]; exact vx_Zq.moved hW0.alike (hN.kept hS.2.1)
  have h : ∀ w ∈ Bundle.ownAtoms own ic cls names, w.before args s' = true := vx_own hat' (vx_isRefq hU'.1) (vx_isRefq hN'.1) hU'.2.word hN'.2.word
  have hown' : s'.vm.findClass own = some m.cls := by rw [hvm]; exact hown
  have hins : (Cond.instantiable cls 6).before args s' = true := h _ (by simp [Bundle.ownAtoms])
  obtain ⟨vm₁, cX, kX, hfX, hkX, -, -, X₁, st1⟩ := Y.newCold hexec (own := own) (C := cls) (index := ik) (n := 6) hown' hk' hins hini'
    (g := F0 m pc ls rest) rfl (by rw [hb]; exact d0) (Nat.le_refl _) (Nat.le_refl _)
  generalize hT1 : (T.setVm vm₁).pushCell { cls := cX, slots := kX.instanceTypes.map defaultValue, vm := .none } = T1 at X₁ st1
  have hcat : (Value.ref T.heap.size).category = 1 := rfl
  have hcellA : T1.heap[T.heap.size]? = some (freshCell cX kX) := by rw [← hT1]; exact State.heap_pushCell_size _ _
  have d3' : decode c.code (pc + 3) = .ok (.dup, 1) := by rw [hb]; exact d3
  have d4' : decode c.code (pc + 4) = .ok (.ldc_w is, 3) := by rw [hb]; exact d4
  have hstr' : vk_R own is text sa s' := vk_R.warm hW0 hstr
  obtain ⟨U, hsteps, hrun, hend, hW, hsame, ce, hce, hO⟩ := X₁.ctorThrowS hexec htr (own := own) (cls := cls) (names := names) (ic := ic) hown' hcls hnames h (fun x hx => nomatch hx) hfX hkX hcellA (by rw [hhp, hT]; exact Nat.le_refl _) (msg := .ref sa) rfl
    (g := { method := m, pc := pc + 7, locals := ls, stack := .ref sa :: .ref T.heap.size :: .ref T.heap.size :: rest, locked := none }) rfl hsize rfl rfl (rest := rest) rfl
    (by rw [hb]; exact d7) (by rw [hb]; exact d10) hout hRframes (by simp only [List.map_cons, List.sum_cons, hcat]; omega) hlocks
  obtain ⟨f1, f2⟩ := vx_frame hsame
  rw [hhp] at f1 f2
  have hWs : s.WarmedH U.vm := State.WarmedH.trans hW0 hW
  have hcl : s.vm.findClass cls = some ce.cls := by
    have h9 := hO.cls
    rw [hvm] at h9
    exact h9
  have hall : s.sameButNew ({ U with vm := s.vm } : State) locs mc ms := by
    subst hA
    obtain ⟨e1, e2⟩ := hsame
    rw [State.setFrames_setFrames] at e1
    have h2 : (T.setVm s.vm).sameButNew ({ U with vm := s.vm } : State) [] (0 + 1) (0 + 6) := ⟨e1, e2⟩
    have h3 := X.same.trans h2
    rw [List.append_nil] at h3
    exact h3.mono hc hs
  refine ⟨U, ?_, .threw T.heap.size, hrun, hend, Or.inr ⟨T.heap.size, rfl, cls, ce, locs, hx U hWs.alike f1 (fun q hq => f2 q hq (fun z hz => nomatch hz)), hce, hO.vm, hcl, hWs, hall, hf⟩⟩
  refine st1 _ ?_
  show Steps p.tables e below (T1.setTop { method := m, pc := pc + 3, locals := ls, stack := .ref T.heap.size :: rest, locked := none }) _
  jvm_step X₁.here [X₁.here.top, hexec, d3', Value.category]
  exact X₁.ldcStringW hexec (own := own) (text := text) (index := is) (a := sa) hown' hstr'.1 hstr'.2
    (g := { method := m, pc := pc + 4, locals := ls, stack := .ref T.heap.size :: .ref T.heap.size :: rest, locked := none }) rfl d4' _ hsteps
end Ends
section Bodies
variable {l : Launch}
theorem vx_ofW {y : MethodName} {ws ws' : List Cond} {rm : Room} {Pc : Array Value → State → Prop} {Qc : Array Value → State → Outcome → State → Prop} {XC : String → State → State → Prop} {mc ms : Nat} {free : Addr → Prop} {cc : ByteArray} {maxL : Nat} {ret : Option FieldType}
    (hy : plainName y.cls = true) (hw : ws = Cond.code y cc maxL ret :: ws')
    (body : ∀ p e s m args below meth c s₁, BodyLoose p l y (headSpec ws rm) cc maxL ret e s m args below meth c s₁ → c.maxLocals = maxL → (∀ x ∈ c.exceptionTable.toList, False) → Pc args s →
      W p l e (headSpec ws rm).room s m args below meth c s.heap [] 0 0 (vx_MQ below Qc XC args s mc ms free) (entryFrame m args maxL)) : vx_Met l y ws rm Pc Qc XC mc ms free := by
  refine MetFree.of_bodyS (code := cc) (maxLocals := maxL) (ret := ret) hy ?_ ?_
  · intro args s m h hn
    obtain ⟨meth, c, h1, h2, h3, h4, h5, h6, -, -⟩ := Cond.code_spec hn (atoms_spec (ws := ws) h _ (by rw [hw]; exact List.mem_cons_self))
    exact ⟨meth, c, h1, h2, h3, h4, h5, h6⟩
  · intro p e s m args below meth c s₁ B hml hP _
    have hh0 : s₁.heap = s.heap := by rw [B.state]; rfl
    have ht : ∀ x ∈ c.exceptionTable.toList, False := by
      obtain ⟨meth9, c9, h1, h2, -, -, -, -, h7, -⟩ := Cond.code_spec B.named (atoms_spec (ws := ws) B.pre _ (by rw [hw]; exact List.mem_cons_self))
      cases Option.some.inj (h1.symm.trans B.method)
      cases Option.some.inj (h2.symm.trans (Stand.of_body B).code)
      intro x hx
      rw [Array.isEmpty_iff.mp h7] at hx
      cases hx
    obtain ⟨t, a1, o, b1, b2, b3⟩ := body p e s m args below meth c s₁ B hml ht hP s₁ hh0 (Stand.of_body B)
    exact ⟨t, o, a1, b1, b2, b3⟩
/-- the table of a body with handlers -/
theorem vx_table {p : Program} {x y : MethodName} {S : Spec} {cc bytes : ByteArray} {maxL maxL' : Nat} {ret ret' : Option FieldType} {e : Env} {s s₁ : State} {m : MethodId} {args : Array Value} {below : List Frame} {meth : Method} {c : Code} {hh : List (Nat × Nat × Nat × Nat)}
    (B : BodyLoose p l y S cc maxL ret e s m args below meth c s₁) (h : (Cond.codeWith y bytes maxL' ret' hh).before args s = true) : c.exceptionTable.toList = tableOf hh := by
  obtain ⟨m9, meth9, c9, hn9, h1, h2, -, -, h6, -⟩ := Cond.codeWith_spec h
  cases Option.some.inj (hn9.symm.trans B.named)
  cases Option.some.inj (h1.symm.trans B.method)
  cases Option.some.inj (h2.symm.trans (Stand.of_body B).code)
  rw [← h6, table_eq]
end Bodies
end VXA
/-! ===== END ===== -/
/-! ===== BEGIN a static call of a method with an exception table ===== -/
section VXS
variable {p : Program} {l : Launch} {e : Env} {R : Room} {s : State} {m : MethodId} {args : Array Value} {below : List Frame} {meth : Method} {c : Code} {T : State} {H : Heap} {locs : List Loc} {cells slots : Nat}
abbrev vx_CSW (R : Room) (s : State) (args : Array Value) (own : String) (index : Nat) (y : MethodName) (bytes : ByteArray) (maxL : Nat) (ret : Option FieldType) (hh : List (Nat × Nat × Nat × Nat)) (ws : List Cond) (rm : Room) (mc ms n : Nat) : Prop :=
  (rm.cells = mc ∧ rm.slots = ms ∧ rm.frames + 1 ≤ R.frames ∧ 8 + (maxL + 11) + rm.locals ≤ R.locals ∧ (∀ w ∈ ws, ∀ (a' : Array Value) (U : State), s.WarmedH U.vm → w.before a' U = true) ∧ Cond.codeWith y bytes maxL ret hh ∈ ws) ∧
  (Cond.codeWith y bytes maxL ret hh).before args s = true ∧ (Cond.initialized y.cls).before args s = true ∧ (y.cls ≠ "java/lang/invoke/MethodHandle" ∧ y.cls ≠ "java/lang/invoke/VarHandle") ∧
  (∀ sig, parseMethodDescriptor y.desc = some sig → n = sig.parameters.length) ∧ (Cond.methodLink own index y).before args s = true ∧ (Cond.static y).before args s = true
theorem vx_cwSW {own : String} {index maxL mc ms : Nat} {y : MethodName} {bytes : ByteArray} {ret : Option FieldType} {hh : List (Nat × Nat × Nat × Nat)} {Ts ws ws' : List Cond} {rm : Room} (n : Nat) (ht : ∀ w ∈ Ts, w.before args s = true) (hT : GoodIn Ts (va_wsS own index y ws)) (hw : ws = Cond.codeWith y bytes maxL ret hh :: ws') (hrc : rm.cells = mc) (hrs : rm.slots = ms)
    (hd : y.cls ≠ "java/lang/invoke/MethodHandle" ∧ y.cls ≠ "java/lang/invoke/VarHandle" ∧ (parseMethodDescriptor y.desc).map (fun d => d.parameters.length) = some n) (hR : rm.frames + 1 ≤ R.frames ∧ 8 + (maxL + 11) + rm.locals ≤ R.locals) :
    vx_CSW R s args own index y bytes maxL ret hh ws rm mc ms n := by
  have ok : ∀ w ∈ va_wsS own index y ws, w.before args s = true := fun w h => ht w (hT w h).1
  have hG : GoodIn Ts ws := fun w h => hT w (by unfold va_wsS; exact List.mem_append_right _ h)
  have hc : Cond.codeWith y bytes maxL ret hh ∈ ws := by rw [hw]; exact List.mem_cons_self
  refine ⟨⟨hrc, hrs, hR.1, hR.2, pay_in ht hG, hc⟩, ht _ (hG _ hc).1, ok _ (by simp [va_wsS]), ⟨hd.1, hd.2.1⟩, fun sig h => ?_, ok _ (by simp [va_wsS]), ok _ (by simp [va_wsS])⟩
  have h2 := hd.2.2
  rw [h] at h2
  exact (Option.some.inj h2).symm
theorem vx_callSW (X : Stand p l e R s m args below meth c T locs cells slots) (hexec : p.tables.exec = Jvm.exec) {own : String} {index : Nat} {y : MethodName} {bytes : ByteArray} {maxL : Nat} {ret : Option FieldType} {hh : List (Nat × Nat × Nat × Nat)}
    (hown : s.vm.findClass own = some m.cls) (hlink : (Cond.methodLink own index y).before args s = true) (hstat : (Cond.static y).before args s = true) (hinit : (Cond.initialized y.cls).before args s = true)
    (hcode : (Cond.codeWith y bytes maxL ret hh).before args s = true) (hy : y.cls ≠ "java/lang/invoke/MethodHandle" ∧ y.cls ≠ "java/lang/invoke/VarHandle")
    {W9 : Nat} {Pre : Pt → Array Value → Prop} {Post : Pt → Array Value → Option Value → Pt → Prop} (hK : Back l R p e below s args y 3 W9 Pre Post)
    {g : JFrame} (hg : g.method = m) (hsize : g.locals.size = c.maxLocals) {argsL rest : List Value} (hlen : ∀ sig, parseMethodDescriptor y.desc = some sig → argsL.length = sig.parameters.length)
    (hstack : g.stack = argsL.reverse ++ rest) (hW : 2 * g.monitorRoom + (rest.map fun v => v.category).sum ≤ W9) (hdg : decode c.code g.pc = .ok (.invokestatic index, 3))
    (hpre : ∀ vm₁, s.WarmedH vm₁ → Pre ⟨T.setVm vm₁, locs, cells, slots⟩ argsL.toArray) :
    ∃ (v : Option Value) (vm₁ : Vm) (B : Pt), s.WarmedH vm₁ ∧ Stand p l e R s m args below meth c B.U B.locs B.cells B.slots ∧ Post ⟨T.setVm vm₁, locs, cells, slots⟩ argsL.toArray v B ∧
      ∀ target, Steps p.tables e below (B.U.setTop { g with pc := g.pc + 3, stack := v.toList ++ rest }) target → Steps p.tables e below (T.setTop g) target := by
  obtain ⟨mk, methM, cM, hnamed, hmethM, -, -, -, -, -, -, hsigM⟩ := Cond.codeWith_spec hcode
  have hstatic : methM.isStatic = true := Cond.static_spec hnamed hmethM hstat
  obtain ⟨kP, hkP, -⟩ := className_of_methodNamed hnamed
  have hinitP : kP.init = .initialized := Cond.initialized_spec (findClass_of_methodNamed hnamed) hkP hinit
  obtain ⟨vm₁, X₁, hstep₁⟩ := X.invokestatic hexec hown hlink hnamed hmethM hstatic hkP hinitP hy (g := g) hg (argsL := argsL) (rest := rest) (hlen _ hsigM) hstack hdg
  obtain ⟨v, B, X', hpost, hsteps⟩ := hK m meth c ⟨T.setVm vm₁, locs, cells, slots⟩ { g with stack := rest } (.invokestatic index) mk argsL.toArray X₁ hg hsize hdg hW (X₁.named hnamed) (hpre vm₁ X₁.warmed)
  exact ⟨v, vm₁, B, X₁.warmed, X', hpost, fun target h => hstep₁ _ fun acts => by rw [doInvoke_state]; exact hsteps.trans h⟩
theorem vx_runSW {y : MethodName} {bytes cc : ByteArray} {maxL nL mc ms n index : Nat} {ret : Option FieldType} {hh : List (Nat × Nat × Nat × Nat)} {ws : List Cond} {rm : Room} {Pc : Array Value → State → Prop} {Qc : Array Value → State → Outcome → State → Prop} {free : Addr → Prop} {Ts : List Cond} {own : String} {As rest : List Value} {g : JFrame}
    (S : CallFix p m c cc nL s args Ts own) (hM : Met l y ws rm Pc Qc mc ms free) (cw : vx_CSW R s args own index y bytes maxL ret hh ws rm mc ms n) (hp : PreS s H Pc As)
    (hg : g.method = m) (hn : As.length = n) (hsize : g.locals.size = nL) (hstack : g.stack = As.reverse ++ rest) (hW : 2 * g.monitorRoom + (rest.map fun v => v.category).sum ≤ 8) (hdg : decode cc g.pc = .ok (.invokestatic index, 3)) (hf : cells + mc ≤ R.cells ∧ slots + ms ≤ R.slots) :
    va_Run p l e R s m args below meth c H locs cells slots mc ms g rest (Qc As.toArray) (free) := by
  obtain ⟨⟨hrc, hrs, hfr, hlo, hws, hcw⟩, hcode, hini, hy, hlen, hl, hstt⟩ := cw
  have hK : Back l R p e below s args y 3 8 (PreOf R mc ms Pc) (PostOf Qc mc ms free) := va_backW (hh := hh) (bytes := bytes) (maxL := maxL) (ret := ret) hM hp.1 hrc hrs hfr hlo hws hcw (fun a' U hW => word_at hW (Or.inl (by first | rfl | simp [Cond.onTables, Cond.keeps, Cond.steady])) hini)
  obtain ⟨hx, hb, hml, ho, -⟩ := S
  intro T hT X
  obtain ⟨v, vm₁, ⟨U', l2, c2, s2⟩, hW₁, X', ⟨g', mk, t, L, e1, e2, hq, h1, hL, h2, h3⟩, st⟩ := vx_callSW X hx (hh := hh) (bytes := bytes) (maxL := maxL) (ret := ret) ho hl hstt hini hcode hy hK hg (hsize.trans hml.symm) (argsL := As) (rest := rest) (fun sig h => hn.trans (hlen sig h)) hstack hW (by rw [hb]; exact hdg)
    (fun vm₁ hW₁ => ⟨hf.1, hf.2, hp.2 (T.setVm vm₁) hT hW₁⟩)
  dsimp only [Pt.U, Pt.locs, Pt.cells, Pt.slots] at X' e1 e2 h1 h2 h3 st
  subst h1; subst h2; subst h3
  exact ⟨v, (T.setVm vm₁).calling g' mk As.toArray, t, U', L, hT, X', hL, e1, e2, hq, st⟩
/-- not caught here, past rows that name other classes: it goes on to the caller -/
theorem vx_outP {p : Program} {l : Launch} {e : Env} {R : Room} {s : State} {m : MethodId} {args : Array Value} {below : List Frame} {meth : Method} {c : Code} {H : Heap} {locs : List Loc} {cells slots : Nat} {free : Addr → Prop} {ls : Array Slot} {rest : List Value} {Qc : Array Value → State → Outcome → State → Prop} {XC : String → State → State → Prop}
    {pc : Nat} {own E : String} {ce : Cell} {q : Addr} {mc ms : Nat} (hown : s.vm.findClass own = some m.cls) (hlocks : meth.locks = false)
    (hpass : ∀ z ∈ c.exceptionTable.toList, covers z pc = false ∨ (z.catchType ≠ 0 ∧ ∃ nm : String, (Cond.classLink own z.catchType nm).before args s = true ∧ va_Nc E nm s)) (hcell : H[q]? = some ce) (hv : ce.vm = .none) (hcl : s.vm.findClass E = some ce.cls)
    (hx : ∀ t : State, t.heap = H → s.vm.Alike t.vm → XC E s t) (hf : ∀ z ∈ locs, free z.base) (hc : cells ≤ mc) (hs : slots ≤ ms) :
    vx_W p l e R s m args below meth c H locs cells slots (vx_MQ below Qc XC args s mc ms free) (F0 m pc ls rest) q := by
  intro T hT X
  have hpl : e.platform.magicAccessors = ({} : Platform).magicAccessors := by rw [X.admits.platform]
  obtain ⟨vm', hW', X', st⟩ := X.outThrough hlocks q (g := F0 m pc ls rest) rfl rfl rfl (cell := ce) (by rw [hT]; exact hcell) (by rw [hv]; rfl)
    (by obtain ⟨k9, h9, -⟩ := Vm.findClass_spec hcl; exact ⟨k9, h9⟩) (fun z hz => by
      rcases hpass z hz with h | ⟨hz0, nm, hl1, hn1⟩
      · exact Or.inl h
      · obtain ⟨c6, hc6, hcl6⟩ := Cond.classLink_spec hown hl1 e.platform hpl
        obtain ⟨a8, b8, h1, h2, h3⟩ := hn1
        cases Option.some.inj (h1.symm.trans hcl)
        cases Option.some.inj (h2.symm.trans hc6)
        exact Or.inr ⟨hz0, _, hcl6, h3⟩)
  obtain ⟨g₀, hfr⟩ := X'.frames_eq
  have hcell9 : ((T.setVm vm').setFrames (.throwing q :: below)).heap[q]? = some ce := by
    show T.heap[q]? = some ce
    rw [hT]; exact hcell
  have hend : Ended ((T.setVm vm').setFrames (.throwing q :: below)) below (.threw q) := State.frames_setFrames _ (State.cur_lt_of_frames hfr)
  refine ⟨(T.setVm vm').setFrames (.throwing q :: below), ?_, .threw q, X'.here.running, hend, Or.inr ⟨q, rfl, E, ce, locs, hx _ hT (X'.ends _).1.alike, hcell9, hv, hcl, (X'.ends _).1, (X'.ends _).2.mono hc hs, hf⟩⟩
  rw [X.pushThrowing_eq]
  exact st
/-- a thing of a world lies in the heap -/
theorem vx_lt {D : va_G} {cl : List vw_C} {ws : va_W} {H1 : Heap} (h : va_P D cl ws H1) {k : Nat} {q : Nat × va_E} (hk : ws[k]? = some q) : q.1 < H1.size := (h k q hk).lt
end VXS
/-! ===== END ===== -/
/-! ===== BEGIN methods with a table of their own: called by a name, returning or throwing ===== -/
section VXH
/-! vx_backW, vx_callVX, vx_callSX, vx_callVW, vx_runVW, vx_runVX, vx_runSX, vx_ofWH follow the same proofs as their sisters above (Free/Laws.lean, Shelf42/LK1.lean); vx_outP calls Shelf42/NT130.lean (outThrough). -/
section
variable {l : Launch} {R : Room} {p : Program} {e : Env} {below : List Frame} {s : State} {sargs : Array Value} {y : MethodName} {len W9 : Nat}
theorem vx_backW {ws : List Cond} {rm : Room} {Pc : Array Value → State → Prop} {Qc : Array Value → State → Outcome → State → Prop} {XC : String → State → State → Prop} {mc ms : Nat} {free : Addr → Prop} {bytes : ByteArray} {maxL : Nat} {ret : Option FieldType} {hh : List (Nat × Nat × Nat × Nat)}
    (hM : vx_Met l y ws rm Pc Qc XC mc ms free) (hblind : FrameBlind Pc) (hrc : rm.cells = mc) (hrs : rm.slots = ms)
    (hframes : rm.frames + 1 ≤ R.frames) (hlocals : W9 + (maxL + 11) + rm.locals ≤ R.locals)
    (hws : ∀ w ∈ ws, ∀ a' U, s.WarmedH U.vm → w.before a' U = true) (hcode : Cond.codeWith y bytes maxL ret hh ∈ ws) (hinit : ∀ a' U, s.WarmedH U.vm → (Cond.initialized y.cls).before a' U = true) :
    vx_Back l R p e below s sargs y len W9 (PreOf R mc ms Pc) (PostOf Qc mc ms free) (vx_Post XC mc ms free) := by
  intro m meth c A g ig mk a X hg hsize hdg hW hn hp
  have h1 : (headSpec ws rm).pre.before a A.U = true := atoms_intro fun w hw => hws w hw _ _ X.warmed
  have h2 : (Cond.codeWith y bytes maxL ret hh).before a A.U = true := hws _ hcode _ _ X.warmed
  have h3 : (Cond.initialized y.cls).before a A.U = true := hinit _ _ X.warmed
  have h4 : A.cells + (headSpec ws rm).room.cells ≤ R.cells := by rw [show (headSpec ws rm).room.cells = mc from hrc]; exact hp.1
  have h5 : A.slots + (headSpec ws rm).room.slots ≤ R.slots := by rw [show (headSpec ws rm).room.slots = ms from hrs]; exact hp.2.1
  have hPc : Pc a (A.U.calling g mk a) := hblind _ _ _ _ hp.2.2
  obtain ⟨U, Ls, c0, s0⟩ := A
  dsimp only [Pt.U, Pt.locs, Pt.cells, Pt.slots] at h1 h2 h3 h4 h5 X hn hPc ⊢
  obtain ⟨m9, methY, cY, hn9, hmY, hcY, -, hlY, -⟩ := Cond.codeWith_spec h2
  cases Option.some.inj (hn9.symm.trans hn)
  obtain ⟨kY, hkY, -⟩ := className_of_methodNamed hn
  have hinitY : kY.init = .initialized := Cond.initialized_spec (findClass_of_methodNamed hn) hkY h3
  have h : At U g.method c below := by rw [hg]; exact X.here
  have hlocals9 : W9 + (maxL + 11) + (headSpec ws rm).room.locals ≤ R.locals := hlocals
  have happ : (headSpec ws rm).appliesLoose y e.platform (U.calling g mk a) = true :=
    Spec.appliesLoose_calling (g := g) h hdg hn hkY hinitY
      (X.room_calling (g := g) (R' := (headSpec ws rm).room) hsize hmY hcY hframes (by rw [hlY]; omega) h4 h5) h1
  obtain ⟨mid, hmid⟩ := h.above
  have hfr : (U.setTop g).frames = (.java g :: mid) ++ below := by rw [State.frames_setTop' g h.top, hmid]; rfl
  obtain ⟨o, s₂, hsteps, -, hend, hq⟩ := Steps.callFree hM p X.admits X.cas X.clock (acts := []) hfr happ hPc trivial
  have hq' : vx_Q Qc XC mc ms free a (U.calling g mk a) o s₂ := hq
  rw [State.frames_setTop' g h.top] at hend
  obtain ⟨g₀, hg0⟩ := Option.isSome_iff_exists.mp h.top
  obtain ⟨r, hr⟩ := State.topJava?_eq_some.mp hg0
  have hr' : (({ U with heap := s₂.heap, slotsUsed := s₂.slotsUsed } : State).setVm s₂.vm).frames = .java g₀ :: r := hr
  rcases hq' with ⟨hqc, L, hfe, hL⟩ | ⟨q, rfl, E, ce, L, hx, hce, hcv, hcl, hW₂, hsm, hL⟩
  · obtain ⟨⟨v, rfl⟩, hW₂, e2, q2, q3, q4, q5, q6⟩ := id hfe
    have e3 : s₂ = ({ (U.calling g mk a).setFrames s₂.frames with heap := s₂.heap, slotsUsed := s₂.slotsUsed } : State).setVm s₂.vm := by
      have : s₂ = ({ s₂ with vm := (U.calling g mk a).vm } : State).setVm s₂.vm := rfl
      rw [e2] at this
      exact this
    obtain ⟨c₂, i₂, len₂, hc₂, hd₂, hf₂⟩ := hend
    have hW' : U.WarmedH s₂.vm := hW₂
    have hcc : c₂ = c := by
      have h1 : s₂.code? g.method = U.code? g.method := by
        rw [State.code?_eq, State.code?_eq, hW'.alike.method?]
      exact Option.some.inj (hc₂.symm.trans (h1.trans h.code))
    subst hcc
    have hlen : len₂ = len := by rw [hdg] at hd₂; cases hd₂; rfl
    subst hlen
    have hs₂ : s₂ = (({ U with heap := s₂.heap, slotsUsed := s₂.slotsUsed } : State).setVm s₂.vm).setTop { g with pc := g.pc + len₂, stack := v.toList ++ g.stack } := by
      refine e3.trans ?_
      rw [hf₂, State.calling_eq h.top, State.setFrames_setFrames, State.setTop_of_frames _ hr', hr]
      rfl
    have hsame : U.sameButNew ({ U with heap := s₂.heap, slotsUsed := s₂.slotsUsed } : State) L mc ms := by
      refine ⟨?_, q2, q3, q4, q5, q6⟩
      obtain ⟨t, ht, -⟩ := State.frames_cons hr
      show ({ U with heap := s₂.heap, slotsUsed := s₂.slotsUsed } : State) = { U.setFrames U.frames with heap := s₂.heap, slotsUsed := s₂.slotsUsed }
      rw [State.setFrames_self ht]
    subst hg
    refine Or.inl ⟨v, ⟨(({ U with heap := s₂.heap, slotsUsed := s₂.slotsUsed } : State).setVm s₂.vm), Ls ++ L, c0 + mc, s0 + ms⟩,
      ⟨X.admits, X.cas, X.clock, X.frames, X.room, X.hears, X.method, X.code, (X.here.setHeapUsed s₂.heap s₂.slotsUsed).setVm hW'.alike, X.tail, State.WarmedH.trans X.warmed hW', X.limits, X.bytes, X.same.trans (hsame.setVm s.vm)⟩,
      ⟨g, mk, s₂, L, rfl, rfl, hqc, rfl, hL, rfl, rfl⟩, ?_⟩
    show Steps p.tables e below _ ((({ U with heap := s₂.heap, slotsUsed := s₂.slotsUsed } : State).setVm s₂.vm).setTop { g with pc := g.pc + len₂, stack := v.toList ++ g.stack })
    rw [← hs₂]
    exact hsteps
  · obtain ⟨e2, q2, q3, q4, q5, q6⟩ := id hsm
    have e3 : s₂ = ({ (U.calling g mk a).setFrames s₂.frames with heap := s₂.heap, slotsUsed := s₂.slotsUsed } : State).setVm s₂.vm := by
      have : s₂ = ({ s₂ with vm := (U.calling g mk a).vm } : State).setVm s₂.vm := rfl
      rw [e2] at this
      exact this
    have hf₂ : s₂.frames = .throwing q :: .java g :: U.frames.tail := hend
    have hW' : U.WarmedH s₂.vm := hW₂
    have hs₂ : s₂ = ((({ U with heap := s₂.heap, slotsUsed := s₂.slotsUsed } : State).setVm s₂.vm).setTop g).pushFrame (.throwing q) := by
      refine e3.trans ?_
      rw [hf₂, State.calling_eq h.top, State.setFrames_setFrames, State.pushFrame, State.frames_setTop _ hr', State.setTop_of_frames _ hr', State.setFrames_setFrames, hr]
      rfl
    have hsame : U.sameButNew ({ U with heap := s₂.heap, slotsUsed := s₂.slotsUsed } : State) L mc ms := by
      refine ⟨?_, q2, q3, q4, q5, q6⟩
      obtain ⟨t, ht, -⟩ := State.frames_cons hr
      show ({ U with heap := s₂.heap, slotsUsed := s₂.slotsUsed } : State) = { U.setFrames U.frames with heap := s₂.heap, slotsUsed := s₂.slotsUsed }
      rw [State.setFrames_self ht]
    subst hg
    refine Or.inr ⟨q, ⟨(({ U with heap := s₂.heap, slotsUsed := s₂.slotsUsed } : State).setVm s₂.vm), Ls ++ L, c0 + mc, s0 + ms⟩,
      ⟨X.admits, X.cas, X.clock, X.frames, X.room, X.hears, X.method, X.code, (X.here.setHeapUsed s₂.heap s₂.slotsUsed).setVm hW'.alike, X.tail, State.WarmedH.trans X.warmed hW', X.limits, X.bytes, X.same.trans (hsame.setVm s.vm)⟩,
      ⟨g, mk, s₂, L, E, ce, rfl, rfl, hx, hce, hcv, hcl, rfl, hL, rfl, rfl⟩, ?_⟩
    show Steps p.tables e below _ (((({ U with heap := s₂.heap, slotsUsed := s₂.slotsUsed } : State).setVm s₂.vm).setTop g).pushFrame (.throwing q))
    rw [← hs₂]
    exact hsteps
end
variable {p : Program} {l : Launch} {e : Env} {R : Room} {s : State} {m : MethodId} {args : Array Value} {below : List Frame} {meth : Method} {c : Code} {T : State} {H : Heap} {locs : List Loc} {cells slots : Nat}
theorem vx_callVX (X : Stand p l e R s m args below meth c T locs cells slots) (hexec : p.tables.exec = Jvm.exec) {own C : String} {index : Nat} {y : MethodName} {bytes : ByteArray} {maxL : Nat} {ret : Option FieldType} {hh : List (Nat × Nat × Nat × Nat)}
    (hown : s.vm.findClass own = some m.cls) (hlink : (Cond.methodLink own index y).before args s = true) (hinst : (Cond.instanceMethod y).before args s = true) (hsel : (Cond.selects C y y).before args s = true)
    (hcode : (Cond.codeWith y bytes maxL ret hh).before args s = true) (hy : y.cls ≠ "java/lang/invoke/MethodHandle" ∧ y.cls ≠ "java/lang/invoke/VarHandle")
    {W9 : Nat} {Pre : Pt → Array Value → Prop} {Post : Pt → Array Value → Option Value → Pt → Prop} {PostX : Pt → Array Value → Addr → Pt → Prop} (hK : vx_Back l R p e below s args y 3 W9 Pre Post PostX)
    {b : Addr} {cellB : Cell} (hcell : T.heap[b]? = some cellB) (hobj : cellB.vm.isStatics = false) (hcls : s.vm.findClass C = some cellB.cls)
    {g : JFrame} (hg : g.method = m) (hsize : g.locals.size = c.maxLocals) {argsL rest : List Value} (hlen : ∀ sig, parseMethodDescriptor y.desc = some sig → argsL.length = sig.parameters.length)
    (hstack : g.stack = argsL.reverse ++ .ref b :: rest) (hW : 2 * g.monitorRoom + (rest.map fun v => v.category).sum ≤ W9) (hdg : decode c.code g.pc = .ok (.invokevirtual index, 3))
    (hpre : ∀ vm₁, s.WarmedH vm₁ → Pre ⟨T.setVm vm₁, locs, cells, slots⟩ (Value.ref b :: argsL).toArray) :
    (∃ (v : Option Value) (vm₁ : Vm) (B : Pt), s.WarmedH vm₁ ∧ Stand p l e R s m args below meth c B.U B.locs B.cells B.slots ∧ Post ⟨T.setVm vm₁, locs, cells, slots⟩ (Value.ref b :: argsL).toArray v B ∧
      ∀ target, Steps p.tables e below (B.U.setTop { g with pc := g.pc + 3, stack := v.toList ++ rest }) target → Steps p.tables e below (T.setTop g) target) ∨
    (∃ (q : Addr) (vm₁ : Vm) (B : Pt), s.WarmedH vm₁ ∧ Stand p l e R s m args below meth c B.U B.locs B.cells B.slots ∧ PostX ⟨T.setVm vm₁, locs, cells, slots⟩ (Value.ref b :: argsL).toArray q B ∧
      Steps p.tables e below (T.setTop g) ((B.U.setTop { g with stack := rest }).pushFrame (.throwing q))) := by
  obtain ⟨mk, methM, hnamed, hmethM, hstM, habM⟩ := Cond.instanceMethod_spec hinst
  obtain ⟨m8, methM', cM, hn8, hmethM', -, -, -, -, -, -, hsigM⟩ := Cond.codeWith_spec hcode
  cases Option.some.inj (hn8.symm.trans hnamed)
  cases hmethM.symm.trans hmethM'
  obtain ⟨c2, r2, m2, q1, q2, q3, q4, kP, hkP, hkPi⟩ := Cond.selects_spec hsel
  cases hcls.symm.trans q1
  cases (State.methodFound?_of_named hnamed hy).symm.trans q2
  cases hnamed.symm.trans q3
  have hselP : selectMethod e.platform s.vm cellB.cls mk = .method mk := by rw [Launch.admits_selectMethod X.admits]; exact q4
  obtain ⟨vm₁, X₁, hstep₁⟩ := X.invokevirtual hexec hown hlink hnamed hmethM hstM hkP hkPi hy (a := b) (cell := cellB) hcell
    (fun z h => by rw [h] at hobj; cases hobj) hselP hmethM habM hkP hkPi (g := g) hg (argsL := argsL) (rest := rest) (hlen _ hsigM) hstack hdg
  rcases hK m meth c ⟨T.setVm vm₁, locs, cells, slots⟩ { g with stack := rest } (.invokevirtual index) mk (Value.ref b :: argsL).toArray X₁ hg hsize hdg hW (X₁.named hnamed) (hpre vm₁ X₁.warmed) with ⟨v, B, X', hpost, hsteps⟩ | ⟨q, B, X', hpost, hsteps⟩
  · exact Or.inl ⟨v, vm₁, B, X₁.warmed, X', hpost, fun target h => hstep₁ _ fun acts => by rw [doInvoke_state]; exact hsteps.trans h⟩
  · exact Or.inr ⟨q, vm₁, B, X₁.warmed, X', hpost, hstep₁ _ fun acts => by rw [doInvoke_state]; exact hsteps⟩
theorem vx_callSX (X : Stand p l e R s m args below meth c T locs cells slots) (hexec : p.tables.exec = Jvm.exec) {own : String} {index : Nat} {y : MethodName} {bytes : ByteArray} {maxL : Nat} {ret : Option FieldType} {hh : List (Nat × Nat × Nat × Nat)}
    (hown : s.vm.findClass own = some m.cls) (hlink : (Cond.methodLink own index y).before args s = true) (hstat : (Cond.static y).before args s = true) (hinit : (Cond.initialized y.cls).before args s = true)
    (hcode : (Cond.codeWith y bytes maxL ret hh).before args s = true) (hy : y.cls ≠ "java/lang/invoke/MethodHandle" ∧ y.cls ≠ "java/lang/invoke/VarHandle")
    {W9 : Nat} {Pre : Pt → Array Value → Prop} {Post : Pt → Array Value → Option Value → Pt → Prop} {PostX : Pt → Array Value → Addr → Pt → Prop} (hK : vx_Back l R p e below s args y 3 W9 Pre Post PostX)
    {g : JFrame} (hg : g.method = m) (hsize : g.locals.size = c.maxLocals) {argsL rest : List Value} (hlen : ∀ sig, parseMethodDescriptor y.desc = some sig → argsL.length = sig.parameters.length)
    (hstack : g.stack = argsL.reverse ++ rest) (hW : 2 * g.monitorRoom + (rest.map fun v => v.category).sum ≤ W9) (hdg : decode c.code g.pc = .ok (.invokestatic index, 3))
    (hpre : ∀ vm₁, s.WarmedH vm₁ → Pre ⟨T.setVm vm₁, locs, cells, slots⟩ argsL.toArray) :
    (∃ (v : Option Value) (vm₁ : Vm) (B : Pt), s.WarmedH vm₁ ∧ Stand p l e R s m args below meth c B.U B.locs B.cells B.slots ∧ Post ⟨T.setVm vm₁, locs, cells, slots⟩ argsL.toArray v B ∧
      ∀ target, Steps p.tables e below (B.U.setTop { g with pc := g.pc + 3, stack := v.toList ++ rest }) target → Steps p.tables e below (T.setTop g) target) ∨
    (∃ (q : Addr) (vm₁ : Vm) (B : Pt), s.WarmedH vm₁ ∧ Stand p l e R s m args below meth c B.U B.locs B.cells B.slots ∧ PostX ⟨T.setVm vm₁, locs, cells, slots⟩ argsL.toArray q B ∧
      Steps p.tables e below (T.setTop g) ((B.U.setTop { g with stack := rest }).pushFrame (.throwing q))) := by
  obtain ⟨mk, methM, cM, hnamed, hmethM, -, -, -, -, -, -, hsigM⟩ := Cond.codeWith_spec hcode
  have hstatic : methM.isStatic = true := Cond.static_spec hnamed hmethM hstat
  obtain ⟨kP, hkP, -⟩ := className_of_methodNamed hnamed
  have hinitP : kP.init = .initialized := Cond.initialized_spec (findClass_of_methodNamed hnamed) hkP hinit
  obtain ⟨vm₁, X₁, hstep₁⟩ := X.invokestatic hexec hown hlink hnamed hmethM hstatic hkP hinitP hy (g := g) hg (argsL := argsL) (rest := rest) (hlen _ hsigM) hstack hdg
  rcases hK m meth c ⟨T.setVm vm₁, locs, cells, slots⟩ { g with stack := rest } (.invokestatic index) mk argsL.toArray X₁ hg hsize hdg hW (X₁.named hnamed) (hpre vm₁ X₁.warmed) with ⟨v, B, X', hpost, hsteps⟩ | ⟨q, B, X', hpost, hsteps⟩
  · exact Or.inl ⟨v, vm₁, B, X₁.warmed, X', hpost, fun target h => hstep₁ _ fun acts => by rw [doInvoke_state]; exact hsteps.trans h⟩
  · exact Or.inr ⟨q, vm₁, B, X₁.warmed, X', hpost, hstep₁ _ fun acts => by rw [doInvoke_state]; exact hsteps⟩
theorem vx_callVW (X : Stand p l e R s m args below meth c T locs cells slots) (hexec : p.tables.exec = Jvm.exec) {own C : String} {index : Nat} {y : MethodName} {bytes : ByteArray} {maxL : Nat} {ret : Option FieldType} {hh : List (Nat × Nat × Nat × Nat)}
    (hown : s.vm.findClass own = some m.cls) (hlink : (Cond.methodLink own index y).before args s = true) (hinst : (Cond.instanceMethod y).before args s = true) (hsel : (Cond.selects C y y).before args s = true)
    (hcode : (Cond.codeWith y bytes maxL ret hh).before args s = true) (hy : y.cls ≠ "java/lang/invoke/MethodHandle" ∧ y.cls ≠ "java/lang/invoke/VarHandle")
    {W9 : Nat} {Pre : Pt → Array Value → Prop} {Post : Pt → Array Value → Option Value → Pt → Prop} (hK : Back l R p e below s args y 3 W9 Pre Post)
    {b : Addr} {cellB : Cell} (hcell : T.heap[b]? = some cellB) (hobj : cellB.vm.isStatics = false) (hcls : s.vm.findClass C = some cellB.cls)
    {g : JFrame} (hg : g.method = m) (hsize : g.locals.size = c.maxLocals) {argsL rest : List Value} (hlen : ∀ sig, parseMethodDescriptor y.desc = some sig → argsL.length = sig.parameters.length)
    (hstack : g.stack = argsL.reverse ++ .ref b :: rest) (hW : 2 * g.monitorRoom + (rest.map fun v => v.category).sum ≤ W9) (hdg : decode c.code g.pc = .ok (.invokevirtual index, 3))
    (hpre : ∀ vm₁, s.WarmedH vm₁ → Pre ⟨T.setVm vm₁, locs, cells, slots⟩ (Value.ref b :: argsL).toArray) :
    ∃ (v : Option Value) (vm₁ : Vm) (B : Pt), s.WarmedH vm₁ ∧ Stand p l e R s m args below meth c B.U B.locs B.cells B.slots ∧ Post ⟨T.setVm vm₁, locs, cells, slots⟩ (Value.ref b :: argsL).toArray v B ∧
      ∀ target, Steps p.tables e below (B.U.setTop { g with pc := g.pc + 3, stack := v.toList ++ rest }) target → Steps p.tables e below (T.setTop g) target := by
  obtain ⟨mk, methM, hnamed, hmethM, hstM, habM⟩ := Cond.instanceMethod_spec hinst
  obtain ⟨m8, methM', cM, hn8, hmethM', -, -, -, -, -, -, hsigM⟩ := Cond.codeWith_spec hcode
  cases Option.some.inj (hn8.symm.trans hnamed)
  cases hmethM.symm.trans hmethM'
  obtain ⟨c2, r2, m2, q1, q2, q3, q4, kP, hkP, hkPi⟩ := Cond.selects_spec hsel
  cases hcls.symm.trans q1
  cases (State.methodFound?_of_named hnamed hy).symm.trans q2
  cases hnamed.symm.trans q3
  have hselP : selectMethod e.platform s.vm cellB.cls mk = .method mk := by rw [Launch.admits_selectMethod X.admits]; exact q4
  obtain ⟨vm₁, X₁, hstep₁⟩ := X.invokevirtual hexec hown hlink hnamed hmethM hstM hkP hkPi hy (a := b) (cell := cellB) hcell
    (fun z h => by rw [h] at hobj; cases hobj) hselP hmethM habM hkP hkPi (g := g) hg (argsL := argsL) (rest := rest) (hlen _ hsigM) hstack hdg
  obtain ⟨v, B, X', hpost, hsteps⟩ := hK m meth c ⟨T.setVm vm₁, locs, cells, slots⟩ { g with stack := rest } (.invokevirtual index) mk (Value.ref b :: argsL).toArray X₁ hg hsize hdg hW (X₁.named hnamed) (hpre vm₁ X₁.warmed)
  exact ⟨v, vm₁, B, X₁.warmed, X', hpost, fun target h => hstep₁ _ fun acts => by rw [doInvoke_state]; exact hsteps.trans h⟩
abbrev vx_CVW (R : Room) (s : State) (args : Array Value) (own C : String) (index : Nat) (y : MethodName) (bytes : ByteArray) (maxL : Nat) (ret : Option FieldType) (hh : List (Nat × Nat × Nat × Nat)) (ws : List Cond) (rm : Room) (mc ms n : Nat) : Prop :=
  (rm.cells = mc ∧ rm.slots = ms ∧ rm.frames + 1 ≤ R.frames ∧ 8 + (maxL + 11) + rm.locals ≤ R.locals ∧ (∀ w ∈ ws, ∀ (a' : Array Value) (U : State), s.WarmedH U.vm → w.before a' U = true) ∧ Cond.codeWith y bytes maxL ret hh ∈ ws) ∧
  (Cond.codeWith y bytes maxL ret hh).before args s = true ∧ (Cond.initialized y.cls).before args s = true ∧ (y.cls ≠ "java/lang/invoke/MethodHandle" ∧ y.cls ≠ "java/lang/invoke/VarHandle") ∧
  (∀ sig, parseMethodDescriptor y.desc = some sig → n = sig.parameters.length) ∧ (Cond.methodLink own index y).before args s = true ∧ (Cond.instanceMethod y).before args s = true ∧ (Cond.selects C y y).before args s = true
theorem vx_cwVW {own C : String} {index maxL mc ms : Nat} {y : MethodName} {bytes : ByteArray} {ret : Option FieldType} {hh : List (Nat × Nat × Nat × Nat)} {Ts ws ws' : List Cond} {rm : Room} (n : Nat) (ht : ∀ w ∈ Ts, w.before args s = true) (hT : GoodIn Ts (wsV own index C y ws)) (hw : ws = Cond.codeWith y bytes maxL ret hh :: ws') (hrc : rm.cells = mc) (hrs : rm.slots = ms)
    (hd : y.cls = C ∧ y.cls ≠ "java/lang/invoke/MethodHandle" ∧ y.cls ≠ "java/lang/invoke/VarHandle" ∧ (parseMethodDescriptor y.desc).map (fun d => d.parameters.length) = some n) (hR : rm.frames + 1 ≤ R.frames ∧ 8 + (maxL + 11) + rm.locals ≤ R.locals) :
    vx_CVW R s args own C index y bytes maxL ret hh ws rm mc ms n := by
  obtain ⟨hC, hd⟩ := hd
  subst hC
  have ok : ∀ w ∈ wsV own index y.cls y ws, w.before args s = true := fun w h => ht w (hT w h).1
  have hG : GoodIn Ts ws := fun w h => hT w (by unfold wsV; exact List.mem_append_right _ h)
  have hc : Cond.codeWith y bytes maxL ret hh ∈ ws := by rw [hw]; exact List.mem_cons_self
  refine ⟨⟨hrc, hrs, hR.1, hR.2, pay_in ht hG, hc⟩, ht _ (hG _ hc).1, ok _ (by simp [wsV]), ⟨hd.1, hd.2.1⟩, fun sig h => ?_, ok _ (by simp [wsV]), ok _ (by simp [wsV]), ok _ (by simp [wsV])⟩
  have h2 := hd.2.2
  rw [h] at h2
  exact (Option.some.inj h2).symm
theorem vx_runVW {y : MethodName} {bytes cc : ByteArray} {maxL nL mc ms n index : Nat} {ret : Option FieldType} {hh : List (Nat × Nat × Nat × Nat)} {ws : List Cond} {rm : Room} {Pc : Array Value → State → Prop} {Qc : Array Value → State → Outcome → State → Prop} {free : Addr → Prop} {Ts : List Cond} {own C : String} {b : Addr} {As rest : List Value} {g : JFrame}
    (S : CallFix p m c cc nL s args Ts own) (hM : Met l y ws rm Pc Qc mc ms free) (cw : vx_CVW R s args own C index y bytes maxL ret hh ws rm mc ms n) (hp : PreV s H C b Pc As)
    (hg : g.method = m) (hn : As.length = n) (hsize : g.locals.size = nL) (hstack : g.stack = As.reverse ++ .ref b :: rest) (hW : 2 * g.monitorRoom + (rest.map fun v => v.category).sum ≤ 8) (hdg : decode cc g.pc = .ok (.invokevirtual index, 3)) (hf : cells + mc ≤ R.cells ∧ slots + ms ≤ R.slots) :
    va_Run p l e R s m args below meth c H locs cells slots mc ms g rest (Qc (Value.ref b :: As).toArray) free := by
  obtain ⟨⟨hrc, hrs, hfr, hlo, hws, hcw⟩, hcode, hini, hy, hlen, hl, hin, hse⟩ := cw
  have hK : Back l R p e below s args y 3 8 (PreOf R mc ms Pc) (PostOf Qc mc ms free) := va_backW (hh := hh) (bytes := bytes) (maxL := maxL) (ret := ret) hM hp.1 hrc hrs hfr hlo hws hcw (fun a' U hW => word_at hW (Or.inl (by first | rfl | simp [Cond.onTables, Cond.keeps, Cond.steady])) hini)
  obtain ⟨hx, hb, hml, ho, -⟩ := S
  obtain ⟨-, ⟨cellB, hcB, hoB, hclB⟩, hPc⟩ := hp
  intro T hT X
  obtain ⟨v, vm₁, ⟨U', l2, c2, s2⟩, hW₁, X', ⟨g', mk, t, L, e1, e2, hq, h1, hL, h2, h3⟩, st⟩ := vx_callVW X hx (C := C) (hh := hh) (bytes := bytes) (maxL := maxL) (ret := ret) ho hl hin hse hcode hy hK (by rw [hT]; exact hcB) hoB hclB hg (hsize.trans hml.symm) (argsL := As) (rest := rest) (fun sig h => hn.trans (hlen sig h)) hstack hW (by rw [hb]; exact hdg)
    (fun vm₁ hW₁ => ⟨hf.1, hf.2, hPc (T.setVm vm₁) hT hW₁⟩)
  dsimp only [Pt.U, Pt.locs, Pt.cells, Pt.slots] at X' e1 e2 h1 h2 h3 st
  subst h1; subst h2; subst h3
  exact ⟨v, (T.setVm vm₁).calling g' mk (Value.ref b :: As).toArray, t, U', L, hT, X', hL, e1, e2, hq, st⟩
section
variable {y : MethodName} {bytes cc : ByteArray} {maxL nL mc ms n index : Nat} {ret : Option FieldType} {ws : List Cond} {rm : Room} {Pc : Array Value → State → Prop} {Qc : Array Value → State → Outcome → State → Prop} {XC : String → State → State → Prop} {free : Addr → Prop} {Ts : List Cond} {own C : String} {b : Addr} {As rest : List Value} {g : JFrame}
theorem vx_runVX {hh : List (Nat × Nat × Nat × Nat)} (S : CallFix p m c cc nL s args Ts own) (hM : vx_Met l y ws rm Pc Qc XC mc ms free) (cw : vx_CVW R s args own C index y bytes maxL ret hh ws rm mc ms n) (hp : PreV s H C b Pc As)
    (hg : g.method = m) (hn : As.length = n) (hsize : g.locals.size = nL) (hstack : g.stack = As.reverse ++ .ref b :: rest) (hW : 2 * g.monitorRoom + (rest.map fun v => v.category).sum ≤ 8) (hdg : decode cc g.pc = .ok (.invokevirtual index, 3)) (hf : cells + mc ≤ R.cells ∧ slots + ms ≤ R.slots) :
    vx_Run p l e R s m args below meth c H locs cells slots mc ms g rest (Qc (Value.ref b :: As).toArray) XC free := by
  obtain ⟨⟨hrc, hrs, hfr, hlo, hws, hcw⟩, hcode, hini, hy, hlen, hl, hin, hse⟩ := cw
  have hK : vx_Back l R p e below s args y 3 8 (PreOf R mc ms Pc) (PostOf Qc mc ms free) (vx_Post XC mc ms free) := vx_backW (hh := hh) (bytes := bytes) (maxL := maxL) (ret := ret) hM hp.1 hrc hrs hfr hlo hws hcw (fun a' U hW => word_at hW (Or.inl (by first | rfl | simp [Cond.onTables, Cond.keeps, Cond.steady])) hini)
  obtain ⟨hx, hb, hml, ho, -⟩ := S
  obtain ⟨-, ⟨cellB, hcB, hoB, hclB⟩, hPc⟩ := hp
  intro T hT X
  rcases vx_callVX X hx (C := C) (hh := hh) (bytes := bytes) (maxL := maxL) (ret := ret) ho hl hin hse hcode hy hK (by rw [hT]; exact hcB) hoB hclB hg (hsize.trans hml.symm) (argsL := As) (rest := rest) (fun sig h => hn.trans (hlen sig h)) hstack hW (by rw [hb]; exact hdg)
    (fun vm₁ hW₁ => ⟨hf.1, hf.2, hPc (T.setVm vm₁) hT hW₁⟩) with ⟨v, vm₁, ⟨U', l2, c2, s2⟩, hW₁, X', ⟨g', mk, t, L, e1, e2, hq, h1, hL, h2, h3⟩, st⟩ | ⟨q, vm₁, ⟨U', l2, c2, s2⟩, hW₁, X', ⟨g', mk, t, L, E, ce, e1, e2, hq, hce, hcv, hcl, h1, hL, h2, h3⟩, st⟩
  · dsimp only [Pt.U, Pt.locs, Pt.cells, Pt.slots] at X' e1 e2 h1 h2 h3 st
    subst h1; subst h2; subst h3
    exact Or.inl ⟨v, (T.setVm vm₁).calling g' mk (Value.ref b :: As).toArray, t, U', L, hT, X', hL, e1, e2, hq, st⟩
  · dsimp only [Pt.U, Pt.locs, Pt.cells, Pt.slots] at X' e1 e2 h1 h2 h3 st hcl
    subst h1; subst h2; subst h3
    exact Or.inr ⟨q, (T.setVm vm₁).calling g' mk (Value.ref b :: As).toArray, t, U', L, E, ce, hT, X', hL, e1, e2, hq, hce, hcv, vx_cls hW₁ hcl, st⟩
theorem vx_runSX {hh : List (Nat × Nat × Nat × Nat)} (S : CallFix p m c cc nL s args Ts own) (hM : vx_Met l y ws rm Pc Qc XC mc ms free) (cw : vx_CSW R s args own index y bytes maxL ret hh ws rm mc ms n) (hp : PreS s H Pc As)
    (hg : g.method = m) (hn : As.length = n) (hsize : g.locals.size = nL) (hstack : g.stack = As.reverse ++ rest) (hW : 2 * g.monitorRoom + (rest.map fun v => v.category).sum ≤ 8) (hdg : decode cc g.pc = .ok (.invokestatic index, 3)) (hf : cells + mc ≤ R.cells ∧ slots + ms ≤ R.slots) :
    vx_Run p l e R s m args below meth c H locs cells slots mc ms g rest (Qc As.toArray) XC free := by
  obtain ⟨⟨hrc, hrs, hfr, hlo, hws, hcw⟩, hcode, hini, hy, hlen, hl, hstt⟩ := cw
  have hK : vx_Back l R p e below s args y 3 8 (PreOf R mc ms Pc) (PostOf Qc mc ms free) (vx_Post XC mc ms free) := vx_backW (hh := hh) (bytes := bytes) (maxL := maxL) (ret := ret) hM hp.1 hrc hrs hfr hlo hws hcw (fun a' U hW => word_at hW (Or.inl (by first | rfl | simp [Cond.onTables, Cond.keeps, Cond.steady])) hini)
  obtain ⟨hx, hb, hml, ho, -⟩ := S
  intro T hT X
  rcases vx_callSX X hx (hh := hh) (bytes := bytes) (maxL := maxL) (ret := ret) ho hl hstt hini hcode hy hK hg (hsize.trans hml.symm) (argsL := As) (rest := rest) (fun sig h => hn.trans (hlen sig h)) hstack hW (by rw [hb]; exact hdg)
    (fun vm₁ hW₁ => ⟨hf.1, hf.2, hp.2 (T.setVm vm₁) hT hW₁⟩) with ⟨v, vm₁, ⟨U', l2, c2, s2⟩, hW₁, X', ⟨g', mk, t, L, e1, e2, hq, h1, hL, h2, h3⟩, st⟩ | ⟨q, vm₁, ⟨U', l2, c2, s2⟩, hW₁, X', ⟨g', mk, t, L, E, ce, e1, e2, hq, hce, hcv, hcl, h1, hL, h2, h3⟩, st⟩
  · dsimp only [Pt.U, Pt.locs, Pt.cells, Pt.slots] at X' e1 e2 h1 h2 h3 st
    subst h1; subst h2; subst h3
    exact Or.inl ⟨v, (T.setVm vm₁).calling g' mk As.toArray, t, U', L, hT, X', hL, e1, e2, hq, st⟩
  · dsimp only [Pt.U, Pt.locs, Pt.cells, Pt.slots] at X' e1 e2 h1 h2 h3 st hcl
    subst h1; subst h2; subst h3
    exact Or.inr ⟨q, (T.setVm vm₁).calling g' mk As.toArray, t, U', L, E, ce, hT, X', hL, e1, e2, hq, hce, hcv, vx_cls hW₁ hcl, st⟩
end
end VXH
theorem vx_ofWH {l : Launch} {y : MethodName} {ws ws' : List Cond} {rm : Room} {Pc : Array Value → State → Prop} {Qc : Array Value → State → Outcome → State → Prop} {XC : String → State → State → Prop} {mc ms : Nat} {free : Addr → Prop} {cc : ByteArray} {maxL : Nat} {ret : Option FieldType} {hh : List (Nat × Nat × Nat × Nat)}
    (hy : plainName y.cls = true) (hw : ws = Cond.codeWith y cc maxL ret hh :: ws')
    (body : ∀ p e s m args below meth c s₁, BodyLoose p l y (headSpec ws rm) cc maxL ret e s m args below meth c s₁ → c.maxLocals = maxL → Pc args s →
      W p l e (headSpec ws rm).room s m args below meth c s.heap [] 0 0 (vx_MQ below Qc XC args s mc ms free) (entryFrame m args maxL)) : vx_Met l y ws rm Pc Qc XC mc ms free := by
  refine MetFree.of_bodyS (code := cc) (maxLocals := maxL) (ret := ret) hy ?_ ?_
  · intro args s m h hn
    obtain ⟨m9, meth, c, hn9, h1, h2, h3, h4, -, h5, h6, -⟩ := Cond.codeWith_spec (atoms_spec (ws := ws) h _ (by rw [hw]; exact List.mem_cons_self))
    cases hn.symm.trans hn9
    exact ⟨meth, c, h1, h2, h3, h4, h5, h6⟩
  · intro p e s m args below meth c s₁ B hml hP _
    have hh0 : s₁.heap = s.heap := by rw [B.state]; rfl
    obtain ⟨t, a1, o, b1, b2, b3⟩ := body p e s m args below meth c s₁ B hml hP s₁ hh0 (Stand.of_body B)
    exact ⟨t, o, a1, b1, b2, b3⟩
/-! ===== END ===== -/
end
section
-- ===== PART A: goes FIRST, ahead of the names: the tables' words, and 'selects' of the private methods out of them =====
/-- a private method of a class that the tables say can be made, by its rows of tables_1 -/
def lw_okq (q : MethodName × Nat) : Prop := (q.1.cls ≠ "java/lang/invoke/MethodHandle" ∧ q.1.cls ≠ "java/lang/invoke/VarHandle") ∧ Cond.instantiable q.1.cls q.2 ∈ tables_1 ∧ Cond.privateMethod q.1 ∈ tables_1 ∧ Cond.instanceMethod q.1 ∈ tables_1
theorem lw_p0 : lw_okq (⟨"QuorumLog$Server", "findMembers", "()V"⟩, 18) := ⟨⟨by decide +kernel, by decide +kernel⟩, List.mem_of_getElem? (i := 192) (by decide +kernel), List.mem_of_getElem? (i := 205) (by decide +kernel), List.mem_of_getElem? (i := 206) (by decide +kernel)⟩
theorem lw_p1 : lw_okq (⟨"QuorumLog$Server", "rest", "()V"⟩, 18) := ⟨⟨by decide +kernel, by decide +kernel⟩, List.mem_of_getElem? (i := 192) (by decide +kernel), List.mem_of_getElem? (i := 209) (by decide +kernel), List.mem_of_getElem? (i := 210) (by decide +kernel)⟩
theorem lw_p2 : lw_okq (⟨"java/lang/Throwable", "fillInStackTrace", "(I)Ljava/lang/Throwable;"⟩, 6) := ⟨⟨by decide +kernel, by decide +kernel⟩, List.mem_of_getElem? (i := 386) (by decide +kernel), List.mem_of_getElem? (i := 384) (by decide +kernel), List.mem_of_getElem? (i := 385) (by decide +kernel)⟩
theorem lw_p3 : lw_okq (⟨"QuorumLog$Cluster", "sendTo", "(LQuorumLog$Server;I)V"⟩, 4) := ⟨⟨by decide +kernel, by decide +kernel⟩, List.mem_of_getElem? (i := 30) (by decide +kernel), List.mem_of_getElem? (i := 449) (by decide +kernel), List.mem_of_getElem? (i := 450) (by decide +kernel)⟩
theorem lw_p4 : lw_okq (⟨"QuorumLog$Cluster", "sounding", "(LQuorumLog$Server;)I"⟩, 4) := ⟨⟨by decide +kernel, by decide +kernel⟩, List.mem_of_getElem? (i := 30) (by decide +kernel), List.mem_of_getElem? (i := 481) (by decide +kernel), List.mem_of_getElem? (i := 482) (by decide +kernel)⟩
theorem lw_p5 : lw_okq (⟨"QuorumLog$Cluster", "askOthers", "(LQuorumLog$Server;II)V"⟩, 4) := ⟨⟨by decide +kernel, by decide +kernel⟩, List.mem_of_getElem? (i := 30) (by decide +kernel), List.mem_of_getElem? (i := 499) (by decide +kernel), List.mem_of_getElem? (i := 500) (by decide +kernel)⟩
theorem lw_p6 : lw_okq (⟨"QuorumLog$Cluster", "standing", "(LQuorumLog$Server;)I"⟩, 4) := ⟨⟨by decide +kernel, by decide +kernel⟩, List.mem_of_getElem? (i := 30) (by decide +kernel), List.mem_of_getElem? (i := 507) (by decide +kernel), List.mem_of_getElem? (i := 508) (by decide +kernel)⟩
theorem lw_p7 : lw_okq (⟨"QuorumLog$Server", "widen", "()V"⟩, 18) := ⟨⟨by decide +kernel, by decide +kernel⟩, List.mem_of_getElem? (i := 192) (by decide +kernel), List.mem_of_getElem? (i := 545) (by decide +kernel), List.mem_of_getElem? (i := 546) (by decide +kernel)⟩
theorem lw_p8 : lw_okq (⟨"QuorumLog$Cluster", "commit", "(LQuorumLog$Server;I)V"⟩, 4) := ⟨⟨by decide +kernel, by decide +kernel⟩, List.mem_of_getElem? (i := 30) (by decide +kernel), List.mem_of_getElem? (i := 558) (by decide +kernel), List.mem_of_getElem? (i := 559) (by decide +kernel)⟩
theorem lw_p9 : lw_okq (⟨"QuorumLog$Cluster", "onSound", "(LQuorumLog$Server;LQuorumLog$Message;)V"⟩, 4) := ⟨⟨by decide +kernel, by decide +kernel⟩, List.mem_of_getElem? (i := 30) (by decide +kernel), List.mem_of_getElem? (i := 590) (by decide +kernel), List.mem_of_getElem? (i := 591) (by decide +kernel)⟩
theorem lw_p10 : lw_okq (⟨"QuorumLog$Cluster", "reply", "(ILQuorumLog$Message;IZI)V"⟩, 4) := ⟨⟨by decide +kernel, by decide +kernel⟩, List.mem_of_getElem? (i := 30) (by decide +kernel), List.mem_of_getElem? (i := 599) (by decide +kernel), List.mem_of_getElem? (i := 600) (by decide +kernel)⟩
theorem lw_p11 : lw_okq (⟨"QuorumLog$Cluster", "onYes", "(LQuorumLog$Server;LQuorumLog$Message;II)Z"⟩, 4) := ⟨⟨by decide +kernel, by decide +kernel⟩, List.mem_of_getElem? (i := 30) (by decide +kernel), List.mem_of_getElem? (i := 603) (by decide +kernel), List.mem_of_getElem? (i := 604) (by decide +kernel)⟩
theorem lw_p12 : lw_okq (⟨"QuorumLog$Cluster", "onCall", "(LQuorumLog$Server;LQuorumLog$Message;)V"⟩, 4) := ⟨⟨by decide +kernel, by decide +kernel⟩, List.mem_of_getElem? (i := 30) (by decide +kernel), List.mem_of_getElem? (i := 607) (by decide +kernel), List.mem_of_getElem? (i := 608) (by decide +kernel)⟩
theorem lw_p13 : lw_okq (⟨"QuorumLog$Cluster", "onEntries", "(LQuorumLog$Server;LQuorumLog$Message;)V"⟩, 4) := ⟨⟨by decide +kernel, by decide +kernel⟩, List.mem_of_getElem? (i := 30) (by decide +kernel), List.mem_of_getElem? (i := 611) (by decide +kernel), List.mem_of_getElem? (i := 612) (by decide +kernel)⟩
theorem lw_p14 : lw_okq (⟨"QuorumLog$Server", "hasEntry", "(II)Z"⟩, 18) := ⟨⟨by decide +kernel, by decide +kernel⟩, List.mem_of_getElem? (i := 192) (by decide +kernel), List.mem_of_getElem? (i := 623) (by decide +kernel), List.mem_of_getElem? (i := 624) (by decide +kernel)⟩
theorem lw_p15 : lw_okq (⟨"QuorumLog$Cluster", "onAnswer", "(LQuorumLog$Server;LQuorumLog$Message;)V"⟩, 4) := ⟨⟨by decide +kernel, by decide +kernel⟩, List.mem_of_getElem? (i := 30) (by decide +kernel), List.mem_of_getElem? (i := 643) (by decide +kernel), List.mem_of_getElem? (i := 644) (by decide +kernel)⟩
def lw_privs_1 : List (MethodName × Nat) := [(⟨"QuorumLog$Server", "findMembers", "()V"⟩, 18), (⟨"QuorumLog$Server", "rest", "()V"⟩, 18), (⟨"java/lang/Throwable", "fillInStackTrace", "(I)Ljava/lang/Throwable;"⟩, 6), (⟨"QuorumLog$Cluster", "sendTo", "(LQuorumLog$Server;I)V"⟩, 4), (⟨"QuorumLog$Cluster", "sounding", "(LQuorumLog$Server;)I"⟩, 4), (⟨"QuorumLog$Cluster", "askOthers", "(LQuorumLog$Server;II)V"⟩, 4), (⟨"QuorumLog$Cluster", "standing", "(LQuorumLog$Server;)I"⟩, 4), (⟨"QuorumLog$Server", "widen", "()V"⟩, 18), (⟨"QuorumLog$Cluster", "commit", "(LQuorumLog$Server;I)V"⟩, 4), (⟨"QuorumLog$Cluster", "onSound", "(LQuorumLog$Server;LQuorumLog$Message;)V"⟩, 4), (⟨"QuorumLog$Cluster", "reply", "(ILQuorumLog$Message;IZI)V"⟩, 4), (⟨"QuorumLog$Cluster", "onYes", "(LQuorumLog$Server;LQuorumLog$Message;II)Z"⟩, 4), (⟨"QuorumLog$Cluster", "onCall", "(LQuorumLog$Server;LQuorumLog$Message;)V"⟩, 4), (⟨"QuorumLog$Cluster", "onEntries", "(LQuorumLog$Server;LQuorumLog$Message;)V"⟩, 4), (⟨"QuorumLog$Server", "hasEntry", "(II)Z"⟩, 18), (⟨"QuorumLog$Cluster", "onAnswer", "(LQuorumLog$Server;LQuorumLog$Message;)V"⟩, 4)]
theorem lw_r1 : ∀ q ∈ lw_privs_1, lw_okq q := List.forall_mem_cons.mpr ⟨lw_p0, List.forall_mem_cons.mpr ⟨lw_p1, List.forall_mem_cons.mpr ⟨lw_p2, List.forall_mem_cons.mpr ⟨lw_p3, List.forall_mem_cons.mpr ⟨lw_p4, List.forall_mem_cons.mpr ⟨lw_p5, List.forall_mem_cons.mpr ⟨lw_p6, List.forall_mem_cons.mpr ⟨lw_p7, List.forall_mem_cons.mpr ⟨lw_p8, List.forall_mem_cons.mpr ⟨lw_p9, List.forall_mem_cons.mpr ⟨lw_p10, List.forall_mem_cons.mpr ⟨lw_p11, List.forall_mem_cons.mpr ⟨lw_p12, List.forall_mem_cons.mpr ⟨lw_p13, List.forall_mem_cons.mpr ⟨lw_p14, List.forall_mem_cons.mpr ⟨lw_p15, fun _ h => absurd h List.not_mem_nil⟩⟩⟩⟩⟩⟩⟩⟩⟩⟩⟩⟩⟩⟩⟩⟩
theorem lw_p16 : lw_okq (⟨"QuorumLog$Cluster", "onSnapshot", "(LQuorumLog$Server;LQuorumLog$Message;)V"⟩, 4) := ⟨⟨by decide +kernel, by decide +kernel⟩, List.mem_of_getElem? (i := 30) (by decide +kernel), List.mem_of_getElem? (i := 652) (by decide +kernel), List.mem_of_getElem? (i := 653) (by decide +kernel)⟩
theorem lw_p17 : lw_okq (⟨"QuorumLog$Server", "replaceSnapshot", "(LQuorumLog$Snapshot;I)V"⟩, 18) := ⟨⟨by decide +kernel, by decide +kernel⟩, List.mem_of_getElem? (i := 192) (by decide +kernel), List.mem_of_getElem? (i := 660) (by decide +kernel), List.mem_of_getElem? (i := 661) (by decide +kernel)⟩
theorem lw_p18 : lw_okq (⟨"QuorumLog$Cluster", "isHurried", "(LQuorumLog$Server;LQuorumLog$Message;)Z"⟩, 4) := ⟨⟨by decide +kernel, by decide +kernel⟩, List.mem_of_getElem? (i := 30) (by decide +kernel), List.mem_of_getElem? (i := 664) (by decide +kernel), List.mem_of_getElem? (i := 665) (by decide +kernel)⟩
theorem lw_p19 : lw_okq (⟨"QuorumLog", "serverNumbered", "(I)LQuorumLog$Server;"⟩, 2) := ⟨⟨by decide +kernel, by decide +kernel⟩, List.mem_of_getElem? (i := 22) (by decide +kernel), List.mem_of_getElem? (i := 672) (by decide +kernel), List.mem_of_getElem? (i := 673) (by decide +kernel)⟩
theorem lw_p20 : lw_okq (⟨"QuorumLog", "digestMessages", "(J)J"⟩, 2) := ⟨⟨by decide +kernel, by decide +kernel⟩, List.mem_of_getElem? (i := 22) (by decide +kernel), List.mem_of_getElem? (i := 742) (by decide +kernel), List.mem_of_getElem? (i := 743) (by decide +kernel)⟩
theorem lw_p21 : lw_okq (⟨"QuorumLog", "digestClients", "(J)J"⟩, 2) := ⟨⟨by decide +kernel, by decide +kernel⟩, List.mem_of_getElem? (i := 22) (by decide +kernel), List.mem_of_getElem? (i := 750) (by decide +kernel), List.mem_of_getElem? (i := 751) (by decide +kernel)⟩
theorem lw_p22 : lw_okq (⟨"QuorumLog", "digestServer", "(JLQuorumLog$Server;)J"⟩, 2) := ⟨⟨by decide +kernel, by decide +kernel⟩, List.mem_of_getElem? (i := 22) (by decide +kernel), List.mem_of_getElem? (i := 755) (by decide +kernel), List.mem_of_getElem? (i := 756) (by decide +kernel)⟩
theorem lw_p23 : lw_okq (⟨"QuorumLog", "digestLog", "(JLQuorumLog$Server;)J"⟩, 2) := ⟨⟨by decide +kernel, by decide +kernel⟩, List.mem_of_getElem? (i := 22) (by decide +kernel), List.mem_of_getElem? (i := 766) (by decide +kernel), List.mem_of_getElem? (i := 767) (by decide +kernel)⟩
theorem lw_p24 : lw_okq (⟨"QuorumLog", "digestOthers", "(JLQuorumLog$Server;)J"⟩, 2) := ⟨⟨by decide +kernel, by decide +kernel⟩, List.mem_of_getElem? (i := 22) (by decide +kernel), List.mem_of_getElem? (i := 790) (by decide +kernel), List.mem_of_getElem? (i := 791) (by decide +kernel)⟩
theorem lw_p25 : lw_okq (⟨"QuorumLog$Server", "membersBehind", "(I)I"⟩, 18) := ⟨⟨by decide +kernel, by decide +kernel⟩, List.mem_of_getElem? (i := 192) (by decide +kernel), List.mem_of_getElem? (i := 891) (by decide +kernel), List.mem_of_getElem? (i := 892) (by decide +kernel)⟩
theorem lw_p26 : lw_okq (⟨"QuorumLog", "checkRequest", "(IIII)V"⟩, 2) := ⟨⟨by decide +kernel, by decide +kernel⟩, List.mem_of_getElem? (i := 22) (by decide +kernel), List.mem_of_getElem? (i := 922) (by decide +kernel), List.mem_of_getElem? (i := 923) (by decide +kernel)⟩
theorem lw_p27 : lw_okq (⟨"QuorumLog", "checkMessage", "(I)V"⟩, 2) := ⟨⟨by decide +kernel, by decide +kernel⟩, List.mem_of_getElem? (i := 22) (by decide +kernel), List.mem_of_getElem? (i := 998) (by decide +kernel), List.mem_of_getElem? (i := 999) (by decide +kernel)⟩
theorem lw_p28 : lw_okq (⟨"QuorumLog", "entryOf", "(II)LQuorumLog$Entry;"⟩, 2) := ⟨⟨by decide +kernel, by decide +kernel⟩, List.mem_of_getElem? (i := 22) (by decide +kernel), List.mem_of_getElem? (i := 1095) (by decide +kernel), List.mem_of_getElem? (i := 1096) (by decide +kernel)⟩
def lw_privs_2 : List (MethodName × Nat) := [(⟨"QuorumLog$Cluster", "onSnapshot", "(LQuorumLog$Server;LQuorumLog$Message;)V"⟩, 4), (⟨"QuorumLog$Server", "replaceSnapshot", "(LQuorumLog$Snapshot;I)V"⟩, 18), (⟨"QuorumLog$Cluster", "isHurried", "(LQuorumLog$Server;LQuorumLog$Message;)Z"⟩, 4), (⟨"QuorumLog", "serverNumbered", "(I)LQuorumLog$Server;"⟩, 2), (⟨"QuorumLog", "digestMessages", "(J)J"⟩, 2), (⟨"QuorumLog", "digestClients", "(J)J"⟩, 2), (⟨"QuorumLog", "digestServer", "(JLQuorumLog$Server;)J"⟩, 2), (⟨"QuorumLog", "digestLog", "(JLQuorumLog$Server;)J"⟩, 2), (⟨"QuorumLog", "digestOthers", "(JLQuorumLog$Server;)J"⟩, 2), (⟨"QuorumLog$Server", "membersBehind", "(I)I"⟩, 18), (⟨"QuorumLog", "checkRequest", "(IIII)V"⟩, 2), (⟨"QuorumLog", "checkMessage", "(I)V"⟩, 2), (⟨"QuorumLog", "entryOf", "(II)LQuorumLog$Entry;"⟩, 2)]
theorem lw_r2 : ∀ q ∈ lw_privs_2, lw_okq q := List.forall_mem_cons.mpr ⟨lw_p16, List.forall_mem_cons.mpr ⟨lw_p17, List.forall_mem_cons.mpr ⟨lw_p18, List.forall_mem_cons.mpr ⟨lw_p19, List.forall_mem_cons.mpr ⟨lw_p20, List.forall_mem_cons.mpr ⟨lw_p21, List.forall_mem_cons.mpr ⟨lw_p22, List.forall_mem_cons.mpr ⟨lw_p23, List.forall_mem_cons.mpr ⟨lw_p24, List.forall_mem_cons.mpr ⟨lw_p25, List.forall_mem_cons.mpr ⟨lw_p26, List.forall_mem_cons.mpr ⟨lw_p27, List.forall_mem_cons.mpr ⟨lw_p28, fun _ h => absurd h List.not_mem_nil⟩⟩⟩⟩⟩⟩⟩⟩⟩⟩⟩⟩⟩
def lw_privs : List (MethodName × Nat) := lw_privs_1 ++ (lw_privs_2)
def lw_tbl : List Cond := k2_sels lw_privs ++ tables_1
theorem lw_privs_ok : ∀ q ∈ lw_privs, lw_okq q := by
  show ∀ q ∈ lw_privs_1 ++ (lw_privs_2), lw_okq q
  exact List.forall_mem_append.mpr ⟨lw_r1, lw_r2⟩
-- ===== end of PART A; then your names; then what follows =====
def RX0 : String := "QuorumLog$Client"
def TX0 : u_T := fun k => match k with
  | 0 => ("QuorumLog$Client", "request", "LQuorumLog$Request;", false)
  | 1 => ("QuorumLog$Client", "answered", "Z", false)
  | _ => ("QuorumLog$Client", "answer", "I", false)
def tyX0 : Nat → FieldType := fun k => match k with
  | 0 => .object "QuorumLog$Request"
  | 1 => .boolean
  | _ => .int
abbrev wsX00 : List Cond := u_ws RX0 TX0 3
theorem nmX0 : ∀ a, a < 3 → ∀ b, b < 3 → a ≠ b → (TX0 a).2.1 ≠ (TX0 b).2.1 := by decide +kernel
theorem tyX0_ok : ∀ k, k < 3 → parseFieldDescriptor (TX0 k).2.2.1 = some (tyX0 k) := by decide +kernel
abbrev cX0_init : ByteArray := prog_2_method_1_code
def yX0_init : MethodName := ⟨RX0, "<init>", "()V"⟩
abbrev cX0_forget : ByteArray := prog_2_method_2_code
def yX0_forget : MethodName := ⟨RX0, "forget", "()V"⟩
abbrev cX0_serial : ByteArray := prog_2_method_4_code
def yX0_serial : MethodName := ⟨RX0, "serial", "()I"⟩
abbrev cX0_waits : ByteArray := prog_2_method_5_code
def yX0_waits : MethodName := ⟨RX0, "waits", "()Z"⟩
abbrev cX0_ask : ByteArray := prog_2_method_6_code
def yX0_ask : MethodName := ⟨RX0, "ask", "(IIIII)I"⟩
def RX1 : String := "QuorumLog$Cluster"
def TX1 : u_T := fun k => match k with
  | 0 => ("QuorumLog$Cluster", "servers", "[LQuorumLog$Server;", true)
  | 1 => ("QuorumLog$Cluster", "clients", "[LQuorumLog$Client;", true)
  | 2 => ("QuorumLog$Cluster", "network", "LQuorumLog$Network;", true)
  | _ => ("QuorumLog$Cluster", "rounds", "I", false)
def tyX1 : Nat → FieldType := fun k => match k with
  | 0 => .array (.object "QuorumLog$Server")
  | 1 => .array (.object "QuorumLog$Client")
  | 2 => .object "QuorumLog$Network"
  | _ => .int
abbrev wsX10 : List Cond := u_ws RX1 TX1 4
theorem nmX1 : ∀ a, a < 4 → ∀ b, b < 4 → a ≠ b → (TX1 a).2.1 ≠ (TX1 b).2.1 := by decide +kernel
theorem tyX1_ok : ∀ k, k < 4 → parseFieldDescriptor (TX1 k).2.2.1 = some (tyX1 k) := by decide +kernel
abbrev cX1_init : ByteArray := prog_3_method_1_code
def yX1_init : MethodName := ⟨RX1, "<init>", "()V"⟩
abbrev cX1_firstSnapshot : ByteArray := prog_3_method_2_code
def yX1_firstSnapshot : MethodName := ⟨RX1, "firstSnapshot", "(I)LQuorumLog$Snapshot;"⟩
abbrev cX1_begin : ByteArray := prog_3_method_3_code
def yX1_begin : MethodName := ⟨RX1, "begin", "(I)V"⟩
abbrev cX1_countUp : ByteArray := prog_3_method_5_code
def yX1_countUp : MethodName := ⟨RX1, "countUp", "()I"⟩
abbrev cX1_countLeaders : ByteArray := prog_3_method_6_code
def yX1_countLeaders : MethodName := ⟨RX1, "countLeaders", "()I"⟩
abbrev cX1_newestLeader : ByteArray := prog_3_method_7_code
def yX1_newestLeader : MethodName := ⟨RX1, "newestLeader", "()LQuorumLog$Server;"⟩
abbrev cX1_countCopies : ByteArray := prog_3_method_8_code
def yX1_countCopies : MethodName := ⟨RX1, "countCopies", "(LQuorumLog$Server;II)I"⟩
abbrev cX1_isElectable : ByteArray := prog_3_method_9_code
def yX1_isElectable : MethodName := ⟨RX1, "isElectable", "(LQuorumLog$Server;)Z"⟩
abbrev cX1_playRound : ByteArray := prog_3_method_16_code
def yX1_playRound : MethodName := ⟨RX1, "playRound", "()V"⟩
abbrev cX1_rise : ByteArray := prog_3_method_17_code
def yX1_rise : MethodName := ⟨RX1, "rise", "(LQuorumLog$Server;I)V"⟩
abbrev cX1_sounding : ByteArray := prog_3_method_18_code
def yX1_sounding : MethodName := ⟨RX1, "sounding", "(LQuorumLog$Server;)I"⟩
abbrev cX1_standing : ByteArray := prog_3_method_19_code
def yX1_standing : MethodName := ⟨RX1, "standing", "(LQuorumLog$Server;)I"⟩
abbrev cX1_askOthers : ByteArray := prog_3_method_20_code
def yX1_askOthers : MethodName := ⟨RX1, "askOthers", "(LQuorumLog$Server;II)V"⟩
abbrev cX1_sendToOthers : ByteArray := prog_3_method_21_code
def yX1_sendToOthers : MethodName := ⟨RX1, "sendToOthers", "(LQuorumLog$Server;)I"⟩
abbrev cX1_sendTo : ByteArray := prog_3_method_22_code
def yX1_sendTo : MethodName := ⟨RX1, "sendTo", "(LQuorumLog$Server;I)V"⟩
abbrev cX1_lookCommitted : ByteArray := prog_3_method_23_code
def yX1_lookCommitted : MethodName := ⟨RX1, "lookCommitted", "(LQuorumLog$Server;)V"⟩
abbrev cX1_commit : ByteArray := prog_3_method_24_code
def yX1_commit : MethodName := ⟨RX1, "commit", "(LQuorumLog$Server;I)V"⟩
abbrev cX1_handle : ByteArray := prog_3_method_25_code
def yX1_handle : MethodName := ⟨RX1, "handle", "(I)Z"⟩
abbrev cX1_reply : ByteArray := prog_3_method_26_code
def yX1_reply : MethodName := ⟨RX1, "reply", "(ILQuorumLog$Message;IZI)V"⟩
abbrev cX1_onSound : ByteArray := prog_3_method_27_code
def yX1_onSound : MethodName := ⟨RX1, "onSound", "(LQuorumLog$Server;LQuorumLog$Message;)V"⟩
abbrev cX1_onCall : ByteArray := prog_3_method_28_code
def yX1_onCall : MethodName := ⟨RX1, "onCall", "(LQuorumLog$Server;LQuorumLog$Message;)V"⟩
abbrev cX1_onYes : ByteArray := prog_3_method_29_code
def yX1_onYes : MethodName := ⟨RX1, "onYes", "(LQuorumLog$Server;LQuorumLog$Message;II)Z"⟩
abbrev cX1_onEntries : ByteArray := prog_3_method_30_code
def yX1_onEntries : MethodName := ⟨RX1, "onEntries", "(LQuorumLog$Server;LQuorumLog$Message;)V"⟩
abbrev cX1_onSnapshot : ByteArray := prog_3_method_31_code
def yX1_onSnapshot : MethodName := ⟨RX1, "onSnapshot", "(LQuorumLog$Server;LQuorumLog$Message;)V"⟩
abbrev cX1_onAnswer : ByteArray := prog_3_method_32_code
def yX1_onAnswer : MethodName := ⟨RX1, "onAnswer", "(LQuorumLog$Server;LQuorumLog$Message;)V"⟩
abbrev cX1_isHurried : ByteArray := prog_3_method_33_code
def yX1_isHurried : MethodName := ⟨RX1, "isHurried", "(LQuorumLog$Server;LQuorumLog$Message;)Z"⟩
def RX2 : String := "QuorumLog$Entry"
def TX2 : u_T := fun k => match k with
  | 0 => ("QuorumLog$Entry", "term", "I", true)
  | 1 => ("QuorumLog$Entry", "kind", "I", true)
  | 2 => ("QuorumLog$Entry", "request", "LQuorumLog$Request;", true)
  | _ => ("QuorumLog$Entry", "members", "I", true)
def tyX2 : Nat → FieldType := fun k => match k with
  | 0 => .int
  | 1 => .int
  | 2 => .object "QuorumLog$Request"
  | _ => .int
abbrev wsX20 : List Cond := u_ws RX2 TX2 4
theorem nmX2 : ∀ a, a < 4 → ∀ b, b < 4 → a ≠ b → (TX2 a).2.1 ≠ (TX2 b).2.1 := by decide +kernel
theorem tyX2_ok : ∀ k, k < 4 → parseFieldDescriptor (TX2 k).2.2.1 = some (tyX2 k) := by decide +kernel
abbrev cX2_init : ByteArray := prog_4_method_1_code
def yX2_init : MethodName := ⟨RX2, "<init>", "(IILQuorumLog$Request;I)V"⟩
abbrev cX2_value : ByteArray := prog_4_method_2_code
def yX2_value : MethodName := ⟨RX2, "value", "()I"⟩
abbrev cX2_client : ByteArray := prog_4_method_3_code
def yX2_client : MethodName := ⟨RX2, "client", "()I"⟩
abbrev cX2_serial : ByteArray := prog_4_method_4_code
def yX2_serial : MethodName := ⟨RX2, "serial", "()I"⟩
def RX3 : String := "QuorumLog$Message"
def TX3 : u_T := fun k => match k with
  | 0 => ("QuorumLog$Message", "entries", "[LQuorumLog$Entry;", true)
  | 1 => ("QuorumLog$Message", "kind", "I", false)
  | 2 => ("QuorumLog$Message", "sender", "I", false)
  | 3 => ("QuorumLog$Message", "receiver", "I", false)
  | 4 => ("QuorumLog$Message", "term", "I", false)
  | 5 => ("QuorumLog$Message", "yes", "Z", false)
  | 6 => ("QuorumLog$Message", "index", "I", false)
  | 7 => ("QuorumLog$Message", "logTerm", "I", false)
  | 8 => ("QuorumLog$Message", "committed", "I", false)
  | 9 => ("QuorumLog$Message", "count", "I", false)
  | _ => ("QuorumLog$Message", "snapshot", "LQuorumLog$Snapshot;", false)
def tyX3 : Nat → FieldType := fun k => match k with
  | 0 => .array (.object "QuorumLog$Entry")
  | 1 => .int
  | 2 => .int
  | 3 => .int
  | 4 => .int
  | 5 => .boolean
  | 6 => .int
  | 7 => .int
  | 8 => .int
  | 9 => .int
  | _ => .object "QuorumLog$Snapshot"
abbrev wsX30 : List Cond := u_ws RX3 TX3 11
theorem nmX3 : ∀ a, a < 11 → ∀ b, b < 11 → a ≠ b → (TX3 a).2.1 ≠ (TX3 b).2.1 := by decide +kernel
theorem tyX3_ok : ∀ k, k < 11 → parseFieldDescriptor (TX3 k).2.2.1 = some (tyX3 k) := by decide +kernel
abbrev cX3_init : ByteArray := prog_5_method_1_code
def yX3_init : MethodName := ⟨RX3, "<init>", "()V"⟩
abbrev cX3_copyFrom : ByteArray := prog_5_method_2_code
def yX3_copyFrom : MethodName := ⟨RX3, "copyFrom", "(LQuorumLog$Message;)V"⟩
abbrev cX3_told : ByteArray := prog_5_method_3_code
def yX3_told : MethodName := ⟨RX3, "told", "()I"⟩
abbrev cX3_bearsItsTerm : ByteArray := prog_5_method_4_code
def yX3_bearsItsTerm : MethodName := ⟨RX3, "bearsItsTerm", "()Z"⟩
def RX4 : String := "QuorumLog$Network"
def TX4 : u_T := fun k => match k with
  | 0 => ("QuorumLog$Network", "row", "[LQuorumLog$Message;", true)
  | 1 => ("QuorumLog$Network", "cuts", "[I", true)
  | 2 => ("QuorumLog$Network", "inHand", "LQuorumLog$Message;", false)
  | 3 => ("QuorumLog$Network", "count", "I", false)
  | 4 => ("QuorumLog$Network", "cutLinks", "I", false)
  | _ => ("QuorumLog$Network", "losses", "I", false)
def tyX4 : Nat → FieldType := fun k => match k with
  | 0 => .array (.object "QuorumLog$Message")
  | 1 => .array .int
  | 2 => .object "QuorumLog$Message"
  | 3 => .int
  | 4 => .int
  | _ => .int
abbrev wsX40 : List Cond := u_ws RX4 TX4 6
theorem nmX4 : ∀ a, a < 6 → ∀ b, b < 6 → a ≠ b → (TX4 a).2.1 ≠ (TX4 b).2.1 := by decide +kernel
theorem tyX4_ok : ∀ k, k < 6 → parseFieldDescriptor (TX4 k).2.2.1 = some (tyX4 k) := by decide +kernel
abbrev cX4_init : ByteArray := prog_6_method_1_code
def yX4_init : MethodName := ⟨RX4, "<init>", "()V"⟩
abbrev cX4_clear : ByteArray := prog_6_method_2_code
def yX4_clear : MethodName := ⟨RX4, "clear", "()V"⟩
abbrev cX4_isCut : ByteArray := prog_6_method_4_code
def yX4_isCut : MethodName := ⟨RX4, "isCut", "(II)Z"⟩
abbrev cX4_turn : ByteArray := prog_6_method_5_code
def yX4_turn : MethodName := ⟨RX4, "turn", "(II)I"⟩
abbrev cX4_place : ByteArray := prog_6_method_6_code
def yX4_place : MethodName := ⟨RX4, "place", "(IIII)LQuorumLog$Message;"⟩
abbrev cX4_repeat : ByteArray := prog_6_method_7_code
def yX4_repeat : MethodName := ⟨RX4, "repeat", "(I)I"⟩
abbrev cX4_takeOut : ByteArray := prog_6_method_8_code
def yX4_takeOut : MethodName := ⟨RX4, "takeOut", "(I)LQuorumLog$Message;"⟩
def RX5 : String := "QuorumLog$Request"
def TX5 : u_T := fun k => match k with
  | 0 => ("QuorumLog$Request", "client", "I", true)
  | 1 => ("QuorumLog$Request", "serial", "I", true)
  | 2 => ("QuorumLog$Request", "kind", "I", true)
  | 3 => ("QuorumLog$Request", "key", "I", true)
  | 4 => ("QuorumLog$Request", "expected", "I", true)
  | _ => ("QuorumLog$Request", "value", "I", true)
def tyX5 : Nat → FieldType := fun k => match k with
  | 0 => .int
  | 1 => .int
  | 2 => .int
  | 3 => .int
  | 4 => .int
  | _ => .int
abbrev wsX50 : List Cond := u_ws RX5 TX5 6
theorem nmX5 : ∀ a, a < 6 → ∀ b, b < 6 → a ≠ b → (TX5 a).2.1 ≠ (TX5 b).2.1 := by decide +kernel
theorem tyX5_ok : ∀ k, k < 6 → parseFieldDescriptor (TX5 k).2.2.1 = some (tyX5 k) := by decide +kernel
abbrev cX5_init : ByteArray := prog_7_method_1_code
def yX5_init : MethodName := ⟨RX5, "<init>", "(IIIIII)V"⟩
def RX6 : String := "QuorumLog$Server"
def TX6 : u_T := fun k => match k with
  | 0 => ("QuorumLog$Server", "number", "I", true)
  | 1 => ("QuorumLog$Server", "table", "LQuorumLog$Table;", true)
  | 2 => ("QuorumLog$Server", "next", "[I", true)
  | 3 => ("QuorumLog$Server", "matched", "[I", true)
  | 4 => ("QuorumLog$Server", "up", "Z", false)
  | 5 => ("QuorumLog$Server", "term", "I", false)
  | 6 => ("QuorumLog$Server", "vote", "I", false)
  | 7 => ("QuorumLog$Server", "log", "[LQuorumLog$Entry;", false)
  | 8 => ("QuorumLog$Server", "count", "I", false)
  | 9 => ("QuorumLog$Server", "snapshot", "LQuorumLog$Snapshot;", false)
  | 10 => ("QuorumLog$Server", "members", "I", false)
  | 11 => ("QuorumLog$Server", "membersIndex", "I", false)
  | 12 => ("QuorumLog$Server", "role", "I", false)
  | 13 => ("QuorumLog$Server", "followed", "I", false)
  | 14 => ("QuorumLog$Server", "waited", "I", false)
  | 15 => ("QuorumLog$Server", "committed", "I", false)
  | 16 => ("QuorumLog$Server", "yeses", "I", false)
  | _ => ("QuorumLog$Server", "beatSteps", "I", false)
def tyX6 : Nat → FieldType := fun k => match k with
  | 0 => .int
  | 1 => .object "QuorumLog$Table"
  | 2 => .array .int
  | 3 => .array .int
  | 4 => .boolean
  | 5 => .int
  | 6 => .int
  | 7 => .array (.object "QuorumLog$Entry")
  | 8 => .int
  | 9 => .object "QuorumLog$Snapshot"
  | 10 => .int
  | 11 => .int
  | 12 => .int
  | 13 => .int
  | 14 => .int
  | 15 => .int
  | 16 => .int
  | _ => .int
abbrev wsX60 : List Cond := u_ws RX6 TX6 18
theorem nmX6 : ∀ a, a < 18 → ∀ b, b < 18 → a ≠ b → (TX6 a).2.1 ≠ (TX6 b).2.1 := by decide +kernel
theorem tyX6_ok : ∀ k, k < 18 → parseFieldDescriptor (TX6 k).2.2.1 = some (tyX6 k) := by decide +kernel
abbrev cX6_init : ByteArray := prog_8_method_1_code
def yX6_init : MethodName := ⟨RX6, "<init>", "(ILQuorumLog$Snapshot;)V"⟩
abbrev cX6_reset : ByteArray := prog_8_method_2_code
def yX6_reset : MethodName := ⟨RX6, "reset", "(LQuorumLog$Snapshot;)V"⟩
abbrev cX6_rest : ByteArray := prog_8_method_3_code
def yX6_rest : MethodName := ⟨RX6, "rest", "()V"⟩
abbrev cX6_goDown : ByteArray := prog_8_method_4_code
def yX6_goDown : MethodName := ⟨RX6, "goDown", "()V"⟩
abbrev cX6_patience : ByteArray := prog_8_method_6_code
def yX6_patience : MethodName := ⟨RX6, "patience", "()I"⟩
abbrev cX6_lastIndex : ByteArray := prog_8_method_7_code
def yX6_lastIndex : MethodName := ⟨RX6, "lastIndex", "()I"⟩
abbrev cX6_lastTerm : ByteArray := prog_8_method_8_code
def yX6_lastTerm : MethodName := ⟨RX6, "lastTerm", "()I"⟩
abbrev cX6_entryAt : ByteArray := prog_8_method_9_code
def yX6_entryAt : MethodName := ⟨RX6, "entryAt", "(I)LQuorumLog$Entry;"⟩
abbrev cX6_termOfIndex : ByteArray := prog_8_method_10_code
def yX6_termOfIndex : MethodName := ⟨RX6, "termOfIndex", "(I)I"⟩
abbrev cX6_seesMember : ByteArray := prog_8_method_11_code
def yX6_seesMember : MethodName := ⟨RX6, "seesMember", "(I)Z"⟩
abbrev cX6_isMember : ByteArray := prog_8_method_12_code
def yX6_isMember : MethodName := ⟨RX6, "isMember", "()Z"⟩
abbrev cX6_hasMostYeses : ByteArray := prog_8_method_13_code
def yX6_hasMostYeses : MethodName := ⟨RX6, "hasMostYeses", "()Z"⟩
abbrev cX6_mostHave : ByteArray := prog_8_method_14_code
def yX6_mostHave : MethodName := ⟨RX6, "mostHave", "(I)Z"⟩
abbrev cX6_maySound : ByteArray := prog_8_method_15_code
def yX6_maySound : MethodName := ⟨RX6, "maySound", "()Z"⟩
abbrev cX6_mayChangeMembers : ByteArray := prog_8_method_16_code
def yX6_mayChangeMembers : MethodName := ⟨RX6, "mayChangeMembers", "()Z"⟩
abbrev cX6_isReachedBy : ByteArray := prog_8_method_17_code
def yX6_isReachedBy : MethodName := ⟨RX6, "isReachedBy", "(II)Z"⟩
abbrev cX6_agreement : ByteArray := prog_8_method_18_code
def yX6_agreement : MethodName := ⟨RX6, "agreement", "(LQuorumLog$Server;)I"⟩
abbrev cX6_append : ByteArray := prog_8_method_19_code
def yX6_append : MethodName := ⟨RX6, "append", "(LQuorumLog$Entry;)V"⟩
abbrev cX6_widen : ByteArray := prog_8_method_20_code
def yX6_widen : MethodName := ⟨RX6, "widen", "()V"⟩
abbrev cX6_findMembers : ByteArray := prog_8_method_21_code
def yX6_findMembers : MethodName := ⟨RX6, "findMembers", "()V"⟩
abbrev cX6_membersBehind : ByteArray := prog_8_method_22_code
def yX6_membersBehind : MethodName := ⟨RX6, "membersBehind", "(I)I"⟩
abbrev cX6_makeSnapshot : ByteArray := prog_8_method_23_code
def yX6_makeSnapshot : MethodName := ⟨RX6, "makeSnapshot", "()I"⟩
abbrev cX6_install : ByteArray := prog_8_method_24_code
def yX6_install : MethodName := ⟨RX6, "install", "(LQuorumLog$Snapshot;)V"⟩
abbrev cX6_replaceSnapshot : ByteArray := prog_8_method_25_code
def yX6_replaceSnapshot : MethodName := ⟨RX6, "replaceSnapshot", "(LQuorumLog$Snapshot;I)V"⟩
abbrev cX6_hasEntry : ByteArray := prog_8_method_26_code
def yX6_hasEntry : MethodName := ⟨RX6, "hasEntry", "(II)Z"⟩
abbrev cX6_hasPrevious : ByteArray := prog_8_method_27_code
def yX6_hasPrevious : MethodName := ⟨RX6, "hasPrevious", "(II)Z"⟩
abbrev cX6_indexToTryNext : ByteArray := prog_8_method_28_code
def yX6_indexToTryNext : MethodName := ⟨RX6, "indexToTryNext", "(I)I"⟩
abbrev cX6_accept : ByteArray := prog_8_method_29_code
def yX6_accept : MethodName := ⟨RX6, "accept", "(ILQuorumLog$Entry;)V"⟩
abbrev cX6_enterTerm : ByteArray := prog_8_method_30_code
def yX6_enterTerm : MethodName := ⟨RX6, "enterTerm", "(I)V"⟩
abbrev cX6_obey : ByteArray := prog_8_method_31_code
def yX6_obey : MethodName := ⟨RX6, "obey", "(I)V"⟩
abbrev cX6_startAs : ByteArray := prog_8_method_32_code
def yX6_startAs : MethodName := ⟨RX6, "startAs", "(I)V"⟩
abbrev cX6_startLeading : ByteArray := prog_8_method_33_code
def yX6_startLeading : MethodName := ⟨RX6, "startLeading", "()V"⟩
abbrev cX6_learnMatched : ByteArray := prog_8_method_34_code
def yX6_learnMatched : MethodName := ⟨RX6, "learnMatched", "(II)V"⟩
def RX7 : String := "QuorumLog$Snapshot"
def TX7 : u_T := fun k => match k with
  | 0 => ("QuorumLog$Snapshot", "index", "I", true)
  | 1 => ("QuorumLog$Snapshot", "term", "I", true)
  | 2 => ("QuorumLog$Snapshot", "members", "I", true)
  | _ => ("QuorumLog$Snapshot", "table", "LQuorumLog$Table;", true)
def tyX7 : Nat → FieldType := fun k => match k with
  | 0 => .int
  | 1 => .int
  | 2 => .int
  | _ => .object "QuorumLog$Table"
abbrev wsX70 : List Cond := u_ws RX7 TX7 4
theorem nmX7 : ∀ a, a < 4 → ∀ b, b < 4 → a ≠ b → (TX7 a).2.1 ≠ (TX7 b).2.1 := by decide +kernel
theorem tyX7_ok : ∀ k, k < 4 → parseFieldDescriptor (TX7 k).2.2.1 = some (tyX7 k) := by decide +kernel
abbrev cX7_init : ByteArray := prog_9_method_1_code
def yX7_init : MethodName := ⟨RX7, "<init>", "(IIILQuorumLog$Table;)V"⟩
def RX8 : String := "QuorumLog$Table"
def TX8 : u_T := fun k => match k with
  | 0 => ("QuorumLog$Table", "values", "[I", true)
  | 1 => ("QuorumLog$Table", "serials", "[I", true)
  | _ => ("QuorumLog$Table", "given", "[I", true)
def tyX8 : Nat → FieldType := fun k => match k with
  | 0 => .array .int
  | 1 => .array .int
  | _ => .array .int
abbrev wsX80 : List Cond := u_ws RX8 TX8 3
theorem nmX8 : ∀ a, a < 3 → ∀ b, b < 3 → a ≠ b → (TX8 a).2.1 ≠ (TX8 b).2.1 := by decide +kernel
theorem tyX8_ok : ∀ k, k < 3 → parseFieldDescriptor (TX8 k).2.2.1 = some (tyX8 k) := by decide +kernel
abbrev cX8_init : ByteArray := prog_10_method_1_code
def yX8_init : MethodName := ⟨RX8, "<init>", "()V"⟩
abbrev cX8_copyFrom : ByteArray := prog_10_method_2_code
def yX8_copyFrom : MethodName := ⟨RX8, "copyFrom", "(LQuorumLog$Table;)V"⟩
abbrev cX8_apply : ByteArray := prog_10_method_3_code
def yX8_apply : MethodName := ⟨RX8, "apply", "(LQuorumLog$Request;)V"⟩
def RX9 : String := "QuorumLog"
def TX9 : u_T := fun k => match k with
  | 0 => ("QuorumLog", "now", "LQuorumLog$Cluster;", true)
  | _ => ("QuorumLog", "guess", "LQuorumLog$Cluster;", true)
def tyX9 : Nat → FieldType := fun k => match k with
  | 0 => .object "QuorumLog$Cluster"
  | _ => .object "QuorumLog$Cluster"
abbrev wsX90 : List Cond := u_ws RX9 TX9 2
theorem nmX9 : ∀ a, a < 2 → ∀ b, b < 2 → a ≠ b → (TX9 a).2.1 ≠ (TX9 b).2.1 := by decide +kernel
theorem tyX9_ok : ∀ k, k < 2 → parseFieldDescriptor (TX9 k).2.2.1 = some (tyX9 k) := by decide +kernel
abbrev cX9_init : ByteArray := prog_1_method_1_code
def yX9_init : MethodName := ⟨RX9, "<init>", "()V"⟩
abbrev cX9_found : ByteArray := prog_1_method_2_code
def yX9_found : MethodName := ⟨RX9, "found", "(I)I"⟩
abbrev cX9_fail : ByteArray := prog_1_method_3_code
def yX9_fail : MethodName := ⟨RX9, "fail", "(I)I"⟩
abbrev cX9_recover : ByteArray := prog_1_method_4_code
def yX9_recover : MethodName := ⟨RX9, "recover", "(I)I"⟩
abbrev cX9_cut : ByteArray := prog_1_method_5_code
def yX9_cut : MethodName := ⟨RX9, "cut", "(II)I"⟩
abbrev cX9_mend : ByteArray := prog_1_method_6_code
def yX9_mend : MethodName := ⟨RX9, "mend", "(II)I"⟩
abbrev cX9_pass : ByteArray := prog_1_method_7_code
def yX9_pass : MethodName := ⟨RX9, "pass", "(I)I"⟩
abbrev cX9_sound : ByteArray := prog_1_method_8_code
def yX9_sound : MethodName := ⟨RX9, "sound", "(I)I"⟩
abbrev cX9_beat : ByteArray := prog_1_method_9_code
def yX9_beat : MethodName := ⟨RX9, "beat", "(I)I"⟩
abbrev cX9_shorten : ByteArray := prog_1_method_10_code
def yX9_shorten : MethodName := ⟨RX9, "shorten", "(I)I"⟩
abbrev cX9_handOver : ByteArray := prog_1_method_11_code
def yX9_handOver : MethodName := ⟨RX9, "handOver", "(II)I"⟩
abbrev cX9_join : ByteArray := prog_1_method_12_code
def yX9_join : MethodName := ⟨RX9, "join", "(II)I"⟩
abbrev cX9_leave : ByteArray := prog_1_method_13_code
def yX9_leave : MethodName := ⟨RX9, "leave", "(II)I"⟩
abbrev cX9_messages : ByteArray := prog_1_method_14_code
def yX9_messages : MethodName := ⟨RX9, "messages", "()I"⟩
abbrev cX9_deliver : ByteArray := prog_1_method_15_code
def yX9_deliver : MethodName := ⟨RX9, "deliver", "(I)Z"⟩
abbrev cX9_lose : ByteArray := prog_1_method_16_code
def yX9_lose : MethodName := ⟨RX9, "lose", "(I)I"⟩
abbrev cX9_twice : ByteArray := prog_1_method_17_code
def yX9_twice : MethodName := ⟨RX9, "twice", "(I)I"⟩
abbrev cX9_askPut : ByteArray := prog_1_method_23_code
def yX9_askPut : MethodName := ⟨RX9, "askPut", "(III)I"⟩
abbrev cX9_askAdd : ByteArray := prog_1_method_24_code
def yX9_askAdd : MethodName := ⟨RX9, "askAdd", "(III)I"⟩
abbrev cX9_hand : ByteArray := prog_1_method_26_code
def yX9_hand : MethodName := ⟨RX9, "hand", "(II)I"⟩
abbrev cX9_serialOf : ByteArray := prog_1_method_27_code
def yX9_serialOf : MethodName := ⟨RX9, "serialOf", "(I)I"⟩
abbrev cX9_round : ByteArray := prog_1_method_30_code
def yX9_round : MethodName := ⟨RX9, "round", "()I"⟩
abbrev cX9_lost : ByteArray := prog_1_method_31_code
def yX9_lost : MethodName := ⟨RX9, "lost", "()I"⟩
abbrev cX9_isUp : ByteArray := prog_1_method_32_code
def yX9_isUp : MethodName := ⟨RX9, "isUp", "(I)Z"⟩
abbrev cX9_roleOf : ByteArray := prog_1_method_33_code
def yX9_roleOf : MethodName := ⟨RX9, "roleOf", "(I)I"⟩
abbrev cX9_termOf : ByteArray := prog_1_method_34_code
def yX9_termOf : MethodName := ⟨RX9, "termOf", "(I)I"⟩
abbrev cX9_votedFor : ByteArray := prog_1_method_35_code
def yX9_votedFor : MethodName := ⟨RX9, "votedFor", "(I)I"⟩
abbrev cX9_follows : ByteArray := prog_1_method_36_code
def yX9_follows : MethodName := ⟨RX9, "follows", "(I)I"⟩
abbrev cX9_waitedOf : ByteArray := prog_1_method_37_code
def yX9_waitedOf : MethodName := ⟨RX9, "waitedOf", "(I)I"⟩
abbrev cX9_snapshotOf : ByteArray := prog_1_method_39_code
def yX9_snapshotOf : MethodName := ⟨RX9, "snapshotOf", "(I)I"⟩
abbrev cX9_lastOf : ByteArray := prog_1_method_40_code
def yX9_lastOf : MethodName := ⟨RX9, "lastOf", "(I)I"⟩
abbrev cX9_lastTermOf : ByteArray := prog_1_method_41_code
def yX9_lastTermOf : MethodName := ⟨RX9, "lastTermOf", "(I)I"⟩
abbrev cX9_committedOf : ByteArray := prog_1_method_42_code
def yX9_committedOf : MethodName := ⟨RX9, "committedOf", "(I)I"⟩
abbrev cX9_membersOf : ByteArray := prog_1_method_43_code
def yX9_membersOf : MethodName := ⟨RX9, "membersOf", "(I)I"⟩
abbrev cX9_termAt : ByteArray := prog_1_method_45_code
def yX9_termAt : MethodName := ⟨RX9, "termAt", "(II)I"⟩
abbrev cX9_kindAt : ByteArray := prog_1_method_46_code
def yX9_kindAt : MethodName := ⟨RX9, "kindAt", "(II)I"⟩
abbrev cX9_valueAt : ByteArray := prog_1_method_47_code
def yX9_valueAt : MethodName := ⟨RX9, "valueAt", "(II)I"⟩
abbrev cX9_clientAt : ByteArray := prog_1_method_48_code
def yX9_clientAt : MethodName := ⟨RX9, "clientAt", "(II)I"⟩
abbrev cX9_serialAt : ByteArray := prog_1_method_49_code
def yX9_serialAt : MethodName := ⟨RX9, "serialAt", "(II)I"⟩
abbrev cX9_valueOf : ByteArray := prog_1_method_50_code
def yX9_valueOf : MethodName := ⟨RX9, "valueOf", "(II)I"⟩
abbrev cX9_appliedSerial : ByteArray := prog_1_method_51_code
def yX9_appliedSerial : MethodName := ⟨RX9, "appliedSerial", "(II)I"⟩
abbrev cX9_nextOf : ByteArray := prog_1_method_52_code
def yX9_nextOf : MethodName := ⟨RX9, "nextOf", "(II)I"⟩
abbrev cX9_matchedOf : ByteArray := prog_1_method_53_code
def yX9_matchedOf : MethodName := ⟨RX9, "matchedOf", "(II)I"⟩
abbrev cX9_leader : ByteArray := prog_1_method_54_code
def yX9_leader : MethodName := ⟨RX9, "leader", "()I"⟩
abbrev cX9_leaders : ByteArray := prog_1_method_55_code
def yX9_leaders : MethodName := ⟨RX9, "leaders", "()I"⟩
abbrev cX9_committed : ByteArray := prog_1_method_56_code
def yX9_committed : MethodName := ⟨RX9, "committed", "()I"⟩
abbrev cX9_agreeUpTo : ByteArray := prog_1_method_57_code
def yX9_agreeUpTo : MethodName := ⟨RX9, "agreeUpTo", "(II)I"⟩
abbrev cX9_digest : ByteArray := prog_1_method_67_code
def yX9_digest : MethodName := ⟨RX9, "digest", "()J"⟩
abbrev cX9_digestMessages : ByteArray := prog_1_method_68_code
def yX9_digestMessages : MethodName := ⟨RX9, "digestMessages", "(J)J"⟩
abbrev cX9_digestClients : ByteArray := prog_1_method_69_code
def yX9_digestClients : MethodName := ⟨RX9, "digestClients", "(J)J"⟩
abbrev cX9_digestServer : ByteArray := prog_1_method_70_code
def yX9_digestServer : MethodName := ⟨RX9, "digestServer", "(JLQuorumLog$Server;)J"⟩
abbrev cX9_digestLog : ByteArray := prog_1_method_71_code
def yX9_digestLog : MethodName := ⟨RX9, "digestLog", "(JLQuorumLog$Server;)J"⟩
abbrev cX9_digestTable : ByteArray := prog_1_method_72_code
def yX9_digestTable : MethodName := ⟨RX9, "digestTable", "(JLQuorumLog$Table;)J"⟩
abbrev cX9_digestOthers : ByteArray := prog_1_method_73_code
def yX9_digestOthers : MethodName := ⟨RX9, "digestOthers", "(JLQuorumLog$Server;)J"⟩
abbrev cX9_refuseIf : ByteArray := prog_1_method_75_code
def yX9_refuseIf : MethodName := ⟨RX9, "refuseIf", "(Z)V"⟩
abbrev cX9_checkServer : ByteArray := prog_1_method_76_code
def yX9_checkServer : MethodName := ⟨RX9, "checkServer", "(I)V"⟩
abbrev cX9_checkPair : ByteArray := prog_1_method_77_code
def yX9_checkPair : MethodName := ⟨RX9, "checkPair", "(II)V"⟩
abbrev cX9_checkClient : ByteArray := prog_1_method_78_code
def yX9_checkClient : MethodName := ⟨RX9, "checkClient", "(I)V"⟩
abbrev cX9_checkKey : ByteArray := prog_1_method_79_code
def yX9_checkKey : MethodName := ⟨RX9, "checkKey", "(I)V"⟩
abbrev cX9_checkMessage : ByteArray := prog_1_method_80_code
def yX9_checkMessage : MethodName := ⟨RX9, "checkMessage", "(I)V"⟩
abbrev cX9_checkRequest : ByteArray := prog_1_method_81_code
def yX9_checkRequest : MethodName := ⟨RX9, "checkRequest", "(IIII)V"⟩
abbrev cX9_isTooGreat : ByteArray := prog_1_method_82_code
def yX9_isTooGreat : MethodName := ⟨RX9, "isTooGreat", "(I)Z"⟩
abbrev cX9_serverNumbered : ByteArray := prog_1_method_83_code
def yX9_serverNumbered : MethodName := ⟨RX9, "serverNumbered", "(I)LQuorumLog$Server;"⟩
abbrev cX9_entryOf : ByteArray := prog_1_method_85_code
def yX9_entryOf : MethodName := ⟨RX9, "entryOf", "(II)LQuorumLog$Entry;"⟩
def RX10 : String := "QuorumLogModel$State"
def TX10 : u_T := fun k => match k with
  | _ => ("", "", "", false)
def tyX10 : Nat → FieldType := fun k => match k with
  | _ => .int
abbrev wsX100 : List Cond := u_ws RX10 TX10 0
theorem nmX10 : ∀ a, a < 0 → ∀ b, b < 0 → a ≠ b → (TX10 a).2.1 ≠ (TX10 b).2.1 := by decide +kernel
theorem tyX10_ok : ∀ k, k < 0 → parseFieldDescriptor (TX10 k).2.2.1 = some (tyX10 k) := by decide +kernel
def RX11 : String := "QuorumLogModel"
def TX11 : u_T := fun k => match k with
  | _ => ("", "", "", false)
def tyX11 : Nat → FieldType := fun k => match k with
  | _ => .int
abbrev wsX110 : List Cond := u_ws RX11 TX11 0
theorem nmX11 : ∀ a, a < 0 → ∀ b, b < 0 → a ≠ b → (TX11 a).2.1 ≠ (TX11 b).2.1 := by decide +kernel
theorem tyX11_ok : ∀ k, k < 0 → parseFieldDescriptor (TX11 k).2.2.1 = some (tyX11 k) := by decide +kernel
def RJx145de : String := "java/io/Serializable"
def RJ6 : String := "java/lang/Integer"
abbrev cJ6_bitCount_0f7a4 : ByteArray := prog_18_method_49_code
def yJ6_bitCount_0f7a4 : MethodName := ⟨RJ6, "bitCount", "(I)I"⟩
def RJ9 : String := "java/lang/Math"
abbrev cJ9_max_7cf53 : ByteArray := prog_19_method_65_code
def yJ9_max_7cf53 : MethodName := ⟨RJ9, "max", "(II)I"⟩
abbrev cJ9_min_7cf53 : ByteArray := prog_19_method_69_code
def yJ9_min_7cf53 : MethodName := ⟨RJ9, "min", "(II)I"⟩
def RJ0 : String := "java/lang/String"
def RJ10 : String := "java/lang/System"
def RJ7 : String := "java/util/Arrays"
abbrev cJ7_fill_53178 : ByteArray := prog_24_method_103_code
def yJ7_fill_53178 : MethodName := ⟨RJ7, "fill", "([II)V"⟩
def RL : String := "QuorumLogLaw"
abbrev cL_below : ByteArray := method_2_code
def yL_below : MethodName := ⟨RL, "below", "(II)I"⟩
abbrev cL_cell : ByteArray := method_3_code
def yL_cell : MethodName := ⟨RL, "cell", "([II)I"⟩
abbrev cL_act : ByteArray := method_4_code
def yL_act : MethodName := ⟨RL, "act", "(LQuorumLog;I)I"⟩
abbrev cL_law : ByteArray := code
def yL_law : MethodName := ⟨RL, "law", "([I)Z"⟩
abbrev cL_leadsAlone : ByteArray := method_6_code
def yL_leadsAlone : MethodName := ⟨RL, "leadsAlone", "(LQuorumLog;I[I)Z"⟩
abbrev cL_isSound : ByteArray := method_7_code
def yL_isSound : MethodName := ⟨RL, "isSound", "(LQuorumLog;I)Z"⟩
abbrev cL_agree : ByteArray := method_8_code
def yL_agree : MethodName := ⟨RL, "agree", "(LQuorumLog;II)Z"⟩
abbrev vwCl : List vw_C := [(RX0, TX0, 3), (RX1, TX1, 4), (RX2, TX2, 4), (RX3, TX3, 11), (RX4, TX4, 6), (RX5, TX5, 6), (RX6, TX6, 18), (RX7, TX7, 4), (RX8, TX8, 3), (RX9, TX9, 2)]
end
section
/-! ===== TYPES of the pure machine's program ===== -/
/-- a row: its place in the code, the instruction, its length, what its pool's entry says -/
abbrev PRow : Type := Nat × Instr × Nat × Nat × Nat × Nat
/-- a handler: from, to (places in the code), its row, which exceptions -/
abbrev PHd : Type := Nat × Nat × Nat × Nat
/-- a method to the interpreter: rows, maxLocals, how many args, handlers, its answer's type, its class -/
abbrev PMet : Type := List PRow × Nat × Nat × List PHd × Option FieldType × Nat
/-- the exceptions -/
def qEx (e : Nat) : String := match e with
  | 0 => "java/lang/IllegalArgumentException" | 1 => "java/lang/IllegalStateException" | _ => "java/lang/IndexOutOfBoundsException"
/-- types of the fields of the classes, how many -/
def pT (ci : Nat) : Nat → FieldType := match ci with
  | 0 => tyX0 | 1 => tyX1 | 2 => tyX2 | 3 => tyX3 | 4 => tyX4 | 5 => tyX5 | 6 => tyX6 | 7 => tyX7 | 8 => tyX8 | 9 => tyX9 | _ => tyX0
def pF (ci : Nat) : Nat := match ci with
  | 0 => 3 | 1 => 4 | 2 => 4 | 3 => 11 | 4 => 6 | 5 => 6 | 6 => 18 | 7 => 4 | 8 => 3 | 9 => 2 | 10 => 3 | 11 => 3 | _ => 0
/-- the fields of the classes -/
def qTf (ci : Nat) : u_T := match ci with
  | 0 => TX0 | 1 => TX1 | 2 => TX2 | 3 => TX3 | 4 => TX4 | 5 => TX5 | 6 => TX6 | 7 => TX7 | 8 => TX8 | 9 => TX9 | _ => TX0
end
section
/-! ===== THE PROGRAM, as rows of the pure machine: printed by wip/p69/gen_tab.py out of the claim's texts ===== -/
/-- a class by its number: 0 .. 11 the program's, 12 the law's, 13 .. 15 Integer, Math, Arrays -/
def qOwn (o : Nat) : String := match o with
  | 0 => RX0
  | 1 => RX1
  | 2 => RX2
  | 3 => RX3
  | 4 => RX4
  | 5 => RX5
  | 6 => RX6
  | 7 => RX7
  | 8 => RX8
  | 9 => RX9
  | 10 => RX0
  | 11 => RX0
  | 12 => RL
  | 13 => RJ6
  | 14 => RJ9
  | _ => RJ7
set_option maxRecDepth 100000 in
noncomputable def rw_0 : List PRow := [
  (0, .aload_n 0, 1, 0, 0, 0), (1, .invokespecial 1, 3, 0, 1, 0), (4, .return_, 1, 0, 0, 0)]
set_option maxRecDepth 100000 in
noncomputable def rw_1 : List PRow := [
  (0, .aload_n 0, 1, 0, 0, 0), (1, .aconst_null, 1, 0, 0, 0), (2, .putfield 7, 3, 0, 0, 0), (5, .aload_n 0, 1, 0, 0, 0), (6, .iconst 0, 1, 0, 0, 0), (7, .putfield 13, 3, 0, 1, 1), (10, .aload_n 0, 1, 0, 0, 0), (11, .iconst 0, 1, 0, 0, 0),
  (12, .putfield 17, 3, 0, 2, 2), (15, .return_, 1, 0, 0, 0)]
set_option maxRecDepth 100000 in
noncomputable def rw_3 : List PRow := [
  (0, .aload_n 0, 1, 0, 0, 0), (1, .getfield 7, 3, 0, 0, 0), (4, .ifnonnull 7, 3, 5, 0, 0), (7, .iconst 0, 1, 0, 0, 0), (8, .goto 10, 3, 8, 0, 0), (11, .aload_n 0, 1, 0, 0, 0), (12, .getfield 7, 3, 0, 0, 0), (15, .getfield 21, 3, 5, 1, 3),
  (18, .ireturn, 1, 0, 0, 0)]
set_option maxRecDepth 100000 in
noncomputable def rw_4 : List PRow := [
  (0, .aload_n 0, 1, 0, 0, 0), (1, .getfield 7, 3, 0, 0, 0), (4, .ifnull 14, 3, 8, 0, 0), (7, .aload_n 0, 1, 0, 0, 0), (8, .getfield 13, 3, 0, 1, 1), (11, .ifCond .ne 7, 3, 8, 0, 0), (14, .iconst 1, 1, 0, 0, 0), (15, .goto 4, 3, 9, 0, 0),
  (18, .iconst 0, 1, 0, 0, 0), (19, .ireturn, 1, 0, 0, 0)]
set_option maxRecDepth 100000 in
noncomputable def rw_5 : List PRow := [
  (0, .aload_n 0, 1, 0, 0, 0), (1, .new 22, 3, 5, 0, 0), (4, .dup, 1, 0, 0, 0), (5, .iload_n 1, 1, 0, 0, 0), (6, .aload_n 0, 1, 0, 0, 0), (7, .invokevirtual 26, 3, 13, 0, 1), (10, .iconst 1, 1, 0, 0, 0), (11, .iadd, 1, 0, 0, 0),
  (12, .iload_n 2, 1, 0, 0, 0), (13, .iload_n 3, 1, 0, 0, 0), (14, .iload 4, 2, 0, 0, 0), (16, .iload 5, 2, 0, 0, 0), (18, .invokespecial 29, 3, 65, 1, 2), (21, .putfield 7, 3, 0, 0, 0), (24, .aload_n 0, 1, 0, 0, 0), (25, .iconst 0, 1, 0, 0, 0),
  (26, .putfield 13, 3, 0, 1, 1), (29, .aload_n 0, 1, 0, 0, 0), (30, .getfield 7, 3, 0, 0, 0), (33, .getfield 21, 3, 5, 1, 3), (36, .ireturn, 1, 0, 0, 0)]
set_option maxRecDepth 100000 in
noncomputable def rw_6 : List PRow := [
  (0, .aload_n 0, 1, 0, 0, 0), (1, .invokespecial 3, 3, 0, 1, 3), (4, .aload_n 0, 1, 0, 0, 0), (5, .bipush 7, 2, 0, 0, 0), (7, .anewarray 9, 3, 18, 0, 1), (10, .putfield 11, 3, 1, 0, 4), (13, .aload_n 0, 1, 0, 0, 0), (14, .iconst 4, 1, 0, 0, 0),
  (15, .anewarray 17, 3, 15, 0, 2), (18, .putfield 19, 3, 1, 1, 5), (21, .aload_n 0, 1, 0, 0, 0), (22, .new 23, 3, 4, 0, 3), (25, .dup, 1, 0, 0, 0), (26, .invokespecial 25, 3, 57, 1, 4), (29, .putfield 26, 3, 1, 2, 6), (32, .iconst 3, 1, 0, 0, 0),
  (33, .invokestatic 30, 3, 17, 0, 5), (36, .astore_n 1, 1, 0, 0, 0), (37, .iconst 0, 1, 0, 0, 0), (38, .istore_n 2, 1, 0, 0, 0), (39, .iload_n 2, 1, 0, 0, 0), (40, .bipush 7, 2, 0, 0, 0), (42, .if_icmp .ge 24, 3, 34, 0, 0), (45, .aload_n 0, 1, 0, 0, 0),
  (46, .getfield 11, 3, 1, 0, 4), (49, .iload_n 2, 1, 0, 0, 0), (50, .new 9, 3, 6, 0, 4), (53, .dup, 1, 0, 0, 0), (54, .iload_n 2, 1, 0, 0, 0), (55, .aload_n 1, 1, 0, 0, 0), (56, .invokespecial 34, 3, 66, 1, 6), (59, .aastore, 1, 0, 0, 0),
  (60, .iinc 2 1, 3, 0, 0, 0), (63, .goto (-24), 3, 20, 0, 0), (66, .iconst 0, 1, 0, 0, 0), (67, .istore_n 2, 1, 0, 0, 0), (68, .iload_n 2, 1, 0, 0, 0), (69, .iconst 4, 1, 0, 0, 0), (70, .if_icmp .ge 22, 3, 48, 0, 0), (73, .aload_n 0, 1, 0, 0, 0),
  (74, .getfield 19, 3, 1, 1, 5), (77, .iload_n 2, 1, 0, 0, 0), (78, .new 17, 3, 0, 0, 5), (81, .dup, 1, 0, 0, 0), (82, .invokespecial 37, 3, 10, 1, 7), (85, .aastore, 1, 0, 0, 0), (86, .iinc 2 1, 3, 0, 0, 0), (89, .goto (-21), 3, 36, 0, 0),
  (92, .return_, 1, 0, 0, 0)]
set_option maxRecDepth 100000 in
noncomputable def rw_7 : List PRow := [
  (0, .new 38, 3, 7, 0, 6), (3, .dup, 1, 0, 0, 0), (4, .iconst 0, 1, 0, 0, 0), (5, .iconst 0, 1, 0, 0, 0), (6, .iconst 1, 1, 0, 0, 0), (7, .iload_n 0, 1, 0, 0, 0), (8, .ishl, 1, 0, 0, 0), (9, .iconst 1, 1, 0, 0, 0),
  (10, .isub, 1, 0, 0, 0), (11, .aconst_null, 1, 0, 0, 0), (12, .invokespecial 40, 3, 100, 1, 8), (15, .areturn, 1, 0, 0, 0)]
set_option maxRecDepth 100000 in
noncomputable def rw_8 : List PRow := [
  (0, .iload_n 1, 1, 0, 0, 0), (1, .invokestatic 30, 3, 17, 0, 5), (4, .astore_n 2, 1, 0, 0, 0), (5, .aload_n 0, 1, 0, 0, 0), (6, .getfield 11, 3, 1, 0, 4), (9, .astore_n 3, 1, 0, 0, 0), (10, .aload_n 3, 1, 0, 0, 0), (11, .arraylength, 1, 0, 0, 0),
  (12, .istore 4, 2, 0, 0, 0), (14, .iconst 0, 1, 0, 0, 0), (15, .istore 5, 2, 0, 0, 0), (17, .iload 5, 2, 0, 0, 0), (19, .iload 4, 2, 0, 0, 0), (21, .if_icmp .ge 21, 3, 23, 0, 0), (24, .aload_n 3, 1, 0, 0, 0), (25, .iload 5, 2, 0, 0, 0),
  (27, .aaload, 1, 0, 0, 0), (28, .astore 6, 2, 0, 0, 0), (30, .aload 6, 2, 0, 0, 0), (32, .aload_n 2, 1, 0, 0, 0), (33, .invokevirtual 43, 3, 67, 0, 9), (36, .iinc 5 1, 3, 0, 0, 0), (39, .goto (-22), 3, 11, 0, 0), (42, .aload_n 0, 1, 0, 0, 0),
  (43, .getfield 19, 3, 1, 1, 5), (46, .astore_n 3, 1, 0, 0, 0), (47, .aload_n 3, 1, 0, 0, 0), (48, .arraylength, 1, 0, 0, 0), (49, .istore 4, 2, 0, 0, 0), (51, .iconst 0, 1, 0, 0, 0), (52, .istore 5, 2, 0, 0, 0), (54, .iload 5, 2, 0, 0, 0),
  (56, .iload 4, 2, 0, 0, 0), (58, .if_icmp .ge 20, 3, 42, 0, 0), (61, .aload_n 3, 1, 0, 0, 0), (62, .iload 5, 2, 0, 0, 0), (64, .aaload, 1, 0, 0, 0), (65, .astore 6, 2, 0, 0, 0), (67, .aload 6, 2, 0, 0, 0), (69, .invokevirtual 47, 3, 11, 0, 10),
  (72, .iinc 5 1, 3, 0, 0, 0), (75, .goto (-21), 3, 31, 0, 0), (78, .aload_n 0, 1, 0, 0, 0), (79, .getfield 26, 3, 1, 2, 6), (82, .invokevirtual 50, 3, 58, 0, 11), (85, .aload_n 0, 1, 0, 0, 0), (86, .iconst 0, 1, 0, 0, 0), (87, .putfield 53, 3, 1, 3, 7),
  (90, .return_, 1, 0, 0, 0)]
set_option maxRecDepth 100000 in
noncomputable def rw_10 : List PRow := [
  (0, .iconst 0, 1, 0, 0, 0), (1, .istore_n 1, 1, 0, 0, 0), (2, .aload_n 0, 1, 0, 0, 0), (3, .getfield 11, 3, 1, 0, 4), (6, .astore_n 2, 1, 0, 0, 0), (7, .aload_n 2, 1, 0, 0, 0), (8, .arraylength, 1, 0, 0, 0), (9, .istore_n 3, 1, 0, 0, 0),
  (10, .iconst 0, 1, 0, 0, 0), (11, .istore 4, 2, 0, 0, 0), (13, .iload 4, 2, 0, 0, 0), (15, .iload_n 3, 1, 0, 0, 0), (16, .if_icmp .ge 31, 3, 28, 0, 0), (19, .aload_n 2, 1, 0, 0, 0), (20, .iload 4, 2, 0, 0, 0), (22, .aaload, 1, 0, 0, 0),
  (23, .astore 5, 2, 0, 0, 0), (25, .iload_n 1, 1, 0, 0, 0), (26, .aload 5, 2, 0, 0, 0), (28, .getfield 67, 3, 6, 4, 8), (31, .ifCond .eq 7, 3, 23, 0, 0), (34, .iconst 1, 1, 0, 0, 0), (35, .goto 4, 3, 24, 0, 0), (38, .iconst 0, 1, 0, 0, 0),
  (39, .iadd, 1, 0, 0, 0), (40, .istore_n 1, 1, 0, 0, 0), (41, .iinc 4 1, 3, 0, 0, 0), (44, .goto (-31), 3, 10, 0, 0), (47, .iload_n 1, 1, 0, 0, 0), (48, .ireturn, 1, 0, 0, 0)]
set_option maxRecDepth 100000 in
noncomputable def rw_11 : List PRow := [
  (0, .iconst 0, 1, 0, 0, 0), (1, .istore_n 1, 1, 0, 0, 0), (2, .aload_n 0, 1, 0, 0, 0), (3, .getfield 11, 3, 1, 0, 4), (6, .astore_n 2, 1, 0, 0, 0), (7, .aload_n 2, 1, 0, 0, 0), (8, .arraylength, 1, 0, 0, 0), (9, .istore_n 3, 1, 0, 0, 0),
  (10, .iconst 0, 1, 0, 0, 0), (11, .istore 4, 2, 0, 0, 0), (13, .iload 4, 2, 0, 0, 0), (15, .iload_n 3, 1, 0, 0, 0), (16, .if_icmp .ge 32, 3, 29, 0, 0), (19, .aload_n 2, 1, 0, 0, 0), (20, .iload 4, 2, 0, 0, 0), (22, .aaload, 1, 0, 0, 0),
  (23, .astore 5, 2, 0, 0, 0), (25, .iload_n 1, 1, 0, 0, 0), (26, .aload 5, 2, 0, 0, 0), (28, .getfield 71, 3, 6, 12, 9), (31, .iconst 3, 1, 0, 0, 0), (32, .if_icmp .ne 7, 3, 24, 0, 0), (35, .iconst 1, 1, 0, 0, 0), (36, .goto 4, 3, 25, 0, 0),
  (39, .iconst 0, 1, 0, 0, 0), (40, .iadd, 1, 0, 0, 0), (41, .istore_n 1, 1, 0, 0, 0), (42, .iinc 4 1, 3, 0, 0, 0), (45, .goto (-32), 3, 10, 0, 0), (48, .iload_n 1, 1, 0, 0, 0), (49, .ireturn, 1, 0, 0, 0)]
set_option maxRecDepth 100000 in
noncomputable def rw_12 : List PRow := [
  (0, .aconst_null, 1, 0, 0, 0), (1, .astore_n 1, 1, 0, 0, 0), (2, .aload_n 0, 1, 0, 0, 0), (3, .getfield 11, 3, 1, 0, 4), (6, .astore_n 2, 1, 0, 0, 0), (7, .aload_n 2, 1, 0, 0, 0), (8, .arraylength, 1, 0, 0, 0), (9, .istore_n 3, 1, 0, 0, 0),
  (10, .iconst 0, 1, 0, 0, 0), (11, .istore 4, 2, 0, 0, 0), (13, .iload 4, 2, 0, 0, 0), (15, .iload_n 3, 1, 0, 0, 0), (16, .if_icmp .ge 43, 3, 32, 0, 0), (19, .aload_n 2, 1, 0, 0, 0), (20, .iload 4, 2, 0, 0, 0), (22, .aaload, 1, 0, 0, 0),
  (23, .astore 5, 2, 0, 0, 0), (25, .aload 5, 2, 0, 0, 0), (27, .getfield 71, 3, 6, 12, 9), (30, .iconst 3, 1, 0, 0, 0), (31, .if_icmp .ne 22, 3, 30, 0, 0), (34, .aload_n 1, 1, 0, 0, 0), (35, .ifnull 15, 3, 28, 0, 0), (38, .aload 5, 2, 0, 0, 0),
  (40, .getfield 74, 3, 6, 5, 10), (43, .aload_n 1, 1, 0, 0, 0), (44, .getfield 74, 3, 6, 5, 10), (47, .if_icmp .le 6, 3, 30, 0, 0), (50, .aload 5, 2, 0, 0, 0), (52, .astore_n 1, 1, 0, 0, 0), (53, .iinc 4 1, 3, 0, 0, 0), (56, .goto (-43), 3, 10, 0, 0),
  (59, .aload_n 1, 1, 0, 0, 0), (60, .areturn, 1, 0, 0, 0)]
set_option maxRecDepth 100000 in
noncomputable def rw_13 : List PRow := [
  (0, .iconst 0, 1, 0, 0, 0), (1, .istore 4, 2, 0, 0, 0), (3, .aload_n 0, 1, 0, 0, 0), (4, .getfield 11, 3, 1, 0, 4), (7, .astore 5, 2, 0, 0, 0), (9, .aload 5, 2, 0, 0, 0), (11, .arraylength, 1, 0, 0, 0), (12, .istore 6, 2, 0, 0, 0),
  (14, .iconst 0, 1, 0, 0, 0), (15, .istore 7, 2, 0, 0, 0), (17, .iload 7, 2, 0, 0, 0), (19, .iload 6, 2, 0, 0, 0), (21, .if_icmp .ge 53, 3, 35, 0, 0), (24, .aload 5, 2, 0, 0, 0), (26, .iload 7, 2, 0, 0, 0), (28, .aaload, 1, 0, 0, 0),
  (29, .astore 8, 2, 0, 0, 0), (31, .aload_n 1, 1, 0, 0, 0), (32, .aload 8, 2, 0, 0, 0), (34, .getfield 77, 3, 6, 0, 11), (37, .invokevirtual 80, 3, 76, 0, 12), (40, .ifCond .eq 28, 3, 33, 0, 0), (43, .aload 8, 2, 0, 0, 0), (45, .getfield 84, 3, 6, 9, 12),
  (48, .getfield 88, 3, 7, 0, 13), (51, .iload_n 2, 1, 0, 0, 0), (52, .if_icmp .ge 13, 3, 32, 0, 0), (55, .aload 8, 2, 0, 0, 0), (57, .iload_n 2, 1, 0, 0, 0), (58, .invokevirtual 91, 3, 75, 0, 13), (61, .iload_n 3, 1, 0, 0, 0), (62, .if_icmp .ne 6, 3, 33, 0, 0),
  (65, .iinc 4 1, 3, 0, 0, 0), (68, .iinc 7 1, 3, 0, 0, 0), (71, .goto (-54), 3, 10, 0, 0), (74, .iload 4, 2, 0, 0, 0), (76, .ireturn, 1, 0, 0, 0)]
set_option maxRecDepth 100000 in
noncomputable def rw_14 : List PRow := [
  (0, .aload_n 1, 1, 0, 0, 0), (1, .invokevirtual 95, 3, 73, 0, 14), (4, .istore_n 2, 1, 0, 0, 0), (5, .aload_n 1, 1, 0, 0, 0), (6, .invokevirtual 99, 3, 72, 0, 15), (9, .istore_n 3, 1, 0, 0, 0), (10, .iconst 0, 1, 0, 0, 0), (11, .istore 4, 2, 0, 0, 0),
  (13, .iconst 0, 1, 0, 0, 0), (14, .istore 5, 2, 0, 0, 0), (16, .aload_n 0, 1, 0, 0, 0), (17, .getfield 11, 3, 1, 0, 4), (20, .astore 6, 2, 0, 0, 0), (22, .aload 6, 2, 0, 0, 0), (24, .arraylength, 1, 0, 0, 0), (25, .istore 7, 2, 0, 0, 0),
  (27, .iconst 0, 1, 0, 0, 0), (28, .istore 8, 2, 0, 0, 0), (30, .iload 8, 2, 0, 0, 0), (32, .iload 7, 2, 0, 0, 0), (34, .if_icmp .ge 51, 3, 44, 0, 0), (37, .aload 6, 2, 0, 0, 0), (39, .iload 8, 2, 0, 0, 0), (41, .aaload, 1, 0, 0, 0),
  (42, .astore 9, 2, 0, 0, 0), (44, .aload_n 1, 1, 0, 0, 0), (45, .aload 9, 2, 0, 0, 0), (47, .getfield 77, 3, 6, 0, 11), (50, .invokevirtual 80, 3, 76, 0, 12), (53, .ifCond .eq 26, 3, 42, 0, 0), (56, .iinc 4 1, 3, 0, 0, 0), (59, .iload 5, 2, 0, 0, 0),
  (61, .aload 9, 2, 0, 0, 0), (63, .iload_n 2, 1, 0, 0, 0), (64, .iload_n 3, 1, 0, 0, 0), (65, .invokevirtual 102, 3, 82, 0, 16), (68, .ifCond .eq 7, 3, 39, 0, 0), (71, .iconst 1, 1, 0, 0, 0), (72, .goto 4, 3, 40, 0, 0), (75, .iconst 0, 1, 0, 0, 0),
  (76, .iadd, 1, 0, 0, 0), (77, .istore 5, 2, 0, 0, 0), (79, .iinc 8 1, 3, 0, 0, 0), (82, .goto (-52), 3, 18, 0, 0), (85, .iconst 2, 1, 0, 0, 0), (86, .iload 5, 2, 0, 0, 0), (88, .imul, 1, 0, 0, 0), (89, .iload 4, 2, 0, 0, 0),
  (91, .if_icmp .le 7, 3, 51, 0, 0), (94, .iconst 1, 1, 0, 0, 0), (95, .goto 4, 3, 52, 0, 0), (98, .iconst 0, 1, 0, 0, 0), (99, .ireturn, 1, 0, 0, 0)]
set_option maxRecDepth 100000 in
noncomputable def rw_21 : List PRow := [
  (0, .aload_n 0, 1, 0, 0, 0), (1, .getfield 11, 3, 1, 0, 4), (4, .astore_n 1, 1, 0, 0, 0), (5, .aload_n 1, 1, 0, 0, 0), (6, .arraylength, 1, 0, 0, 0), (7, .istore_n 2, 1, 0, 0, 0), (8, .iconst 0, 1, 0, 0, 0), (9, .istore_n 3, 1, 0, 0, 0),
  (10, .iload_n 3, 1, 0, 0, 0), (11, .iload_n 2, 1, 0, 0, 0), (12, .if_icmp .ge 113, 3, 63, 0, 0), (15, .aload_n 1, 1, 0, 0, 0), (16, .iload_n 3, 1, 0, 0, 0), (17, .aaload, 1, 0, 0, 0), (18, .astore 4, 2, 0, 0, 0), (20, .aload 4, 2, 0, 0, 0),
  (22, .getfield 67, 3, 6, 4, 8), (25, .ifCond .eq 43, 3, 38, 0, 0), (28, .aload 4, 2, 0, 0, 0), (30, .getfield 71, 3, 6, 12, 9), (33, .iconst 3, 1, 0, 0, 0), (34, .if_icmp .ne 34, 3, 38, 0, 0), (37, .aload 4, 2, 0, 0, 0), (39, .dup, 1, 0, 0, 0),
  (40, .getfield 146, 3, 6, 17, 14), (43, .iconst 1, 1, 0, 0, 0), (44, .iadd, 1, 0, 0, 0), (45, .putfield 146, 3, 6, 17, 14), (48, .aload 4, 2, 0, 0, 0), (50, .getfield 146, 3, 6, 17, 14), (53, .iconst 2, 1, 0, 0, 0), (54, .irem, 1, 0, 0, 0),
  (55, .ifCond .ne 64, 3, 61, 0, 0), (58, .aload_n 0, 1, 0, 0, 0), (59, .aload 4, 2, 0, 0, 0), (61, .invokevirtual 149, 3, 36, 0, 17), (64, .pop, 1, 0, 0, 0), (65, .goto 54, 3, 61, 0, 0), (68, .aload 4, 2, 0, 0, 0), (70, .getfield 67, 3, 6, 4, 8),
  (73, .ifCond .eq 46, 3, 61, 0, 0), (76, .aload 4, 2, 0, 0, 0), (78, .invokevirtual 153, 3, 77, 0, 18), (81, .ifCond .eq 38, 3, 61, 0, 0), (84, .aload 4, 2, 0, 0, 0), (86, .dup, 1, 0, 0, 0), (87, .getfield 156, 3, 6, 14, 15), (90, .iconst 1, 1, 0, 0, 0),
  (91, .iadd, 1, 0, 0, 0), (92, .putfield 156, 3, 6, 14, 15), (95, .aload_n 0, 1, 0, 0, 0), (96, .aload 4, 2, 0, 0, 0), (98, .aload 4, 2, 0, 0, 0), (100, .getfield 156, 3, 6, 14, 15), (103, .aload 4, 2, 0, 0, 0), (105, .invokevirtual 159, 3, 71, 0, 19),
  (108, .if_icmp .lt 7, 3, 59, 0, 0), (111, .iconst 1, 1, 0, 0, 0), (112, .goto 4, 3, 60, 0, 0), (115, .iconst 0, 1, 0, 0, 0), (116, .invokevirtual 162, 3, 32, 0, 20), (119, .iinc 3 1, 3, 0, 0, 0), (122, .goto (-112), 3, 8, 0, 0), (125, .aload_n 0, 1, 0, 0, 0),
  (126, .getfield 26, 3, 1, 2, 6), (129, .getfield 166, 3, 4, 3, 16), (132, .istore_n 1, 1, 0, 0, 0), (133, .iconst 0, 1, 0, 0, 0), (134, .istore_n 2, 1, 0, 0, 0), (135, .iload_n 2, 1, 0, 0, 0), (136, .iload_n 1, 1, 0, 0, 0), (137, .if_icmp .ge 15, 3, 78, 0, 0),
  (140, .aload_n 0, 1, 0, 0, 0), (141, .iconst 0, 1, 0, 0, 0), (142, .invokevirtual 169, 3, 40, 0, 21), (145, .pop, 1, 0, 0, 0), (146, .iinc 2 1, 3, 0, 0, 0), (149, .goto (-14), 3, 69, 0, 0), (152, .aload_n 0, 1, 0, 0, 0), (153, .dup, 1, 0, 0, 0),
  (154, .getfield 53, 3, 1, 3, 7), (157, .iconst 1, 1, 0, 0, 0), (158, .iadd, 1, 0, 0, 0), (159, .putfield 53, 3, 1, 3, 7), (162, .return_, 1, 0, 0, 0)]
set_option maxRecDepth 100000 in
noncomputable def rw_22 : List PRow := [
  (0, .iload_n 2, 1, 0, 0, 0), (1, .istore_n 3, 1, 0, 0, 0), (2, .iload_n 3, 1, 0, 0, 0), (3, .iconst 1, 1, 0, 0, 0), (4, .if_icmp .ne 9, 3, 9, 0, 0), (7, .aload_n 0, 1, 0, 0, 0), (8, .aload_n 1, 1, 0, 0, 0), (9, .invokevirtual 172, 3, 33, 0, 22),
  (12, .istore_n 3, 1, 0, 0, 0), (13, .iload_n 3, 1, 0, 0, 0), (14, .iconst 2, 1, 0, 0, 0), (15, .if_icmp .ne 9, 3, 16, 0, 0), (18, .aload_n 0, 1, 0, 0, 0), (19, .aload_n 1, 1, 0, 0, 0), (20, .invokevirtual 175, 3, 34, 0, 23), (23, .istore_n 3, 1, 0, 0, 0),
  (24, .iload_n 3, 1, 0, 0, 0), (25, .iconst 3, 1, 0, 0, 0), (26, .if_icmp .ne 18, 3, 28, 0, 0), (29, .aload_n 1, 1, 0, 0, 0), (30, .invokevirtual 178, 3, 98, 0, 24), (33, .aload_n 0, 1, 0, 0, 0), (34, .aload_n 1, 1, 0, 0, 0), (35, .invokevirtual 149, 3, 36, 0, 17),
  (38, .pop, 1, 0, 0, 0), (39, .aload_n 0, 1, 0, 0, 0), (40, .aload_n 1, 1, 0, 0, 0), (41, .invokevirtual 181, 3, 38, 0, 25), (44, .return_, 1, 0, 0, 0)]
set_option maxRecDepth 100000 in
noncomputable def rw_23 : List PRow := [
  (0, .aload_n 1, 1, 0, 0, 0), (1, .getfield 184, 3, 6, 8, 17), (4, .bipush 48, 2, 0, 0, 0), (6, .if_icmp .lt 10, 3, 9, 0, 0), (9, .aload_n 1, 1, 0, 0, 0), (10, .iconst 0, 1, 0, 0, 0), (11, .putfield 156, 3, 6, 14, 15), (14, .iconst 0, 1, 0, 0, 0),
  (15, .ireturn, 1, 0, 0, 0), (16, .aload_n 1, 1, 0, 0, 0), (17, .iconst 1, 1, 0, 0, 0), (18, .invokevirtual 185, 3, 97, 0, 26), (21, .aload_n 1, 1, 0, 0, 0), (22, .invokevirtual 189, 3, 78, 0, 27), (25, .ifCond .eq 5, 3, 17, 0, 0), (28, .iconst 2, 1, 0, 0, 0),
  (29, .ireturn, 1, 0, 0, 0), (30, .aload_n 0, 1, 0, 0, 0), (31, .aload_n 1, 1, 0, 0, 0), (32, .iconst 1, 1, 0, 0, 0), (33, .aload_n 1, 1, 0, 0, 0), (34, .getfield 74, 3, 6, 5, 10), (37, .iconst 1, 1, 0, 0, 0), (38, .iadd, 1, 0, 0, 0),
  (39, .invokevirtual 192, 3, 35, 0, 28), (42, .iconst 0, 1, 0, 0, 0), (43, .ireturn, 1, 0, 0, 0)]
set_option maxRecDepth 100000 in
noncomputable def rw_24 : List PRow := [
  (0, .aload_n 1, 1, 0, 0, 0), (1, .dup, 1, 0, 0, 0), (2, .getfield 74, 3, 6, 5, 10), (5, .iconst 1, 1, 0, 0, 0), (6, .iadd, 1, 0, 0, 0), (7, .putfield 74, 3, 6, 5, 10), (10, .aload_n 1, 1, 0, 0, 0), (11, .iconst 2, 1, 0, 0, 0),
  (12, .invokevirtual 185, 3, 97, 0, 26), (15, .aload_n 1, 1, 0, 0, 0), (16, .aload_n 1, 1, 0, 0, 0), (17, .getfield 77, 3, 6, 0, 11), (20, .putfield 196, 3, 6, 6, 18), (23, .aload_n 1, 1, 0, 0, 0), (24, .invokevirtual 189, 3, 78, 0, 27), (27, .ifCond .eq 5, 3, 18, 0, 0),
  (30, .iconst 3, 1, 0, 0, 0), (31, .ireturn, 1, 0, 0, 0), (32, .aload_n 0, 1, 0, 0, 0), (33, .aload_n 1, 1, 0, 0, 0), (34, .iconst 3, 1, 0, 0, 0), (35, .aload_n 1, 1, 0, 0, 0), (36, .getfield 74, 3, 6, 5, 10), (39, .invokevirtual 192, 3, 35, 0, 28),
  (42, .iconst 0, 1, 0, 0, 0), (43, .ireturn, 1, 0, 0, 0)]
set_option maxRecDepth 100000 in
noncomputable def rw_25 : List PRow := [
  (0, .iconst 0, 1, 0, 0, 0), (1, .istore 4, 2, 0, 0, 0), (3, .iload 4, 2, 0, 0, 0), (5, .bipush 7, 2, 0, 0, 0), (7, .if_icmp .ge 70, 3, 35, 0, 0), (10, .iload 4, 2, 0, 0, 0), (12, .aload_n 1, 1, 0, 0, 0), (13, .getfield 77, 3, 6, 0, 11),
  (16, .if_icmp .eq 55, 3, 33, 0, 0), (19, .aload_n 1, 1, 0, 0, 0), (20, .iload 4, 2, 0, 0, 0), (22, .invokevirtual 80, 3, 76, 0, 12), (25, .ifCond .ne 6, 3, 14, 0, 0), (28, .goto 43, 3, 33, 0, 0), (31, .aload_n 0, 1, 0, 0, 0), (32, .getfield 26, 3, 1, 2, 6),
  (35, .iload_n 2, 1, 0, 0, 0), (36, .aload_n 1, 1, 0, 0, 0), (37, .getfield 77, 3, 6, 0, 11), (40, .iload 4, 2, 0, 0, 0), (42, .iload_n 3, 1, 0, 0, 0), (43, .invokevirtual 199, 3, 62, 0, 29), (46, .astore 5, 2, 0, 0, 0), (48, .aload 5, 2, 0, 0, 0),
  (50, .ifnull 21, 3, 33, 0, 0), (53, .aload 5, 2, 0, 0, 0), (55, .aload_n 1, 1, 0, 0, 0), (56, .invokevirtual 99, 3, 72, 0, 15), (59, .putfield 203, 3, 3, 6, 19), (62, .aload 5, 2, 0, 0, 0), (64, .aload_n 1, 1, 0, 0, 0), (65, .invokevirtual 95, 3, 73, 0, 14),
  (68, .putfield 206, 3, 3, 7, 20), (71, .iinc 4 1, 3, 0, 0, 0), (74, .goto (-71), 3, 2, 0, 0), (77, .return_, 1, 0, 0, 0)]
set_option maxRecDepth 100000 in
noncomputable def rw_26 : List PRow := [
  (0, .iconst 0, 1, 0, 0, 0), (1, .istore_n 2, 1, 0, 0, 0), (2, .iconst 0, 1, 0, 0, 0), (3, .istore_n 3, 1, 0, 0, 0), (4, .iload_n 3, 1, 0, 0, 0), (5, .bipush 7, 2, 0, 0, 0), (7, .if_icmp .ge 34, 3, 22, 0, 0), (10, .iload_n 3, 1, 0, 0, 0),
  (11, .aload_n 1, 1, 0, 0, 0), (12, .getfield 77, 3, 6, 0, 11), (15, .if_icmp .eq 20, 3, 20, 0, 0), (18, .aload_n 1, 1, 0, 0, 0), (19, .iload_n 3, 1, 0, 0, 0), (20, .invokevirtual 80, 3, 76, 0, 12), (23, .ifCond .eq 12, 3, 20, 0, 0), (26, .aload_n 0, 1, 0, 0, 0),
  (27, .aload_n 1, 1, 0, 0, 0), (28, .iload_n 3, 1, 0, 0, 0), (29, .invokevirtual 209, 3, 37, 0, 30), (32, .iinc 2 1, 3, 0, 0, 0), (35, .iinc 3 1, 3, 0, 0, 0), (38, .goto (-34), 3, 4, 0, 0), (41, .iload_n 2, 1, 0, 0, 0), (42, .ireturn, 1, 0, 0, 0)]
set_option maxRecDepth 100000 in
noncomputable def rw_27 : List PRow := [
  (0, .aload_n 1, 1, 0, 0, 0), (1, .getfield 212, 3, 6, 2, 21), (4, .iload_n 2, 1, 0, 0, 0), (5, .iaload, 1, 0, 0, 0), (6, .istore_n 3, 1, 0, 0, 0), (7, .iload_n 3, 1, 0, 0, 0), (8, .aload_n 1, 1, 0, 0, 0), (9, .getfield 84, 3, 6, 9, 12),
  (12, .getfield 88, 3, 7, 0, 13), (15, .if_icmp .gt 7, 3, 12, 0, 0), (18, .iconst 1, 1, 0, 0, 0), (19, .goto 4, 3, 13, 0, 0), (22, .iconst 0, 1, 0, 0, 0), (23, .istore 4, 2, 0, 0, 0), (25, .aload_n 0, 1, 0, 0, 0), (26, .getfield 26, 3, 1, 2, 6),
  (29, .iload 4, 2, 0, 0, 0), (31, .ifCond .eq 8, 3, 20, 0, 0), (34, .bipush 7, 2, 0, 0, 0), (36, .goto 4, 3, 21, 0, 0), (39, .iconst 5, 1, 0, 0, 0), (40, .aload_n 1, 1, 0, 0, 0), (41, .getfield 77, 3, 6, 0, 11), (44, .iload_n 2, 1, 0, 0, 0),
  (45, .aload_n 1, 1, 0, 0, 0), (46, .getfield 74, 3, 6, 5, 10), (49, .invokevirtual 199, 3, 62, 0, 29), (52, .astore 5, 2, 0, 0, 0), (54, .aload 5, 2, 0, 0, 0), (56, .ifnonnull 4, 3, 31, 0, 0), (59, .return_, 1, 0, 0, 0), (60, .iload 4, 2, 0, 0, 0),
  (62, .ifCond .eq 25, 3, 43, 0, 0), (65, .aload 5, 2, 0, 0, 0), (67, .aload_n 1, 1, 0, 0, 0), (68, .getfield 84, 3, 6, 9, 12), (71, .getfield 88, 3, 7, 0, 13), (74, .putfield 203, 3, 3, 6, 19), (77, .aload 5, 2, 0, 0, 0), (79, .aload_n 1, 1, 0, 0, 0),
  (80, .getfield 84, 3, 6, 9, 12), (83, .putfield 215, 3, 3, 10, 22), (86, .return_, 1, 0, 0, 0), (87, .aload 5, 2, 0, 0, 0), (89, .iload_n 3, 1, 0, 0, 0), (90, .iconst 1, 1, 0, 0, 0), (91, .isub, 1, 0, 0, 0), (92, .putfield 203, 3, 3, 6, 19),
  (95, .aload 5, 2, 0, 0, 0), (97, .aload_n 1, 1, 0, 0, 0), (98, .iload_n 3, 1, 0, 0, 0), (99, .iconst 1, 1, 0, 0, 0), (100, .isub, 1, 0, 0, 0), (101, .invokevirtual 91, 3, 75, 0, 13), (104, .putfield 206, 3, 3, 7, 20), (107, .aload 5, 2, 0, 0, 0),
  (109, .aload_n 1, 1, 0, 0, 0), (110, .getfield 143, 3, 6, 15, 23), (113, .putfield 216, 3, 3, 8, 24), (116, .iload_n 3, 1, 0, 0, 0), (117, .istore 6, 2, 0, 0, 0), (119, .iload 6, 2, 0, 0, 0), (121, .aload_n 1, 1, 0, 0, 0), (122, .invokevirtual 99, 3, 72, 0, 15),
  (125, .if_icmp .gt 46, 3, 85, 0, 0), (128, .aload 5, 2, 0, 0, 0), (130, .getfield 217, 3, 3, 9, 25), (133, .iconst 4, 1, 0, 0, 0), (134, .if_icmp .ge 37, 3, 85, 0, 0), (137, .aload 5, 2, 0, 0, 0), (139, .getfield 218, 3, 3, 0, 26), (142, .aload 5, 2, 0, 0, 0),
  (144, .getfield 217, 3, 3, 9, 25), (147, .aload_n 1, 1, 0, 0, 0), (148, .iload 6, 2, 0, 0, 0), (150, .invokevirtual 222, 3, 74, 0, 31), (153, .aastore, 1, 0, 0, 0), (154, .aload 5, 2, 0, 0, 0), (156, .dup, 1, 0, 0, 0), (157, .getfield 217, 3, 3, 9, 25),
  (160, .iconst 1, 1, 0, 0, 0), (161, .iadd, 1, 0, 0, 0), (162, .putfield 217, 3, 3, 9, 25), (165, .iinc 6 1, 3, 0, 0, 0), (168, .goto (-49), 3, 61, 0, 0), (171, .return_, 1, 0, 0, 0)]
set_option maxRecDepth 100000 in
noncomputable def rw_28 : List PRow := [
  (0, .aload_n 1, 1, 0, 0, 0), (1, .invokevirtual 99, 3, 72, 0, 15), (4, .istore_n 2, 1, 0, 0, 0), (5, .iload_n 2, 1, 0, 0, 0), (6, .aload_n 1, 1, 0, 0, 0), (7, .getfield 143, 3, 6, 15, 23), (10, .if_icmp .le 38, 3, 24, 0, 0), (13, .aload_n 1, 1, 0, 0, 0),
  (14, .iload_n 2, 1, 0, 0, 0), (15, .invokevirtual 91, 3, 75, 0, 13), (18, .aload_n 1, 1, 0, 0, 0), (19, .getfield 74, 3, 6, 5, 10), (22, .if_icmp .ne 20, 3, 22, 0, 0), (25, .aload_n 1, 1, 0, 0, 0), (26, .iload_n 2, 1, 0, 0, 0), (27, .invokevirtual 226, 3, 79, 0, 32),
  (30, .ifCond .eq 12, 3, 22, 0, 0), (33, .aload_n 0, 1, 0, 0, 0), (34, .aload_n 1, 1, 0, 0, 0), (35, .iload_n 2, 1, 0, 0, 0), (36, .invokevirtual 229, 3, 39, 0, 33), (39, .goto 9, 3, 24, 0, 0), (42, .iinc 2 (-1), 3, 0, 0, 0), (45, .goto (-40), 3, 3, 0, 0),
  (48, .aload_n 1, 1, 0, 0, 0), (49, .invokevirtual 153, 3, 77, 0, 18), (52, .ifCond .ne 32, 3, 42, 0, 0), (55, .aload_n 1, 1, 0, 0, 0), (56, .getfield 232, 3, 6, 11, 27), (59, .iconst (-1), 1, 0, 0, 0), (60, .if_icmp .eq 24, 3, 42, 0, 0), (63, .aload_n 1, 1, 0, 0, 0),
  (64, .getfield 232, 3, 6, 11, 27), (67, .aload_n 1, 1, 0, 0, 0), (68, .getfield 143, 3, 6, 15, 23), (71, .if_icmp .gt 13, 3, 42, 0, 0), (74, .aload_n 1, 1, 0, 0, 0), (75, .iconst 0, 1, 0, 0, 0), (76, .putfield 71, 3, 6, 12, 9), (79, .aload_n 1, 1, 0, 0, 0),
  (80, .iconst (-1), 1, 0, 0, 0), (81, .putfield 136, 3, 6, 13, 28), (84, .return_, 1, 0, 0, 0)]
set_option maxRecDepth 100000 in
noncomputable def rw_29 : List PRow := [
  (0, .aload_n 1, 1, 0, 0, 0), (1, .getfield 143, 3, 6, 15, 23), (4, .iload_n 2, 1, 0, 0, 0), (5, .if_icmp .ge 113, 3, 56, 0, 0), (8, .aload_n 1, 1, 0, 0, 0), (9, .dup, 1, 0, 0, 0), (10, .getfield 143, 3, 6, 15, 23), (13, .iconst 1, 1, 0, 0, 0),
  (14, .iadd, 1, 0, 0, 0), (15, .putfield 143, 3, 6, 15, 23), (18, .aload_n 1, 1, 0, 0, 0), (19, .aload_n 1, 1, 0, 0, 0), (20, .getfield 143, 3, 6, 15, 23), (23, .invokevirtual 222, 3, 74, 0, 31), (26, .astore_n 3, 1, 0, 0, 0), (27, .aload_n 3, 1, 0, 0, 0),
  (28, .ifnonnull 7, 3, 19, 0, 0), (31, .aconst_null, 1, 0, 0, 0), (32, .goto 7, 3, 21, 0, 0), (35, .aload_n 3, 1, 0, 0, 0), (36, .getfield 235, 3, 2, 2, 29), (39, .astore 4, 2, 0, 0, 0), (41, .aload 4, 2, 0, 0, 0), (43, .ifnonnull 6, 3, 25, 0, 0),
  (46, .goto (-46), 3, 0, 0, 0), (49, .aload_n 1, 1, 0, 0, 0), (50, .getfield 109, 3, 6, 1, 30), (53, .aload 4, 2, 0, 0, 0), (55, .invokevirtual 241, 3, 103, 0, 34), (58, .aload_n 0, 1, 0, 0, 0), (59, .getfield 19, 3, 1, 1, 5), (62, .aload 4, 2, 0, 0, 0),
  (64, .getfield 245, 3, 5, 0, 31), (67, .aaload, 1, 0, 0, 0), (68, .astore 5, 2, 0, 0, 0), (70, .aload_n 1, 1, 0, 0, 0), (71, .getfield 71, 3, 6, 12, 9), (74, .iconst 3, 1, 0, 0, 0), (75, .if_icmp .ne 40, 3, 55, 0, 0), (78, .aload 5, 2, 0, 0, 0),
  (80, .invokevirtual 250, 3, 13, 0, 35), (83, .aload 4, 2, 0, 0, 0), (85, .getfield 253, 3, 5, 1, 32), (88, .if_icmp .ne 27, 3, 55, 0, 0), (91, .aload 5, 2, 0, 0, 0), (93, .iconst 1, 1, 0, 0, 0), (94, .putfield 255, 3, 0, 1, 33), (97, .aload 5, 2, 0, 0, 0),
  (99, .aload_n 1, 1, 0, 0, 0), (100, .getfield 109, 3, 6, 1, 30), (103, .getfield 258, 3, 8, 2, 34), (106, .aload 4, 2, 0, 0, 0), (108, .getfield 245, 3, 5, 0, 31), (111, .iaload, 1, 0, 0, 0), (112, .putfield 261, 3, 0, 2, 35), (115, .goto (-115), 3, 0, 0, 0),
  (118, .return_, 1, 0, 0, 0)]
set_option maxRecDepth 100000 in
noncomputable def rw_30 : List PRow := [
  (0, .iload_n 1, 1, 0, 0, 0), (1, .ifCond .lt 14, 3, 7, 0, 0), (4, .iload_n 1, 1, 0, 0, 0), (5, .aload_n 0, 1, 0, 0, 0), (6, .getfield 26, 3, 1, 2, 6), (9, .getfield 166, 3, 4, 3, 16), (12, .if_icmp .lt 5, 3, 9, 0, 0), (15, .iconst 0, 1, 0, 0, 0),
  (16, .ireturn, 1, 0, 0, 0), (17, .aload_n 0, 1, 0, 0, 0), (18, .getfield 26, 3, 1, 2, 6), (21, .iload_n 1, 1, 0, 0, 0), (22, .invokevirtual 264, 3, 64, 0, 36), (25, .astore_n 2, 1, 0, 0, 0), (26, .aload_n 0, 1, 0, 0, 0), (27, .getfield 11, 3, 1, 0, 4),
  (30, .aload_n 2, 1, 0, 0, 0), (31, .getfield 268, 3, 3, 3, 36), (34, .aaload, 1, 0, 0, 0), (35, .astore_n 3, 1, 0, 0, 0), (36, .aload_n 3, 1, 0, 0, 0), (37, .getfield 67, 3, 6, 4, 8), (40, .ifCond .eq 21, 3, 31, 0, 0), (43, .aload_n 0, 1, 0, 0, 0),
  (44, .getfield 26, 3, 1, 2, 6), (47, .aload_n 2, 1, 0, 0, 0), (48, .getfield 271, 3, 3, 2, 37), (51, .aload_n 2, 1, 0, 0, 0), (52, .getfield 268, 3, 3, 3, 36), (55, .invokevirtual 274, 3, 60, 0, 37), (58, .ifCond .eq 18, 3, 40, 0, 0), (61, .aload_n 0, 1, 0, 0, 0),
  (62, .getfield 26, 3, 1, 2, 6), (65, .dup, 1, 0, 0, 0), (66, .getfield 277, 3, 4, 5, 38), (69, .iconst 1, 1, 0, 0, 0), (70, .iadd, 1, 0, 0, 0), (71, .putfield 277, 3, 4, 5, 38), (74, .iconst 0, 1, 0, 0, 0), (75, .ireturn, 1, 0, 0, 0),
  (76, .aload_n 2, 1, 0, 0, 0), (77, .getfield 280, 3, 3, 4, 39), (80, .aload_n 3, 1, 0, 0, 0), (81, .getfield 74, 3, 6, 5, 10), (84, .if_icmp .le 18, 3, 52, 0, 0), (87, .aload_n 2, 1, 0, 0, 0), (88, .invokevirtual 281, 3, 56, 0, 38), (91, .ifCond .eq 11, 3, 52, 0, 0),
  (94, .aload_n 3, 1, 0, 0, 0), (95, .aload_n 2, 1, 0, 0, 0), (96, .getfield 280, 3, 3, 4, 39), (99, .invokevirtual 284, 3, 95, 0, 39), (102, .iconst 0, 1, 0, 0, 0), (103, .istore 4, 2, 0, 0, 0), (105, .aload_n 2, 1, 0, 0, 0), (106, .getfield 287, 3, 3, 1, 40),
  (109, .tableswitch 138 1 7 #[43, 52, 78, 87, 111, 120, 129], 43, 0, 0, 0), (152, .aload_n 0, 1, 0, 0, 0), (153, .aload_n 3, 1, 0, 0, 0), (154, .aload_n 2, 1, 0, 0, 0), (155, .invokevirtual 290, 3, 42, 0, 40), (158, .goto 105, 3, 119, 0, 0), (161, .aload_n 0, 1, 0, 0, 0), (162, .aload_n 3, 1, 0, 0, 0),
  (163, .aload_n 2, 1, 0, 0, 0), (164, .iconst 1, 1, 0, 0, 0), (165, .aload_n 3, 1, 0, 0, 0), (166, .getfield 74, 3, 6, 5, 10), (169, .iconst 1, 1, 0, 0, 0), (170, .iadd, 1, 0, 0, 0), (171, .invokevirtual 294, 3, 44, 0, 41), (174, .ifCond .eq 7, 3, 74, 0, 0),
  (177, .iconst 2, 1, 0, 0, 0), (178, .goto 4, 3, 75, 0, 0), (181, .iconst 0, 1, 0, 0, 0), (182, .istore 4, 2, 0, 0, 0), (184, .goto 79, 3, 119, 0, 0), (187, .aload_n 0, 1, 0, 0, 0), (188, .aload_n 3, 1, 0, 0, 0), (189, .aload_n 2, 1, 0, 0, 0),
  (190, .invokevirtual 298, 3, 43, 0, 42), (193, .goto 70, 3, 119, 0, 0), (196, .aload_n 0, 1, 0, 0, 0), (197, .aload_n 3, 1, 0, 0, 0), (198, .aload_n 2, 1, 0, 0, 0), (199, .iconst 2, 1, 0, 0, 0), (200, .aload_n 3, 1, 0, 0, 0), (201, .getfield 74, 3, 6, 5, 10),
  (204, .invokevirtual 294, 3, 44, 0, 41), (207, .ifCond .eq 7, 3, 92, 0, 0), (210, .iconst 3, 1, 0, 0, 0), (211, .goto 4, 3, 93, 0, 0), (214, .iconst 0, 1, 0, 0, 0), (215, .istore 4, 2, 0, 0, 0), (217, .goto 46, 3, 119, 0, 0), (220, .aload_n 0, 1, 0, 0, 0),
  (221, .aload_n 3, 1, 0, 0, 0), (222, .aload_n 2, 1, 0, 0, 0), (223, .invokevirtual 301, 3, 45, 0, 43), (226, .goto 37, 3, 119, 0, 0), (229, .aload_n 0, 1, 0, 0, 0), (230, .aload_n 3, 1, 0, 0, 0), (231, .aload_n 2, 1, 0, 0, 0), (232, .invokevirtual 304, 3, 47, 0, 44),
  (235, .goto 28, 3, 119, 0, 0), (238, .aload_n 0, 1, 0, 0, 0), (239, .aload_n 3, 1, 0, 0, 0), (240, .aload_n 2, 1, 0, 0, 0), (241, .invokevirtual 307, 3, 46, 0, 45), (244, .goto 19, 3, 119, 0, 0), (247, .aload_n 0, 1, 0, 0, 0), (248, .aload_n 3, 1, 0, 0, 0),
  (249, .aload_n 2, 1, 0, 0, 0), (250, .invokevirtual 310, 3, 48, 0, 46), (253, .ifCond .eq 7, 3, 117, 0, 0), (256, .iconst 2, 1, 0, 0, 0), (257, .goto 4, 3, 118, 0, 0), (260, .iconst 0, 1, 0, 0, 0), (261, .istore 4, 2, 0, 0, 0), (263, .aload_n 0, 1, 0, 0, 0),
  (264, .aload_n 3, 1, 0, 0, 0), (265, .iload 4, 2, 0, 0, 0), (267, .invokevirtual 162, 3, 32, 0, 20), (270, .iconst 1, 1, 0, 0, 0), (271, .ireturn, 1, 0, 0, 0)]
set_option maxRecDepth 100000 in
noncomputable def rw_31 : List PRow := [
  (0, .aload_n 0, 1, 0, 0, 0), (1, .getfield 26, 3, 1, 2, 6), (4, .iload_n 1, 1, 0, 0, 0), (5, .aload_n 2, 1, 0, 0, 0), (6, .getfield 268, 3, 3, 3, 36), (9, .aload_n 2, 1, 0, 0, 0), (10, .getfield 271, 3, 3, 2, 37), (13, .iload_n 3, 1, 0, 0, 0),
  (14, .invokevirtual 199, 3, 62, 0, 29), (17, .astore 6, 2, 0, 0, 0), (19, .aload 6, 2, 0, 0, 0), (21, .ifnull 17, 3, 18, 0, 0), (24, .aload 6, 2, 0, 0, 0), (26, .iload 4, 2, 0, 0, 0), (28, .putfield 314, 3, 3, 5, 41), (31, .aload 6, 2, 0, 0, 0),
  (33, .iload 5, 2, 0, 0, 0), (35, .putfield 203, 3, 3, 6, 19), (38, .return_, 1, 0, 0, 0)]
set_option maxRecDepth 100000 in
noncomputable def rw_32 : List PRow := [
  (0, .aload_n 1, 1, 0, 0, 0), (1, .getfield 136, 3, 6, 13, 28), (4, .iconst (-1), 1, 0, 0, 0), (5, .if_icmp .eq 11, 3, 8, 0, 0), (8, .aload_n 1, 1, 0, 0, 0), (9, .getfield 156, 3, 6, 14, 15), (12, .iconst 4, 1, 0, 0, 0), (13, .if_icmp .lt 7, 3, 10, 0, 0),
  (16, .iconst 1, 1, 0, 0, 0), (17, .goto 4, 3, 11, 0, 0), (20, .iconst 0, 1, 0, 0, 0), (21, .istore_n 3, 1, 0, 0, 0), (22, .aload_n 2, 1, 0, 0, 0), (23, .getfield 280, 3, 3, 4, 39), (26, .aload_n 1, 1, 0, 0, 0), (27, .getfield 74, 3, 6, 5, 10),
  (30, .if_icmp .le 34, 3, 32, 0, 0), (33, .aload_n 1, 1, 0, 0, 0), (34, .aload_n 2, 1, 0, 0, 0), (35, .getfield 206, 3, 3, 7, 20), (38, .aload_n 2, 1, 0, 0, 0), (39, .getfield 203, 3, 3, 6, 19), (42, .invokevirtual 102, 3, 82, 0, 16), (45, .ifCond .eq 19, 3, 32, 0, 0),
  (48, .aload_n 1, 1, 0, 0, 0), (49, .getfield 71, 3, 6, 12, 9), (52, .iconst 3, 1, 0, 0, 0), (53, .if_icmp .eq 11, 3, 32, 0, 0), (56, .iload_n 3, 1, 0, 0, 0), (57, .ifCond .eq 7, 3, 32, 0, 0), (60, .iconst 1, 1, 0, 0, 0), (61, .goto 4, 3, 33, 0, 0),
  (64, .iconst 0, 1, 0, 0, 0), (65, .istore 4, 2, 0, 0, 0), (67, .aload_n 0, 1, 0, 0, 0), (68, .iconst 2, 1, 0, 0, 0), (69, .aload_n 2, 1, 0, 0, 0), (70, .iload 4, 2, 0, 0, 0), (72, .ifCond .eq 10, 3, 42, 0, 0), (75, .aload_n 2, 1, 0, 0, 0),
  (76, .getfield 280, 3, 3, 4, 39), (79, .goto 7, 3, 44, 0, 0), (82, .aload_n 1, 1, 0, 0, 0), (83, .getfield 74, 3, 6, 5, 10), (86, .iload 4, 2, 0, 0, 0), (88, .iconst 0, 1, 0, 0, 0), (89, .invokevirtual 317, 3, 41, 0, 47), (92, .return_, 1, 0, 0, 0)]
set_option maxRecDepth 100000 in
noncomputable def rw_33 : List PRow := [
  (0, .aload_n 1, 1, 0, 0, 0), (1, .getfield 196, 3, 6, 6, 18), (4, .iconst (-1), 1, 0, 0, 0), (5, .if_icmp .eq 14, 3, 9, 0, 0), (8, .aload_n 1, 1, 0, 0, 0), (9, .getfield 196, 3, 6, 6, 18), (12, .aload_n 2, 1, 0, 0, 0), (13, .getfield 271, 3, 3, 2, 37),
  (16, .if_icmp .ne 7, 3, 11, 0, 0), (19, .iconst 1, 1, 0, 0, 0), (20, .goto 4, 3, 12, 0, 0), (23, .iconst 0, 1, 0, 0, 0), (24, .istore_n 3, 1, 0, 0, 0), (25, .aload_n 2, 1, 0, 0, 0), (26, .getfield 280, 3, 3, 4, 39), (29, .aload_n 1, 1, 0, 0, 0),
  (30, .getfield 74, 3, 6, 5, 10), (33, .if_icmp .ne 26, 3, 29, 0, 0), (36, .iload_n 3, 1, 0, 0, 0), (37, .ifCond .eq 22, 3, 29, 0, 0), (40, .aload_n 1, 1, 0, 0, 0), (41, .aload_n 2, 1, 0, 0, 0), (42, .getfield 206, 3, 3, 7, 20), (45, .aload_n 2, 1, 0, 0, 0),
  (46, .getfield 203, 3, 3, 6, 19), (49, .invokevirtual 102, 3, 82, 0, 16), (52, .ifCond .eq 7, 3, 29, 0, 0), (55, .iconst 1, 1, 0, 0, 0), (56, .goto 4, 3, 30, 0, 0), (59, .iconst 0, 1, 0, 0, 0), (60, .istore 4, 2, 0, 0, 0), (62, .iload 4, 2, 0, 0, 0),
  (64, .ifCond .eq 16, 3, 40, 0, 0), (67, .aload_n 1, 1, 0, 0, 0), (68, .aload_n 2, 1, 0, 0, 0), (69, .getfield 271, 3, 3, 2, 37), (72, .putfield 196, 3, 6, 6, 18), (75, .aload_n 1, 1, 0, 0, 0), (76, .iconst 0, 1, 0, 0, 0), (77, .putfield 156, 3, 6, 14, 15),
  (80, .aload_n 0, 1, 0, 0, 0), (81, .iconst 4, 1, 0, 0, 0), (82, .aload_n 2, 1, 0, 0, 0), (83, .aload_n 1, 1, 0, 0, 0), (84, .getfield 74, 3, 6, 5, 10), (87, .iload 4, 2, 0, 0, 0), (89, .iconst 0, 1, 0, 0, 0), (90, .invokevirtual 317, 3, 41, 0, 47),
  (93, .return_, 1, 0, 0, 0)]
set_option maxRecDepth 100000 in
noncomputable def rw_34 : List PRow := [
  (0, .aload_n 2, 1, 0, 0, 0), (1, .getfield 314, 3, 3, 5, 41), (4, .ifCond .eq 20, 3, 11, 0, 0), (7, .aload_n 1, 1, 0, 0, 0), (8, .getfield 71, 3, 6, 12, 9), (11, .iload_n 3, 1, 0, 0, 0), (12, .if_icmp .ne 12, 3, 11, 0, 0), (15, .aload_n 2, 1, 0, 0, 0),
  (16, .getfield 280, 3, 3, 4, 39), (19, .iload 4, 2, 0, 0, 0), (21, .if_icmp .eq 5, 3, 13, 0, 0), (24, .iconst 0, 1, 0, 0, 0), (25, .ireturn, 1, 0, 0, 0), (26, .aload_n 1, 1, 0, 0, 0), (27, .dup, 1, 0, 0, 0), (28, .getfield 321, 3, 6, 16, 42),
  (31, .iconst 1, 1, 0, 0, 0), (32, .aload_n 2, 1, 0, 0, 0), (33, .getfield 271, 3, 3, 2, 37), (36, .ishl, 1, 0, 0, 0), (37, .ior, 1, 0, 0, 0), (38, .putfield 321, 3, 6, 16, 42), (41, .aload_n 1, 1, 0, 0, 0), (42, .invokevirtual 189, 3, 78, 0, 27),
  (45, .ireturn, 1, 0, 0, 0)]
set_option maxRecDepth 100000 in
noncomputable def rw_35 : List PRow := [
  (0, .aload_n 2, 1, 0, 0, 0), (1, .getfield 280, 3, 3, 4, 39), (4, .aload_n 1, 1, 0, 0, 0), (5, .getfield 74, 3, 6, 5, 10), (8, .if_icmp .ge 17, 3, 14, 0, 0), (11, .aload_n 0, 1, 0, 0, 0), (12, .bipush 6, 2, 0, 0, 0), (14, .aload_n 2, 1, 0, 0, 0),
  (15, .aload_n 1, 1, 0, 0, 0), (16, .getfield 74, 3, 6, 5, 10), (19, .iconst 0, 1, 0, 0, 0), (20, .iconst 0, 1, 0, 0, 0), (21, .invokevirtual 317, 3, 41, 0, 47), (24, .return_, 1, 0, 0, 0), (25, .aload_n 1, 1, 0, 0, 0), (26, .aload_n 2, 1, 0, 0, 0),
  (27, .getfield 271, 3, 3, 2, 37), (30, .invokevirtual 324, 3, 96, 0, 48), (33, .aload_n 1, 1, 0, 0, 0), (34, .aload_n 2, 1, 0, 0, 0), (35, .getfield 203, 3, 3, 6, 19), (38, .aload_n 2, 1, 0, 0, 0), (39, .getfield 206, 3, 3, 7, 20), (42, .invokevirtual 327, 3, 92, 0, 49),
  (45, .ifCond .ne 24, 3, 37, 0, 0), (48, .aload_n 0, 1, 0, 0, 0), (49, .bipush 6, 2, 0, 0, 0), (51, .aload_n 2, 1, 0, 0, 0), (52, .aload_n 1, 1, 0, 0, 0), (53, .getfield 74, 3, 6, 5, 10), (56, .iconst 0, 1, 0, 0, 0), (57, .aload_n 1, 1, 0, 0, 0),
  (58, .aload_n 2, 1, 0, 0, 0), (59, .getfield 203, 3, 3, 6, 19), (62, .invokevirtual 330, 3, 93, 0, 50), (65, .invokevirtual 317, 3, 41, 0, 47), (68, .return_, 1, 0, 0, 0), (69, .iconst 0, 1, 0, 0, 0), (70, .istore_n 3, 1, 0, 0, 0), (71, .iload_n 3, 1, 0, 0, 0),
  (72, .aload_n 2, 1, 0, 0, 0), (73, .getfield 217, 3, 3, 9, 25), (76, .if_icmp .ge 41, 3, 64, 0, 0), (79, .iload_n 3, 1, 0, 0, 0), (80, .iconst 4, 1, 0, 0, 0), (81, .if_icmp .ge 36, 3, 64, 0, 0), (84, .aload_n 2, 1, 0, 0, 0), (85, .getfield 218, 3, 3, 0, 26),
  (88, .iload_n 3, 1, 0, 0, 0), (89, .aaload, 1, 0, 0, 0), (90, .astore 4, 2, 0, 0, 0), (92, .aload 4, 2, 0, 0, 0), (94, .ifnull 17, 3, 62, 0, 0), (97, .aload_n 1, 1, 0, 0, 0), (98, .aload_n 2, 1, 0, 0, 0), (99, .getfield 203, 3, 3, 6, 19),
  (102, .iconst 1, 1, 0, 0, 0), (103, .iadd, 1, 0, 0, 0), (104, .iload_n 3, 1, 0, 0, 0), (105, .iadd, 1, 0, 0, 0), (106, .aload 4, 2, 0, 0, 0), (108, .invokevirtual 333, 3, 94, 0, 51), (111, .iinc 3 1, 3, 0, 0, 0), (114, .goto (-43), 3, 39, 0, 0),
  (117, .aload_n 2, 1, 0, 0, 0), (118, .getfield 203, 3, 3, 6, 19), (121, .aload_n 2, 1, 0, 0, 0), (122, .getfield 217, 3, 3, 9, 25), (125, .iadd, 1, 0, 0, 0), (126, .istore_n 3, 1, 0, 0, 0), (127, .aload_n 0, 1, 0, 0, 0), (128, .aload_n 1, 1, 0, 0, 0),
  (129, .aload_n 2, 1, 0, 0, 0), (130, .getfield 216, 3, 3, 8, 24), (133, .iload_n 3, 1, 0, 0, 0), (134, .invokestatic 337, 3, 3, 0, 52), (137, .invokevirtual 229, 3, 39, 0, 33), (140, .aload_n 0, 1, 0, 0, 0), (141, .bipush 6, 2, 0, 0, 0), (143, .aload_n 2, 1, 0, 0, 0),
  (144, .aload_n 1, 1, 0, 0, 0), (145, .getfield 74, 3, 6, 5, 10), (148, .iconst 1, 1, 0, 0, 0), (149, .iload_n 3, 1, 0, 0, 0), (150, .invokevirtual 317, 3, 41, 0, 47), (153, .return_, 1, 0, 0, 0)]
set_option maxRecDepth 100000 in
noncomputable def rw_36 : List PRow := [
  (0, .aload_n 2, 1, 0, 0, 0), (1, .getfield 280, 3, 3, 4, 39), (4, .aload_n 1, 1, 0, 0, 0), (5, .getfield 74, 3, 6, 5, 10), (8, .if_icmp .ge 17, 3, 14, 0, 0), (11, .aload_n 0, 1, 0, 0, 0), (12, .bipush 6, 2, 0, 0, 0), (14, .aload_n 2, 1, 0, 0, 0),
  (15, .aload_n 1, 1, 0, 0, 0), (16, .getfield 74, 3, 6, 5, 10), (19, .iconst 0, 1, 0, 0, 0), (20, .iconst 0, 1, 0, 0, 0), (21, .invokevirtual 317, 3, 41, 0, 47), (24, .return_, 1, 0, 0, 0), (25, .aload_n 1, 1, 0, 0, 0), (26, .aload_n 2, 1, 0, 0, 0),
  (27, .getfield 271, 3, 3, 2, 37), (30, .invokevirtual 324, 3, 96, 0, 48), (33, .aload_n 2, 1, 0, 0, 0), (34, .getfield 215, 3, 3, 10, 22), (37, .astore_n 3, 1, 0, 0, 0), (38, .aload_n 3, 1, 0, 0, 0), (39, .ifnull 19, 3, 31, 0, 0), (42, .aload_n 3, 1, 0, 0, 0),
  (43, .getfield 88, 3, 7, 0, 13), (46, .aload_n 1, 1, 0, 0, 0), (47, .getfield 143, 3, 6, 15, 23), (50, .if_icmp .le 8, 3, 31, 0, 0), (53, .aload_n 1, 1, 0, 0, 0), (54, .aload_n 3, 1, 0, 0, 0), (55, .invokevirtual 343, 3, 89, 0, 53), (58, .aload_n 0, 1, 0, 0, 0),
  (59, .bipush 6, 2, 0, 0, 0), (61, .aload_n 2, 1, 0, 0, 0), (62, .aload_n 1, 1, 0, 0, 0), (63, .getfield 74, 3, 6, 5, 10), (66, .iconst 1, 1, 0, 0, 0), (67, .aload_n 2, 1, 0, 0, 0), (68, .getfield 203, 3, 3, 6, 19), (71, .invokevirtual 317, 3, 41, 0, 47),
  (74, .return_, 1, 0, 0, 0)]
set_option maxRecDepth 100000 in
noncomputable def rw_37 : List PRow := [
  (0, .aload_n 1, 1, 0, 0, 0), (1, .getfield 71, 3, 6, 12, 9), (4, .iconst 3, 1, 0, 0, 0), (5, .if_icmp .ne 14, 3, 9, 0, 0), (8, .aload_n 2, 1, 0, 0, 0), (9, .getfield 280, 3, 3, 4, 39), (12, .aload_n 1, 1, 0, 0, 0), (13, .getfield 74, 3, 6, 5, 10),
  (16, .if_icmp .eq 4, 3, 10, 0, 0), (19, .return_, 1, 0, 0, 0), (20, .aload_n 2, 1, 0, 0, 0), (21, .getfield 314, 3, 3, 5, 41), (24, .ifCond .ne 40, 3, 34, 0, 0), (27, .aload_n 1, 1, 0, 0, 0), (28, .getfield 212, 3, 6, 2, 21), (31, .aload_n 2, 1, 0, 0, 0),
  (32, .getfield 271, 3, 3, 2, 37), (35, .aload_n 2, 1, 0, 0, 0), (36, .getfield 203, 3, 3, 6, 19), (39, .aload_n 1, 1, 0, 0, 0), (40, .getfield 346, 3, 6, 3, 43), (43, .aload_n 2, 1, 0, 0, 0), (44, .getfield 271, 3, 3, 2, 37), (47, .iaload, 1, 0, 0, 0),
  (48, .invokestatic 349, 3, 2, 0, 54), (51, .iconst 1, 1, 0, 0, 0), (52, .iadd, 1, 0, 0, 0), (53, .iastore, 1, 0, 0, 0), (54, .aload_n 0, 1, 0, 0, 0), (55, .aload_n 1, 1, 0, 0, 0), (56, .aload_n 2, 1, 0, 0, 0), (57, .getfield 271, 3, 3, 2, 37),
  (60, .invokevirtual 209, 3, 37, 0, 30), (63, .return_, 1, 0, 0, 0), (64, .aload_n 1, 1, 0, 0, 0), (65, .aload_n 2, 1, 0, 0, 0), (66, .getfield 271, 3, 3, 2, 37), (69, .aload_n 2, 1, 0, 0, 0), (70, .getfield 203, 3, 3, 6, 19), (73, .invokevirtual 352, 3, 99, 0, 55),
  (76, .aload_n 0, 1, 0, 0, 0), (77, .aload_n 1, 1, 0, 0, 0), (78, .invokevirtual 181, 3, 38, 0, 25), (81, .aload_n 1, 1, 0, 0, 0), (82, .getfield 71, 3, 6, 12, 9), (85, .iconst 3, 1, 0, 0, 0), (86, .if_icmp .ne 28, 3, 60, 0, 0), (89, .aload_n 1, 1, 0, 0, 0),
  (90, .getfield 212, 3, 6, 2, 21), (93, .aload_n 2, 1, 0, 0, 0), (94, .getfield 271, 3, 3, 2, 37), (97, .iaload, 1, 0, 0, 0), (98, .aload_n 1, 1, 0, 0, 0), (99, .invokevirtual 99, 3, 72, 0, 15), (102, .if_icmp .gt 12, 3, 60, 0, 0), (105, .aload_n 0, 1, 0, 0, 0),
  (106, .aload_n 1, 1, 0, 0, 0), (107, .aload_n 2, 1, 0, 0, 0), (108, .getfield 271, 3, 3, 2, 37), (111, .invokevirtual 209, 3, 37, 0, 30), (114, .return_, 1, 0, 0, 0)]
set_option maxRecDepth 100000 in
noncomputable def rw_38 : List PRow := [
  (0, .aload_n 2, 1, 0, 0, 0), (1, .getfield 280, 3, 3, 4, 39), (4, .aload_n 1, 1, 0, 0, 0), (5, .getfield 74, 3, 6, 5, 10), (8, .if_icmp .ne 31, 3, 18, 0, 0), (11, .aload_n 1, 1, 0, 0, 0), (12, .getfield 71, 3, 6, 12, 9), (15, .iconst 3, 1, 0, 0, 0),
  (16, .if_icmp .eq 23, 3, 18, 0, 0), (19, .aload_n 1, 1, 0, 0, 0), (20, .invokevirtual 153, 3, 77, 0, 18), (23, .ifCond .eq 16, 3, 18, 0, 0), (26, .aload_n 1, 1, 0, 0, 0), (27, .getfield 184, 3, 6, 8, 17), (30, .bipush 48, 2, 0, 0, 0), (32, .if_icmp .ge 7, 3, 18, 0, 0),
  (35, .iconst 1, 1, 0, 0, 0), (36, .goto 4, 3, 19, 0, 0), (39, .iconst 0, 1, 0, 0, 0), (40, .ireturn, 1, 0, 0, 0)]
set_option maxRecDepth 100000 in
noncomputable def rw_39 : List PRow := [
  (0, .aload_n 0, 1, 0, 0, 0), (1, .invokespecial 3, 3, 0, 1, 56), (4, .aload_n 0, 1, 0, 0, 0), (5, .iload_n 1, 1, 0, 0, 0), (6, .putfield 9, 3, 2, 0, 44), (9, .aload_n 0, 1, 0, 0, 0), (10, .iload_n 2, 1, 0, 0, 0), (11, .putfield 15, 3, 2, 1, 45),
  (14, .aload_n 0, 1, 0, 0, 0), (15, .aload_n 3, 1, 0, 0, 0), (16, .putfield 18, 3, 2, 2, 46), (19, .aload_n 0, 1, 0, 0, 0), (20, .iload 4, 2, 0, 0, 0), (22, .putfield 22, 3, 2, 3, 47), (25, .return_, 1, 0, 0, 0)]
set_option maxRecDepth 100000 in
noncomputable def rw_40 : List PRow := [
  (0, .aload_n 0, 1, 0, 0, 0), (1, .getfield 18, 3, 2, 2, 46), (4, .ifnull 11, 3, 7, 0, 0), (7, .aload_n 0, 1, 0, 0, 0), (8, .getfield 18, 3, 2, 2, 46), (11, .getfield 25, 3, 5, 5, 48), (14, .ireturn, 1, 0, 0, 0), (15, .aload_n 0, 1, 0, 0, 0),
  (16, .getfield 15, 3, 2, 1, 45), (19, .iconst 4, 1, 0, 0, 0), (20, .if_icmp .ne 13, 3, 15, 0, 0), (23, .aload_n 0, 1, 0, 0, 0), (24, .getfield 22, 3, 2, 3, 47), (27, .invokestatic 30, 3, 389, 0, 57), (30, .goto 4, 3, 16, 0, 0), (33, .iconst 0, 1, 0, 0, 0),
  (34, .ireturn, 1, 0, 0, 0)]
set_option maxRecDepth 100000 in
noncomputable def rw_41 : List PRow := [
  (0, .aload_n 0, 1, 0, 0, 0), (1, .getfield 18, 3, 2, 2, 46), (4, .ifnonnull 7, 3, 5, 0, 0), (7, .iconst (-1), 1, 0, 0, 0), (8, .goto 10, 3, 8, 0, 0), (11, .aload_n 0, 1, 0, 0, 0), (12, .getfield 18, 3, 2, 2, 46), (15, .getfield 36, 3, 5, 0, 49),
  (18, .ireturn, 1, 0, 0, 0)]
set_option maxRecDepth 100000 in
noncomputable def rw_42 : List PRow := [
  (0, .aload_n 0, 1, 0, 0, 0), (1, .getfield 18, 3, 2, 2, 46), (4, .ifnonnull 7, 3, 5, 0, 0), (7, .iconst 0, 1, 0, 0, 0), (8, .goto 10, 3, 8, 0, 0), (11, .aload_n 0, 1, 0, 0, 0), (12, .getfield 18, 3, 2, 2, 46), (15, .getfield 39, 3, 5, 1, 50),
  (18, .ireturn, 1, 0, 0, 0)]
set_option maxRecDepth 100000 in
noncomputable def rw_43 : List PRow := [
  (0, .aload_n 0, 1, 0, 0, 0), (1, .invokespecial 3, 3, 0, 1, 58), (4, .aload_n 0, 1, 0, 0, 0), (5, .iconst 4, 1, 0, 0, 0), (6, .anewarray 9, 3, 16, 0, 7), (9, .putfield 11, 3, 3, 0, 51), (12, .return_, 1, 0, 0, 0)]
set_option maxRecDepth 100000 in
noncomputable def rw_44 : List PRow := [
  (0, .aload_n 0, 1, 0, 0, 0), (1, .aload_n 1, 1, 0, 0, 0), (2, .getfield 17, 3, 3, 1, 52), (5, .putfield 17, 3, 3, 1, 52), (8, .aload_n 0, 1, 0, 0, 0), (9, .aload_n 1, 1, 0, 0, 0), (10, .getfield 21, 3, 3, 2, 53), (13, .putfield 21, 3, 3, 2, 53),
  (16, .aload_n 0, 1, 0, 0, 0), (17, .aload_n 1, 1, 0, 0, 0), (18, .getfield 24, 3, 3, 3, 54), (21, .putfield 24, 3, 3, 3, 54), (24, .aload_n 0, 1, 0, 0, 0), (25, .aload_n 1, 1, 0, 0, 0), (26, .getfield 27, 3, 3, 4, 55), (29, .putfield 27, 3, 3, 4, 55),
  (32, .aload_n 0, 1, 0, 0, 0), (33, .aload_n 1, 1, 0, 0, 0), (34, .getfield 30, 3, 3, 5, 56), (37, .putfield 30, 3, 3, 5, 56), (40, .aload_n 0, 1, 0, 0, 0), (41, .aload_n 1, 1, 0, 0, 0), (42, .getfield 34, 3, 3, 6, 57), (45, .putfield 34, 3, 3, 6, 57),
  (48, .aload_n 0, 1, 0, 0, 0), (49, .aload_n 1, 1, 0, 0, 0), (50, .getfield 37, 3, 3, 7, 58), (53, .putfield 37, 3, 3, 7, 58), (56, .aload_n 0, 1, 0, 0, 0), (57, .aload_n 1, 1, 0, 0, 0), (58, .getfield 40, 3, 3, 8, 59), (61, .putfield 40, 3, 3, 8, 59),
  (64, .aload_n 0, 1, 0, 0, 0), (65, .aload_n 1, 1, 0, 0, 0), (66, .getfield 43, 3, 3, 9, 60), (69, .putfield 43, 3, 3, 9, 60), (72, .aload_n 0, 1, 0, 0, 0), (73, .aload_n 1, 1, 0, 0, 0), (74, .getfield 46, 3, 3, 10, 61), (77, .putfield 46, 3, 3, 10, 61),
  (80, .iconst 0, 1, 0, 0, 0), (81, .istore_n 2, 1, 0, 0, 0), (82, .iload_n 2, 1, 0, 0, 0), (83, .iconst 4, 1, 0, 0, 0), (84, .if_icmp .ge 21, 3, 55, 0, 0), (87, .aload_n 0, 1, 0, 0, 0), (88, .getfield 11, 3, 3, 0, 51), (91, .iload_n 2, 1, 0, 0, 0),
  (92, .aload_n 1, 1, 0, 0, 0), (93, .getfield 11, 3, 3, 0, 51), (96, .iload_n 2, 1, 0, 0, 0), (97, .aaload, 1, 0, 0, 0), (98, .aastore, 1, 0, 0, 0), (99, .iinc 2 1, 3, 0, 0, 0), (102, .goto (-20), 3, 42, 0, 0), (105, .return_, 1, 0, 0, 0)]
set_option maxRecDepth 100000 in
noncomputable def rw_45 : List PRow := [
  (0, .aload_n 0, 1, 0, 0, 0), (1, .getfield 17, 3, 3, 1, 52), (4, .iconst 2, 1, 0, 0, 0), (5, .if_icmp .eq 11, 3, 8, 0, 0), (8, .aload_n 0, 1, 0, 0, 0), (9, .getfield 17, 3, 3, 1, 52), (12, .iconst 4, 1, 0, 0, 0), (13, .if_icmp .ne 16, 3, 15, 0, 0),
  (16, .aload_n 0, 1, 0, 0, 0), (17, .getfield 30, 3, 3, 5, 56), (20, .ifCond .eq 7, 3, 13, 0, 0), (23, .iconst 1, 1, 0, 0, 0), (24, .goto 4, 3, 14, 0, 0), (27, .iconst 0, 1, 0, 0, 0), (28, .ireturn, 1, 0, 0, 0), (29, .aload_n 0, 1, 0, 0, 0),
  (30, .getfield 34, 3, 3, 6, 57), (33, .aload_n 0, 1, 0, 0, 0), (34, .getfield 43, 3, 3, 9, 60), (37, .iadd, 1, 0, 0, 0), (38, .ireturn, 1, 0, 0, 0)]
set_option maxRecDepth 100000 in
noncomputable def rw_46 : List PRow := [
  (0, .aload_n 0, 1, 0, 0, 0), (1, .getfield 17, 3, 3, 1, 52), (4, .iconst 1, 1, 0, 0, 0), (5, .if_icmp .eq 22, 3, 13, 0, 0), (8, .aload_n 0, 1, 0, 0, 0), (9, .getfield 17, 3, 3, 1, 52), (12, .iconst 2, 1, 0, 0, 0), (13, .if_icmp .ne 10, 3, 11, 0, 0),
  (16, .aload_n 0, 1, 0, 0, 0), (17, .getfield 30, 3, 3, 5, 56), (20, .ifCond .ne 7, 3, 13, 0, 0), (23, .iconst 1, 1, 0, 0, 0), (24, .goto 4, 3, 14, 0, 0), (27, .iconst 0, 1, 0, 0, 0), (28, .ireturn, 1, 0, 0, 0)]
set_option maxRecDepth 100000 in
noncomputable def rw_47 : List PRow := [
  (0, .aload_n 0, 1, 0, 0, 0), (1, .invokespecial 3, 3, 0, 1, 59), (4, .aload_n 0, 1, 0, 0, 0), (5, .bipush 60, 2, 0, 0, 0), (7, .anewarray 9, 3, 17, 0, 8), (10, .putfield 11, 3, 4, 0, 62), (13, .aload_n 0, 1, 0, 0, 0), (14, .bipush 7, 2, 0, 0, 0),
  (16, .newarray .int, 2, 0, 0, 0), (18, .putfield 17, 3, 4, 1, 63), (21, .aload_n 0, 1, 0, 0, 0), (22, .new 9, 3, 3, 0, 9), (25, .dup, 1, 0, 0, 0), (26, .invokespecial 21, 3, 53, 1, 60), (29, .putfield 22, 3, 4, 2, 64), (32, .iconst 0, 1, 0, 0, 0),
  (33, .istore_n 1, 1, 0, 0, 0), (34, .iload_n 1, 1, 0, 0, 0), (35, .bipush 60, 2, 0, 0, 0), (37, .if_icmp .ge 22, 3, 29, 0, 0), (40, .aload_n 0, 1, 0, 0, 0), (41, .getfield 11, 3, 4, 0, 62), (44, .iload_n 1, 1, 0, 0, 0), (45, .new 9, 3, 3, 0, 9),
  (48, .dup, 1, 0, 0, 0), (49, .invokespecial 21, 3, 53, 1, 60), (52, .aastore, 1, 0, 0, 0), (53, .iinc 1 1, 3, 0, 0, 0), (56, .goto (-22), 3, 17, 0, 0), (59, .return_, 1, 0, 0, 0)]
set_option maxRecDepth 100000 in
noncomputable def rw_48 : List PRow := [
  (0, .aload_n 0, 1, 0, 0, 0), (1, .getfield 17, 3, 4, 1, 63), (4, .iconst 0, 1, 0, 0, 0), (5, .invokestatic 26, 3, 390, 0, 61), (8, .aload_n 0, 1, 0, 0, 0), (9, .iconst 0, 1, 0, 0, 0), (10, .putfield 32, 3, 4, 3, 65), (13, .aload_n 0, 1, 0, 0, 0),
  (14, .iconst 0, 1, 0, 0, 0), (15, .putfield 36, 3, 4, 4, 66), (18, .aload_n 0, 1, 0, 0, 0), (19, .iconst 0, 1, 0, 0, 0), (20, .putfield 39, 3, 4, 5, 67), (23, .return_, 1, 0, 0, 0)]
set_option maxRecDepth 100000 in
noncomputable def rw_50 : List PRow := [
  (0, .aload_n 0, 1, 0, 0, 0), (1, .getfield 17, 3, 4, 1, 63), (4, .iload_n 1, 1, 0, 0, 0), (5, .iaload, 1, 0, 0, 0), (6, .iload_n 2, 1, 0, 0, 0), (7, .ishr, 1, 0, 0, 0), (8, .iconst 1, 1, 0, 0, 0), (9, .iand, 1, 0, 0, 0),
  (10, .iconst 1, 1, 0, 0, 0), (11, .if_icmp .ne 7, 3, 12, 0, 0), (14, .iconst 1, 1, 0, 0, 0), (15, .goto 4, 3, 13, 0, 0), (18, .iconst 0, 1, 0, 0, 0), (19, .ireturn, 1, 0, 0, 0)]
set_option maxRecDepth 100000 in
noncomputable def rw_51 : List PRow := [
  (0, .aload_n 0, 1, 0, 0, 0), (1, .getfield 17, 3, 4, 1, 63), (4, .iload_n 1, 1, 0, 0, 0), (5, .dup2, 1, 0, 0, 0), (6, .iaload, 1, 0, 0, 0), (7, .iconst 1, 1, 0, 0, 0), (8, .iload_n 2, 1, 0, 0, 0), (9, .ishl, 1, 0, 0, 0),
  (10, .ixor, 1, 0, 0, 0), (11, .iastore, 1, 0, 0, 0), (12, .aload_n 0, 1, 0, 0, 0), (13, .getfield 17, 3, 4, 1, 63), (16, .iload_n 2, 1, 0, 0, 0), (17, .dup2, 1, 0, 0, 0), (18, .iaload, 1, 0, 0, 0), (19, .iconst 1, 1, 0, 0, 0),
  (20, .iload_n 1, 1, 0, 0, 0), (21, .ishl, 1, 0, 0, 0), (22, .ixor, 1, 0, 0, 0), (23, .iastore, 1, 0, 0, 0), (24, .aload_n 0, 1, 0, 0, 0), (25, .dup, 1, 0, 0, 0), (26, .getfield 36, 3, 4, 4, 66), (29, .aload_n 0, 1, 0, 0, 0),
  (30, .iload_n 1, 1, 0, 0, 0), (31, .iload_n 2, 1, 0, 0, 0), (32, .invokevirtual 52, 3, 60, 0, 62), (35, .ifCond .eq 7, 3, 30, 0, 0), (38, .iconst 1, 1, 0, 0, 0), (39, .goto 4, 3, 31, 0, 0), (42, .iconst (-1), 1, 0, 0, 0), (43, .iadd, 1, 0, 0, 0),
  (44, .putfield 36, 3, 4, 4, 66), (47, .aload_n 0, 1, 0, 0, 0), (48, .getfield 36, 3, 4, 4, 66), (51, .ireturn, 1, 0, 0, 0)]
set_option maxRecDepth 100000 in
noncomputable def rw_52 : List PRow := [
  (0, .aload_n 0, 1, 0, 0, 0), (1, .getfield 32, 3, 4, 3, 65), (4, .bipush 60, 2, 0, 0, 0), (6, .if_icmp .lt 15, 3, 12, 0, 0), (9, .aload_n 0, 1, 0, 0, 0), (10, .dup, 1, 0, 0, 0), (11, .getfield 39, 3, 4, 5, 67), (14, .iconst 1, 1, 0, 0, 0),
  (15, .iadd, 1, 0, 0, 0), (16, .putfield 39, 3, 4, 5, 67), (19, .aconst_null, 1, 0, 0, 0), (20, .areturn, 1, 0, 0, 0), (21, .aload_n 0, 1, 0, 0, 0), (22, .getfield 11, 3, 4, 0, 62), (25, .aload_n 0, 1, 0, 0, 0), (26, .getfield 32, 3, 4, 3, 65),
  (29, .aaload, 1, 0, 0, 0), (30, .astore 5, 2, 0, 0, 0), (32, .aload_n 0, 1, 0, 0, 0), (33, .dup, 1, 0, 0, 0), (34, .getfield 32, 3, 4, 3, 65), (37, .iconst 1, 1, 0, 0, 0), (38, .iadd, 1, 0, 0, 0), (39, .putfield 32, 3, 4, 3, 65),
  (42, .aload 5, 2, 0, 0, 0), (44, .iload_n 1, 1, 0, 0, 0), (45, .putfield 56, 3, 3, 1, 68), (48, .aload 5, 2, 0, 0, 0), (50, .iload_n 2, 1, 0, 0, 0), (51, .putfield 59, 3, 3, 2, 69), (54, .aload 5, 2, 0, 0, 0), (56, .iload_n 3, 1, 0, 0, 0),
  (57, .putfield 62, 3, 3, 3, 70), (60, .aload 5, 2, 0, 0, 0), (62, .iload 4, 2, 0, 0, 0), (64, .putfield 65, 3, 3, 4, 71), (67, .aload 5, 2, 0, 0, 0), (69, .iconst 0, 1, 0, 0, 0), (70, .putfield 68, 3, 3, 5, 72), (73, .aload 5, 2, 0, 0, 0),
  (75, .iconst 0, 1, 0, 0, 0), (76, .putfield 72, 3, 3, 6, 73), (79, .aload 5, 2, 0, 0, 0), (81, .iconst 0, 1, 0, 0, 0), (82, .putfield 75, 3, 3, 7, 74), (85, .aload 5, 2, 0, 0, 0), (87, .iconst 0, 1, 0, 0, 0), (88, .putfield 78, 3, 3, 8, 75),
  (91, .aload 5, 2, 0, 0, 0), (93, .iconst 0, 1, 0, 0, 0), (94, .putfield 81, 3, 3, 9, 76), (97, .aload 5, 2, 0, 0, 0), (99, .aconst_null, 1, 0, 0, 0), (100, .putfield 82, 3, 3, 10, 77), (103, .aload 5, 2, 0, 0, 0), (105, .areturn, 1, 0, 0, 0)]
set_option maxRecDepth 100000 in
noncomputable def rw_53 : List PRow := [
  (0, .aload_n 0, 1, 0, 0, 0), (1, .getfield 32, 3, 4, 3, 65), (4, .bipush 60, 2, 0, 0, 0), (6, .if_icmp .ge 39, 3, 24, 0, 0), (9, .iload_n 1, 1, 0, 0, 0), (10, .aload_n 0, 1, 0, 0, 0), (11, .getfield 32, 3, 4, 3, 65), (14, .if_icmp .ge 31, 3, 24, 0, 0),
  (17, .aload_n 0, 1, 0, 0, 0), (18, .getfield 11, 3, 4, 0, 62), (21, .aload_n 0, 1, 0, 0, 0), (22, .getfield 32, 3, 4, 3, 65), (25, .aaload, 1, 0, 0, 0), (26, .aload_n 0, 1, 0, 0, 0), (27, .getfield 11, 3, 4, 0, 62), (30, .iload_n 1, 1, 0, 0, 0),
  (31, .aaload, 1, 0, 0, 0), (32, .invokevirtual 48, 3, 54, 0, 63), (35, .aload_n 0, 1, 0, 0, 0), (36, .dup, 1, 0, 0, 0), (37, .getfield 32, 3, 4, 3, 65), (40, .iconst 1, 1, 0, 0, 0), (41, .iadd, 1, 0, 0, 0), (42, .putfield 32, 3, 4, 3, 65),
  (45, .aload_n 0, 1, 0, 0, 0), (46, .getfield 32, 3, 4, 3, 65), (49, .ireturn, 1, 0, 0, 0)]
set_option maxRecDepth 100000 in
noncomputable def rw_54 : List PRow := [
  (0, .aload_n 0, 1, 0, 0, 0), (1, .getfield 11, 3, 4, 0, 62), (4, .iload_n 1, 1, 0, 0, 0), (5, .aaload, 1, 0, 0, 0), (6, .astore_n 2, 1, 0, 0, 0), (7, .iload_n 1, 1, 0, 0, 0), (8, .iconst 1, 1, 0, 0, 0), (9, .iadd, 1, 0, 0, 0),
  (10, .istore_n 3, 1, 0, 0, 0), (11, .iload_n 3, 1, 0, 0, 0), (12, .aload_n 0, 1, 0, 0, 0), (13, .getfield 32, 3, 4, 3, 65), (16, .if_icmp .ge 23, 3, 25, 0, 0), (19, .aload_n 0, 1, 0, 0, 0), (20, .getfield 11, 3, 4, 0, 62), (23, .iload_n 3, 1, 0, 0, 0),
  (24, .iconst 1, 1, 0, 0, 0), (25, .isub, 1, 0, 0, 0), (26, .aload_n 0, 1, 0, 0, 0), (27, .getfield 11, 3, 4, 0, 62), (30, .iload_n 3, 1, 0, 0, 0), (31, .aaload, 1, 0, 0, 0), (32, .aastore, 1, 0, 0, 0), (33, .iinc 3 1, 3, 0, 0, 0),
  (36, .goto (-25), 3, 9, 0, 0), (39, .aload_n 0, 1, 0, 0, 0), (40, .dup, 1, 0, 0, 0), (41, .getfield 32, 3, 4, 3, 65), (44, .iconst 1, 1, 0, 0, 0), (45, .isub, 1, 0, 0, 0), (46, .putfield 32, 3, 4, 3, 65), (49, .aload_n 0, 1, 0, 0, 0),
  (50, .getfield 11, 3, 4, 0, 62), (53, .aload_n 0, 1, 0, 0, 0), (54, .getfield 32, 3, 4, 3, 65), (57, .aload_n 0, 1, 0, 0, 0), (58, .getfield 22, 3, 4, 2, 64), (61, .aastore, 1, 0, 0, 0), (62, .aload_n 0, 1, 0, 0, 0), (63, .aload_n 2, 1, 0, 0, 0),
  (64, .putfield 22, 3, 4, 2, 64), (67, .aload_n 2, 1, 0, 0, 0), (68, .areturn, 1, 0, 0, 0)]
set_option maxRecDepth 100000 in
noncomputable def rw_55 : List PRow := [
  (0, .aload_n 0, 1, 0, 0, 0), (1, .invokespecial 1, 3, 0, 1, 64), (4, .aload_n 0, 1, 0, 0, 0), (5, .iload_n 1, 1, 0, 0, 0), (6, .putfield 7, 3, 5, 0, 78), (9, .aload_n 0, 1, 0, 0, 0), (10, .iload_n 2, 1, 0, 0, 0), (11, .putfield 13, 3, 5, 1, 79),
  (14, .aload_n 0, 1, 0, 0, 0), (15, .iload_n 3, 1, 0, 0, 0), (16, .putfield 16, 3, 5, 2, 80), (19, .aload_n 0, 1, 0, 0, 0), (20, .iload 4, 2, 0, 0, 0), (22, .putfield 19, 3, 5, 3, 81), (25, .aload_n 0, 1, 0, 0, 0), (26, .iload 5, 2, 0, 0, 0),
  (28, .putfield 22, 3, 5, 4, 82), (31, .aload_n 0, 1, 0, 0, 0), (32, .iload 6, 2, 0, 0, 0), (34, .putfield 25, 3, 5, 5, 83), (37, .return_, 1, 0, 0, 0)]
set_option maxRecDepth 100000 in
noncomputable def rw_56 : List PRow := [
  (0, .aload_n 0, 1, 0, 0, 0), (1, .invokespecial 3, 3, 0, 1, 65), (4, .aload_n 0, 1, 0, 0, 0), (5, .new 9, 3, 8, 0, 10), (8, .dup, 1, 0, 0, 0), (9, .invokespecial 11, 3, 101, 1, 66), (12, .putfield 12, 3, 6, 1, 84), (15, .aload_n 0, 1, 0, 0, 0),
  (16, .bipush 7, 2, 0, 0, 0), (18, .newarray .int, 2, 0, 0, 0), (20, .putfield 18, 3, 6, 2, 85), (23, .aload_n 0, 1, 0, 0, 0), (24, .bipush 7, 2, 0, 0, 0), (26, .newarray .int, 2, 0, 0, 0), (28, .putfield 22, 3, 6, 3, 86), (31, .aload_n 0, 1, 0, 0, 0),
  (32, .bipush 64, 2, 0, 0, 0), (34, .anewarray 25, 3, 16, 0, 11), (37, .putfield 27, 3, 6, 7, 87), (40, .aload_n 0, 1, 0, 0, 0), (41, .iload_n 1, 1, 0, 0, 0), (42, .putfield 31, 3, 6, 0, 88), (45, .aload_n 0, 1, 0, 0, 0), (46, .aload_n 2, 1, 0, 0, 0),
  (47, .invokevirtual 35, 3, 67, 0, 67), (50, .return_, 1, 0, 0, 0)]
set_option maxRecDepth 100000 in
noncomputable def rw_57 : List PRow := [
  (0, .aload_n 0, 1, 0, 0, 0), (1, .iconst 1, 1, 0, 0, 0), (2, .putfield 39, 3, 6, 4, 89), (5, .aload_n 0, 1, 0, 0, 0), (6, .iconst 0, 1, 0, 0, 0), (7, .putfield 43, 3, 6, 5, 90), (10, .aload_n 0, 1, 0, 0, 0), (11, .iconst (-1), 1, 0, 0, 0),
  (12, .putfield 46, 3, 6, 6, 91), (15, .aload_n 0, 1, 0, 0, 0), (16, .iconst 0, 1, 0, 0, 0), (17, .putfield 49, 3, 6, 8, 92), (20, .aload_n 0, 1, 0, 0, 0), (21, .aload_n 1, 1, 0, 0, 0), (22, .putfield 52, 3, 6, 9, 93), (25, .aload_n 0, 1, 0, 0, 0),
  (26, .invokevirtual 56, 3, 86, 0, 68), (29, .aload_n 0, 1, 0, 0, 0), (30, .invokevirtual 59, 3, 68, 0, 69), (33, .return_, 1, 0, 0, 0)]
set_option maxRecDepth 100000 in
noncomputable def rw_58 : List PRow := [
  (0, .aload_n 0, 1, 0, 0, 0), (1, .iconst 0, 1, 0, 0, 0), (2, .putfield 62, 3, 6, 12, 94), (5, .aload_n 0, 1, 0, 0, 0), (6, .iconst (-1), 1, 0, 0, 0), (7, .putfield 65, 3, 6, 13, 95), (10, .aload_n 0, 1, 0, 0, 0), (11, .iconst 0, 1, 0, 0, 0),
  (12, .putfield 68, 3, 6, 14, 96), (15, .aload_n 0, 1, 0, 0, 0), (16, .aload_n 0, 1, 0, 0, 0), (17, .getfield 52, 3, 6, 9, 93), (20, .getfield 71, 3, 7, 0, 97), (23, .putfield 76, 3, 6, 15, 98), (26, .aload_n 0, 1, 0, 0, 0), (27, .getfield 12, 3, 6, 1, 84),
  (30, .aload_n 0, 1, 0, 0, 0), (31, .getfield 52, 3, 6, 9, 93), (34, .getfield 79, 3, 7, 3, 99), (37, .invokevirtual 80, 3, 102, 0, 70), (40, .return_, 1, 0, 0, 0)]
set_option maxRecDepth 100000 in
noncomputable def rw_59 : List PRow := [
  (0, .aload_n 0, 1, 0, 0, 0), (1, .iconst 0, 1, 0, 0, 0), (2, .putfield 39, 3, 6, 4, 89), (5, .aload_n 0, 1, 0, 0, 0), (6, .invokevirtual 59, 3, 68, 0, 69), (9, .return_, 1, 0, 0, 0)]
set_option maxRecDepth 100000 in
noncomputable def rw_61 : List PRow := [
  (0, .bipush 6, 2, 0, 0, 0), (2, .iconst 3, 1, 0, 0, 0), (3, .aload_n 0, 1, 0, 0, 0), (4, .getfield 31, 3, 6, 0, 88), (7, .imul, 1, 0, 0, 0), (8, .iconst 5, 1, 0, 0, 0), (9, .aload_n 0, 1, 0, 0, 0), (10, .getfield 43, 3, 6, 5, 90),
  (13, .imul, 1, 0, 0, 0), (14, .iadd, 1, 0, 0, 0), (15, .bipush 7, 2, 0, 0, 0), (17, .irem, 1, 0, 0, 0), (18, .iadd, 1, 0, 0, 0), (19, .ireturn, 1, 0, 0, 0)]
set_option maxRecDepth 100000 in
noncomputable def rw_62 : List PRow := [
  (0, .aload_n 0, 1, 0, 0, 0), (1, .getfield 52, 3, 6, 9, 93), (4, .getfield 71, 3, 7, 0, 97), (7, .aload_n 0, 1, 0, 0, 0), (8, .getfield 49, 3, 6, 8, 92), (11, .iadd, 1, 0, 0, 0), (12, .ireturn, 1, 0, 0, 0)]
set_option maxRecDepth 100000 in
noncomputable def rw_63 : List PRow := [
  (0, .aload_n 0, 1, 0, 0, 0), (1, .getfield 49, 3, 6, 8, 92), (4, .ifCond .le 32, 3, 18, 0, 0), (7, .aload_n 0, 1, 0, 0, 0), (8, .getfield 49, 3, 6, 8, 92), (11, .aload_n 0, 1, 0, 0, 0), (12, .getfield 27, 3, 6, 7, 87), (15, .arraylength, 1, 0, 0, 0),
  (16, .if_icmp .gt 20, 3, 18, 0, 0), (19, .aload_n 0, 1, 0, 0, 0), (20, .getfield 27, 3, 6, 7, 87), (23, .aload_n 0, 1, 0, 0, 0), (24, .getfield 49, 3, 6, 8, 92), (27, .iconst 1, 1, 0, 0, 0), (28, .isub, 1, 0, 0, 0), (29, .aaload, 1, 0, 0, 0),
  (30, .getfield 106, 3, 2, 0, 100), (33, .goto 10, 3, 21, 0, 0), (36, .aload_n 0, 1, 0, 0, 0), (37, .getfield 52, 3, 6, 9, 93), (40, .getfield 107, 3, 7, 1, 101), (43, .ireturn, 1, 0, 0, 0)]
set_option maxRecDepth 100000 in
noncomputable def rw_64 : List PRow := [
  (0, .iload_n 1, 1, 0, 0, 0), (1, .aload_n 0, 1, 0, 0, 0), (2, .getfield 52, 3, 6, 9, 93), (5, .getfield 71, 3, 7, 0, 97), (8, .if_icmp .le 19, 3, 13, 0, 0), (11, .iload_n 1, 1, 0, 0, 0), (12, .aload_n 0, 1, 0, 0, 0), (13, .getfield 52, 3, 6, 9, 93),
  (16, .getfield 71, 3, 7, 0, 97), (19, .aload_n 0, 1, 0, 0, 0), (20, .getfield 49, 3, 6, 8, 92), (23, .iadd, 1, 0, 0, 0), (24, .if_icmp .le 5, 3, 15, 0, 0), (27, .aconst_null, 1, 0, 0, 0), (28, .areturn, 1, 0, 0, 0), (29, .aload_n 0, 1, 0, 0, 0),
  (30, .getfield 27, 3, 6, 7, 87), (33, .iload_n 1, 1, 0, 0, 0), (34, .aload_n 0, 1, 0, 0, 0), (35, .getfield 52, 3, 6, 9, 93), (38, .getfield 71, 3, 7, 0, 97), (41, .isub, 1, 0, 0, 0), (42, .iconst 1, 1, 0, 0, 0), (43, .isub, 1, 0, 0, 0),
  (44, .aaload, 1, 0, 0, 0), (45, .areturn, 1, 0, 0, 0)]
set_option maxRecDepth 100000 in
noncomputable def rw_65 : List PRow := [
  (0, .iload_n 1, 1, 0, 0, 0), (1, .aload_n 0, 1, 0, 0, 0), (2, .getfield 52, 3, 6, 9, 93), (5, .getfield 71, 3, 7, 0, 97), (8, .if_icmp .lt 19, 3, 13, 0, 0), (11, .iload_n 1, 1, 0, 0, 0), (12, .aload_n 0, 1, 0, 0, 0), (13, .getfield 52, 3, 6, 9, 93),
  (16, .getfield 71, 3, 7, 0, 97), (19, .aload_n 0, 1, 0, 0, 0), (20, .getfield 49, 3, 6, 8, 92), (23, .iadd, 1, 0, 0, 0), (24, .if_icmp .le 5, 3, 15, 0, 0), (27, .iconst (-1), 1, 0, 0, 0), (28, .ireturn, 1, 0, 0, 0), (29, .iload_n 1, 1, 0, 0, 0),
  (30, .aload_n 0, 1, 0, 0, 0), (31, .getfield 52, 3, 6, 9, 93), (34, .getfield 71, 3, 7, 0, 97), (37, .if_icmp .ne 13, 3, 24, 0, 0), (40, .aload_n 0, 1, 0, 0, 0), (41, .getfield 52, 3, 6, 9, 93), (44, .getfield 107, 3, 7, 1, 101), (47, .goto 22, 3, 35, 0, 0),
  (50, .aload_n 0, 1, 0, 0, 0), (51, .getfield 27, 3, 6, 7, 87), (54, .iload_n 1, 1, 0, 0, 0), (55, .aload_n 0, 1, 0, 0, 0), (56, .getfield 52, 3, 6, 9, 93), (59, .getfield 71, 3, 7, 0, 97), (62, .isub, 1, 0, 0, 0), (63, .iconst 1, 1, 0, 0, 0),
  (64, .isub, 1, 0, 0, 0), (65, .aaload, 1, 0, 0, 0), (66, .getfield 106, 3, 2, 0, 100), (69, .ireturn, 1, 0, 0, 0)]
set_option maxRecDepth 100000 in
noncomputable def rw_66 : List PRow := [
  (0, .aload_n 0, 1, 0, 0, 0), (1, .getfield 100, 3, 6, 10, 102), (4, .iload_n 1, 1, 0, 0, 0), (5, .ishr, 1, 0, 0, 0), (6, .iconst 1, 1, 0, 0, 0), (7, .iand, 1, 0, 0, 0), (8, .iconst 1, 1, 0, 0, 0), (9, .if_icmp .ne 7, 3, 10, 0, 0),
  (12, .iconst 1, 1, 0, 0, 0), (13, .goto 4, 3, 11, 0, 0), (16, .iconst 0, 1, 0, 0, 0), (17, .ireturn, 1, 0, 0, 0)]
set_option maxRecDepth 100000 in
noncomputable def rw_67 : List PRow := [
  (0, .aload_n 0, 1, 0, 0, 0), (1, .getfield 100, 3, 6, 10, 102), (4, .aload_n 0, 1, 0, 0, 0), (5, .getfield 31, 3, 6, 0, 88), (8, .ishr, 1, 0, 0, 0), (9, .iconst 1, 1, 0, 0, 0), (10, .iand, 1, 0, 0, 0), (11, .iconst 1, 1, 0, 0, 0),
  (12, .if_icmp .ne 7, 3, 11, 0, 0), (15, .iconst 1, 1, 0, 0, 0), (16, .goto 4, 3, 12, 0, 0), (19, .iconst 0, 1, 0, 0, 0), (20, .ireturn, 1, 0, 0, 0)]
set_option maxRecDepth 100000 in
noncomputable def rw_68 : List PRow := [
  (0, .iconst 2, 1, 0, 0, 0), (1, .aload_n 0, 1, 0, 0, 0), (2, .getfield 90, 3, 6, 16, 103), (5, .aload_n 0, 1, 0, 0, 0), (6, .getfield 100, 3, 6, 10, 102), (9, .iand, 1, 0, 0, 0), (10, .invokestatic 108, 3, 389, 0, 71), (13, .imul, 1, 0, 0, 0),
  (14, .aload_n 0, 1, 0, 0, 0), (15, .getfield 100, 3, 6, 10, 102), (18, .invokestatic 108, 3, 389, 0, 71), (21, .if_icmp .le 7, 3, 14, 0, 0), (24, .iconst 1, 1, 0, 0, 0), (25, .goto 4, 3, 15, 0, 0), (28, .iconst 0, 1, 0, 0, 0), (29, .ireturn, 1, 0, 0, 0)]
set_option maxRecDepth 100000 in
noncomputable def rw_69 : List PRow := [
  (0, .iconst 0, 1, 0, 0, 0), (1, .istore_n 2, 1, 0, 0, 0), (2, .iconst 0, 1, 0, 0, 0), (3, .istore_n 3, 1, 0, 0, 0), (4, .iconst 0, 1, 0, 0, 0), (5, .istore 4, 2, 0, 0, 0), (7, .iload 4, 2, 0, 0, 0), (9, .bipush 7, 2, 0, 0, 0),
  (11, .if_icmp .ge 53, 3, 36, 0, 0), (14, .aload_n 0, 1, 0, 0, 0), (15, .getfield 100, 3, 6, 10, 102), (18, .iload 4, 2, 0, 0, 0), (20, .ishr, 1, 0, 0, 0), (21, .iconst 1, 1, 0, 0, 0), (22, .iand, 1, 0, 0, 0), (23, .iconst 1, 1, 0, 0, 0),
  (24, .if_icmp .ne 34, 3, 34, 0, 0), (27, .iinc 2 1, 3, 0, 0, 0), (30, .iload_n 3, 1, 0, 0, 0), (31, .iload 4, 2, 0, 0, 0), (33, .aload_n 0, 1, 0, 0, 0), (34, .getfield 31, 3, 6, 0, 88), (37, .if_icmp .eq 14, 3, 29, 0, 0), (40, .aload_n 0, 1, 0, 0, 0),
  (41, .getfield 22, 3, 6, 3, 86), (44, .iload 4, 2, 0, 0, 0), (46, .iaload, 1, 0, 0, 0), (47, .iload_n 1, 1, 0, 0, 0), (48, .if_icmp .lt 7, 3, 31, 0, 0), (51, .iconst 1, 1, 0, 0, 0), (52, .goto 4, 3, 32, 0, 0), (55, .iconst 0, 1, 0, 0, 0),
  (56, .iadd, 1, 0, 0, 0), (57, .istore_n 3, 1, 0, 0, 0), (58, .iinc 4 1, 3, 0, 0, 0), (61, .goto (-54), 3, 6, 0, 0), (64, .iconst 2, 1, 0, 0, 0), (65, .iload_n 3, 1, 0, 0, 0), (66, .imul, 1, 0, 0, 0), (67, .iload_n 2, 1, 0, 0, 0),
  (68, .if_icmp .le 7, 3, 43, 0, 0), (71, .iconst 1, 1, 0, 0, 0), (72, .goto 4, 3, 44, 0, 0), (75, .iconst 0, 1, 0, 0, 0), (76, .ireturn, 1, 0, 0, 0)]
set_option maxRecDepth 100000 in
noncomputable def rw_70 : List PRow := [
  (0, .aload_n 0, 1, 0, 0, 0), (1, .getfield 39, 3, 6, 4, 89), (4, .ifCond .eq 22, 3, 12, 0, 0), (7, .aload_n 0, 1, 0, 0, 0), (8, .getfield 62, 3, 6, 12, 94), (11, .iconst 3, 1, 0, 0, 0), (12, .if_icmp .eq 14, 3, 12, 0, 0), (15, .aload_n 0, 1, 0, 0, 0),
  (16, .invokevirtual 114, 3, 77, 0, 72), (19, .ifCond .eq 7, 3, 12, 0, 0), (22, .iconst 1, 1, 0, 0, 0), (23, .goto 4, 3, 13, 0, 0), (26, .iconst 0, 1, 0, 0, 0), (27, .ireturn, 1, 0, 0, 0)]
set_option maxRecDepth 100000 in
noncomputable def rw_71 : List PRow := [
  (0, .aload_n 0, 1, 0, 0, 0), (1, .getfield 62, 3, 6, 12, 94), (4, .iconst 3, 1, 0, 0, 0), (5, .if_icmp .ne 42, 3, 22, 0, 0), (8, .aload_n 0, 1, 0, 0, 0), (9, .aload_n 0, 1, 0, 0, 0), (10, .getfield 76, 3, 6, 15, 98), (13, .invokevirtual 118, 3, 75, 0, 73),
  (16, .aload_n 0, 1, 0, 0, 0), (17, .getfield 43, 3, 6, 5, 90), (20, .if_icmp .ne 27, 3, 22, 0, 0), (23, .aload_n 0, 1, 0, 0, 0), (24, .getfield 103, 3, 6, 11, 104), (27, .aload_n 0, 1, 0, 0, 0), (28, .getfield 76, 3, 6, 15, 98), (31, .if_icmp .gt 16, 3, 22, 0, 0),
  (34, .aload_n 0, 1, 0, 0, 0), (35, .getfield 49, 3, 6, 8, 92), (38, .bipush 40, 2, 0, 0, 0), (40, .if_icmp .ge 7, 3, 22, 0, 0), (43, .iconst 1, 1, 0, 0, 0), (44, .goto 4, 3, 23, 0, 0), (47, .iconst 0, 1, 0, 0, 0), (48, .ireturn, 1, 0, 0, 0)]
set_option maxRecDepth 100000 in
noncomputable def rw_72 : List PRow := [
  (0, .aload_n 0, 1, 0, 0, 0), (1, .invokevirtual 121, 3, 73, 0, 74), (4, .istore_n 3, 1, 0, 0, 0), (5, .iload_n 1, 1, 0, 0, 0), (6, .iload_n 3, 1, 0, 0, 0), (7, .if_icmp .gt 16, 3, 13, 0, 0), (10, .iload_n 1, 1, 0, 0, 0), (11, .iload_n 3, 1, 0, 0, 0),
  (12, .if_icmp .ne 15, 3, 15, 0, 0), (15, .iload_n 2, 1, 0, 0, 0), (16, .aload_n 0, 1, 0, 0, 0), (17, .invokevirtual 125, 3, 72, 0, 75), (20, .if_icmp .lt 7, 3, 15, 0, 0), (23, .iconst 1, 1, 0, 0, 0), (24, .goto 4, 3, 16, 0, 0), (27, .iconst 0, 1, 0, 0, 0),
  (28, .ireturn, 1, 0, 0, 0)]
set_option maxRecDepth 100000 in
noncomputable def rw_73 : List PRow := [
  (0, .aload_n 0, 1, 0, 0, 0), (1, .invokevirtual 125, 3, 72, 0, 75), (4, .aload_n 1, 1, 0, 0, 0), (5, .invokevirtual 125, 3, 72, 0, 75), (8, .invokestatic 128, 3, 3, 0, 76), (11, .istore_n 2, 1, 0, 0, 0), (12, .aload_n 0, 1, 0, 0, 0), (13, .getfield 52, 3, 6, 9, 93),
  (16, .getfield 71, 3, 7, 0, 97), (19, .aload_n 1, 1, 0, 0, 0), (20, .getfield 52, 3, 6, 9, 93), (23, .getfield 71, 3, 7, 0, 97), (26, .invokestatic 134, 3, 2, 0, 77), (29, .istore_n 3, 1, 0, 0, 0), (30, .iload_n 2, 1, 0, 0, 0), (31, .iload_n 3, 1, 0, 0, 0),
  (32, .if_icmp .gt 5, 3, 19, 0, 0), (35, .iload_n 2, 1, 0, 0, 0), (36, .ireturn, 1, 0, 0, 0), (37, .iload_n 3, 1, 0, 0, 0), (38, .iload_n 2, 1, 0, 0, 0), (39, .if_icmp .ge 26, 3, 35, 0, 0), (42, .aload_n 0, 1, 0, 0, 0), (43, .iload_n 3, 1, 0, 0, 0),
  (44, .iconst 1, 1, 0, 0, 0), (45, .iadd, 1, 0, 0, 0), (46, .invokevirtual 118, 3, 75, 0, 73), (49, .aload_n 1, 1, 0, 0, 0), (50, .iload_n 3, 1, 0, 0, 0), (51, .iconst 1, 1, 0, 0, 0), (52, .iadd, 1, 0, 0, 0), (53, .invokevirtual 118, 3, 75, 0, 73),
  (56, .if_icmp .ne 9, 3, 35, 0, 0), (59, .iinc 3 1, 3, 0, 0, 0), (62, .goto (-25), 3, 19, 0, 0), (65, .iload_n 3, 1, 0, 0, 0), (66, .ireturn, 1, 0, 0, 0)]
set_option maxRecDepth 100000 in
noncomputable def rw_74 : List PRow := [
  (0, .aload_n 0, 1, 0, 0, 0), (1, .getfield 49, 3, 6, 8, 92), (4, .aload_n 0, 1, 0, 0, 0), (5, .getfield 27, 3, 6, 7, 87), (8, .arraylength, 1, 0, 0, 0), (9, .if_icmp .lt 7, 3, 8, 0, 0), (12, .aload_n 0, 1, 0, 0, 0), (13, .invokevirtual 137, 3, 85, 0, 78),
  (16, .aload_n 0, 1, 0, 0, 0), (17, .getfield 49, 3, 6, 8, 92), (20, .aload_n 0, 1, 0, 0, 0), (21, .getfield 27, 3, 6, 7, 87), (24, .arraylength, 1, 0, 0, 0), (25, .if_icmp .ge 23, 3, 26, 0, 0), (28, .aload_n 0, 1, 0, 0, 0), (29, .getfield 27, 3, 6, 7, 87),
  (32, .aload_n 0, 1, 0, 0, 0), (33, .getfield 49, 3, 6, 8, 92), (36, .aload_n 1, 1, 0, 0, 0), (37, .aastore, 1, 0, 0, 0), (38, .aload_n 0, 1, 0, 0, 0), (39, .dup, 1, 0, 0, 0), (40, .getfield 49, 3, 6, 8, 92), (43, .iconst 1, 1, 0, 0, 0),
  (44, .iadd, 1, 0, 0, 0), (45, .putfield 49, 3, 6, 8, 92), (48, .aload_n 1, 1, 0, 0, 0), (49, .getfield 140, 3, 2, 1, 105), (52, .iconst 4, 1, 0, 0, 0), (53, .if_icmp .ne 27, 3, 42, 0, 0), (56, .aload_n 0, 1, 0, 0, 0), (57, .aload_n 1, 1, 0, 0, 0),
  (58, .getfield 143, 3, 2, 3, 106), (61, .putfield 100, 3, 6, 10, 102), (64, .aload_n 0, 1, 0, 0, 0), (65, .aload_n 0, 1, 0, 0, 0), (66, .getfield 52, 3, 6, 9, 93), (69, .getfield 71, 3, 7, 0, 97), (72, .aload_n 0, 1, 0, 0, 0), (73, .getfield 49, 3, 6, 8, 92),
  (76, .iadd, 1, 0, 0, 0), (77, .putfield 103, 3, 6, 11, 104), (80, .return_, 1, 0, 0, 0)]
set_option maxRecDepth 100000 in
noncomputable def rw_75 : List PRow := [
  (0, .aload_n 0, 1, 0, 0, 0), (1, .getfield 27, 3, 6, 7, 87), (4, .arraylength, 1, 0, 0, 0), (5, .ldc 144, 2, 1048576, 0, 0), (7, .if_icmp .lt 4, 3, 6, 0, 0), (10, .return_, 1, 0, 0, 0), (11, .aload_n 0, 1, 0, 0, 0), (12, .getfield 27, 3, 6, 7, 87),
  (15, .arraylength, 1, 0, 0, 0), (16, .iconst 2, 1, 0, 0, 0), (17, .imul, 1, 0, 0, 0), (18, .anewarray 25, 3, 16, 0, 11), (21, .astore_n 1, 1, 0, 0, 0), (22, .iconst 0, 1, 0, 0, 0), (23, .istore_n 2, 1, 0, 0, 0), (24, .iload_n 2, 1, 0, 0, 0),
  (25, .aload_n 0, 1, 0, 0, 0), (26, .getfield 27, 3, 6, 7, 87), (29, .arraylength, 1, 0, 0, 0), (30, .if_icmp .ge 18, 3, 29, 0, 0), (33, .aload_n 1, 1, 0, 0, 0), (34, .iload_n 2, 1, 0, 0, 0), (35, .aload_n 0, 1, 0, 0, 0), (36, .getfield 27, 3, 6, 7, 87),
  (39, .iload_n 2, 1, 0, 0, 0), (40, .aaload, 1, 0, 0, 0), (41, .aastore, 1, 0, 0, 0), (42, .iinc 2 1, 3, 0, 0, 0), (45, .goto (-21), 3, 15, 0, 0), (48, .aload_n 0, 1, 0, 0, 0), (49, .aload_n 1, 1, 0, 0, 0), (50, .putfield 27, 3, 6, 7, 87),
  (53, .return_, 1, 0, 0, 0)]
set_option maxRecDepth 100000 in
noncomputable def rw_76 : List PRow := [
  (0, .aload_n 0, 1, 0, 0, 0), (1, .aload_n 0, 1, 0, 0, 0), (2, .getfield 52, 3, 6, 9, 93), (5, .getfield 145, 3, 7, 2, 107), (8, .putfield 100, 3, 6, 10, 102), (11, .aload_n 0, 1, 0, 0, 0), (12, .iconst (-1), 1, 0, 0, 0), (13, .putfield 103, 3, 6, 11, 104),
  (16, .aload_n 0, 1, 0, 0, 0), (17, .getfield 49, 3, 6, 8, 92), (20, .iconst 1, 1, 0, 0, 0), (21, .isub, 1, 0, 0, 0), (22, .istore_n 1, 1, 0, 0, 0), (23, .iload_n 1, 1, 0, 0, 0), (24, .ifCond .lt 51, 3, 41, 0, 0), (27, .aload_n 0, 1, 0, 0, 0),
  (28, .getfield 27, 3, 6, 7, 87), (31, .iload_n 1, 1, 0, 0, 0), (32, .aaload, 1, 0, 0, 0), (33, .getfield 140, 3, 2, 1, 105), (36, .iconst 4, 1, 0, 0, 0), (37, .if_icmp .ne 32, 3, 39, 0, 0), (40, .aload_n 0, 1, 0, 0, 0), (41, .aload_n 0, 1, 0, 0, 0),
  (42, .getfield 27, 3, 6, 7, 87), (45, .iload_n 1, 1, 0, 0, 0), (46, .aaload, 1, 0, 0, 0), (47, .getfield 143, 3, 2, 3, 106), (50, .putfield 100, 3, 6, 10, 102), (53, .aload_n 0, 1, 0, 0, 0), (54, .aload_n 0, 1, 0, 0, 0), (55, .getfield 52, 3, 6, 9, 93),
  (58, .getfield 71, 3, 7, 0, 97), (61, .iconst 1, 1, 0, 0, 0), (62, .iadd, 1, 0, 0, 0), (63, .iload_n 1, 1, 0, 0, 0), (64, .iadd, 1, 0, 0, 0), (65, .putfield 103, 3, 6, 11, 104), (68, .return_, 1, 0, 0, 0), (69, .iinc 1 (-1), 3, 0, 0, 0),
  (72, .goto (-49), 3, 13, 0, 0), (75, .return_, 1, 0, 0, 0)]
set_option maxRecDepth 100000 in
noncomputable def rw_77 : List PRow := [
  (0, .iload_n 1, 1, 0, 0, 0), (1, .aload_n 0, 1, 0, 0, 0), (2, .getfield 52, 3, 6, 9, 93), (5, .getfield 71, 3, 7, 0, 97), (8, .isub, 1, 0, 0, 0), (9, .iconst 1, 1, 0, 0, 0), (10, .isub, 1, 0, 0, 0), (11, .istore_n 2, 1, 0, 0, 0),
  (12, .iload_n 2, 1, 0, 0, 0), (13, .ifCond .lt 40, 3, 29, 0, 0), (16, .iload_n 2, 1, 0, 0, 0), (17, .aload_n 0, 1, 0, 0, 0), (18, .getfield 49, 3, 6, 8, 92), (21, .if_icmp .ge 26, 3, 27, 0, 0), (24, .aload_n 0, 1, 0, 0, 0), (25, .getfield 27, 3, 6, 7, 87),
  (28, .iload_n 2, 1, 0, 0, 0), (29, .aaload, 1, 0, 0, 0), (30, .getfield 140, 3, 2, 1, 105), (33, .iconst 4, 1, 0, 0, 0), (34, .if_icmp .ne 13, 3, 27, 0, 0), (37, .aload_n 0, 1, 0, 0, 0), (38, .getfield 27, 3, 6, 7, 87), (41, .iload_n 2, 1, 0, 0, 0),
  (42, .aaload, 1, 0, 0, 0), (43, .getfield 143, 3, 2, 3, 106), (46, .ireturn, 1, 0, 0, 0), (47, .iinc 2 (-1), 3, 0, 0, 0), (50, .goto (-38), 3, 8, 0, 0), (53, .aload_n 0, 1, 0, 0, 0), (54, .getfield 52, 3, 6, 9, 93), (57, .getfield 145, 3, 7, 2, 107),
  (60, .ireturn, 1, 0, 0, 0)]
set_option maxRecDepth 100000 in
noncomputable def rw_78 : List PRow := [
  (0, .aload_n 0, 1, 0, 0, 0), (1, .getfield 76, 3, 6, 15, 98), (4, .aload_n 0, 1, 0, 0, 0), (5, .getfield 52, 3, 6, 9, 93), (8, .getfield 71, 3, 7, 0, 97), (11, .isub, 1, 0, 0, 0), (12, .istore_n 1, 1, 0, 0, 0), (13, .aload_n 0, 1, 0, 0, 0),
  (14, .new 72, 3, 7, 0, 12), (17, .dup, 1, 0, 0, 0), (18, .aload_n 0, 1, 0, 0, 0), (19, .getfield 76, 3, 6, 15, 98), (22, .aload_n 0, 1, 0, 0, 0), (23, .aload_n 0, 1, 0, 0, 0), (24, .getfield 76, 3, 6, 15, 98), (27, .invokevirtual 118, 3, 75, 0, 73),
  (30, .aload_n 0, 1, 0, 0, 0), (31, .aload_n 0, 1, 0, 0, 0), (32, .getfield 76, 3, 6, 15, 98), (35, .invokevirtual 146, 3, 87, 0, 79), (38, .aload_n 0, 1, 0, 0, 0), (39, .getfield 12, 3, 6, 1, 84), (42, .invokespecial 149, 3, 100, 1, 80), (45, .iload_n 1, 1, 0, 0, 0),
  (46, .invokevirtual 152, 3, 90, 0, 81), (49, .iload_n 1, 1, 0, 0, 0), (50, .ireturn, 1, 0, 0, 0)]
set_option maxRecDepth 100000 in
noncomputable def rw_79 : List PRow := [
  (0, .aload_n 0, 1, 0, 0, 0), (1, .aload_n 1, 1, 0, 0, 0), (2, .getfield 71, 3, 7, 0, 97), (5, .aload_n 1, 1, 0, 0, 0), (6, .getfield 107, 3, 7, 1, 101), (9, .invokevirtual 156, 3, 91, 0, 82), (12, .istore_n 2, 1, 0, 0, 0), (13, .aload_n 0, 1, 0, 0, 0),
  (14, .aload_n 1, 1, 0, 0, 0), (15, .iload_n 2, 1, 0, 0, 0), (16, .ifCond .eq 18, 3, 18, 0, 0), (19, .aload_n 1, 1, 0, 0, 0), (20, .getfield 71, 3, 7, 0, 97), (23, .aload_n 0, 1, 0, 0, 0), (24, .getfield 52, 3, 6, 9, 93), (27, .getfield 71, 3, 7, 0, 97),
  (30, .isub, 1, 0, 0, 0), (31, .goto 7, 3, 20, 0, 0), (34, .aload_n 0, 1, 0, 0, 0), (35, .getfield 49, 3, 6, 8, 92), (38, .invokevirtual 152, 3, 90, 0, 81), (41, .aload_n 0, 1, 0, 0, 0), (42, .aload_n 1, 1, 0, 0, 0), (43, .getfield 71, 3, 7, 0, 97),
  (46, .putfield 76, 3, 6, 15, 98), (49, .aload_n 0, 1, 0, 0, 0), (50, .getfield 12, 3, 6, 1, 84), (53, .aload_n 1, 1, 0, 0, 0), (54, .getfield 79, 3, 7, 3, 99), (57, .invokevirtual 80, 3, 102, 0, 70), (60, .return_, 1, 0, 0, 0)]
set_option maxRecDepth 100000 in
noncomputable def rw_80 : List PRow := [
  (0, .iload_n 2, 1, 0, 0, 0), (1, .iconst 0, 1, 0, 0, 0), (2, .invokestatic 134, 3, 2, 0, 77), (5, .istore_n 3, 1, 0, 0, 0), (6, .iload_n 3, 1, 0, 0, 0), (7, .aload_n 0, 1, 0, 0, 0), (8, .getfield 49, 3, 6, 8, 92), (11, .if_icmp .ge 23, 3, 20, 0, 0),
  (14, .aload_n 0, 1, 0, 0, 0), (15, .getfield 27, 3, 6, 7, 87), (18, .iload_n 3, 1, 0, 0, 0), (19, .iload_n 2, 1, 0, 0, 0), (20, .isub, 1, 0, 0, 0), (21, .aload_n 0, 1, 0, 0, 0), (22, .getfield 27, 3, 6, 7, 87), (25, .iload_n 3, 1, 0, 0, 0),
  (26, .aaload, 1, 0, 0, 0), (27, .aastore, 1, 0, 0, 0), (28, .iinc 3 1, 3, 0, 0, 0), (31, .goto (-25), 3, 4, 0, 0), (34, .aload_n 0, 1, 0, 0, 0), (35, .dup, 1, 0, 0, 0), (36, .getfield 49, 3, 6, 8, 92), (39, .iload_n 2, 1, 0, 0, 0),
  (40, .isub, 1, 0, 0, 0), (41, .putfield 49, 3, 6, 8, 92), (44, .aload_n 0, 1, 0, 0, 0), (45, .aload_n 1, 1, 0, 0, 0), (46, .putfield 52, 3, 6, 9, 93), (49, .aload_n 0, 1, 0, 0, 0), (50, .invokevirtual 56, 3, 86, 0, 68), (53, .return_, 1, 0, 0, 0)]
set_option maxRecDepth 100000 in
noncomputable def rw_81 : List PRow := [
  (0, .aload_n 0, 1, 0, 0, 0), (1, .iload_n 1, 1, 0, 0, 0), (2, .invokevirtual 160, 3, 74, 0, 83), (5, .astore_n 3, 1, 0, 0, 0), (6, .aload_n 3, 1, 0, 0, 0), (7, .ifnull 15, 3, 12, 0, 0), (10, .aload_n 3, 1, 0, 0, 0), (11, .getfield 106, 3, 2, 0, 100),
  (14, .iload_n 2, 1, 0, 0, 0), (15, .if_icmp .ne 7, 3, 12, 0, 0), (18, .iconst 1, 1, 0, 0, 0), (19, .goto 4, 3, 13, 0, 0), (22, .iconst 0, 1, 0, 0, 0), (23, .ireturn, 1, 0, 0, 0)]
set_option maxRecDepth 100000 in
noncomputable def rw_82 : List PRow := [
  (0, .iload_n 1, 1, 0, 0, 0), (1, .aload_n 0, 1, 0, 0, 0), (2, .getfield 52, 3, 6, 9, 93), (5, .getfield 71, 3, 7, 0, 97), (8, .if_icmp .le 12, 3, 10, 0, 0), (11, .aload_n 0, 1, 0, 0, 0), (12, .iload_n 1, 1, 0, 0, 0), (13, .iload_n 2, 1, 0, 0, 0),
  (14, .invokevirtual 156, 3, 91, 0, 82), (17, .ifCond .eq 7, 3, 12, 0, 0), (20, .iconst 1, 1, 0, 0, 0), (21, .goto 4, 3, 13, 0, 0), (24, .iconst 0, 1, 0, 0, 0), (25, .ireturn, 1, 0, 0, 0)]
set_option maxRecDepth 100000 in
noncomputable def rw_83 : List PRow := [
  (0, .aload_n 0, 1, 0, 0, 0), (1, .invokevirtual 125, 3, 72, 0, 75), (4, .iload_n 1, 1, 0, 0, 0), (5, .if_icmp .ge 8, 3, 7, 0, 0), (8, .aload_n 0, 1, 0, 0, 0), (9, .invokevirtual 125, 3, 72, 0, 75), (12, .ireturn, 1, 0, 0, 0), (13, .aload_n 0, 1, 0, 0, 0),
  (14, .iload_n 1, 1, 0, 0, 0), (15, .invokevirtual 118, 3, 75, 0, 73), (18, .istore_n 2, 1, 0, 0, 0), (19, .iload_n 1, 1, 0, 0, 0), (20, .istore_n 3, 1, 0, 0, 0), (21, .iload_n 3, 1, 0, 0, 0), (22, .aload_n 0, 1, 0, 0, 0), (23, .getfield 52, 3, 6, 9, 93),
  (26, .getfield 71, 3, 7, 0, 97), (29, .if_icmp .le 18, 3, 25, 0, 0), (32, .aload_n 0, 1, 0, 0, 0), (33, .iload_n 3, 1, 0, 0, 0), (34, .invokevirtual 118, 3, 75, 0, 73), (37, .iload_n 2, 1, 0, 0, 0), (38, .if_icmp .ne 9, 3, 25, 0, 0), (41, .iinc 3 (-1), 3, 0, 0, 0),
  (44, .goto (-23), 3, 13, 0, 0), (47, .iload_n 3, 1, 0, 0, 0), (48, .aload_n 0, 1, 0, 0, 0), (49, .getfield 76, 3, 6, 15, 98), (52, .invokestatic 134, 3, 2, 0, 77), (55, .ireturn, 1, 0, 0, 0)]
set_option maxRecDepth 100000 in
noncomputable def rw_84 : List PRow := [
  (0, .iload_n 1, 1, 0, 0, 0), (1, .aload_n 0, 1, 0, 0, 0), (2, .getfield 52, 3, 6, 9, 93), (5, .getfield 71, 3, 7, 0, 97), (8, .if_icmp .le 15, 3, 11, 0, 0), (11, .aload_n 0, 1, 0, 0, 0), (12, .iload_n 1, 1, 0, 0, 0), (13, .aload_n 2, 1, 0, 0, 0),
  (14, .getfield 106, 3, 2, 0, 100), (17, .invokevirtual 156, 3, 91, 0, 82), (20, .ifCond .eq 4, 3, 12, 0, 0), (23, .return_, 1, 0, 0, 0), (24, .iload_n 1, 1, 0, 0, 0), (25, .aload_n 0, 1, 0, 0, 0), (26, .invokevirtual 125, 3, 72, 0, 75), (29, .if_icmp .gt 22, 3, 27, 0, 0),
  (32, .aload_n 0, 1, 0, 0, 0), (33, .iload_n 1, 1, 0, 0, 0), (34, .aload_n 0, 1, 0, 0, 0), (35, .getfield 52, 3, 6, 9, 93), (38, .getfield 71, 3, 7, 0, 97), (41, .isub, 1, 0, 0, 0), (42, .iconst 1, 1, 0, 0, 0), (43, .isub, 1, 0, 0, 0),
  (44, .putfield 49, 3, 6, 8, 92), (47, .aload_n 0, 1, 0, 0, 0), (48, .invokevirtual 56, 3, 86, 0, 68), (51, .aload_n 0, 1, 0, 0, 0), (52, .aload_n 2, 1, 0, 0, 0), (53, .invokevirtual 96, 3, 84, 0, 84), (56, .return_, 1, 0, 0, 0)]
set_option maxRecDepth 100000 in
noncomputable def rw_85 : List PRow := [
  (0, .aload_n 0, 1, 0, 0, 0), (1, .iload_n 1, 1, 0, 0, 0), (2, .putfield 43, 3, 6, 5, 90), (5, .aload_n 0, 1, 0, 0, 0), (6, .iconst (-1), 1, 0, 0, 0), (7, .putfield 46, 3, 6, 6, 91), (10, .aload_n 0, 1, 0, 0, 0), (11, .iconst 0, 1, 0, 0, 0),
  (12, .putfield 62, 3, 6, 12, 94), (15, .aload_n 0, 1, 0, 0, 0), (16, .iconst (-1), 1, 0, 0, 0), (17, .putfield 65, 3, 6, 13, 95), (20, .return_, 1, 0, 0, 0)]
set_option maxRecDepth 100000 in
noncomputable def rw_86 : List PRow := [
  (0, .aload_n 0, 1, 0, 0, 0), (1, .iconst 0, 1, 0, 0, 0), (2, .putfield 62, 3, 6, 12, 94), (5, .aload_n 0, 1, 0, 0, 0), (6, .iload_n 1, 1, 0, 0, 0), (7, .putfield 65, 3, 6, 13, 95), (10, .aload_n 0, 1, 0, 0, 0), (11, .iconst 0, 1, 0, 0, 0),
  (12, .putfield 68, 3, 6, 14, 96), (15, .return_, 1, 0, 0, 0)]
set_option maxRecDepth 100000 in
noncomputable def rw_87 : List PRow := [
  (0, .aload_n 0, 1, 0, 0, 0), (1, .iload_n 1, 1, 0, 0, 0), (2, .putfield 62, 3, 6, 12, 94), (5, .aload_n 0, 1, 0, 0, 0), (6, .iconst (-1), 1, 0, 0, 0), (7, .putfield 65, 3, 6, 13, 95), (10, .aload_n 0, 1, 0, 0, 0), (11, .iconst 0, 1, 0, 0, 0),
  (12, .putfield 68, 3, 6, 14, 96), (15, .aload_n 0, 1, 0, 0, 0), (16, .iconst 1, 1, 0, 0, 0), (17, .aload_n 0, 1, 0, 0, 0), (18, .getfield 31, 3, 6, 0, 88), (21, .ishl, 1, 0, 0, 0), (22, .putfield 90, 3, 6, 16, 103), (25, .return_, 1, 0, 0, 0)]
set_option maxRecDepth 100000 in
noncomputable def rw_88 : List PRow := [
  (0, .aload_n 0, 1, 0, 0, 0), (1, .iconst 3, 1, 0, 0, 0), (2, .putfield 62, 3, 6, 12, 94), (5, .aload_n 0, 1, 0, 0, 0), (6, .iconst (-1), 1, 0, 0, 0), (7, .putfield 65, 3, 6, 13, 95), (10, .aload_n 0, 1, 0, 0, 0), (11, .iconst 0, 1, 0, 0, 0),
  (12, .putfield 93, 3, 6, 17, 108), (15, .aload_n 0, 1, 0, 0, 0), (16, .getfield 18, 3, 6, 2, 85), (19, .aload_n 0, 1, 0, 0, 0), (20, .invokevirtual 125, 3, 72, 0, 75), (23, .iconst 1, 1, 0, 0, 0), (24, .iadd, 1, 0, 0, 0), (25, .invokestatic 164, 3, 390, 0, 85),
  (28, .aload_n 0, 1, 0, 0, 0), (29, .getfield 22, 3, 6, 3, 86), (32, .iconst 0, 1, 0, 0, 0), (33, .invokestatic 164, 3, 390, 0, 85), (36, .aload_n 0, 1, 0, 0, 0), (37, .new 25, 3, 2, 0, 13), (40, .dup, 1, 0, 0, 0), (41, .aload_n 0, 1, 0, 0, 0),
  (42, .getfield 43, 3, 6, 5, 90), (45, .iconst 0, 1, 0, 0, 0), (46, .aconst_null, 1, 0, 0, 0), (47, .iconst 0, 1, 0, 0, 0), (48, .invokespecial 170, 3, 49, 1, 86), (51, .invokevirtual 96, 3, 84, 0, 84), (54, .return_, 1, 0, 0, 0)]
set_option maxRecDepth 100000 in
noncomputable def rw_89 : List PRow := [
  (0, .iload_n 2, 1, 0, 0, 0), (1, .aload_n 0, 1, 0, 0, 0), (2, .getfield 22, 3, 6, 3, 86), (5, .iload_n 1, 1, 0, 0, 0), (6, .iaload, 1, 0, 0, 0), (7, .if_icmp .le 19, 3, 18, 0, 0), (10, .aload_n 0, 1, 0, 0, 0), (11, .getfield 22, 3, 6, 3, 86),
  (14, .iload_n 1, 1, 0, 0, 0), (15, .iload_n 2, 1, 0, 0, 0), (16, .iastore, 1, 0, 0, 0), (17, .aload_n 0, 1, 0, 0, 0), (18, .getfield 18, 3, 6, 2, 85), (21, .iload_n 1, 1, 0, 0, 0), (22, .iload_n 2, 1, 0, 0, 0), (23, .iconst 1, 1, 0, 0, 0),
  (24, .iadd, 1, 0, 0, 0), (25, .iastore, 1, 0, 0, 0), (26, .return_, 1, 0, 0, 0)]
set_option maxRecDepth 100000 in
noncomputable def rw_90 : List PRow := [
  (0, .aload_n 0, 1, 0, 0, 0), (1, .invokespecial 1, 3, 0, 1, 87), (4, .aload_n 0, 1, 0, 0, 0), (5, .new 7, 3, 8, 0, 14), (8, .dup, 1, 0, 0, 0), (9, .invokespecial 9, 3, 101, 1, 88), (12, .putfield 10, 3, 7, 3, 109), (15, .aload_n 0, 1, 0, 0, 0),
  (16, .iload_n 1, 1, 0, 0, 0), (17, .putfield 16, 3, 7, 0, 110), (20, .aload_n 0, 1, 0, 0, 0), (21, .iload_n 2, 1, 0, 0, 0), (22, .putfield 20, 3, 7, 1, 111), (25, .aload_n 0, 1, 0, 0, 0), (26, .iload_n 3, 1, 0, 0, 0), (27, .putfield 23, 3, 7, 2, 112),
  (30, .aload 4, 2, 0, 0, 0), (32, .ifnull 12, 3, 22, 0, 0), (35, .aload_n 0, 1, 0, 0, 0), (36, .getfield 10, 3, 7, 3, 109), (39, .aload 4, 2, 0, 0, 0), (41, .invokevirtual 26, 3, 102, 0, 89), (44, .return_, 1, 0, 0, 0)]
set_option maxRecDepth 100000 in
noncomputable def rw_91 : List PRow := [
  (0, .aload_n 0, 1, 0, 0, 0), (1, .invokespecial 3, 3, 0, 1, 90), (4, .aload_n 0, 1, 0, 0, 0), (5, .bipush 8, 2, 0, 0, 0), (7, .newarray .int, 2, 0, 0, 0), (9, .putfield 9, 3, 8, 0, 113), (12, .aload_n 0, 1, 0, 0, 0), (13, .iconst 4, 1, 0, 0, 0),
  (14, .newarray .int, 2, 0, 0, 0), (16, .putfield 15, 3, 8, 1, 114), (19, .aload_n 0, 1, 0, 0, 0), (20, .iconst 4, 1, 0, 0, 0), (21, .newarray .int, 2, 0, 0, 0), (23, .putfield 18, 3, 8, 2, 115), (26, .return_, 1, 0, 0, 0)]
set_option maxRecDepth 100000 in
noncomputable def rw_92 : List PRow := [
  (0, .aload_n 1, 1, 0, 0, 0), (1, .getfield 9, 3, 8, 0, 113), (4, .iconst 0, 1, 0, 0, 0), (5, .aload_n 0, 1, 0, 0, 0), (6, .getfield 9, 3, 8, 0, 113), (9, .iconst 0, 1, 0, 0, 0), (10, .bipush 8, 2, 0, 0, 0), (12, .invokestatic 21, 3, 1, 0, 91),
  (15, .aload_n 1, 1, 0, 0, 0), (16, .getfield 15, 3, 8, 1, 114), (19, .iconst 0, 1, 0, 0, 0), (20, .aload_n 0, 1, 0, 0, 0), (21, .getfield 15, 3, 8, 1, 114), (24, .iconst 0, 1, 0, 0, 0), (25, .iconst 4, 1, 0, 0, 0), (26, .invokestatic 21, 3, 1, 0, 91),
  (29, .aload_n 1, 1, 0, 0, 0), (30, .getfield 18, 3, 8, 2, 115), (33, .iconst 0, 1, 0, 0, 0), (34, .aload_n 0, 1, 0, 0, 0), (35, .getfield 18, 3, 8, 2, 115), (38, .iconst 0, 1, 0, 0, 0), (39, .iconst 4, 1, 0, 0, 0), (40, .invokestatic 21, 3, 1, 0, 91),
  (43, .return_, 1, 0, 0, 0)]
set_option maxRecDepth 100000 in
noncomputable def rw_93 : List PRow := [
  (0, .aload_n 1, 1, 0, 0, 0), (1, .getfield 27, 3, 5, 1, 116), (4, .aload_n 0, 1, 0, 0, 0), (5, .getfield 15, 3, 8, 1, 114), (8, .aload_n 1, 1, 0, 0, 0), (9, .getfield 33, 3, 5, 0, 117), (12, .iaload, 1, 0, 0, 0), (13, .if_icmp .gt 4, 3, 9, 0, 0),
  (16, .return_, 1, 0, 0, 0), (17, .aload_n 0, 1, 0, 0, 0), (18, .getfield 15, 3, 8, 1, 114), (21, .aload_n 1, 1, 0, 0, 0), (22, .getfield 33, 3, 5, 0, 117), (25, .aload_n 1, 1, 0, 0, 0), (26, .getfield 27, 3, 5, 1, 116), (29, .iastore, 1, 0, 0, 0),
  (30, .aload_n 0, 1, 0, 0, 0), (31, .getfield 9, 3, 8, 0, 113), (34, .aload_n 1, 1, 0, 0, 0), (35, .getfield 36, 3, 5, 3, 118), (38, .iaload, 1, 0, 0, 0), (39, .istore_n 2, 1, 0, 0, 0), (40, .aload_n 1, 1, 0, 0, 0), (41, .getfield 39, 3, 5, 2, 119),
  (44, .iconst 1, 1, 0, 0, 0), (45, .if_icmp .ne 29, 3, 40, 0, 0), (48, .aload_n 0, 1, 0, 0, 0), (49, .getfield 9, 3, 8, 0, 113), (52, .aload_n 1, 1, 0, 0, 0), (53, .getfield 36, 3, 5, 3, 118), (56, .aload_n 1, 1, 0, 0, 0), (57, .getfield 42, 3, 5, 5, 120),
  (60, .iastore, 1, 0, 0, 0), (61, .aload_n 0, 1, 0, 0, 0), (62, .getfield 18, 3, 8, 2, 115), (65, .aload_n 1, 1, 0, 0, 0), (66, .getfield 33, 3, 5, 0, 117), (69, .iload_n 2, 1, 0, 0, 0), (70, .iastore, 1, 0, 0, 0), (71, .goto 94, 3, 89, 0, 0),
  (74, .aload_n 1, 1, 0, 0, 0), (75, .getfield 39, 3, 5, 2, 119), (78, .iconst 2, 1, 0, 0, 0), (79, .if_icmp .ne 39, 3, 64, 0, 0), (82, .aload_n 0, 1, 0, 0, 0), (83, .getfield 9, 3, 8, 0, 113), (86, .aload_n 1, 1, 0, 0, 0), (87, .getfield 36, 3, 5, 3, 118),
  (90, .iload_n 2, 1, 0, 0, 0), (91, .aload_n 1, 1, 0, 0, 0), (92, .getfield 42, 3, 5, 5, 120), (95, .iadd, 1, 0, 0, 0), (96, .iastore, 1, 0, 0, 0), (97, .aload_n 0, 1, 0, 0, 0), (98, .getfield 18, 3, 8, 2, 115), (101, .aload_n 1, 1, 0, 0, 0),
  (102, .getfield 33, 3, 5, 0, 117), (105, .aload_n 0, 1, 0, 0, 0), (106, .getfield 9, 3, 8, 0, 113), (109, .aload_n 1, 1, 0, 0, 0), (110, .getfield 36, 3, 5, 3, 118), (113, .iaload, 1, 0, 0, 0), (114, .iastore, 1, 0, 0, 0), (115, .goto 50, 3, 89, 0, 0),
  (118, .aload_n 0, 1, 0, 0, 0), (119, .getfield 9, 3, 8, 0, 113), (122, .aload_n 1, 1, 0, 0, 0), (123, .getfield 36, 3, 5, 3, 118), (126, .iload_n 2, 1, 0, 0, 0), (127, .aload_n 1, 1, 0, 0, 0), (128, .getfield 45, 3, 5, 4, 121), (131, .if_icmp .ne 10, 3, 75, 0, 0),
  (134, .aload_n 1, 1, 0, 0, 0), (135, .getfield 42, 3, 5, 5, 120), (138, .goto 4, 3, 76, 0, 0), (141, .iload_n 2, 1, 0, 0, 0), (142, .iastore, 1, 0, 0, 0), (143, .aload_n 0, 1, 0, 0, 0), (144, .getfield 18, 3, 8, 2, 115), (147, .aload_n 1, 1, 0, 0, 0),
  (148, .getfield 33, 3, 5, 0, 117), (151, .iload_n 2, 1, 0, 0, 0), (152, .aload_n 1, 1, 0, 0, 0), (153, .getfield 45, 3, 5, 4, 121), (156, .if_icmp .ne 7, 3, 87, 0, 0), (159, .iconst 1, 1, 0, 0, 0), (160, .goto 4, 3, 88, 0, 0), (163, .iconst 0, 1, 0, 0, 0),
  (164, .iastore, 1, 0, 0, 0), (165, .return_, 1, 0, 0, 0)]
set_option maxRecDepth 100000 in
noncomputable def rw_94 : List PRow := [
  (0, .aload_n 0, 1, 0, 0, 0), (1, .invokespecial 1, 3, 0, 1, 92), (4, .aload_n 0, 1, 0, 0, 0), (5, .new 7, 3, 1, 0, 15), (8, .dup, 1, 0, 0, 0), (9, .invokespecial 9, 3, 16, 1, 93), (12, .putfield 10, 3, 9, 0, 122), (15, .aload_n 0, 1, 0, 0, 0),
  (16, .new 7, 3, 1, 0, 15), (19, .dup, 1, 0, 0, 0), (20, .invokespecial 9, 3, 16, 1, 93), (23, .putfield 16, 3, 9, 1, 123), (26, .return_, 1, 0, 0, 0)]
set_option maxRecDepth 100000 in
noncomputable def rw_95 : List PRow := [
  (0, .iload_n 1, 1, 0, 0, 0), (1, .iconst 1, 1, 0, 0, 0), (2, .if_icmp .lt 9, 3, 6, 0, 0), (5, .iload_n 1, 1, 0, 0, 0), (6, .bipush 7, 2, 0, 0, 0), (8, .if_icmp .le 13, 3, 11, 0, 0), (11, .new 19, 3, 100, 0, 0), (14, .dup, 1, 0, 0, 0),
  (15, .ldc 21, 2, 0, 0, 0), (17, .invokespecial 23, 3, 9, 1, 0), (20, .athrow, 1, 0, 0, 0), (21, .aload_n 0, 1, 0, 0, 0), (22, .getfield 10, 3, 9, 0, 122), (25, .iload_n 1, 1, 0, 0, 0), (26, .invokevirtual 26, 3, 18, 0, 94), (29, .iload_n 1, 1, 0, 0, 0),
  (30, .iconst 2, 1, 0, 0, 0), (31, .idiv, 1, 0, 0, 0), (32, .iconst 1, 1, 0, 0, 0), (33, .iadd, 1, 0, 0, 0), (34, .ireturn, 1, 0, 0, 0)]
set_option maxRecDepth 100000 in
noncomputable def rw_96 : List PRow := [
  (0, .aload_n 0, 1, 0, 0, 0), (1, .iload_n 1, 1, 0, 0, 0), (2, .invokevirtual 30, 3, 186, 0, 95), (5, .astore_n 2, 1, 0, 0, 0), (6, .aload_n 2, 1, 0, 0, 0), (7, .getfield 34, 3, 6, 4, 124), (10, .ifCond .ne 7, 3, 9, 0, 0), (13, .iconst 1, 1, 0, 0, 0),
  (14, .goto 4, 3, 10, 0, 0), (17, .iconst 0, 1, 0, 0, 0), (18, .invokestatic 40, 3, 178, 0, 96), (21, .aload_n 2, 1, 0, 0, 0), (22, .invokevirtual 44, 3, 69, 0, 97), (25, .aload_n 0, 1, 0, 0, 0), (26, .getfield 10, 3, 9, 0, 122), (29, .invokevirtual 47, 3, 20, 0, 98),
  (32, .ireturn, 1, 0, 0, 0)]
set_option maxRecDepth 100000 in
noncomputable def rw_97 : List PRow := [
  (0, .aload_n 0, 1, 0, 0, 0), (1, .iload_n 1, 1, 0, 0, 0), (2, .invokevirtual 30, 3, 186, 0, 95), (5, .astore_n 2, 1, 0, 0, 0), (6, .aload_n 2, 1, 0, 0, 0), (7, .getfield 34, 3, 6, 4, 124), (10, .invokestatic 40, 3, 178, 0, 96), (13, .aload_n 2, 1, 0, 0, 0),
  (14, .iconst 1, 1, 0, 0, 0), (15, .putfield 34, 3, 6, 4, 124), (18, .aload_n 0, 1, 0, 0, 0), (19, .getfield 10, 3, 9, 0, 122), (22, .invokevirtual 47, 3, 20, 0, 98), (25, .ireturn, 1, 0, 0, 0)]
set_option maxRecDepth 100000 in
noncomputable def rw_98 : List PRow := [
  (0, .iload_n 1, 1, 0, 0, 0), (1, .iload_n 2, 1, 0, 0, 0), (2, .invokestatic 51, 3, 180, 0, 99), (5, .aload_n 0, 1, 0, 0, 0), (6, .getfield 10, 3, 9, 0, 122), (9, .getfield 55, 3, 1, 2, 125), (12, .iload_n 1, 1, 0, 0, 0), (13, .iload_n 2, 1, 0, 0, 0),
  (14, .invokevirtual 59, 3, 60, 0, 100), (17, .invokestatic 40, 3, 178, 0, 96), (20, .aload_n 0, 1, 0, 0, 0), (21, .getfield 10, 3, 9, 0, 122), (24, .getfield 55, 3, 1, 2, 125), (27, .iload_n 1, 1, 0, 0, 0), (28, .iload_n 2, 1, 0, 0, 0), (29, .invokevirtual 65, 3, 61, 0, 101),
  (32, .ireturn, 1, 0, 0, 0)]
set_option maxRecDepth 100000 in
noncomputable def rw_99 : List PRow := [
  (0, .iload_n 1, 1, 0, 0, 0), (1, .iload_n 2, 1, 0, 0, 0), (2, .invokestatic 51, 3, 180, 0, 99), (5, .aload_n 0, 1, 0, 0, 0), (6, .getfield 10, 3, 9, 0, 122), (9, .getfield 55, 3, 1, 2, 125), (12, .iload_n 1, 1, 0, 0, 0), (13, .iload_n 2, 1, 0, 0, 0),
  (14, .invokevirtual 59, 3, 60, 0, 100), (17, .ifCond .ne 7, 3, 12, 0, 0), (20, .iconst 1, 1, 0, 0, 0), (21, .goto 4, 3, 13, 0, 0), (24, .iconst 0, 1, 0, 0, 0), (25, .invokestatic 40, 3, 178, 0, 96), (28, .aload_n 0, 1, 0, 0, 0), (29, .getfield 10, 3, 9, 0, 122),
  (32, .getfield 55, 3, 1, 2, 125), (35, .iload_n 1, 1, 0, 0, 0), (36, .iload_n 2, 1, 0, 0, 0), (37, .invokevirtual 65, 3, 61, 0, 101), (40, .ireturn, 1, 0, 0, 0)]
set_option maxRecDepth 100000 in
noncomputable def rw_100 : List PRow := [
  (0, .iload_n 1, 1, 0, 0, 0), (1, .iconst 1, 1, 0, 0, 0), (2, .if_icmp .lt 9, 3, 6, 0, 0), (5, .iload_n 1, 1, 0, 0, 0), (6, .bipush 30, 2, 0, 0, 0), (8, .if_icmp .le 13, 3, 11, 0, 0), (11, .new 19, 3, 100, 0, 1), (14, .dup, 1, 0, 0, 0),
  (15, .ldc 69, 2, 0, 0, 0), (17, .invokespecial 23, 3, 9, 1, 0), (20, .athrow, 1, 0, 0, 0), (21, .aload_n 0, 1, 0, 0, 0), (22, .getfield 10, 3, 9, 0, 122), (25, .getfield 55, 3, 1, 2, 125), (28, .getfield 71, 3, 4, 5, 126), (31, .istore_n 2, 1, 0, 0, 0),
  (32, .iconst 0, 1, 0, 0, 0), (33, .istore_n 3, 1, 0, 0, 0), (34, .iload_n 3, 1, 0, 0, 0), (35, .iload_n 1, 1, 0, 0, 0), (36, .if_icmp .ge 16, 3, 26, 0, 0), (39, .aload_n 0, 1, 0, 0, 0), (40, .getfield 10, 3, 9, 0, 122), (43, .invokevirtual 75, 3, 31, 0, 102),
  (46, .iinc 3 1, 3, 0, 0, 0), (49, .goto (-15), 3, 18, 0, 0), (52, .aload_n 0, 1, 0, 0, 0), (53, .getfield 10, 3, 9, 0, 122), (56, .getfield 55, 3, 1, 2, 125), (59, .getfield 71, 3, 4, 5, 126), (62, .iload_n 2, 1, 0, 0, 0), (63, .isub, 1, 0, 0, 0),
  (64, .ireturn, 1, 0, 0, 0)]
set_option maxRecDepth 100000 in
noncomputable def rw_101 : List PRow := [
  (0, .aload_n 0, 1, 0, 0, 0), (1, .iload_n 1, 1, 0, 0, 0), (2, .invokevirtual 30, 3, 186, 0, 95), (5, .astore_n 2, 1, 0, 0, 0), (6, .aload_n 2, 1, 0, 0, 0), (7, .invokevirtual 78, 3, 80, 0, 103), (10, .ifCond .ne 7, 3, 9, 0, 0), (13, .iconst 1, 1, 0, 0, 0),
  (14, .goto 4, 3, 10, 0, 0), (17, .iconst 0, 1, 0, 0, 0), (18, .invokestatic 40, 3, 178, 0, 96), (21, .aload_n 0, 1, 0, 0, 0), (22, .getfield 10, 3, 9, 0, 122), (25, .aload_n 2, 1, 0, 0, 0), (26, .iconst 1, 1, 0, 0, 0), (27, .invokevirtual 82, 3, 32, 0, 104),
  (30, .aload_n 2, 1, 0, 0, 0), (31, .getfield 86, 3, 6, 12, 127), (34, .ireturn, 1, 0, 0, 0)]
set_option maxRecDepth 100000 in
noncomputable def rw_102 : List PRow := [
  (0, .aload_n 0, 1, 0, 0, 0), (1, .iload_n 1, 1, 0, 0, 0), (2, .invokevirtual 30, 3, 186, 0, 95), (5, .astore_n 2, 1, 0, 0, 0), (6, .aload_n 2, 1, 0, 0, 0), (7, .getfield 86, 3, 6, 12, 127), (10, .iconst 3, 1, 0, 0, 0), (11, .if_icmp .eq 7, 3, 10, 0, 0),
  (14, .iconst 1, 1, 0, 0, 0), (15, .goto 4, 3, 11, 0, 0), (18, .iconst 0, 1, 0, 0, 0), (19, .invokestatic 40, 3, 178, 0, 96), (22, .aload_n 0, 1, 0, 0, 0), (23, .getfield 10, 3, 9, 0, 122), (26, .aload_n 2, 1, 0, 0, 0), (27, .invokevirtual 89, 3, 36, 0, 105),
  (30, .ireturn, 1, 0, 0, 0)]
set_option maxRecDepth 100000 in
noncomputable def rw_103 : List PRow := [
  (0, .aload_n 0, 1, 0, 0, 0), (1, .iload_n 1, 1, 0, 0, 0), (2, .invokevirtual 30, 3, 186, 0, 95), (5, .astore_n 2, 1, 0, 0, 0), (6, .aload_n 2, 1, 0, 0, 0), (7, .getfield 34, 3, 6, 4, 124), (10, .ifCond .eq 17, 3, 13, 0, 0), (13, .aload_n 2, 1, 0, 0, 0),
  (14, .getfield 93, 3, 6, 15, 128), (17, .aload_n 2, 1, 0, 0, 0), (18, .getfield 96, 3, 6, 9, 129), (21, .getfield 100, 3, 7, 0, 130), (24, .if_icmp .gt 7, 3, 15, 0, 0), (27, .iconst 1, 1, 0, 0, 0), (28, .goto 4, 3, 16, 0, 0), (31, .iconst 0, 1, 0, 0, 0),
  (32, .invokestatic 40, 3, 178, 0, 96), (35, .aload_n 2, 1, 0, 0, 0), (36, .invokevirtual 105, 3, 88, 0, 106), (39, .ireturn, 1, 0, 0, 0)]
set_option maxRecDepth 100000 in
noncomputable def rw_104 : List PRow := [
  (0, .iload_n 1, 1, 0, 0, 0), (1, .iload_n 2, 1, 0, 0, 0), (2, .invokestatic 51, 3, 180, 0, 99), (5, .aload_n 0, 1, 0, 0, 0), (6, .getfield 10, 3, 9, 0, 122), (9, .getfield 108, 3, 1, 0, 131), (12, .iload_n 1, 1, 0, 0, 0), (13, .aaload, 1, 0, 0, 0),
  (14, .astore_n 3, 1, 0, 0, 0), (15, .aload_n 3, 1, 0, 0, 0), (16, .getfield 86, 3, 6, 12, 127), (19, .iconst 3, 1, 0, 0, 0), (20, .if_icmp .ne 24, 3, 24, 0, 0), (23, .aload_n 3, 1, 0, 0, 0), (24, .iload_n 2, 1, 0, 0, 0), (25, .invokevirtual 112, 3, 76, 0, 107),
  (28, .ifCond .eq 16, 3, 24, 0, 0), (31, .aload_n 3, 1, 0, 0, 0), (32, .getfield 116, 3, 6, 3, 132), (35, .iload_n 2, 1, 0, 0, 0), (36, .iaload, 1, 0, 0, 0), (37, .aload_n 3, 1, 0, 0, 0), (38, .invokevirtual 120, 3, 72, 0, 108), (41, .if_icmp .ge 7, 3, 26, 0, 0),
  (44, .iconst 1, 1, 0, 0, 0), (45, .goto 4, 3, 27, 0, 0), (48, .iconst 0, 1, 0, 0, 0), (49, .invokestatic 40, 3, 178, 0, 96), (52, .aload_n 0, 1, 0, 0, 0), (53, .getfield 10, 3, 9, 0, 122), (56, .getfield 55, 3, 1, 2, 125), (59, .bipush 8, 2, 0, 0, 0),
  (61, .iload_n 1, 1, 0, 0, 0), (62, .iload_n 2, 1, 0, 0, 0), (63, .aload_n 3, 1, 0, 0, 0), (64, .getfield 123, 3, 6, 5, 133), (67, .invokevirtual 126, 3, 62, 0, 109), (70, .pop, 1, 0, 0, 0), (71, .aload_n 0, 1, 0, 0, 0), (72, .getfield 10, 3, 9, 0, 122),
  (75, .getfield 55, 3, 1, 2, 125), (78, .getfield 130, 3, 4, 3, 134), (81, .ireturn, 1, 0, 0, 0)]
set_option maxRecDepth 100000 in
noncomputable def rw_105 : List PRow := [
  (0, .aload_n 0, 1, 0, 0, 0), (1, .iload_n 1, 1, 0, 0, 0), (2, .invokevirtual 30, 3, 186, 0, 95), (5, .astore_n 3, 1, 0, 0, 0), (6, .iload_n 2, 1, 0, 0, 0), (7, .invokestatic 133, 3, 179, 0, 110), (10, .aload_n 3, 1, 0, 0, 0), (11, .invokevirtual 136, 3, 81, 0, 111),
  (14, .ifCond .eq 11, 3, 13, 0, 0), (17, .aload_n 3, 1, 0, 0, 0), (18, .iload_n 2, 1, 0, 0, 0), (19, .invokevirtual 112, 3, 76, 0, 107), (22, .ifCond .eq 7, 3, 15, 0, 0), (25, .iconst 1, 1, 0, 0, 0), (26, .goto 4, 3, 16, 0, 0), (29, .iconst 0, 1, 0, 0, 0),
  (30, .invokestatic 40, 3, 178, 0, 96), (33, .aload_n 3, 1, 0, 0, 0), (34, .new 139, 3, 2, 0, 16), (37, .dup, 1, 0, 0, 0), (38, .aload_n 3, 1, 0, 0, 0), (39, .getfield 123, 3, 6, 5, 133), (42, .iconst 4, 1, 0, 0, 0), (43, .aconst_null, 1, 0, 0, 0),
  (44, .aload_n 3, 1, 0, 0, 0), (45, .getfield 141, 3, 6, 10, 135), (48, .iconst 1, 1, 0, 0, 0), (49, .iload_n 2, 1, 0, 0, 0), (50, .ishl, 1, 0, 0, 0), (51, .ior, 1, 0, 0, 0), (52, .invokespecial 144, 3, 49, 1, 112), (55, .invokevirtual 147, 3, 84, 0, 113),
  (58, .aload_n 3, 1, 0, 0, 0), (59, .invokevirtual 120, 3, 72, 0, 108), (62, .istore 4, 2, 0, 0, 0), (64, .aload_n 3, 1, 0, 0, 0), (65, .getfield 151, 3, 6, 2, 136), (68, .iload_n 2, 1, 0, 0, 0), (69, .iload 4, 2, 0, 0, 0), (71, .iastore, 1, 0, 0, 0),
  (72, .aload_n 3, 1, 0, 0, 0), (73, .getfield 116, 3, 6, 3, 132), (76, .iload_n 2, 1, 0, 0, 0), (77, .iconst 0, 1, 0, 0, 0), (78, .iastore, 1, 0, 0, 0), (79, .aload_n 0, 1, 0, 0, 0), (80, .getfield 10, 3, 9, 0, 122), (83, .aload_n 3, 1, 0, 0, 0),
  (84, .invokevirtual 154, 3, 38, 0, 114), (87, .iload 4, 2, 0, 0, 0), (89, .ireturn, 1, 0, 0, 0)]
set_option maxRecDepth 100000 in
noncomputable def rw_106 : List PRow := [
  (0, .aload_n 0, 1, 0, 0, 0), (1, .iload_n 1, 1, 0, 0, 0), (2, .invokevirtual 30, 3, 186, 0, 95), (5, .astore_n 3, 1, 0, 0, 0), (6, .iload_n 2, 1, 0, 0, 0), (7, .invokestatic 133, 3, 179, 0, 110), (10, .aload_n 3, 1, 0, 0, 0), (11, .getfield 141, 3, 6, 10, 135),
  (14, .iconst 1, 1, 0, 0, 0), (15, .iload_n 2, 1, 0, 0, 0), (16, .ishl, 1, 0, 0, 0), (17, .iconst (-1), 1, 0, 0, 0), (18, .ixor, 1, 0, 0, 0), (19, .iand, 1, 0, 0, 0), (20, .istore 4, 2, 0, 0, 0), (22, .aload_n 3, 1, 0, 0, 0),
  (23, .invokevirtual 136, 3, 81, 0, 111), (26, .ifCond .eq 16, 3, 24, 0, 0), (29, .aload_n 3, 1, 0, 0, 0), (30, .iload_n 2, 1, 0, 0, 0), (31, .invokevirtual 112, 3, 76, 0, 107), (34, .ifCond .eq 8, 3, 24, 0, 0), (37, .iload 4, 2, 0, 0, 0), (39, .ifCond .ne 7, 3, 26, 0, 0),
  (42, .iconst 1, 1, 0, 0, 0), (43, .goto 4, 3, 27, 0, 0), (46, .iconst 0, 1, 0, 0, 0), (47, .invokestatic 40, 3, 178, 0, 96), (50, .aload_n 3, 1, 0, 0, 0), (51, .new 139, 3, 2, 0, 16), (54, .dup, 1, 0, 0, 0), (55, .aload_n 3, 1, 0, 0, 0),
  (56, .getfield 123, 3, 6, 5, 133), (59, .iconst 4, 1, 0, 0, 0), (60, .aconst_null, 1, 0, 0, 0), (61, .iload 4, 2, 0, 0, 0), (63, .invokespecial 144, 3, 49, 1, 112), (66, .invokevirtual 147, 3, 84, 0, 113), (69, .aload_n 3, 1, 0, 0, 0), (70, .invokevirtual 120, 3, 72, 0, 108),
  (73, .istore 5, 2, 0, 0, 0), (75, .aload_n 0, 1, 0, 0, 0), (76, .getfield 10, 3, 9, 0, 122), (79, .aload_n 3, 1, 0, 0, 0), (80, .invokevirtual 154, 3, 38, 0, 114), (83, .iload 5, 2, 0, 0, 0), (85, .ireturn, 1, 0, 0, 0)]
set_option maxRecDepth 100000 in
noncomputable def rw_107 : List PRow := [
  (0, .aload_n 0, 1, 0, 0, 0), (1, .getfield 10, 3, 9, 0, 122), (4, .getfield 55, 3, 1, 2, 125), (7, .getfield 130, 3, 4, 3, 134), (10, .ireturn, 1, 0, 0, 0)]
set_option maxRecDepth 100000 in
noncomputable def rw_108 : List PRow := [
  (0, .aload_n 0, 1, 0, 0, 0), (1, .iload_n 1, 1, 0, 0, 0), (2, .invokevirtual 158, 3, 183, 0, 115), (5, .aload_n 0, 1, 0, 0, 0), (6, .getfield 10, 3, 9, 0, 122), (9, .iload_n 1, 1, 0, 0, 0), (10, .invokevirtual 161, 3, 40, 0, 116), (13, .ireturn, 1, 0, 0, 0)]
set_option maxRecDepth 100000 in
noncomputable def rw_109 : List PRow := [
  (0, .aload_n 0, 1, 0, 0, 0), (1, .iload_n 1, 1, 0, 0, 0), (2, .invokevirtual 158, 3, 183, 0, 115), (5, .aload_n 0, 1, 0, 0, 0), (6, .getfield 10, 3, 9, 0, 122), (9, .getfield 55, 3, 1, 2, 125), (12, .iload_n 1, 1, 0, 0, 0), (13, .invokevirtual 164, 3, 64, 0, 117),
  (16, .pop, 1, 0, 0, 0), (17, .aload_n 0, 1, 0, 0, 0), (18, .getfield 10, 3, 9, 0, 122), (21, .getfield 55, 3, 1, 2, 125), (24, .dup, 1, 0, 0, 0), (25, .getfield 71, 3, 4, 5, 126), (28, .iconst 1, 1, 0, 0, 0), (29, .iadd, 1, 0, 0, 0),
  (30, .putfield 71, 3, 4, 5, 126), (33, .aload_n 0, 1, 0, 0, 0), (34, .getfield 10, 3, 9, 0, 122), (37, .getfield 55, 3, 1, 2, 125), (40, .getfield 130, 3, 4, 3, 134), (43, .ireturn, 1, 0, 0, 0)]
set_option maxRecDepth 100000 in
noncomputable def rw_110 : List PRow := [
  (0, .aload_n 0, 1, 0, 0, 0), (1, .iload_n 1, 1, 0, 0, 0), (2, .invokevirtual 158, 3, 183, 0, 115), (5, .aload_n 0, 1, 0, 0, 0), (6, .getfield 10, 3, 9, 0, 122), (9, .getfield 55, 3, 1, 2, 125), (12, .getfield 130, 3, 4, 3, 134), (15, .bipush 60, 2, 0, 0, 0),
  (17, .if_icmp .lt 7, 3, 11, 0, 0), (20, .iconst 1, 1, 0, 0, 0), (21, .goto 4, 3, 12, 0, 0), (24, .iconst 0, 1, 0, 0, 0), (25, .invokestatic 40, 3, 178, 0, 96), (28, .aload_n 0, 1, 0, 0, 0), (29, .getfield 10, 3, 9, 0, 122), (32, .getfield 55, 3, 1, 2, 125),
  (35, .iload_n 1, 1, 0, 0, 0), (36, .invokevirtual 168, 3, 63, 0, 118), (39, .ireturn, 1, 0, 0, 0)]
set_option maxRecDepth 100000 in
noncomputable def rw_116 : List PRow := [
  (0, .aload_n 0, 1, 0, 0, 0), (1, .iload_n 1, 1, 0, 0, 0), (2, .iload_n 2, 1, 0, 0, 0), (3, .iconst 0, 1, 0, 0, 0), (4, .iload_n 3, 1, 0, 0, 0), (5, .invokevirtual 190, 3, 184, 0, 119), (8, .aload_n 0, 1, 0, 0, 0), (9, .getfield 10, 3, 9, 0, 122),
  (12, .getfield 194, 3, 1, 1, 137), (15, .iload_n 1, 1, 0, 0, 0), (16, .aaload, 1, 0, 0, 0), (17, .iload_n 1, 1, 0, 0, 0), (18, .iconst 1, 1, 0, 0, 0), (19, .iload_n 2, 1, 0, 0, 0), (20, .iconst 0, 1, 0, 0, 0), (21, .iload_n 3, 1, 0, 0, 0),
  (22, .invokevirtual 198, 3, 15, 0, 120), (25, .ireturn, 1, 0, 0, 0)]
set_option maxRecDepth 100000 in
noncomputable def rw_117 : List PRow := [
  (0, .aload_n 0, 1, 0, 0, 0), (1, .iload_n 1, 1, 0, 0, 0), (2, .iload_n 2, 1, 0, 0, 0), (3, .iconst 0, 1, 0, 0, 0), (4, .iload_n 3, 1, 0, 0, 0), (5, .invokevirtual 190, 3, 184, 0, 119), (8, .aload_n 0, 1, 0, 0, 0), (9, .getfield 10, 3, 9, 0, 122),
  (12, .getfield 194, 3, 1, 1, 137), (15, .iload_n 1, 1, 0, 0, 0), (16, .aaload, 1, 0, 0, 0), (17, .iload_n 1, 1, 0, 0, 0), (18, .iconst 2, 1, 0, 0, 0), (19, .iload_n 2, 1, 0, 0, 0), (20, .iconst 0, 1, 0, 0, 0), (21, .iload_n 3, 1, 0, 0, 0),
  (22, .invokevirtual 198, 3, 15, 0, 120), (25, .ireturn, 1, 0, 0, 0)]
set_option maxRecDepth 100000 in
noncomputable def rw_119 : List PRow := [
  (0, .iload_n 1, 1, 0, 0, 0), (1, .invokestatic 204, 3, 181, 0, 121), (4, .aload_n 0, 1, 0, 0, 0), (5, .iload_n 2, 1, 0, 0, 0), (6, .invokevirtual 30, 3, 186, 0, 95), (9, .astore_n 3, 1, 0, 0, 0), (10, .aload_n 0, 1, 0, 0, 0), (11, .getfield 10, 3, 9, 0, 122),
  (14, .getfield 194, 3, 1, 1, 137), (17, .iload_n 1, 1, 0, 0, 0), (18, .aaload, 1, 0, 0, 0), (19, .getfield 207, 3, 0, 0, 138), (22, .astore 4, 2, 0, 0, 0), (24, .aload 4, 2, 0, 0, 0), (26, .ifnull 18, 3, 22, 0, 0), (29, .aload_n 0, 1, 0, 0, 0),
  (30, .getfield 10, 3, 9, 0, 122), (33, .getfield 194, 3, 1, 1, 137), (36, .iload_n 1, 1, 0, 0, 0), (37, .aaload, 1, 0, 0, 0), (38, .getfield 211, 3, 0, 1, 139), (41, .ifCond .eq 13, 3, 27, 0, 0), (44, .new 214, 3, 101, 0, 2), (47, .dup, 1, 0, 0, 0),
  (48, .ldc 216, 2, 0, 0, 0), (50, .invokespecial 218, 3, 9, 1, 0), (53, .athrow, 1, 0, 0, 0), (54, .aload_n 3, 1, 0, 0, 0), (55, .getfield 86, 3, 6, 12, 127), (58, .iconst 3, 1, 0, 0, 0), (59, .if_icmp .ne 12, 3, 35, 0, 0), (62, .aload_n 3, 1, 0, 0, 0),
  (63, .getfield 219, 3, 6, 8, 140), (66, .bipush 40, 2, 0, 0, 0), (68, .if_icmp .lt 7, 3, 37, 0, 0), (71, .iconst 1, 1, 0, 0, 0), (72, .goto 4, 3, 38, 0, 0), (75, .iconst 0, 1, 0, 0, 0), (76, .invokestatic 40, 3, 178, 0, 96), (79, .aload_n 3, 1, 0, 0, 0),
  (80, .new 139, 3, 2, 0, 16), (83, .dup, 1, 0, 0, 0), (84, .aload_n 3, 1, 0, 0, 0), (85, .getfield 123, 3, 6, 5, 133), (88, .aload 4, 2, 0, 0, 0), (90, .getfield 220, 3, 5, 2, 141), (93, .aload 4, 2, 0, 0, 0), (95, .iconst 0, 1, 0, 0, 0),
  (96, .invokespecial 144, 3, 49, 1, 112), (99, .invokevirtual 147, 3, 84, 0, 113), (102, .aload_n 3, 1, 0, 0, 0), (103, .invokevirtual 120, 3, 72, 0, 108), (106, .istore 5, 2, 0, 0, 0), (108, .aload_n 0, 1, 0, 0, 0), (109, .getfield 10, 3, 9, 0, 122), (112, .aload_n 3, 1, 0, 0, 0),
  (113, .invokevirtual 154, 3, 38, 0, 114), (116, .iload 5, 2, 0, 0, 0), (118, .ireturn, 1, 0, 0, 0)]
set_option maxRecDepth 100000 in
noncomputable def rw_120 : List PRow := [
  (0, .iload_n 1, 1, 0, 0, 0), (1, .invokestatic 204, 3, 181, 0, 121), (4, .aload_n 0, 1, 0, 0, 0), (5, .getfield 10, 3, 9, 0, 122), (8, .getfield 194, 3, 1, 1, 137), (11, .iload_n 1, 1, 0, 0, 0), (12, .aaload, 1, 0, 0, 0), (13, .invokevirtual 223, 3, 13, 0, 122),
  (16, .ireturn, 1, 0, 0, 0)]
set_option maxRecDepth 100000 in
noncomputable def rw_123 : List PRow := [
  (0, .aload_n 0, 1, 0, 0, 0), (1, .getfield 10, 3, 9, 0, 122), (4, .getfield 229, 3, 1, 3, 142), (7, .ireturn, 1, 0, 0, 0)]
set_option maxRecDepth 100000 in
noncomputable def rw_124 : List PRow := [
  (0, .aload_n 0, 1, 0, 0, 0), (1, .getfield 10, 3, 9, 0, 122), (4, .getfield 55, 3, 1, 2, 125), (7, .getfield 71, 3, 4, 5, 126), (10, .ireturn, 1, 0, 0, 0)]
set_option maxRecDepth 100000 in
noncomputable def rw_125 : List PRow := [
  (0, .aload_n 0, 1, 0, 0, 0), (1, .iload_n 1, 1, 0, 0, 0), (2, .invokevirtual 30, 3, 186, 0, 95), (5, .getfield 34, 3, 6, 4, 124), (8, .ireturn, 1, 0, 0, 0)]
set_option maxRecDepth 100000 in
noncomputable def rw_126 : List PRow := [
  (0, .aload_n 0, 1, 0, 0, 0), (1, .iload_n 1, 1, 0, 0, 0), (2, .invokevirtual 30, 3, 186, 0, 95), (5, .getfield 86, 3, 6, 12, 127), (8, .ireturn, 1, 0, 0, 0)]
set_option maxRecDepth 100000 in
noncomputable def rw_127 : List PRow := [
  (0, .aload_n 0, 1, 0, 0, 0), (1, .iload_n 1, 1, 0, 0, 0), (2, .invokevirtual 30, 3, 186, 0, 95), (5, .getfield 123, 3, 6, 5, 133), (8, .ireturn, 1, 0, 0, 0)]
set_option maxRecDepth 100000 in
noncomputable def rw_128 : List PRow := [
  (0, .aload_n 0, 1, 0, 0, 0), (1, .iload_n 1, 1, 0, 0, 0), (2, .invokevirtual 30, 3, 186, 0, 95), (5, .getfield 232, 3, 6, 6, 143), (8, .ireturn, 1, 0, 0, 0)]
set_option maxRecDepth 100000 in
noncomputable def rw_129 : List PRow := [
  (0, .aload_n 0, 1, 0, 0, 0), (1, .iload_n 1, 1, 0, 0, 0), (2, .invokevirtual 30, 3, 186, 0, 95), (5, .getfield 235, 3, 6, 13, 144), (8, .ireturn, 1, 0, 0, 0)]
set_option maxRecDepth 100000 in
noncomputable def rw_130 : List PRow := [
  (0, .aload_n 0, 1, 0, 0, 0), (1, .iload_n 1, 1, 0, 0, 0), (2, .invokevirtual 30, 3, 186, 0, 95), (5, .getfield 238, 3, 6, 14, 145), (8, .ireturn, 1, 0, 0, 0)]
set_option maxRecDepth 100000 in
noncomputable def rw_132 : List PRow := [
  (0, .aload_n 0, 1, 0, 0, 0), (1, .iload_n 1, 1, 0, 0, 0), (2, .invokevirtual 30, 3, 186, 0, 95), (5, .getfield 96, 3, 6, 9, 129), (8, .getfield 100, 3, 7, 0, 130), (11, .ireturn, 1, 0, 0, 0)]
set_option maxRecDepth 100000 in
noncomputable def rw_133 : List PRow := [
  (0, .aload_n 0, 1, 0, 0, 0), (1, .iload_n 1, 1, 0, 0, 0), (2, .invokevirtual 30, 3, 186, 0, 95), (5, .invokevirtual 120, 3, 72, 0, 108), (8, .ireturn, 1, 0, 0, 0)]
set_option maxRecDepth 100000 in
noncomputable def rw_134 : List PRow := [
  (0, .aload_n 0, 1, 0, 0, 0), (1, .iload_n 1, 1, 0, 0, 0), (2, .invokevirtual 30, 3, 186, 0, 95), (5, .invokevirtual 244, 3, 73, 0, 123), (8, .ireturn, 1, 0, 0, 0)]
set_option maxRecDepth 100000 in
noncomputable def rw_135 : List PRow := [
  (0, .aload_n 0, 1, 0, 0, 0), (1, .iload_n 1, 1, 0, 0, 0), (2, .invokevirtual 30, 3, 186, 0, 95), (5, .getfield 93, 3, 6, 15, 128), (8, .ireturn, 1, 0, 0, 0)]
set_option maxRecDepth 100000 in
noncomputable def rw_136 : List PRow := [
  (0, .aload_n 0, 1, 0, 0, 0), (1, .iload_n 1, 1, 0, 0, 0), (2, .invokevirtual 30, 3, 186, 0, 95), (5, .getfield 141, 3, 6, 10, 135), (8, .invokestatic 247, 3, 389, 0, 124), (11, .ireturn, 1, 0, 0, 0)]
set_option maxRecDepth 100000 in
noncomputable def rw_138 : List PRow := [
  (0, .aload_n 0, 1, 0, 0, 0), (1, .iload_n 1, 1, 0, 0, 0), (2, .invokevirtual 30, 3, 186, 0, 95), (5, .iload_n 2, 1, 0, 0, 0), (6, .invokevirtual 252, 3, 75, 0, 125), (9, .istore_n 3, 1, 0, 0, 0), (10, .iload_n 3, 1, 0, 0, 0), (11, .ifCond .ge 14, 3, 13, 0, 0),
  (14, .new 255, 3, 102, 0, 3), (17, .dup, 1, 0, 0, 0), (18, .ldc_w 257, 3, 0, 0, 0), (21, .invokespecial 259, 3, 9, 1, 0), (24, .athrow, 1, 0, 0, 0), (25, .iload_n 3, 1, 0, 0, 0), (26, .ireturn, 1, 0, 0, 0)]
set_option maxRecDepth 100000 in
noncomputable def rw_139 : List PRow := [
  (0, .aload_n 0, 1, 0, 0, 0), (1, .iload_n 1, 1, 0, 0, 0), (2, .iload_n 2, 1, 0, 0, 0), (3, .invokevirtual 260, 3, 188, 0, 126), (6, .getfield 264, 3, 2, 1, 146), (9, .ireturn, 1, 0, 0, 0)]
set_option maxRecDepth 100000 in
noncomputable def rw_140 : List PRow := [
  (0, .aload_n 0, 1, 0, 0, 0), (1, .iload_n 1, 1, 0, 0, 0), (2, .iload_n 2, 1, 0, 0, 0), (3, .invokevirtual 260, 3, 188, 0, 126), (6, .invokevirtual 265, 3, 50, 0, 127), (9, .ireturn, 1, 0, 0, 0)]
set_option maxRecDepth 100000 in
noncomputable def rw_141 : List PRow := [
  (0, .aload_n 0, 1, 0, 0, 0), (1, .iload_n 1, 1, 0, 0, 0), (2, .iload_n 2, 1, 0, 0, 0), (3, .invokevirtual 260, 3, 188, 0, 126), (6, .invokevirtual 268, 3, 51, 0, 128), (9, .ireturn, 1, 0, 0, 0)]
set_option maxRecDepth 100000 in
noncomputable def rw_142 : List PRow := [
  (0, .aload_n 0, 1, 0, 0, 0), (1, .iload_n 1, 1, 0, 0, 0), (2, .iload_n 2, 1, 0, 0, 0), (3, .invokevirtual 260, 3, 188, 0, 126), (6, .invokevirtual 271, 3, 52, 0, 129), (9, .ireturn, 1, 0, 0, 0)]
set_option maxRecDepth 100000 in
noncomputable def rw_143 : List PRow := [
  (0, .iload_n 2, 1, 0, 0, 0), (1, .invokestatic 272, 3, 182, 0, 130), (4, .aload_n 0, 1, 0, 0, 0), (5, .iload_n 1, 1, 0, 0, 0), (6, .invokevirtual 30, 3, 186, 0, 95), (9, .getfield 275, 3, 6, 1, 147), (12, .getfield 279, 3, 8, 0, 148), (15, .iload_n 2, 1, 0, 0, 0),
  (16, .iaload, 1, 0, 0, 0), (17, .ireturn, 1, 0, 0, 0)]
set_option maxRecDepth 100000 in
noncomputable def rw_144 : List PRow := [
  (0, .iload_n 2, 1, 0, 0, 0), (1, .invokestatic 204, 3, 181, 0, 121), (4, .aload_n 0, 1, 0, 0, 0), (5, .iload_n 1, 1, 0, 0, 0), (6, .invokevirtual 30, 3, 186, 0, 95), (9, .getfield 275, 3, 6, 1, 147), (12, .getfield 284, 3, 8, 1, 149), (15, .iload_n 2, 1, 0, 0, 0),
  (16, .iaload, 1, 0, 0, 0), (17, .ireturn, 1, 0, 0, 0)]
set_option maxRecDepth 100000 in
noncomputable def rw_145 : List PRow := [
  (0, .iload_n 1, 1, 0, 0, 0), (1, .iload_n 2, 1, 0, 0, 0), (2, .invokestatic 51, 3, 180, 0, 99), (5, .aload_n 0, 1, 0, 0, 0), (6, .getfield 10, 3, 9, 0, 122), (9, .getfield 108, 3, 1, 0, 131), (12, .iload_n 1, 1, 0, 0, 0), (13, .aaload, 1, 0, 0, 0),
  (14, .getfield 86, 3, 6, 12, 127), (17, .iconst 3, 1, 0, 0, 0), (18, .if_icmp .eq 7, 3, 13, 0, 0), (21, .iconst 1, 1, 0, 0, 0), (22, .goto 4, 3, 14, 0, 0), (25, .iconst 0, 1, 0, 0, 0), (26, .invokestatic 40, 3, 178, 0, 96), (29, .aload_n 0, 1, 0, 0, 0),
  (30, .getfield 10, 3, 9, 0, 122), (33, .getfield 108, 3, 1, 0, 131), (36, .iload_n 1, 1, 0, 0, 0), (37, .aaload, 1, 0, 0, 0), (38, .getfield 151, 3, 6, 2, 136), (41, .iload_n 2, 1, 0, 0, 0), (42, .iaload, 1, 0, 0, 0), (43, .ireturn, 1, 0, 0, 0)]
set_option maxRecDepth 100000 in
noncomputable def rw_146 : List PRow := [
  (0, .iload_n 1, 1, 0, 0, 0), (1, .iload_n 2, 1, 0, 0, 0), (2, .invokestatic 51, 3, 180, 0, 99), (5, .aload_n 0, 1, 0, 0, 0), (6, .getfield 10, 3, 9, 0, 122), (9, .getfield 108, 3, 1, 0, 131), (12, .iload_n 1, 1, 0, 0, 0), (13, .aaload, 1, 0, 0, 0),
  (14, .getfield 86, 3, 6, 12, 127), (17, .iconst 3, 1, 0, 0, 0), (18, .if_icmp .eq 7, 3, 13, 0, 0), (21, .iconst 1, 1, 0, 0, 0), (22, .goto 4, 3, 14, 0, 0), (25, .iconst 0, 1, 0, 0, 0), (26, .invokestatic 40, 3, 178, 0, 96), (29, .aload_n 0, 1, 0, 0, 0),
  (30, .getfield 10, 3, 9, 0, 122), (33, .getfield 108, 3, 1, 0, 131), (36, .iload_n 1, 1, 0, 0, 0), (37, .aaload, 1, 0, 0, 0), (38, .getfield 116, 3, 6, 3, 132), (41, .iload_n 2, 1, 0, 0, 0), (42, .iaload, 1, 0, 0, 0), (43, .ireturn, 1, 0, 0, 0)]
set_option maxRecDepth 100000 in
noncomputable def rw_147 : List PRow := [
  (0, .aload_n 0, 1, 0, 0, 0), (1, .getfield 10, 3, 9, 0, 122), (4, .invokevirtual 287, 3, 22, 0, 131), (7, .astore_n 1, 1, 0, 0, 0), (8, .aload_n 1, 1, 0, 0, 0), (9, .ifnonnull 7, 3, 8, 0, 0), (12, .iconst (-1), 1, 0, 0, 0), (13, .goto 7, 3, 10, 0, 0),
  (16, .aload_n 1, 1, 0, 0, 0), (17, .getfield 291, 3, 6, 0, 150), (20, .ireturn, 1, 0, 0, 0)]
set_option maxRecDepth 100000 in
noncomputable def rw_148 : List PRow := [
  (0, .aload_n 0, 1, 0, 0, 0), (1, .getfield 10, 3, 9, 0, 122), (4, .invokevirtual 294, 3, 21, 0, 132), (7, .ireturn, 1, 0, 0, 0)]
set_option maxRecDepth 100000 in
noncomputable def rw_149 : List PRow := [
  (0, .iconst 0, 1, 0, 0, 0), (1, .istore_n 1, 1, 0, 0, 0), (2, .aload_n 0, 1, 0, 0, 0), (3, .getfield 10, 3, 9, 0, 122), (6, .getfield 108, 3, 1, 0, 131), (9, .astore_n 2, 1, 0, 0, 0), (10, .aload_n 2, 1, 0, 0, 0), (11, .arraylength, 1, 0, 0, 0),
  (12, .istore_n 3, 1, 0, 0, 0), (13, .iconst 0, 1, 0, 0, 0), (14, .istore 4, 2, 0, 0, 0), (16, .iload 4, 2, 0, 0, 0), (18, .iload_n 3, 1, 0, 0, 0), (19, .if_icmp .ge 25, 3, 25, 0, 0), (22, .aload_n 2, 1, 0, 0, 0), (23, .iload 4, 2, 0, 0, 0),
  (25, .aaload, 1, 0, 0, 0), (26, .astore 5, 2, 0, 0, 0), (28, .iload_n 1, 1, 0, 0, 0), (29, .aload 5, 2, 0, 0, 0), (31, .getfield 93, 3, 6, 15, 128), (34, .invokestatic 297, 3, 2, 0, 133), (37, .istore_n 1, 1, 0, 0, 0), (38, .iinc 4 1, 3, 0, 0, 0),
  (41, .goto (-25), 3, 11, 0, 0), (44, .iload_n 1, 1, 0, 0, 0), (45, .ireturn, 1, 0, 0, 0)]
set_option maxRecDepth 100000 in
noncomputable def rw_150 : List PRow := [
  (0, .iload_n 2, 1, 0, 0, 0), (1, .invokestatic 133, 3, 179, 0, 110), (4, .aload_n 0, 1, 0, 0, 0), (5, .iload_n 1, 1, 0, 0, 0), (6, .invokevirtual 30, 3, 186, 0, 95), (9, .aload_n 0, 1, 0, 0, 0), (10, .getfield 10, 3, 9, 0, 122), (13, .getfield 108, 3, 1, 0, 131),
  (16, .iload_n 2, 1, 0, 0, 0), (17, .aaload, 1, 0, 0, 0), (18, .invokevirtual 302, 3, 83, 0, 134), (21, .ireturn, 1, 0, 0, 0)]
set_option maxRecDepth 100000 in
noncomputable def rw_160 : List PRow := [
  (0, .ldc2_w 324, 3, 2423, 0, 1), (3, .lstore_n 1, 1, 0, 0, 0), (4, .lload_n 1, 1, 0, 0, 0), (5, .ldc2_w 326, 3, 31, 0, 2), (8, .lmul, 1, 0, 0, 0), (9, .aload_n 0, 1, 0, 0, 0), (10, .invokevirtual 328, 3, 133, 0, 135), (13, .i2l, 1, 0, 0, 0),
  (14, .ladd, 1, 0, 0, 0), (15, .lstore_n 1, 1, 0, 0, 0), (16, .lload_n 1, 1, 0, 0, 0), (17, .ldc2_w 326, 3, 31, 0, 2), (20, .lmul, 1, 0, 0, 0), (21, .aload_n 0, 1, 0, 0, 0), (22, .invokevirtual 331, 3, 134, 0, 136), (25, .i2l, 1, 0, 0, 0),
  (26, .ladd, 1, 0, 0, 0), (27, .lstore_n 1, 1, 0, 0, 0), (28, .lload_n 1, 1, 0, 0, 0), (29, .ldc2_w 326, 3, 31, 0, 2), (32, .lmul, 1, 0, 0, 0), (33, .aload_n 0, 1, 0, 0, 0), (34, .invokevirtual 334, 3, 117, 0, 137), (37, .i2l, 1, 0, 0, 0),
  (38, .ladd, 1, 0, 0, 0), (39, .lstore_n 1, 1, 0, 0, 0), (40, .lload_n 1, 1, 0, 0, 0), (41, .ldc2_w 326, 3, 31, 0, 2), (44, .lmul, 1, 0, 0, 0), (45, .aload_n 0, 1, 0, 0, 0), (46, .invokevirtual 337, 3, 157, 0, 138), (49, .i2l, 1, 0, 0, 0),
  (50, .ladd, 1, 0, 0, 0), (51, .lstore_n 1, 1, 0, 0, 0), (52, .lload_n 1, 1, 0, 0, 0), (53, .ldc2_w 326, 3, 31, 0, 2), (56, .lmul, 1, 0, 0, 0), (57, .aload_n 0, 1, 0, 0, 0), (58, .invokevirtual 340, 3, 158, 0, 139), (61, .i2l, 1, 0, 0, 0),
  (62, .ladd, 1, 0, 0, 0), (63, .lstore_n 1, 1, 0, 0, 0), (64, .lload_n 1, 1, 0, 0, 0), (65, .ldc2_w 326, 3, 31, 0, 2), (68, .lmul, 1, 0, 0, 0), (69, .aload_n 0, 1, 0, 0, 0), (70, .invokevirtual 343, 3, 159, 0, 140), (73, .i2l, 1, 0, 0, 0),
  (74, .ladd, 1, 0, 0, 0), (75, .lstore_n 1, 1, 0, 0, 0), (76, .aload_n 0, 1, 0, 0, 0), (77, .lload_n 1, 1, 0, 0, 0), (78, .invokevirtual 345, 3, 171, 0, 141), (81, .lstore_n 1, 1, 0, 0, 0), (82, .aload_n 0, 1, 0, 0, 0), (83, .lload_n 1, 1, 0, 0, 0),
  (84, .invokevirtual 349, 3, 172, 0, 142), (87, .lstore_n 1, 1, 0, 0, 0), (88, .aload_n 0, 1, 0, 0, 0), (89, .getfield 10, 3, 9, 0, 122), (92, .getfield 108, 3, 1, 0, 131), (95, .astore_n 3, 1, 0, 0, 0), (96, .aload_n 3, 1, 0, 0, 0), (97, .arraylength, 1, 0, 0, 0),
  (98, .istore 4, 2, 0, 0, 0), (100, .iconst 0, 1, 0, 0, 0), (101, .istore 5, 2, 0, 0, 0), (103, .iload 5, 2, 0, 0, 0), (105, .iload 4, 2, 0, 0, 0), (107, .if_icmp .ge 49, 3, 96, 0, 0), (110, .aload_n 3, 1, 0, 0, 0), (111, .iload 5, 2, 0, 0, 0),
  (113, .aaload, 1, 0, 0, 0), (114, .astore 6, 2, 0, 0, 0), (116, .aload_n 0, 1, 0, 0, 0), (117, .lload_n 1, 1, 0, 0, 0), (118, .aload 6, 2, 0, 0, 0), (120, .invokevirtual 352, 3, 173, 0, 143), (123, .lstore_n 1, 1, 0, 0, 0), (124, .aload_n 0, 1, 0, 0, 0),
  (125, .lload_n 1, 1, 0, 0, 0), (126, .aload 6, 2, 0, 0, 0), (128, .invokevirtual 356, 3, 174, 0, 144), (131, .lstore_n 1, 1, 0, 0, 0), (132, .lload_n 1, 1, 0, 0, 0), (133, .aload 6, 2, 0, 0, 0), (135, .getfield 275, 3, 6, 1, 147), (138, .invokestatic 359, 3, 175, 0, 145),
  (141, .lstore_n 1, 1, 0, 0, 0), (142, .aload_n 0, 1, 0, 0, 0), (143, .lload_n 1, 1, 0, 0, 0), (144, .aload 6, 2, 0, 0, 0), (146, .invokevirtual 363, 3, 176, 0, 146), (149, .lstore_n 1, 1, 0, 0, 0), (150, .iinc 5 1, 3, 0, 0, 0), (153, .goto (-50), 3, 67, 0, 0),
  (156, .lload_n 1, 1, 0, 0, 0), (157, .lreturn, 1, 0, 0, 0)]
set_option maxRecDepth 100000 in
noncomputable def rw_161 : List PRow := [
  (0, .lload_n 1, 1, 0, 0, 0), (1, .lstore_n 3, 1, 0, 0, 0), (2, .iconst 0, 1, 0, 0, 0), (3, .istore 5, 2, 0, 0, 0), (5, .iload 5, 2, 0, 0, 0), (7, .aload_n 0, 1, 0, 0, 0), (8, .getfield 10, 3, 9, 0, 122), (11, .getfield 55, 3, 1, 2, 125),
  (14, .getfield 130, 3, 4, 3, 134), (17, .if_icmp .ge 89, 3, 59, 0, 0), (20, .aload_n 0, 1, 0, 0, 0), (21, .getfield 10, 3, 9, 0, 122), (24, .getfield 55, 3, 1, 2, 125), (27, .getfield 366, 3, 4, 0, 151), (30, .iload 5, 2, 0, 0, 0), (32, .aaload, 1, 0, 0, 0),
  (33, .astore 6, 2, 0, 0, 0), (35, .lload_n 3, 1, 0, 0, 0), (36, .ldc2_w 326, 3, 31, 0, 2), (39, .lmul, 1, 0, 0, 0), (40, .aload 6, 2, 0, 0, 0), (42, .getfield 175, 3, 3, 1, 152), (45, .i2l, 1, 0, 0, 0), (46, .ladd, 1, 0, 0, 0),
  (47, .lstore_n 3, 1, 0, 0, 0), (48, .lload_n 3, 1, 0, 0, 0), (49, .ldc2_w 326, 3, 31, 0, 2), (52, .lmul, 1, 0, 0, 0), (53, .aload 6, 2, 0, 0, 0), (55, .getfield 180, 3, 3, 2, 153), (58, .i2l, 1, 0, 0, 0), (59, .ladd, 1, 0, 0, 0),
  (60, .lstore_n 3, 1, 0, 0, 0), (61, .lload_n 3, 1, 0, 0, 0), (62, .ldc2_w 326, 3, 31, 0, 2), (65, .lmul, 1, 0, 0, 0), (66, .aload 6, 2, 0, 0, 0), (68, .getfield 183, 3, 3, 3, 154), (71, .i2l, 1, 0, 0, 0), (72, .ladd, 1, 0, 0, 0),
  (73, .lstore_n 3, 1, 0, 0, 0), (74, .lload_n 3, 1, 0, 0, 0), (75, .ldc2_w 326, 3, 31, 0, 2), (78, .lmul, 1, 0, 0, 0), (79, .aload 6, 2, 0, 0, 0), (81, .getfield 186, 3, 3, 4, 155), (84, .i2l, 1, 0, 0, 0), (85, .ladd, 1, 0, 0, 0),
  (86, .lstore_n 3, 1, 0, 0, 0), (87, .lload_n 3, 1, 0, 0, 0), (88, .ldc2_w 326, 3, 31, 0, 2), (91, .lmul, 1, 0, 0, 0), (92, .aload 6, 2, 0, 0, 0), (94, .invokevirtual 187, 3, 55, 0, 147), (97, .i2l, 1, 0, 0, 0), (98, .ladd, 1, 0, 0, 0),
  (99, .lstore_n 3, 1, 0, 0, 0), (100, .iinc 5 1, 3, 0, 0, 0), (103, .goto (-98), 3, 4, 0, 0), (106, .lload_n 3, 1, 0, 0, 0), (107, .lreturn, 1, 0, 0, 0)]
set_option maxRecDepth 100000 in
noncomputable def rw_162 : List PRow := [
  (0, .lload_n 1, 1, 0, 0, 0), (1, .lstore_n 3, 1, 0, 0, 0), (2, .aload_n 0, 1, 0, 0, 0), (3, .getfield 10, 3, 9, 0, 122), (6, .getfield 194, 3, 1, 1, 137), (9, .astore 5, 2, 0, 0, 0), (11, .aload 5, 2, 0, 0, 0), (13, .arraylength, 1, 0, 0, 0),
  (14, .istore 6, 2, 0, 0, 0), (16, .iconst 0, 1, 0, 0, 0), (17, .istore 7, 2, 0, 0, 0), (19, .iload 7, 2, 0, 0, 0), (21, .iload 6, 2, 0, 0, 0), (23, .if_icmp .ge 71, 3, 51, 0, 0), (26, .aload 5, 2, 0, 0, 0), (28, .iload 7, 2, 0, 0, 0),
  (30, .aaload, 1, 0, 0, 0), (31, .astore 8, 2, 0, 0, 0), (33, .lload_n 3, 1, 0, 0, 0), (34, .ldc2_w 326, 3, 31, 0, 2), (37, .lmul, 1, 0, 0, 0), (38, .aload 8, 2, 0, 0, 0), (40, .invokevirtual 223, 3, 13, 0, 122), (43, .i2l, 1, 0, 0, 0),
  (44, .ladd, 1, 0, 0, 0), (45, .lstore_n 3, 1, 0, 0, 0), (46, .lload_n 3, 1, 0, 0, 0), (47, .ldc2_w 326, 3, 31, 0, 2), (50, .lmul, 1, 0, 0, 0), (51, .aload 8, 2, 0, 0, 0), (53, .getfield 211, 3, 0, 1, 139), (56, .ifCond .eq 7, 3, 34, 0, 0),
  (59, .iconst 1, 1, 0, 0, 0), (60, .goto 4, 3, 35, 0, 0), (63, .iconst 0, 1, 0, 0, 0), (64, .i2l, 1, 0, 0, 0), (65, .ladd, 1, 0, 0, 0), (66, .lstore_n 3, 1, 0, 0, 0), (67, .aload 8, 2, 0, 0, 0), (69, .getfield 211, 3, 0, 1, 139),
  (72, .ifCond .eq 16, 3, 49, 0, 0), (75, .lload_n 3, 1, 0, 0, 0), (76, .ldc2_w 326, 3, 31, 0, 2), (79, .lmul, 1, 0, 0, 0), (80, .aload 8, 2, 0, 0, 0), (82, .getfield 226, 3, 0, 2, 156), (85, .i2l, 1, 0, 0, 0), (86, .ladd, 1, 0, 0, 0),
  (87, .lstore_n 3, 1, 0, 0, 0), (88, .iinc 7 1, 3, 0, 0, 0), (91, .goto (-72), 3, 11, 0, 0), (94, .lload_n 3, 1, 0, 0, 0), (95, .lreturn, 1, 0, 0, 0)]
set_option maxRecDepth 100000 in
noncomputable def rw_163 : List PRow := [
  (0, .lload_n 1, 1, 0, 0, 0), (1, .lstore 4, 2, 0, 0, 0), (3, .lload 4, 2, 0, 0, 0), (5, .ldc2_w 326, 3, 31, 0, 2), (8, .lmul, 1, 0, 0, 0), (9, .aload_n 3, 1, 0, 0, 0), (10, .getfield 34, 3, 6, 4, 124), (13, .ifCond .eq 7, 3, 10, 0, 0),
  (16, .iconst 1, 1, 0, 0, 0), (17, .goto 4, 3, 11, 0, 0), (20, .iconst 0, 1, 0, 0, 0), (21, .i2l, 1, 0, 0, 0), (22, .ladd, 1, 0, 0, 0), (23, .lstore 4, 2, 0, 0, 0), (25, .lload 4, 2, 0, 0, 0), (27, .ldc2_w 326, 3, 31, 0, 2),
  (30, .lmul, 1, 0, 0, 0), (31, .aload_n 3, 1, 0, 0, 0), (32, .getfield 86, 3, 6, 12, 127), (35, .i2l, 1, 0, 0, 0), (36, .ladd, 1, 0, 0, 0), (37, .lstore 4, 2, 0, 0, 0), (39, .lload 4, 2, 0, 0, 0), (41, .ldc2_w 326, 3, 31, 0, 2),
  (44, .lmul, 1, 0, 0, 0), (45, .aload_n 3, 1, 0, 0, 0), (46, .getfield 123, 3, 6, 5, 133), (49, .i2l, 1, 0, 0, 0), (50, .ladd, 1, 0, 0, 0), (51, .lstore 4, 2, 0, 0, 0), (53, .lload 4, 2, 0, 0, 0), (55, .ldc2_w 326, 3, 31, 0, 2),
  (58, .lmul, 1, 0, 0, 0), (59, .aload_n 3, 1, 0, 0, 0), (60, .getfield 232, 3, 6, 6, 143), (63, .i2l, 1, 0, 0, 0), (64, .ladd, 1, 0, 0, 0), (65, .lstore 4, 2, 0, 0, 0), (67, .lload 4, 2, 0, 0, 0), (69, .ldc2_w 326, 3, 31, 0, 2),
  (72, .lmul, 1, 0, 0, 0), (73, .aload_n 3, 1, 0, 0, 0), (74, .getfield 235, 3, 6, 13, 144), (77, .i2l, 1, 0, 0, 0), (78, .ladd, 1, 0, 0, 0), (79, .lstore 4, 2, 0, 0, 0), (81, .lload 4, 2, 0, 0, 0), (83, .ldc2_w 326, 3, 31, 0, 2),
  (86, .lmul, 1, 0, 0, 0), (87, .aload_n 3, 1, 0, 0, 0), (88, .getfield 238, 3, 6, 14, 145), (91, .i2l, 1, 0, 0, 0), (92, .ladd, 1, 0, 0, 0), (93, .lstore 4, 2, 0, 0, 0), (95, .lload 4, 2, 0, 0, 0), (97, .ldc2_w 326, 3, 31, 0, 2),
  (100, .lmul, 1, 0, 0, 0), (101, .aload_n 3, 1, 0, 0, 0), (102, .getfield 96, 3, 6, 9, 129), (105, .getfield 100, 3, 7, 0, 130), (108, .i2l, 1, 0, 0, 0), (109, .ladd, 1, 0, 0, 0), (110, .lstore 4, 2, 0, 0, 0), (112, .lload 4, 2, 0, 0, 0),
  (114, .ldc2_w 326, 3, 31, 0, 2), (117, .lmul, 1, 0, 0, 0), (118, .aload_n 3, 1, 0, 0, 0), (119, .invokevirtual 120, 3, 72, 0, 108), (122, .i2l, 1, 0, 0, 0), (123, .ladd, 1, 0, 0, 0), (124, .lstore 4, 2, 0, 0, 0), (126, .lload 4, 2, 0, 0, 0),
  (128, .ldc2_w 326, 3, 31, 0, 2), (131, .lmul, 1, 0, 0, 0), (132, .aload_n 3, 1, 0, 0, 0), (133, .invokevirtual 244, 3, 73, 0, 123), (136, .i2l, 1, 0, 0, 0), (137, .ladd, 1, 0, 0, 0), (138, .lstore 4, 2, 0, 0, 0), (140, .lload 4, 2, 0, 0, 0),
  (142, .ldc2_w 326, 3, 31, 0, 2), (145, .lmul, 1, 0, 0, 0), (146, .aload_n 3, 1, 0, 0, 0), (147, .getfield 93, 3, 6, 15, 128), (150, .i2l, 1, 0, 0, 0), (151, .ladd, 1, 0, 0, 0), (152, .lstore 4, 2, 0, 0, 0), (154, .lload 4, 2, 0, 0, 0),
  (156, .ldc2_w 326, 3, 31, 0, 2), (159, .lmul, 1, 0, 0, 0), (160, .aload_n 3, 1, 0, 0, 0), (161, .getfield 141, 3, 6, 10, 135), (164, .invokestatic 247, 3, 389, 0, 124), (167, .i2l, 1, 0, 0, 0), (168, .ladd, 1, 0, 0, 0), (169, .lstore 4, 2, 0, 0, 0),
  (171, .lload 4, 2, 0, 0, 0), (173, .ldc2_w 326, 3, 31, 0, 2), (176, .lmul, 1, 0, 0, 0), (177, .aload_n 0, 1, 0, 0, 0), (178, .getfield 10, 3, 9, 0, 122), (181, .aload_n 3, 1, 0, 0, 0), (182, .invokevirtual 310, 3, 24, 0, 148), (185, .ifCond .eq 7, 3, 106, 0, 0),
  (188, .iconst 1, 1, 0, 0, 0), (189, .goto 4, 3, 107, 0, 0), (192, .iconst 0, 1, 0, 0, 0), (193, .i2l, 1, 0, 0, 0), (194, .ladd, 1, 0, 0, 0), (195, .lstore 4, 2, 0, 0, 0), (197, .lload 4, 2, 0, 0, 0), (199, .lreturn, 1, 0, 0, 0)]
set_option maxRecDepth 100000 in
noncomputable def rw_164 : List PRow := [
  (0, .lload_n 1, 1, 0, 0, 0), (1, .lstore 4, 2, 0, 0, 0), (3, .iconst 0, 1, 0, 0, 0), (4, .istore 6, 2, 0, 0, 0), (6, .iload 6, 2, 0, 0, 0), (8, .aload_n 3, 1, 0, 0, 0), (9, .getfield 219, 3, 6, 8, 140), (12, .if_icmp .ge 138, 3, 79, 0, 0),
  (15, .iload 6, 2, 0, 0, 0), (17, .aload_n 3, 1, 0, 0, 0), (18, .getfield 370, 3, 6, 7, 157), (21, .arraylength, 1, 0, 0, 0), (22, .if_icmp .ge 128, 3, 79, 0, 0), (25, .aload_n 3, 1, 0, 0, 0), (26, .getfield 370, 3, 6, 7, 157), (29, .iload 6, 2, 0, 0, 0),
  (31, .aaload, 1, 0, 0, 0), (32, .astore 7, 2, 0, 0, 0), (34, .lload 4, 2, 0, 0, 0), (36, .ldc2_w 326, 3, 31, 0, 2), (39, .lmul, 1, 0, 0, 0), (40, .aload 7, 2, 0, 0, 0), (42, .getfield 305, 3, 2, 0, 158), (45, .i2l, 1, 0, 0, 0),
  (46, .ladd, 1, 0, 0, 0), (47, .lstore 4, 2, 0, 0, 0), (49, .lload 4, 2, 0, 0, 0), (51, .ldc2_w 326, 3, 31, 0, 2), (54, .lmul, 1, 0, 0, 0), (55, .aload 7, 2, 0, 0, 0), (57, .getfield 264, 3, 2, 1, 146), (60, .i2l, 1, 0, 0, 0),
  (61, .ladd, 1, 0, 0, 0), (62, .lstore 4, 2, 0, 0, 0), (64, .lload 4, 2, 0, 0, 0), (66, .ldc2_w 326, 3, 31, 0, 2), (69, .lmul, 1, 0, 0, 0), (70, .aload 7, 2, 0, 0, 0), (72, .invokevirtual 265, 3, 50, 0, 127), (75, .i2l, 1, 0, 0, 0),
  (76, .ladd, 1, 0, 0, 0), (77, .lstore 4, 2, 0, 0, 0), (79, .lload 4, 2, 0, 0, 0), (81, .ldc2_w 326, 3, 31, 0, 2), (84, .lmul, 1, 0, 0, 0), (85, .aload 7, 2, 0, 0, 0), (87, .invokevirtual 268, 3, 51, 0, 128), (90, .i2l, 1, 0, 0, 0),
  (91, .ladd, 1, 0, 0, 0), (92, .lstore 4, 2, 0, 0, 0), (94, .lload 4, 2, 0, 0, 0), (96, .ldc2_w 326, 3, 31, 0, 2), (99, .lmul, 1, 0, 0, 0), (100, .aload 7, 2, 0, 0, 0), (102, .invokevirtual 271, 3, 52, 0, 129), (105, .i2l, 1, 0, 0, 0),
  (106, .ladd, 1, 0, 0, 0), (107, .lstore 4, 2, 0, 0, 0), (109, .lload 4, 2, 0, 0, 0), (111, .ldc2_w 326, 3, 31, 0, 2), (114, .lmul, 1, 0, 0, 0), (115, .aload_n 0, 1, 0, 0, 0), (116, .getfield 10, 3, 9, 0, 122), (119, .aload_n 3, 1, 0, 0, 0),
  (120, .aload_n 3, 1, 0, 0, 0), (121, .getfield 96, 3, 6, 9, 129), (124, .getfield 100, 3, 7, 0, 130), (127, .iconst 1, 1, 0, 0, 0), (128, .iadd, 1, 0, 0, 0), (129, .iload 6, 2, 0, 0, 0), (131, .iadd, 1, 0, 0, 0), (132, .aload 7, 2, 0, 0, 0),
  (134, .getfield 305, 3, 2, 0, 158), (137, .invokevirtual 306, 3, 23, 0, 149), (140, .i2l, 1, 0, 0, 0), (141, .ladd, 1, 0, 0, 0), (142, .lstore 4, 2, 0, 0, 0), (144, .iinc 6 1, 3, 0, 0, 0), (147, .goto (-141), 3, 4, 0, 0), (150, .lload 4, 2, 0, 0, 0),
  (152, .lreturn, 1, 0, 0, 0)]
set_option maxRecDepth 100000 in
noncomputable def rw_165 : List PRow := [
  (0, .lload_n 0, 1, 0, 0, 0), (1, .lstore_n 3, 1, 0, 0, 0), (2, .aload_n 2, 1, 0, 0, 0), (3, .getfield 279, 3, 8, 0, 148), (6, .astore 5, 2, 0, 0, 0), (8, .aload 5, 2, 0, 0, 0), (10, .arraylength, 1, 0, 0, 0), (11, .istore 6, 2, 0, 0, 0),
  (13, .iconst 0, 1, 0, 0, 0), (14, .istore 7, 2, 0, 0, 0), (16, .iload 7, 2, 0, 0, 0), (18, .iload 6, 2, 0, 0, 0), (20, .if_icmp .ge 26, 3, 26, 0, 0), (23, .aload 5, 2, 0, 0, 0), (25, .iload 7, 2, 0, 0, 0), (27, .iaload, 1, 0, 0, 0),
  (28, .istore 8, 2, 0, 0, 0), (30, .lload_n 3, 1, 0, 0, 0), (31, .ldc2_w 326, 3, 31, 0, 2), (34, .lmul, 1, 0, 0, 0), (35, .iload 8, 2, 0, 0, 0), (37, .i2l, 1, 0, 0, 0), (38, .ladd, 1, 0, 0, 0), (39, .lstore_n 3, 1, 0, 0, 0),
  (40, .iinc 7 1, 3, 0, 0, 0), (43, .goto (-27), 3, 10, 0, 0), (46, .aload_n 2, 1, 0, 0, 0), (47, .getfield 284, 3, 8, 1, 149), (50, .astore 5, 2, 0, 0, 0), (52, .aload 5, 2, 0, 0, 0), (54, .arraylength, 1, 0, 0, 0), (55, .istore 6, 2, 0, 0, 0),
  (57, .iconst 0, 1, 0, 0, 0), (58, .istore 7, 2, 0, 0, 0), (60, .iload 7, 2, 0, 0, 0), (62, .iload 6, 2, 0, 0, 0), (64, .if_icmp .ge 26, 3, 50, 0, 0), (67, .aload 5, 2, 0, 0, 0), (69, .iload 7, 2, 0, 0, 0), (71, .iaload, 1, 0, 0, 0),
  (72, .istore 8, 2, 0, 0, 0), (74, .lload_n 3, 1, 0, 0, 0), (75, .ldc2_w 326, 3, 31, 0, 2), (78, .lmul, 1, 0, 0, 0), (79, .iload 8, 2, 0, 0, 0), (81, .i2l, 1, 0, 0, 0), (82, .ladd, 1, 0, 0, 0), (83, .lstore_n 3, 1, 0, 0, 0),
  (84, .iinc 7 1, 3, 0, 0, 0), (87, .goto (-27), 3, 34, 0, 0), (90, .lload_n 3, 1, 0, 0, 0), (91, .lreturn, 1, 0, 0, 0)]
set_option maxRecDepth 100000 in
noncomputable def rw_166 : List PRow := [
  (0, .lload_n 1, 1, 0, 0, 0), (1, .lstore 4, 2, 0, 0, 0), (3, .iconst 0, 1, 0, 0, 0), (4, .istore 6, 2, 0, 0, 0), (6, .iload 6, 2, 0, 0, 0), (8, .bipush 7, 2, 0, 0, 0), (10, .if_icmp .ge 60, 3, 37, 0, 0), (13, .aload_n 3, 1, 0, 0, 0),
  (14, .getfield 86, 3, 6, 12, 127), (17, .iconst 3, 1, 0, 0, 0), (18, .if_icmp .ne 46, 3, 35, 0, 0), (21, .iload 6, 2, 0, 0, 0), (23, .aload_n 3, 1, 0, 0, 0), (24, .getfield 291, 3, 6, 0, 150), (27, .if_icmp .eq 37, 3, 35, 0, 0), (30, .lload 4, 2, 0, 0, 0),
  (32, .ldc2_w 326, 3, 31, 0, 2), (35, .lmul, 1, 0, 0, 0), (36, .aload_n 3, 1, 0, 0, 0), (37, .getfield 151, 3, 6, 2, 136), (40, .iload 6, 2, 0, 0, 0), (42, .iaload, 1, 0, 0, 0), (43, .i2l, 1, 0, 0, 0), (44, .ladd, 1, 0, 0, 0),
  (45, .lstore 4, 2, 0, 0, 0), (47, .lload 4, 2, 0, 0, 0), (49, .ldc2_w 326, 3, 31, 0, 2), (52, .lmul, 1, 0, 0, 0), (53, .aload_n 3, 1, 0, 0, 0), (54, .getfield 116, 3, 6, 3, 132), (57, .iload 6, 2, 0, 0, 0), (59, .iaload, 1, 0, 0, 0),
  (60, .i2l, 1, 0, 0, 0), (61, .ladd, 1, 0, 0, 0), (62, .lstore 4, 2, 0, 0, 0), (64, .iinc 6 1, 3, 0, 0, 0), (67, .goto (-61), 3, 4, 0, 0), (70, .aload_n 0, 1, 0, 0, 0), (71, .getfield 10, 3, 9, 0, 122), (74, .getfield 108, 3, 1, 0, 131),
  (77, .astore 6, 2, 0, 0, 0), (79, .aload 6, 2, 0, 0, 0), (81, .arraylength, 1, 0, 0, 0), (82, .istore 7, 2, 0, 0, 0), (84, .iconst 0, 1, 0, 0, 0), (85, .istore 8, 2, 0, 0, 0), (87, .iload 8, 2, 0, 0, 0), (89, .iload 7, 2, 0, 0, 0),
  (91, .if_icmp .ge 32, 3, 64, 0, 0), (94, .aload 6, 2, 0, 0, 0), (96, .iload 8, 2, 0, 0, 0), (98, .aaload, 1, 0, 0, 0), (99, .astore 9, 2, 0, 0, 0), (101, .lload 4, 2, 0, 0, 0), (103, .ldc2_w 326, 3, 31, 0, 2), (106, .lmul, 1, 0, 0, 0),
  (107, .aload_n 3, 1, 0, 0, 0), (108, .aload 9, 2, 0, 0, 0), (110, .invokevirtual 302, 3, 83, 0, 134), (113, .i2l, 1, 0, 0, 0), (114, .ladd, 1, 0, 0, 0), (115, .lstore 4, 2, 0, 0, 0), (117, .iinc 8 1, 3, 0, 0, 0), (120, .goto (-33), 3, 46, 0, 0),
  (123, .lload 4, 2, 0, 0, 0), (125, .lreturn, 1, 0, 0, 0)]
set_option maxRecDepth 100000 in
noncomputable def rw_168 : List PRow := [
  (0, .iload_n 0, 1, 0, 0, 0), (1, .ifCond .eq 14, 3, 7, 0, 0), (4, .new 214, 3, 101, 0, 4), (7, .dup, 1, 0, 0, 0), (8, .ldc_w 377, 3, 0, 0, 0), (11, .invokespecial 218, 3, 9, 1, 0), (14, .athrow, 1, 0, 0, 0), (15, .return_, 1, 0, 0, 0)]
set_option maxRecDepth 100000 in
noncomputable def rw_169 : List PRow := [
  (0, .iload_n 0, 1, 0, 0, 0), (1, .ifCond .lt 9, 3, 5, 0, 0), (4, .iload_n 0, 1, 0, 0, 0), (5, .bipush 7, 2, 0, 0, 0), (7, .if_icmp .lt 14, 3, 10, 0, 0), (10, .new 255, 3, 102, 0, 5), (13, .dup, 1, 0, 0, 0), (14, .ldc_w 379, 3, 0, 0, 0),
  (17, .invokespecial 259, 3, 9, 1, 0), (20, .athrow, 1, 0, 0, 0), (21, .return_, 1, 0, 0, 0)]
set_option maxRecDepth 100000 in
noncomputable def rw_170 : List PRow := [
  (0, .iload_n 0, 1, 0, 0, 0), (1, .invokestatic 133, 3, 179, 0, 110), (4, .iload_n 1, 1, 0, 0, 0), (5, .invokestatic 133, 3, 179, 0, 110), (8, .iload_n 0, 1, 0, 0, 0), (9, .iload_n 1, 1, 0, 0, 0), (10, .if_icmp .ne 14, 3, 12, 0, 0), (13, .new 19, 3, 100, 0, 6),
  (16, .dup, 1, 0, 0, 0), (17, .ldc_w 381, 3, 0, 0, 0), (20, .invokespecial 23, 3, 9, 1, 0), (23, .athrow, 1, 0, 0, 0), (24, .return_, 1, 0, 0, 0)]
set_option maxRecDepth 100000 in
noncomputable def rw_171 : List PRow := [
  (0, .iload_n 0, 1, 0, 0, 0), (1, .ifCond .lt 8, 3, 5, 0, 0), (4, .iload_n 0, 1, 0, 0, 0), (5, .iconst 4, 1, 0, 0, 0), (6, .if_icmp .lt 14, 3, 10, 0, 0), (9, .new 255, 3, 102, 0, 7), (12, .dup, 1, 0, 0, 0), (13, .ldc_w 383, 3, 0, 0, 0),
  (16, .invokespecial 259, 3, 9, 1, 0), (19, .athrow, 1, 0, 0, 0), (20, .return_, 1, 0, 0, 0)]
set_option maxRecDepth 100000 in
noncomputable def rw_172 : List PRow := [
  (0, .iload_n 0, 1, 0, 0, 0), (1, .ifCond .lt 9, 3, 5, 0, 0), (4, .iload_n 0, 1, 0, 0, 0), (5, .bipush 8, 2, 0, 0, 0), (7, .if_icmp .lt 14, 3, 10, 0, 0), (10, .new 255, 3, 102, 0, 8), (13, .dup, 1, 0, 0, 0), (14, .ldc_w 385, 3, 0, 0, 0),
  (17, .invokespecial 259, 3, 9, 1, 0), (20, .athrow, 1, 0, 0, 0), (21, .return_, 1, 0, 0, 0)]
set_option maxRecDepth 100000 in
noncomputable def rw_173 : List PRow := [
  (0, .iload_n 1, 1, 0, 0, 0), (1, .ifCond .lt 17, 3, 8, 0, 0), (4, .iload_n 1, 1, 0, 0, 0), (5, .aload_n 0, 1, 0, 0, 0), (6, .getfield 10, 3, 9, 0, 122), (9, .getfield 55, 3, 1, 2, 125), (12, .getfield 130, 3, 4, 3, 134), (15, .if_icmp .lt 14, 3, 13, 0, 0),
  (18, .new 255, 3, 102, 0, 9), (21, .dup, 1, 0, 0, 0), (22, .ldc_w 387, 3, 0, 0, 0), (25, .invokespecial 259, 3, 9, 1, 0), (28, .athrow, 1, 0, 0, 0), (29, .return_, 1, 0, 0, 0)]
set_option maxRecDepth 100000 in
noncomputable def rw_174 : List PRow := [
  (0, .iload_n 1, 1, 0, 0, 0), (1, .invokestatic 204, 3, 181, 0, 121), (4, .iload_n 2, 1, 0, 0, 0), (5, .invokestatic 272, 3, 182, 0, 130), (8, .iload_n 3, 1, 0, 0, 0), (9, .invokestatic 389, 3, 185, 0, 150), (12, .ifCond .ne 11, 3, 10, 0, 0), (15, .iload 4, 2, 0, 0, 0),
  (17, .invokestatic 389, 3, 185, 0, 150), (20, .ifCond .eq 14, 3, 15, 0, 0), (23, .new 19, 3, 100, 0, 10), (26, .dup, 1, 0, 0, 0), (27, .ldc_w 392, 3, 0, 0, 0), (30, .invokespecial 23, 3, 9, 1, 0), (33, .athrow, 1, 0, 0, 0), (34, .aload_n 0, 1, 0, 0, 0),
  (35, .getfield 10, 3, 9, 0, 122), (38, .getfield 194, 3, 1, 1, 137), (41, .iload_n 1, 1, 0, 0, 0), (42, .aaload, 1, 0, 0, 0), (43, .invokevirtual 394, 3, 14, 0, 151), (46, .invokestatic 40, 3, 178, 0, 96), (49, .return_, 1, 0, 0, 0)]
set_option maxRecDepth 100000 in
noncomputable def rw_175 : List PRow := [
  (0, .iload_n 0, 1, 0, 0, 0), (1, .sipush (-9999), 3, 0, 0, 0), (4, .if_icmp .lt 10, 3, 6, 0, 0), (7, .iload_n 0, 1, 0, 0, 0), (8, .sipush 9999, 3, 0, 0, 0), (11, .if_icmp .le 7, 3, 8, 0, 0), (14, .iconst 1, 1, 0, 0, 0), (15, .goto 4, 3, 9, 0, 0),
  (18, .iconst 0, 1, 0, 0, 0), (19, .ireturn, 1, 0, 0, 0)]
set_option maxRecDepth 100000 in
noncomputable def rw_176 : List PRow := [
  (0, .iload_n 1, 1, 0, 0, 0), (1, .invokestatic 133, 3, 179, 0, 110), (4, .aload_n 0, 1, 0, 0, 0), (5, .getfield 10, 3, 9, 0, 122), (8, .getfield 108, 3, 1, 0, 131), (11, .iload_n 1, 1, 0, 0, 0), (12, .aaload, 1, 0, 0, 0), (13, .areturn, 1, 0, 0, 0)]
set_option maxRecDepth 100000 in
noncomputable def rw_178 : List PRow := [
  (0, .aload_n 0, 1, 0, 0, 0), (1, .iload_n 1, 1, 0, 0, 0), (2, .invokevirtual 30, 3, 186, 0, 95), (5, .iload_n 2, 1, 0, 0, 0), (6, .invokevirtual 397, 3, 74, 0, 152), (9, .astore_n 3, 1, 0, 0, 0), (10, .aload_n 3, 1, 0, 0, 0), (11, .ifnonnull 14, 3, 13, 0, 0),
  (14, .new 255, 3, 102, 0, 11), (17, .dup, 1, 0, 0, 0), (18, .ldc_w 401, 3, 0, 0, 0), (21, .invokespecial 259, 3, 9, 1, 0), (24, .athrow, 1, 0, 0, 0), (25, .aload_n 3, 1, 0, 0, 0), (26, .areturn, 1, 0, 0, 0)]
set_option maxRecDepth 100000 in
noncomputable def rw_322 : List PRow := [
  (0, .iload_n 0, 1, 0, 0, 0), (1, .ldc 7, 2, 2147483647, 0, 3), (3, .iand, 1, 0, 0, 0), (4, .iload_n 1, 1, 0, 0, 0), (5, .irem, 1, 0, 0, 0), (6, .ireturn, 1, 0, 0, 0)]
set_option maxRecDepth 100000 in
noncomputable def rw_323 : List PRow := [
  (0, .iload_n 1, 1, 0, 0, 0), (1, .aload_n 0, 1, 0, 0, 0), (2, .arraylength, 1, 0, 0, 0), (3, .if_icmp .ge 9, 3, 8, 0, 0), (6, .aload_n 0, 1, 0, 0, 0), (7, .iload_n 1, 1, 0, 0, 0), (8, .iaload, 1, 0, 0, 0), (9, .goto 9, 3, 13, 0, 0),
  (12, .ldc 8, 2, 790386105, 0, 4), (14, .iload_n 1, 1, 0, 0, 0), (15, .iconst 3, 1, 0, 0, 0), (16, .iadd, 1, 0, 0, 0), (17, .imul, 1, 0, 0, 0), (18, .ireturn, 1, 0, 0, 0)]
set_option maxRecDepth 100000 in
noncomputable def rw_324 : List PRow := [
  (0, .iload_n 1, 1, 0, 0, 0), (1, .iconst 4, 1, 0, 0, 0), (2, .ishr, 1, 0, 0, 0), (3, .bipush 7, 2, 0, 0, 0), (5, .invokestatic 9, 3, 332, 0, 153), (8, .istore_n 2, 1, 0, 0, 0), (9, .iload_n 1, 1, 0, 0, 0), (10, .bipush 8, 2, 0, 0, 0),
  (12, .ishr, 1, 0, 0, 0), (13, .bipush 7, 2, 0, 0, 0), (15, .invokestatic 9, 3, 332, 0, 153), (18, .istore_n 3, 1, 0, 0, 0), (19, .iload_n 1, 1, 0, 0, 0), (20, .bipush 13, 2, 0, 0, 0), (22, .ishr, 1, 0, 0, 0), (23, .iconst 4, 1, 0, 0, 0),
  (24, .invokestatic 9, 3, 332, 0, 153), (27, .istore 4, 2, 0, 0, 0), (29, .iload_n 1, 1, 0, 0, 0), (30, .bipush 16, 2, 0, 0, 0), (32, .invokestatic 9, 3, 332, 0, 153), (35, .tableswitch 239 0 12 #[65, 71, 77, 84, 91, 97, 106, 112, 122, 132, 142, 175, 186], 65, 0, 0, 0), (100, .aload_n 0, 1, 0, 0, 0), (101, .iload_n 2, 1, 0, 0, 0),
  (102, .invokevirtual 15, 3, 106, 0, 154), (105, .ireturn, 1, 0, 0, 0), (106, .aload_n 0, 1, 0, 0, 0), (107, .iload_n 2, 1, 0, 0, 0), (108, .invokevirtual 21, 3, 107, 0, 155), (111, .ireturn, 1, 0, 0, 0), (112, .aload_n 0, 1, 0, 0, 0), (113, .iload_n 2, 1, 0, 0, 0),
  (114, .iload_n 3, 1, 0, 0, 0), (115, .invokevirtual 24, 3, 108, 0, 156), (118, .ireturn, 1, 0, 0, 0), (119, .aload_n 0, 1, 0, 0, 0), (120, .iload_n 2, 1, 0, 0, 0), (121, .iload_n 3, 1, 0, 0, 0), (122, .invokevirtual 27, 3, 109, 0, 157), (125, .ireturn, 1, 0, 0, 0),
  (126, .aload_n 0, 1, 0, 0, 0), (127, .iload_n 2, 1, 0, 0, 0), (128, .invokevirtual 30, 3, 111, 0, 158), (131, .ireturn, 1, 0, 0, 0), (132, .aload_n 0, 1, 0, 0, 0), (133, .aload_n 0, 1, 0, 0, 0), (134, .invokevirtual 33, 3, 157, 0, 159), (137, .invokevirtual 37, 3, 112, 0, 160),
  (140, .ireturn, 1, 0, 0, 0), (141, .aload_n 0, 1, 0, 0, 0), (142, .iload_n 2, 1, 0, 0, 0), (143, .invokevirtual 40, 3, 113, 0, 161), (146, .ireturn, 1, 0, 0, 0), (147, .aload_n 0, 1, 0, 0, 0), (148, .aload_n 0, 1, 0, 0, 0), (149, .invokevirtual 33, 3, 157, 0, 159),
  (152, .iload_n 3, 1, 0, 0, 0), (153, .invokevirtual 43, 3, 114, 0, 162), (156, .ireturn, 1, 0, 0, 0), (157, .aload_n 0, 1, 0, 0, 0), (158, .aload_n 0, 1, 0, 0, 0), (159, .invokevirtual 33, 3, 157, 0, 159), (162, .iload_n 3, 1, 0, 0, 0), (163, .invokevirtual 46, 3, 115, 0, 163),
  (166, .ireturn, 1, 0, 0, 0), (167, .aload_n 0, 1, 0, 0, 0), (168, .aload_n 0, 1, 0, 0, 0), (169, .invokevirtual 33, 3, 157, 0, 159), (172, .iload_n 3, 1, 0, 0, 0), (173, .invokevirtual 49, 3, 116, 0, 164), (176, .ireturn, 1, 0, 0, 0), (177, .iload 4, 2, 0, 0, 0),
  (179, .iconst 2, 1, 0, 0, 0), (180, .irem, 1, 0, 0, 0), (181, .ifCond .ne 16, 3, 83, 0, 0), (184, .aload_n 0, 1, 0, 0, 0), (185, .iload 4, 2, 0, 0, 0), (187, .iload_n 2, 1, 0, 0, 0), (188, .iload_n 3, 1, 0, 0, 0), (189, .iconst 3, 1, 0, 0, 0),
  (190, .isub, 1, 0, 0, 0), (191, .invokevirtual 52, 3, 127, 0, 165), (194, .goto 15, 3, 90, 0, 0), (197, .aload_n 0, 1, 0, 0, 0), (198, .iload 4, 2, 0, 0, 0), (200, .iload_n 2, 1, 0, 0, 0), (201, .iload_n 1, 1, 0, 0, 0), (202, .sipush 10000, 3, 0, 0, 0),
  (205, .irem, 1, 0, 0, 0), (206, .invokevirtual 56, 3, 126, 0, 166), (209, .ireturn, 1, 0, 0, 0), (210, .aload_n 0, 1, 0, 0, 0), (211, .iload 4, 2, 0, 0, 0), (213, .aload_n 0, 1, 0, 0, 0), (214, .invokevirtual 33, 3, 157, 0, 159), (217, .invokevirtual 59, 3, 129, 0, 167),
  (220, .ireturn, 1, 0, 0, 0), (221, .iload_n 1, 1, 0, 0, 0), (222, .bipush 17, 2, 0, 0, 0), (224, .ishr, 1, 0, 0, 0), (225, .iconst 3, 1, 0, 0, 0), (226, .invokestatic 9, 3, 332, 0, 153), (229, .ifCond .ne 11, 3, 107, 0, 0), (232, .aload_n 0, 1, 0, 0, 0),
  (233, .iload_n 2, 1, 0, 0, 0), (234, .invokevirtual 62, 3, 119, 0, 168), (237, .goto 36, 3, 125, 0, 0), (240, .iload_n 1, 1, 0, 0, 0), (241, .bipush 17, 2, 0, 0, 0), (243, .ishr, 1, 0, 0, 0), (244, .iconst 3, 1, 0, 0, 0), (245, .invokestatic 9, 3, 332, 0, 153),
  (248, .iconst 1, 1, 0, 0, 0), (249, .if_icmp .ne 11, 3, 118, 0, 0), (252, .aload_n 0, 1, 0, 0, 0), (253, .iload_n 2, 1, 0, 0, 0), (254, .invokevirtual 65, 3, 120, 0, 169), (257, .goto 16, 3, 125, 0, 0), (260, .aload_n 0, 1, 0, 0, 0), (261, .iload_n 2, 1, 0, 0, 0),
  (262, .invokevirtual 68, 3, 118, 0, 170), (265, .ifCond .eq 7, 3, 124, 0, 0), (268, .iconst 1, 1, 0, 0, 0), (269, .goto 4, 3, 125, 0, 0), (272, .iconst 0, 1, 0, 0, 0), (273, .ireturn, 1, 0, 0, 0), (274, .aload_n 0, 1, 0, 0, 0), (275, .iconst 1, 1, 0, 0, 0),
  (276, .iload_n 1, 1, 0, 0, 0), (277, .bipush 16, 2, 0, 0, 0), (279, .ishr, 1, 0, 0, 0), (280, .iconst 5, 1, 0, 0, 0), (281, .invokestatic 9, 3, 332, 0, 153), (284, .iadd, 1, 0, 0, 0), (285, .invokevirtual 72, 3, 110, 0, 171), (288, .ireturn, 1, 0, 0, 0),
  (289, .astore 5, 2, 0, 0, 0), (291, .bipush (-99), 2, 0, 0, 0), (293, .ireturn, 1, 0, 0, 0)]
set_option maxRecDepth 100000 in
noncomputable def rw_378 : List PRow := [
  (0, .new 16, 3, 9, 0, 17), (3, .dup, 1, 0, 0, 0), (4, .invokespecial 81, 3, 104, 1, 172), (7, .astore_n 1, 1, 0, 0, 0), (8, .aload_n 1, 1, 0, 0, 0), (9, .iconst 1, 1, 0, 0, 0), (10, .aload_n 0, 1, 0, 0, 0), (11, .iconst 0, 1, 0, 0, 0),
  (12, .invokestatic 82, 3, 333, 0, 173), (15, .bipush 7, 2, 0, 0, 0), (17, .invokestatic 9, 3, 332, 0, 153), (20, .iadd, 1, 0, 0, 0), (21, .invokevirtual 86, 3, 105, 0, 174), (24, .pop, 1, 0, 0, 0), (25, .aload_n 1, 1, 0, 0, 0), (26, .iconst 5, 1, 0, 0, 0),
  (27, .aload_n 0, 1, 0, 0, 0), (28, .iconst 1, 1, 0, 0, 0), (29, .invokestatic 82, 3, 333, 0, 173), (32, .bipush 12, 2, 0, 0, 0), (34, .invokestatic 9, 3, 332, 0, 153), (37, .iadd, 1, 0, 0, 0), (38, .invokevirtual 72, 3, 110, 0, 171), (41, .pop, 1, 0, 0, 0),
  (42, .sipush 400, 3, 0, 0, 0), (45, .newarray .int, 2, 0, 0, 0), (47, .astore_n 2, 1, 0, 0, 0), (48, .bipush 14, 2, 0, 0, 0), (50, .newarray .int, 2, 0, 0, 0), (52, .astore_n 3, 1, 0, 0, 0), (53, .iconst 0, 1, 0, 0, 0), (54, .istore 4, 2, 0, 0, 0),
  (56, .iload 4, 2, 0, 0, 0), (58, .bipush 44, 2, 0, 0, 0), (60, .if_icmp .ge 243, 3, 159, 0, 0), (63, .aload_n 0, 1, 0, 0, 0), (64, .iconst 2, 1, 0, 0, 0), (65, .iload 4, 2, 0, 0, 0), (67, .bipush 22, 2, 0, 0, 0), (69, .irem, 1, 0, 0, 0),
  (70, .iadd, 1, 0, 0, 0), (71, .invokestatic 82, 3, 333, 0, 173), (74, .iload 4, 2, 0, 0, 0), (76, .bipush 22, 2, 0, 0, 0), (78, .idiv, 1, 0, 0, 0), (79, .iconst 3, 1, 0, 0, 0), (80, .imul, 1, 0, 0, 0), (81, .ishr, 1, 0, 0, 0),
  (82, .istore 5, 2, 0, 0, 0), (84, .aload_n 1, 1, 0, 0, 0), (85, .iload 5, 2, 0, 0, 0), (87, .invokestatic 89, 3, 334, 0, 175), (90, .istore 6, 2, 0, 0, 0), (92, .iload 6, 2, 0, 0, 0), (94, .bipush (-99), 2, 0, 0, 0), (96, .if_icmp .eq 17, 3, 62, 0, 0),
  (99, .iload 5, 2, 0, 0, 0), (101, .bipush 16, 2, 0, 0, 0), (103, .invokestatic 9, 3, 332, 0, 153), (106, .ifCond .ne 7, 3, 62, 0, 0), (109, .iconst 1, 1, 0, 0, 0), (110, .goto 4, 3, 63, 0, 0), (113, .iconst 0, 1, 0, 0, 0), (114, .istore 7, 2, 0, 0, 0),
  (116, .iconst 0, 1, 0, 0, 0), (117, .istore 8, 2, 0, 0, 0), (119, .iload 8, 2, 0, 0, 0), (121, .bipush 7, 2, 0, 0, 0), (123, .if_icmp .ge 98, 3, 120, 0, 0), (126, .aload_n 1, 1, 0, 0, 0), (127, .iload 8, 2, 0, 0, 0), (129, .invokevirtual 93, 3, 137, 0, 176),
  (132, .aload_n 3, 1, 0, 0, 0), (133, .iload 8, 2, 0, 0, 0), (135, .iaload, 1, 0, 0, 0), (136, .if_icmp .lt 33, 3, 91, 0, 0), (139, .aload_n 1, 1, 0, 0, 0), (140, .iload 8, 2, 0, 0, 0), (142, .invokevirtual 96, 3, 145, 0, 177), (145, .aload_n 3, 1, 0, 0, 0),
  (146, .bipush 7, 2, 0, 0, 0), (148, .iload 8, 2, 0, 0, 0), (150, .iadd, 1, 0, 0, 0), (151, .iaload, 1, 0, 0, 0), (152, .if_icmp .ge 19, 3, 93, 0, 0), (155, .iload 7, 2, 0, 0, 0), (157, .ifCond .eq 12, 3, 91, 0, 0), (160, .aload_n 1, 1, 0, 0, 0),
  (161, .iload 8, 2, 0, 0, 0), (163, .invokevirtual 99, 3, 135, 0, 178), (166, .ifCond .eq 5, 3, 93, 0, 0), (169, .iconst 0, 1, 0, 0, 0), (170, .ireturn, 1, 0, 0, 0), (171, .aload_n 3, 1, 0, 0, 0), (172, .iload 8, 2, 0, 0, 0), (174, .aload_n 1, 1, 0, 0, 0),
  (175, .iload 8, 2, 0, 0, 0), (177, .invokevirtual 93, 3, 137, 0, 176), (180, .iastore, 1, 0, 0, 0), (181, .aload_n 3, 1, 0, 0, 0), (182, .bipush 7, 2, 0, 0, 0), (184, .iload 8, 2, 0, 0, 0), (186, .iadd, 1, 0, 0, 0), (187, .aload_n 1, 1, 0, 0, 0),
  (188, .iload 8, 2, 0, 0, 0), (190, .invokevirtual 96, 3, 145, 0, 177), (193, .iastore, 1, 0, 0, 0), (194, .aload_n 1, 1, 0, 0, 0), (195, .iload 8, 2, 0, 0, 0), (197, .invokestatic 102, 3, 336, 0, 179), (200, .ifCond .eq 13, 3, 116, 0, 0), (203, .aload_n 1, 1, 0, 0, 0),
  (204, .iload 8, 2, 0, 0, 0), (206, .aload_n 2, 1, 0, 0, 0), (207, .invokestatic 106, 3, 335, 0, 180), (210, .ifCond .ne 5, 3, 118, 0, 0), (213, .iconst 0, 1, 0, 0, 0), (214, .ireturn, 1, 0, 0, 0), (215, .iinc 8 1, 3, 0, 0, 0), (218, .goto (-99), 3, 66, 0, 0),
  (221, .iload 4, 2, 0, 0, 0), (223, .bipush 8, 2, 0, 0, 0), (225, .irem, 1, 0, 0, 0), (226, .bipush 7, 2, 0, 0, 0), (228, .if_icmp .eq 6, 3, 126, 0, 0), (231, .goto 66, 3, 157, 0, 0), (234, .aload_n 1, 1, 0, 0, 0), (235, .invokevirtual 110, 3, 170, 0, 181),
  (238, .lstore 8, 2, 0, 0, 0), (240, .iconst 0, 1, 0, 0, 0), (241, .istore 10, 2, 0, 0, 0), (243, .iload 10, 2, 0, 0, 0), (245, .bipush 7, 2, 0, 0, 0), (247, .if_icmp .ge 38, 3, 150, 0, 0), (250, .iconst 0, 1, 0, 0, 0), (251, .istore 11, 2, 0, 0, 0),
  (253, .iload 11, 2, 0, 0, 0), (255, .iload 10, 2, 0, 0, 0), (257, .if_icmp .ge 22, 3, 148, 0, 0), (260, .aload_n 1, 1, 0, 0, 0), (261, .iload 10, 2, 0, 0, 0), (263, .iload 11, 2, 0, 0, 0), (265, .invokestatic 114, 3, 337, 0, 182), (268, .ifCond .ne 5, 3, 146, 0, 0),
  (271, .iconst 0, 1, 0, 0, 0), (272, .ireturn, 1, 0, 0, 0), (273, .iinc 11 1, 3, 0, 0, 0), (276, .goto (-23), 3, 136, 0, 0), (279, .iinc 10 1, 3, 0, 0, 0), (282, .goto (-39), 3, 131, 0, 0), (285, .aload_n 1, 1, 0, 0, 0), (286, .invokevirtual 110, 3, 170, 0, 181),
  (289, .lload 8, 2, 0, 0, 0), (291, .lcmp, 1, 0, 0, 0), (292, .ifCond .eq 5, 3, 157, 0, 0), (295, .iconst 0, 1, 0, 0, 0), (296, .ireturn, 1, 0, 0, 0), (297, .iinc 4 1, 3, 0, 0, 0), (300, .goto (-244), 3, 32, 0, 0), (303, .iconst 1, 1, 0, 0, 0),
  (304, .ireturn, 1, 0, 0, 0)]
set_option maxRecDepth 100000 in
noncomputable def rw_325 : List PRow := [
  (0, .aload_n 0, 1, 0, 0, 0), (1, .iload_n 1, 1, 0, 0, 0), (2, .invokevirtual 93, 3, 137, 0, 176), (5, .istore_n 3, 1, 0, 0, 0), (6, .aload_n 0, 1, 0, 0, 0), (7, .iload_n 1, 1, 0, 0, 0), (8, .invokevirtual 118, 3, 136, 0, 183), (11, .iconst 3, 1, 0, 0, 0),
  (12, .if_icmp .ne 9, 3, 13, 0, 0), (15, .iload_n 3, 1, 0, 0, 0), (16, .aload_n 2, 1, 0, 0, 0), (17, .arraylength, 1, 0, 0, 0), (18, .if_icmp .lt 5, 3, 15, 0, 0), (21, .iconst 1, 1, 0, 0, 0), (22, .ireturn, 1, 0, 0, 0), (23, .aload_n 2, 1, 0, 0, 0),
  (24, .iload_n 3, 1, 0, 0, 0), (25, .iaload, 1, 0, 0, 0), (26, .ifCond .eq 14, 3, 28, 0, 0), (29, .aload_n 2, 1, 0, 0, 0), (30, .iload_n 3, 1, 0, 0, 0), (31, .iaload, 1, 0, 0, 0), (32, .iload_n 1, 1, 0, 0, 0), (33, .iconst 1, 1, 0, 0, 0),
  (34, .iadd, 1, 0, 0, 0), (35, .if_icmp .eq 5, 3, 28, 0, 0), (38, .iconst 0, 1, 0, 0, 0), (39, .ireturn, 1, 0, 0, 0), (40, .aload_n 2, 1, 0, 0, 0), (41, .iload_n 3, 1, 0, 0, 0), (42, .iload_n 1, 1, 0, 0, 0), (43, .iconst 1, 1, 0, 0, 0),
  (44, .iadd, 1, 0, 0, 0), (45, .iastore, 1, 0, 0, 0), (46, .iconst 1, 1, 0, 0, 0), (47, .ireturn, 1, 0, 0, 0)]
set_option maxRecDepth 100000 in
noncomputable def rw_326 : List PRow := [
  (0, .aload_n 0, 1, 0, 0, 0), (1, .iload_n 1, 1, 0, 0, 0), (2, .invokevirtual 118, 3, 136, 0, 183), (5, .istore_n 2, 1, 0, 0, 0), (6, .aload_n 0, 1, 0, 0, 0), (7, .iload_n 1, 1, 0, 0, 0), (8, .invokevirtual 121, 3, 143, 0, 184), (11, .istore_n 3, 1, 0, 0, 0),
  (12, .iload_n 2, 1, 0, 0, 0), (13, .ifCond .lt 68, 3, 45, 0, 0), (16, .iload_n 2, 1, 0, 0, 0), (17, .iconst 3, 1, 0, 0, 0), (18, .if_icmp .gt 63, 3, 45, 0, 0), (21, .aload_n 0, 1, 0, 0, 0), (22, .iload_n 1, 1, 0, 0, 0), (23, .invokevirtual 99, 3, 135, 0, 178),
  (26, .ifCond .ne 28, 3, 30, 0, 0), (29, .iload_n 2, 1, 0, 0, 0), (30, .ifCond .ne 51, 3, 45, 0, 0), (33, .aload_n 0, 1, 0, 0, 0), (34, .iload_n 1, 1, 0, 0, 0), (35, .invokevirtual 124, 3, 140, 0, 185), (38, .ifCond .ne 43, 3, 45, 0, 0), (41, .aload_n 0, 1, 0, 0, 0),
  (42, .iload_n 1, 1, 0, 0, 0), (43, .invokevirtual 96, 3, 145, 0, 177), (46, .aload_n 0, 1, 0, 0, 0), (47, .iload_n 1, 1, 0, 0, 0), (48, .invokevirtual 127, 3, 142, 0, 186), (51, .if_icmp .ne 30, 3, 45, 0, 0), (54, .iload_n 2, 1, 0, 0, 0), (55, .ifCond .le 12, 3, 37, 0, 0),
  (58, .aload_n 0, 1, 0, 0, 0), (59, .iload_n 1, 1, 0, 0, 0), (60, .invokevirtual 130, 3, 139, 0, 187), (63, .iconst (-1), 1, 0, 0, 0), (64, .if_icmp .ne 17, 3, 45, 0, 0), (67, .iload_n 2, 1, 0, 0, 0), (68, .iconst 1, 1, 0, 0, 0), (69, .if_icmp .le 14, 3, 47, 0, 0),
  (72, .aload_n 0, 1, 0, 0, 0), (73, .iload_n 1, 1, 0, 0, 0), (74, .invokevirtual 133, 3, 138, 0, 188), (77, .iload_n 1, 1, 0, 0, 0), (78, .if_icmp .eq 5, 3, 47, 0, 0), (81, .iconst 0, 1, 0, 0, 0), (82, .ireturn, 1, 0, 0, 0), (83, .aload_n 0, 1, 0, 0, 0),
  (84, .iload_n 1, 1, 0, 0, 0), (85, .invokevirtual 127, 3, 142, 0, 186), (88, .aload_n 0, 1, 0, 0, 0), (89, .iload_n 1, 1, 0, 0, 0), (90, .invokevirtual 96, 3, 145, 0, 177), (93, .if_icmp .gt 43, 3, 75, 0, 0), (96, .aload_n 0, 1, 0, 0, 0), (97, .iload_n 1, 1, 0, 0, 0),
  (98, .invokevirtual 96, 3, 145, 0, 177), (101, .iload_n 3, 1, 0, 0, 0), (102, .if_icmp .gt 34, 3, 75, 0, 0), (105, .aload_n 0, 1, 0, 0, 0), (106, .iload_n 1, 1, 0, 0, 0), (107, .invokevirtual 136, 3, 144, 0, 189), (110, .aload_n 0, 1, 0, 0, 0), (111, .iload_n 1, 1, 0, 0, 0),
  (112, .invokevirtual 93, 3, 137, 0, 176), (115, .if_icmp .gt 21, 3, 75, 0, 0), (118, .aload_n 0, 1, 0, 0, 0), (119, .invokevirtual 139, 3, 117, 0, 190), (122, .bipush 60, 2, 0, 0, 0), (124, .if_icmp .gt 12, 3, 75, 0, 0), (127, .aload_n 0, 1, 0, 0, 0), (128, .iload_n 1, 1, 0, 0, 0),
  (129, .invokevirtual 142, 3, 146, 0, 191), (132, .iconst 1, 1, 0, 0, 0), (133, .if_icmp .ge 5, 3, 77, 0, 0), (136, .iconst 0, 1, 0, 0, 0), (137, .ireturn, 1, 0, 0, 0), (138, .iconst 0, 1, 0, 0, 0), (139, .istore 4, 2, 0, 0, 0), (141, .iload 4, 2, 0, 0, 0),
  (143, .iconst 4, 1, 0, 0, 0), (144, .if_icmp .ge 27, 3, 94, 0, 0), (147, .aload_n 0, 1, 0, 0, 0), (148, .iload_n 1, 1, 0, 0, 0), (149, .iload 4, 2, 0, 0, 0), (151, .invokevirtual 145, 3, 154, 0, 192), (154, .aload_n 0, 1, 0, 0, 0), (155, .iload 4, 2, 0, 0, 0),
  (157, .invokevirtual 148, 3, 130, 0, 193), (160, .if_icmp .le 5, 3, 92, 0, 0), (163, .iconst 0, 1, 0, 0, 0), (164, .ireturn, 1, 0, 0, 0), (165, .iinc 4 1, 3, 0, 0, 0), (168, .goto (-27), 3, 79, 0, 0), (171, .aload_n 0, 1, 0, 0, 0), (172, .iload_n 1, 1, 0, 0, 0),
  (173, .invokevirtual 127, 3, 142, 0, 186), (176, .iconst 1, 1, 0, 0, 0), (177, .iadd, 1, 0, 0, 0), (178, .istore 4, 2, 0, 0, 0), (180, .iload 4, 2, 0, 0, 0), (182, .iload_n 3, 1, 0, 0, 0), (183, .if_icmp .gt 30, 3, 118, 0, 0), (186, .aload_n 0, 1, 0, 0, 0),
  (187, .iload_n 1, 1, 0, 0, 0), (188, .iload 4, 2, 0, 0, 0), (190, .invokevirtual 151, 3, 148, 0, 194), (193, .aload_n 0, 1, 0, 0, 0), (194, .iload_n 1, 1, 0, 0, 0), (195, .iload 4, 2, 0, 0, 0), (197, .iconst 1, 1, 0, 0, 0), (198, .isub, 1, 0, 0, 0),
  (199, .invokevirtual 151, 3, 148, 0, 194), (202, .if_icmp .ge 5, 3, 116, 0, 0), (205, .iconst 0, 1, 0, 0, 0), (206, .ireturn, 1, 0, 0, 0), (207, .iinc 4 1, 3, 0, 0, 0), (210, .goto (-30), 3, 100, 0, 0), (213, .iconst 0, 1, 0, 0, 0), (214, .istore 4, 2, 0, 0, 0),
  (216, .iload 4, 2, 0, 0, 0), (218, .bipush 7, 2, 0, 0, 0), (220, .if_icmp .ge 52, 3, 150, 0, 0), (223, .iload_n 2, 1, 0, 0, 0), (224, .iconst 3, 1, 0, 0, 0), (225, .if_icmp .ne 47, 3, 150, 0, 0), (228, .iload 4, 2, 0, 0, 0), (230, .iload_n 1, 1, 0, 0, 0),
  (231, .if_icmp .eq 35, 3, 148, 0, 0), (234, .aload_n 0, 1, 0, 0, 0), (235, .iload_n 1, 1, 0, 0, 0), (236, .iload 4, 2, 0, 0, 0), (238, .invokevirtual 154, 3, 156, 0, 195), (241, .aload_n 0, 1, 0, 0, 0), (242, .iload_n 1, 1, 0, 0, 0), (243, .iload 4, 2, 0, 0, 0),
  (245, .invokevirtual 157, 3, 155, 0, 196), (248, .if_icmp .ge 16, 3, 146, 0, 0), (251, .aload_n 0, 1, 0, 0, 0), (252, .iload_n 1, 1, 0, 0, 0), (253, .iload 4, 2, 0, 0, 0), (255, .invokevirtual 157, 3, 155, 0, 196), (258, .iload_n 3, 1, 0, 0, 0), (259, .iconst 1, 1, 0, 0, 0),
  (260, .iadd, 1, 0, 0, 0), (261, .if_icmp .le 5, 3, 148, 0, 0), (264, .iconst 0, 1, 0, 0, 0), (265, .ireturn, 1, 0, 0, 0), (266, .iinc 4 1, 3, 0, 0, 0), (269, .goto (-53), 3, 120, 0, 0), (272, .iconst 1, 1, 0, 0, 0), (273, .ireturn, 1, 0, 0, 0)]
set_option maxRecDepth 100000 in
noncomputable def rw_327 : List PRow := [
  (0, .aload_n 0, 1, 0, 0, 0), (1, .iload_n 1, 1, 0, 0, 0), (2, .iload_n 2, 1, 0, 0, 0), (3, .invokevirtual 160, 3, 160, 0, 197), (6, .istore_n 3, 1, 0, 0, 0), (7, .iload_n 3, 1, 0, 0, 0), (8, .aload_n 0, 1, 0, 0, 0), (9, .iload_n 1, 1, 0, 0, 0),
  (10, .invokevirtual 96, 3, 145, 0, 177), (13, .aload_n 0, 1, 0, 0, 0), (14, .iload_n 2, 1, 0, 0, 0), (15, .invokevirtual 96, 3, 145, 0, 177), (18, .invokestatic 163, 3, 3, 0, 198), (21, .if_icmp .ge 5, 3, 16, 0, 0), (24, .iconst 0, 1, 0, 0, 0), (25, .ireturn, 1, 0, 0, 0),
  (26, .aload_n 0, 1, 0, 0, 0), (27, .iload_n 1, 1, 0, 0, 0), (28, .invokevirtual 127, 3, 142, 0, 186), (31, .aload_n 0, 1, 0, 0, 0), (32, .iload_n 2, 1, 0, 0, 0), (33, .invokevirtual 127, 3, 142, 0, 186), (36, .invokestatic 168, 3, 2, 0, 199), (39, .iconst 1, 1, 0, 0, 0),
  (40, .iadd, 1, 0, 0, 0), (41, .istore 4, 2, 0, 0, 0), (43, .iload 4, 2, 0, 0, 0), (45, .aload_n 0, 1, 0, 0, 0), (46, .iload_n 1, 1, 0, 0, 0), (47, .invokevirtual 121, 3, 143, 0, 184), (50, .aload_n 0, 1, 0, 0, 0), (51, .iload_n 2, 1, 0, 0, 0),
  (52, .invokevirtual 121, 3, 143, 0, 184), (55, .invokestatic 163, 3, 3, 0, 198), (58, .if_icmp .gt 105, 3, 88, 0, 0), (61, .aload_n 0, 1, 0, 0, 0), (62, .iload_n 1, 1, 0, 0, 0), (63, .iload 4, 2, 0, 0, 0), (65, .invokevirtual 151, 3, 148, 0, 194), (68, .aload_n 0, 1, 0, 0, 0),
  (69, .iload_n 2, 1, 0, 0, 0), (70, .iload 4, 2, 0, 0, 0), (72, .invokevirtual 151, 3, 148, 0, 194), (75, .if_icmp .eq 6, 3, 45, 0, 0), (78, .goto 79, 3, 86, 0, 0), (81, .iload 4, 2, 0, 0, 0), (83, .iload_n 3, 1, 0, 0, 0), (84, .if_icmp .gt 71, 3, 84, 0, 0),
  (87, .aload_n 0, 1, 0, 0, 0), (88, .iload_n 1, 1, 0, 0, 0), (89, .iload 4, 2, 0, 0, 0), (91, .invokevirtual 171, 3, 149, 0, 200), (94, .aload_n 0, 1, 0, 0, 0), (95, .iload_n 2, 1, 0, 0, 0), (96, .iload 4, 2, 0, 0, 0), (98, .invokevirtual 171, 3, 149, 0, 200),
  (101, .if_icmp .ne 54, 3, 84, 0, 0), (104, .aload_n 0, 1, 0, 0, 0), (105, .iload_n 1, 1, 0, 0, 0), (106, .iload 4, 2, 0, 0, 0), (108, .invokevirtual 174, 3, 150, 0, 201), (111, .aload_n 0, 1, 0, 0, 0), (112, .iload_n 2, 1, 0, 0, 0), (113, .iload 4, 2, 0, 0, 0),
  (115, .invokevirtual 174, 3, 150, 0, 201), (118, .if_icmp .ne 37, 3, 84, 0, 0), (121, .aload_n 0, 1, 0, 0, 0), (122, .iload_n 1, 1, 0, 0, 0), (123, .iload 4, 2, 0, 0, 0), (125, .invokevirtual 177, 3, 151, 0, 202), (128, .aload_n 0, 1, 0, 0, 0), (129, .iload_n 2, 1, 0, 0, 0),
  (130, .iload 4, 2, 0, 0, 0), (132, .invokevirtual 177, 3, 151, 0, 202), (135, .if_icmp .ne 20, 3, 84, 0, 0), (138, .aload_n 0, 1, 0, 0, 0), (139, .iload_n 1, 1, 0, 0, 0), (140, .iload 4, 2, 0, 0, 0), (142, .invokevirtual 180, 3, 152, 0, 203), (145, .aload_n 0, 1, 0, 0, 0),
  (146, .iload_n 2, 1, 0, 0, 0), (147, .iload 4, 2, 0, 0, 0), (149, .invokevirtual 180, 3, 152, 0, 203), (152, .if_icmp .eq 5, 3, 86, 0, 0), (155, .iconst 0, 1, 0, 0, 0), (156, .ireturn, 1, 0, 0, 0), (157, .iinc 4 1, 3, 0, 0, 0), (160, .goto (-117), 3, 26, 0, 0),
  (163, .aload_n 0, 1, 0, 0, 0), (164, .iload_n 1, 1, 0, 0, 0), (165, .invokevirtual 96, 3, 145, 0, 177), (168, .aload_n 0, 1, 0, 0, 0), (169, .iload_n 2, 1, 0, 0, 0), (170, .invokevirtual 96, 3, 145, 0, 177), (173, .if_icmp .eq 5, 3, 97, 0, 0), (176, .iconst 1, 1, 0, 0, 0),
  (177, .ireturn, 1, 0, 0, 0), (178, .iconst 0, 1, 0, 0, 0), (179, .istore 4, 2, 0, 0, 0), (181, .iload 4, 2, 0, 0, 0), (183, .bipush 8, 2, 0, 0, 0), (185, .if_icmp .ge 28, 3, 115, 0, 0), (188, .aload_n 0, 1, 0, 0, 0), (189, .iload_n 1, 1, 0, 0, 0),
  (190, .iload 4, 2, 0, 0, 0), (192, .invokevirtual 183, 3, 153, 0, 204), (195, .aload_n 0, 1, 0, 0, 0), (196, .iload_n 2, 1, 0, 0, 0), (197, .iload 4, 2, 0, 0, 0), (199, .invokevirtual 183, 3, 153, 0, 204), (202, .if_icmp .eq 5, 3, 113, 0, 0), (205, .iconst 0, 1, 0, 0, 0),
  (206, .ireturn, 1, 0, 0, 0), (207, .iinc 4 1, 3, 0, 0, 0), (210, .goto (-29), 3, 99, 0, 0), (213, .iconst 0, 1, 0, 0, 0), (214, .istore 4, 2, 0, 0, 0), (216, .iload 4, 2, 0, 0, 0), (218, .iconst 4, 1, 0, 0, 0), (219, .if_icmp .ge 28, 3, 133, 0, 0),
  (222, .aload_n 0, 1, 0, 0, 0), (223, .iload_n 1, 1, 0, 0, 0), (224, .iload 4, 2, 0, 0, 0), (226, .invokevirtual 145, 3, 154, 0, 192), (229, .aload_n 0, 1, 0, 0, 0), (230, .iload_n 2, 1, 0, 0, 0), (231, .iload 4, 2, 0, 0, 0), (233, .invokevirtual 145, 3, 154, 0, 192),
  (236, .if_icmp .eq 5, 3, 131, 0, 0), (239, .iconst 0, 1, 0, 0, 0), (240, .ireturn, 1, 0, 0, 0), (241, .iinc 4 1, 3, 0, 0, 0), (244, .goto (-28), 3, 117, 0, 0), (247, .iconst 1, 1, 0, 0, 0), (248, .ireturn, 1, 0, 0, 0)]
set_option maxRecDepth 100000 in
noncomputable def rw_379 : List PRow := [
  (0, .iload_n 0, 1, 0, 0, 0), (1, .iload_n 0, 1, 0, 0, 0), (2, .iconst 1, 1, 0, 0, 0), (3, .iushr, 1, 0, 0, 0), (4, .ldc_w 265, 3, 1431655765, 0, 5), (7, .iand, 1, 0, 0, 0), (8, .isub, 1, 0, 0, 0), (9, .istore_n 0, 1, 0, 0, 0),
  (10, .iload_n 0, 1, 0, 0, 0), (11, .ldc_w 266, 3, 858993459, 0, 6), (14, .iand, 1, 0, 0, 0), (15, .iload_n 0, 1, 0, 0, 0), (16, .iconst 2, 1, 0, 0, 0), (17, .iushr, 1, 0, 0, 0), (18, .ldc_w 266, 3, 858993459, 0, 6), (21, .iand, 1, 0, 0, 0),
  (22, .iadd, 1, 0, 0, 0), (23, .istore_n 0, 1, 0, 0, 0), (24, .iload_n 0, 1, 0, 0, 0), (25, .iload_n 0, 1, 0, 0, 0), (26, .iconst 4, 1, 0, 0, 0), (27, .iushr, 1, 0, 0, 0), (28, .iadd, 1, 0, 0, 0), (29, .ldc_w 267, 3, 252645135, 0, 7),
  (32, .iand, 1, 0, 0, 0), (33, .istore_n 0, 1, 0, 0, 0), (34, .iload_n 0, 1, 0, 0, 0), (35, .iload_n 0, 1, 0, 0, 0), (36, .bipush 8, 2, 0, 0, 0), (38, .iushr, 1, 0, 0, 0), (39, .iadd, 1, 0, 0, 0), (40, .istore_n 0, 1, 0, 0, 0),
  (41, .iload_n 0, 1, 0, 0, 0), (42, .iload_n 0, 1, 0, 0, 0), (43, .bipush 16, 2, 0, 0, 0), (45, .iushr, 1, 0, 0, 0), (46, .iadd, 1, 0, 0, 0), (47, .istore_n 0, 1, 0, 0, 0), (48, .iload_n 0, 1, 0, 0, 0), (49, .bipush 63, 2, 0, 0, 0),
  (51, .iand, 1, 0, 0, 0), (52, .ireturn, 1, 0, 0, 0)]
set_option maxRecDepth 100000 in
noncomputable def rw_380 : List PRow := [
  (0, .iconst 0, 1, 0, 0, 0), (1, .istore_n 2, 1, 0, 0, 0), (2, .aload_n 0, 1, 0, 0, 0), (3, .arraylength, 1, 0, 0, 0), (4, .istore_n 3, 1, 0, 0, 0), (5, .iload_n 2, 1, 0, 0, 0), (6, .iload_n 3, 1, 0, 0, 0), (7, .if_icmp .ge 13, 3, 14, 0, 0),
  (10, .aload_n 0, 1, 0, 0, 0), (11, .iload_n 2, 1, 0, 0, 0), (12, .iload_n 1, 1, 0, 0, 0), (13, .iastore, 1, 0, 0, 0), (14, .iinc 2 1, 3, 0, 0, 0), (17, .goto (-12), 3, 5, 0, 0), (20, .return_, 1, 0, 0, 0)]
noncomputable def qRowsL : List (List PRow) := [rw_0, rw_1, rw_0, rw_3, rw_4, rw_5, rw_6, rw_7, rw_8, rw_0, rw_10, rw_11, rw_12, rw_13, rw_14, rw_0, rw_0, rw_0, rw_0, rw_0, rw_0, rw_21, rw_22, rw_23, rw_24, rw_25, rw_26, rw_27, rw_28, rw_29, rw_30, rw_31, rw_32, rw_33, rw_34, rw_35, rw_36, rw_37, rw_38, rw_39, rw_40, rw_41, rw_42, rw_43, rw_44, rw_45, rw_46, rw_47, rw_48, rw_0, rw_50, rw_51, rw_52, rw_53, rw_54, rw_55, rw_56, rw_57, rw_58, rw_59, rw_0, rw_61, rw_62, rw_63, rw_64, rw_65, rw_66, rw_67, rw_68, rw_69, rw_70, rw_71, rw_72, rw_73, rw_74, rw_75, rw_76, rw_77, rw_78, rw_79, rw_80, rw_81, rw_82, rw_83, rw_84, rw_85, rw_86, rw_87, rw_88, rw_89, rw_90, rw_91, rw_92, rw_93, rw_94, rw_95, rw_96, rw_97, rw_98, rw_99, rw_100, rw_101, rw_102, rw_103, rw_104, rw_105, rw_106, rw_107, rw_108, rw_109, rw_110, rw_0, rw_0, rw_0, rw_0, rw_0, rw_116, rw_117, rw_0, rw_119, rw_120, rw_0, rw_0, rw_123, rw_124, rw_125, rw_126, rw_127, rw_128, rw_129, rw_130, rw_0, rw_132, rw_133, rw_134, rw_135, rw_136, rw_0, rw_138, rw_139, rw_140, rw_141, rw_142, rw_143, rw_144, rw_145, rw_146, rw_147, rw_148, rw_149, rw_150, rw_0, rw_0, rw_0, rw_0, rw_0, rw_0, rw_0, rw_0, rw_0, rw_160, rw_161, rw_162, rw_163, rw_164, rw_165, rw_166, rw_0, rw_168, rw_169, rw_170, rw_171, rw_172, rw_173, rw_174, rw_175, rw_176, rw_0, rw_178, rw_0, rw_0, rw_0, rw_0, rw_0, rw_0, rw_0, rw_0, rw_0, rw_0, rw_0, rw_0, rw_0, rw_0, rw_0, rw_0, rw_0, rw_0, rw_0, rw_0, rw_0, rw_0, rw_0, rw_0, rw_0, rw_0, rw_0, rw_0, rw_0, rw_0, rw_0, rw_0, rw_0, rw_0, rw_0, rw_0, rw_0, rw_0, rw_0, rw_0, rw_0, rw_0, rw_0, rw_0, rw_0, rw_0, rw_0, rw_0, rw_0, rw_0, rw_0, rw_0, rw_0, rw_0, rw_0, rw_0, rw_0, rw_0, rw_0, rw_0, rw_0, rw_0, rw_0, rw_0, rw_0, rw_0, rw_0, rw_0, rw_0, rw_0, rw_0, rw_0, rw_0, rw_0, rw_0, rw_0, rw_0, rw_0, rw_0, rw_0, rw_0, rw_0, rw_0, rw_0, rw_0, rw_0, rw_0, rw_0, rw_0, rw_0, rw_0, rw_0, rw_0, rw_0, rw_0, rw_0, rw_0, rw_0, rw_0, rw_0, rw_0, rw_0, rw_0, rw_0, rw_0, rw_0, rw_0, rw_0, rw_0, rw_0, rw_0, rw_0, rw_0, rw_0, rw_0, rw_0, rw_0, rw_0, rw_0, rw_0, rw_0, rw_0, rw_0, rw_0, rw_0, rw_0, rw_0, rw_0, rw_0, rw_0, rw_0, rw_0, rw_0, rw_0, rw_0, rw_0, rw_0, rw_0, rw_0, rw_0, rw_0, rw_0, rw_0, rw_322, rw_323, rw_324, rw_325, rw_326, rw_327, rw_0, rw_0, rw_0, rw_0, rw_0, rw_0, rw_0, rw_0, rw_0, rw_0, rw_0, rw_0, rw_0, rw_0, rw_0, rw_0, rw_0, rw_0, rw_0, rw_0, rw_0, rw_0, rw_0, rw_0, rw_0, rw_0, rw_0, rw_0, rw_0, rw_0, rw_0, rw_0, rw_0, rw_0, rw_0, rw_0, rw_0, rw_0, rw_0, rw_0, rw_0, rw_0, rw_0, rw_0, rw_0, rw_0, rw_0, rw_0, rw_0, rw_0, rw_378, rw_379, rw_380]
noncomputable def qRows (m : Nat) : List PRow := qRowsL.getD m []
/-- fields that are linked: the class whose pool it is, the entry, the class of the field, its number there, 1 by a nest mate, the word's place in lw_tbl -/
def qFL : List (Nat × Nat × Nat × Nat × Nat × Nat) := [(0, 7, 0, 0, 0, 2064), (0, 13, 0, 1, 0, 2066), (0, 17, 0, 2, 0, 2069), (0, 21, 5, 1, 0, 4238), (1, 11, 1, 0, 0, 2079), (1, 19, 1, 1, 0, 2081), (1, 26, 1, 2, 0, 2083), (1, 53, 1, 3, 0, 2085), (1, 67, 6, 4, 0, 1227), (1, 71, 6, 12, 0, 2007), (1, 74, 6, 5, 0, 1229), (1, 77, 6, 0, 0, 1214), (1, 84, 6, 9, 0, 2000), (1, 88, 7, 0, 0, 1175), (1, 146, 6, 17, 0, 2020), (1, 156, 6, 14, 0, 2013), (1, 166, 4, 3, 0, 1120), (1, 184, 6, 8, 0, 1237), (1, 196, 6, 6, 0, 1232), (1, 203, 3, 6, 0, 1077), (1, 206, 3, 7, 0, 1080), (1, 212, 6, 2, 0, 1221), (1, 215, 3, 10, 0, 1089), (1, 143, 6, 15, 0, 2017), (1, 216, 3, 8, 0, 1083), (1, 217, 3, 9, 0, 1086), (1, 218, 3, 0, 0, 1055), (1, 232, 6, 11, 0, 2005), (1, 136, 6, 13, 0, 2010), (1, 235, 2, 2, 0, 3048), (1, 109, 6, 1, 0, 1217), (1, 245, 5, 0, 0, 4235), (1, 253, 5, 1, 0, 5000), (1, 255, 0, 1, 0, 2067), (1, 258, 8, 2, 0, 1158), (1, 261, 0, 2, 0, 2070), (1, 268, 3, 3, 0, 1066), (1, 271, 3, 2, 0, 1062), (1, 277, 4, 5, 0, 1124), (1, 280, 3, 4, 0, 1070), (1, 287, 3, 1, 0, 1058), (1, 314, 3, 5, 0, 1074), (1, 321, 6, 16, 0, 2019), (1, 346, 6, 3, 0, 1224), (2, 9, 2, 0, 0, 3041), (2, 15, 2, 1, 0, 3044), (2, 18, 2, 2, 0, 3047), (2, 22, 2, 3, 0, 3049), (2, 25, 5, 5, 0, 5009), (2, 36, 5, 0, 0, 4234), (2, 39, 5, 1, 0, 4239), (3, 11, 3, 0, 0, 1054), (3, 17, 3, 1, 0, 1056), (3, 21, 3, 2, 0, 1060), (3, 24, 3, 3, 0, 1064), (3, 27, 3, 4, 0, 1068), (3, 30, 3, 5, 0, 1072), (3, 34, 3, 6, 0, 1075), (3, 37, 3, 7, 0, 1078), (3, 40, 3, 8, 0, 1081), (3, 43, 3, 9, 0, 1084), (3, 46, 3, 10, 0, 1087), (4, 11, 4, 0, 0, 1114), (4, 17, 4, 1, 0, 1116), (4, 22, 4, 2, 0, 1117), (4, 32, 4, 3, 0, 1118), (4, 36, 4, 4, 0, 1121), (4, 39, 4, 5, 0, 1122), (4, 56, 3, 1, 0, 1057), (4, 59, 3, 2, 0, 1061), (4, 62, 3, 3, 0, 1065), (4, 65, 3, 4, 0, 1069), (4, 68, 3, 5, 0, 1073), (4, 72, 3, 6, 0, 1076), (4, 75, 3, 7, 0, 1079), (4, 78, 3, 8, 0, 1082), (4, 81, 3, 9, 0, 1085), (4, 82, 3, 10, 0, 1088), (5, 7, 5, 0, 0, 4232), (5, 13, 5, 1, 0, 4236), (5, 16, 5, 2, 0, 5001), (5, 19, 5, 3, 0, 5004), (5, 22, 5, 4, 0, 5006), (5, 25, 5, 5, 0, 5008), (6, 12, 6, 1, 0, 1216), (6, 18, 6, 2, 0, 1219), (6, 22, 6, 3, 0, 1222), (6, 27, 6, 7, 0, 1234), (6, 31, 6, 0, 0, 1213), (6, 39, 6, 4, 0, 1225), (6, 43, 6, 5, 0, 1228), (6, 46, 6, 6, 0, 1231), (6, 49, 6, 8, 0, 1236), (6, 52, 6, 9, 0, 1239), (6, 62, 6, 12, 0, 2006), (6, 65, 6, 13, 0, 2009), (6, 68, 6, 14, 0, 2012), (6, 71, 7, 0, 0, 1174), (6, 76, 6, 15, 0, 2015), (6, 79, 7, 3, 0, 1182), (6, 106, 2, 0, 0, 3042), (6, 107, 7, 1, 0, 1178), (6, 100, 6, 10, 0, 2002), (6, 90, 6, 16, 0, 2018), (6, 103, 6, 11, 0, 2004), (6, 140, 2, 1, 0, 3045), (6, 143, 2, 3, 0, 3050), (6, 145, 7, 2, 0, 1180), (6, 93, 6, 17, 0, 2021), (7, 10, 7, 3, 0, 1181), (7, 16, 7, 0, 0, 1173), (7, 20, 7, 1, 0, 1177), (7, 23, 7, 2, 0, 1179), (8, 9, 8, 0, 0, 1153), (8, 15, 8, 1, 0, 1155), (8, 18, 8, 2, 0, 1157), (8, 27, 5, 1, 0, 4237), (8, 33, 5, 0, 0, 4233), (8, 36, 5, 3, 0, 5005), (8, 39, 5, 2, 0, 5002), (8, 42, 5, 5, 0, 5010), (8, 45, 5, 4, 0, 5007), (9, 10, 9, 0, 0, 2096), (9, 16, 9, 1, 0, 2097), (9, 34, 6, 4, 0, 1226), (9, 55, 1, 2, 0, 2084), (9, 71, 4, 5, 0, 1123), (9, 86, 6, 12, 0, 2008), (9, 93, 6, 15, 0, 2016), (9, 96, 6, 9, 0, 2001), (9, 100, 7, 0, 0, 1176), (9, 108, 1, 0, 0, 2080), (9, 116, 6, 3, 0, 1223), (9, 123, 6, 5, 0, 1230), (9, 130, 4, 3, 0, 1119), (9, 141, 6, 10, 0, 2003), (9, 151, 6, 2, 0, 1220), (9, 194, 1, 1, 0, 2082), (9, 207, 0, 0, 0, 2065), (9, 211, 0, 1, 0, 2068), (9, 219, 6, 8, 0, 1238), (9, 220, 5, 2, 0, 5003), (9, 229, 1, 3, 0, 2086), (9, 232, 6, 6, 0, 1233), (9, 235, 6, 13, 0, 2011), (9, 238, 6, 14, 0, 2014), (9, 264, 2, 1, 0, 3046), (9, 275, 6, 1, 0, 1218), (9, 279, 8, 0, 0, 1154), (9, 284, 8, 1, 0, 1156), (9, 291, 6, 0, 0, 1215), (9, 366, 4, 0, 0, 1115), (9, 175, 3, 1, 0, 1059), (9, 180, 3, 2, 0, 1063), (9, 183, 3, 3, 0, 1067), (9, 186, 3, 4, 0, 1071), (9, 226, 0, 2, 0, 2071), (9, 370, 6, 7, 0, 1235), (9, 305, 2, 0, 0, 3043)]
/-- methods that are linked: pool, entry, the callee's number + 10 (0 Object.<init>, 1 arraycopy, 2 Math.max, 3 Math.min), 1 by a nest mate, the word's place, 0 virtual 1 static 2 special -/
def qML : List (Nat × Nat × Nat × Nat × Nat × Nat) := [(0, 1, 0, 0, 2063, 2), (0, 26, 13, 0, 4227, 0), (0, 29, 65, 0, 4228, 2), (1, 3, 0, 0, 1034, 2), (1, 25, 57, 0, 1041, 2), (1, 30, 17, 0, 1138, 1), (1, 34, 66, 0, 1193, 2), (1, 37, 10, 1, 2060, 2), (1, 40, 100, 0, 1143, 2), (1, 43, 67, 0, 2179, 0), (1, 47, 11, 0, 2180, 0), (1, 50, 58, 0, 2184, 0), (1, 80, 76, 0, 2204, 0), (1, 91, 75, 0, 2216, 0), (1, 95, 73, 0, 3022, 0), (1, 99, 72, 0, 2220, 0), (1, 102, 82, 0, 3113, 0), (1, 149, 36, 0, 2200, 0), (1, 153, 77, 0, 2228, 0), (1, 159, 71, 0, 2232, 0), (1, 162, 32, 0, 2236, 0), (1, 169, 40, 0, 3089, 0), (1, 172, 33, 0, 3000, 0), (1, 175, 34, 0, 3026, 0), (1, 178, 98, 0, 3030, 0), (1, 181, 38, 0, 3069, 0), (1, 185, 97, 0, 3004, 0), (1, 189, 78, 0, 3008, 0), (1, 192, 35, 0, 3018, 0), (1, 199, 62, 0, 2212, 0), (1, 209, 37, 0, 2208, 0), (1, 222, 74, 0, 2224, 0), (1, 226, 79, 0, 3073, 0), (1, 229, 39, 0, 3077, 0), (1, 241, 103, 0, 3081, 0), (1, 250, 13, 0, 3085, 0), (1, 264, 64, 0, 3093, 0), (1, 274, 60, 0, 3097, 0), (1, 281, 56, 0, 3101, 0), (1, 284, 95, 0, 3105, 0), (1, 290, 42, 0, 3109, 0), (1, 294, 44, 0, 3122, 0), (1, 298, 43, 0, 3126, 0), (1, 301, 45, 0, 3130, 0), (1, 304, 47, 0, 3162, 0), (1, 307, 46, 0, 3171, 0), (1, 310, 48, 0, 3183, 0), (1, 317, 41, 0, 3118, 0), (1, 324, 96, 0, 3134, 0), (1, 327, 92, 0, 3138, 0), (1, 330, 93, 0, 3147, 0), (1, 333, 94, 0, 3155, 0), (1, 337, 3, 0, 3159, 1), (1, 343, 89, 0, 3175, 0), (1, 349, 2, 0, 3166, 1), (1, 352, 99, 0, 3167, 0), (2, 3, 0, 0, 3040, 2), (2, 30, 389, 0, 4053, 1), (3, 3, 0, 0, 1051, 2), (4, 3, 0, 0, 1044, 2), (4, 21, 53, 1, 1048, 2), (4, 26, 390, 0, 2188, 1), (4, 52, 60, 0, 4140, 0), (4, 48, 54, 0, 5051, 0), (5, 1, 0, 0, 4231, 2), (6, 3, 0, 0, 1196, 2), (6, 11, 101, 1, 1198, 2), (6, 35, 67, 0, 1200, 0), (6, 56, 86, 0, 1204, 0), (6, 59, 68, 0, 1208, 0), (6, 80, 102, 0, 1212, 0), (6, 108, 389, 0, 3012, 1), (6, 114, 77, 0, 4153, 0), (6, 118, 75, 0, 3151, 0), (6, 121, 73, 0, 3117, 0), (6, 125, 72, 0, 3034, 0), (6, 128, 3, 0, 4077, 1), (6, 134, 2, 0, 3152, 1), (6, 137, 85, 0, 3064, 0), (6, 146, 87, 0, 4170, 0), (6, 149, 100, 0, 4174, 2), (6, 152, 90, 0, 3179, 0), (6, 156, 91, 0, 3142, 0), (6, 160, 74, 0, 3146, 0), (6, 96, 84, 0, 3060, 0), (6, 164, 390, 0, 3035, 1), (6, 170, 49, 0, 3037, 2), (7, 1, 0, 0, 1146, 2), (7, 9, 101, 1, 1149, 2), (7, 26, 102, 0, 1166, 0), (8, 3, 0, 0, 1152, 2), (8, 21, 1, 0, 1170, 1), (9, 1, 0, 0, 1026, 2), (9, 9, 16, 0, 1031, 2), (9, 26, 18, 0, 2175, 0), (9, 30, 186, 0, 3191, 0), (9, 40, 178, 0, 4096, 1), (9, 44, 69, 0, 4115, 0), (9, 47, 20, 0, 4119, 0), (9, 51, 180, 0, 4131, 1), (9, 59, 60, 0, 4135, 0), (9, 65, 61, 0, 4136, 0), (9, 75, 31, 0, 2196, 0), (9, 78, 80, 0, 4149, 0), (9, 82, 32, 0, 4154, 0), (9, 89, 36, 0, 4160, 0), (9, 105, 88, 0, 4165, 0), (9, 112, 76, 0, 4179, 0), (9, 120, 72, 0, 4038, 0), (9, 126, 62, 0, 4180, 0), (9, 133, 179, 0, 3195, 1), (9, 136, 81, 0, 4185, 0), (9, 144, 49, 0, 4190, 2), (9, 147, 84, 0, 4191, 0), (9, 154, 38, 0, 4192, 0), (9, 158, 183, 0, 5037, 0), (9, 161, 40, 0, 5059, 0), (9, 164, 64, 0, 5042, 0), (9, 168, 63, 0, 5047, 0), (9, 190, 184, 0, 4201, 0), (9, 198, 15, 0, 4221, 0), (9, 204, 181, 0, 4205, 1), (9, 223, 13, 0, 4033, 0), (9, 244, 73, 0, 4039, 0), (9, 247, 389, 0, 4040, 1), (9, 252, 75, 0, 5111, 0), (9, 260, 188, 0, 5134, 0), (9, 265, 50, 0, 4049, 0), (9, 268, 51, 0, 4054, 0), (9, 271, 52, 0, 4058, 0), (9, 272, 182, 0, 4209, 1), (9, 287, 22, 0, 4004, 0), (9, 294, 21, 0, 4012, 0), (9, 297, 2, 0, 4020, 1), (9, 302, 83, 0, 4073, 0), (9, 328, 133, 0, 3228, 0), (9, 331, 134, 0, 3232, 0), (9, 334, 117, 0, 3236, 0), (9, 337, 157, 0, 4000, 0), (9, 340, 158, 0, 4008, 0), (9, 343, 159, 0, 4016, 0), (9, 345, 171, 0, 4021, 0), (9, 349, 172, 0, 4029, 0), (9, 352, 173, 0, 4034, 0), (9, 356, 174, 0, 4045, 0), (9, 359, 175, 0, 4066, 1), (9, 363, 176, 0, 4069, 0), (9, 187, 55, 0, 4025, 0), (9, 310, 24, 0, 4041, 0), (9, 306, 23, 0, 4062, 0), (9, 389, 185, 0, 4213, 1), (9, 394, 14, 0, 4217, 0), (9, 397, 74, 0, 5138, 0), (12, 9, 332, 0, 4078, 1), (12, 15, 106, 0, 4092, 0), (12, 21, 107, 0, 4123, 0), (12, 24, 108, 0, 4127, 0), (12, 27, 109, 0, 4141, 0), (12, 30, 111, 0, 4145, 0), (12, 33, 157, 0, 4155, 0), (12, 37, 112, 0, 4156, 0), (12, 40, 113, 0, 4161, 0), (12, 43, 114, 0, 4175, 0), (12, 46, 115, 0, 4181, 0), (12, 49, 116, 0, 4193, 0), (12, 52, 127, 0, 4197, 0), (12, 56, 126, 0, 5024, 0), (12, 59, 129, 0, 5028, 0), (12, 62, 119, 0, 5033, 0), (12, 65, 120, 0, 5043, 0), (12, 68, 118, 0, 5055, 0), (12, 72, 110, 0, 2191, 0), (12, 81, 104, 0, 1023, 2), (12, 82, 333, 0, 4082, 1), (12, 86, 105, 0, 2103, 0), (12, 89, 334, 0, 4086, 1), (12, 93, 137, 0, 3214, 0), (12, 96, 145, 0, 3218, 0), (12, 99, 135, 0, 3187, 0), (12, 102, 336, 0, 5067, 1), (12, 106, 335, 0, 5060, 1), (12, 110, 170, 0, 3222, 0), (12, 114, 337, 0, 5121, 1), (12, 118, 136, 0, 5063, 0), (12, 121, 143, 0, 5070, 0), (12, 124, 140, 0, 5074, 0), (12, 127, 142, 0, 5078, 0), (12, 130, 139, 0, 5082, 0), (12, 133, 138, 0, 5086, 0), (12, 136, 144, 0, 5090, 0), (12, 139, 117, 0, 5094, 0), (12, 142, 146, 0, 5095, 0), (12, 145, 154, 0, 5099, 0), (12, 148, 130, 0, 5103, 0), (12, 151, 148, 0, 5107, 0), (12, 154, 156, 0, 5113, 0), (12, 157, 155, 0, 5117, 0), (12, 160, 160, 0, 5124, 0), (12, 163, 3, 0, 5128, 1), (12, 168, 2, 0, 5129, 1), (12, 171, 149, 0, 5130, 0), (12, 174, 150, 0, 5140, 0), (12, 177, 151, 0, 5144, 0), (12, 180, 152, 0, 5148, 0), (12, 183, 153, 0, 5152, 0)]
/-- classes: pool, entry, kind, the word's place -/
def qCL : List (Nat × Nat × Nat × Nat) := [(0, 22, 5, 4225), (1, 9, 18, 1035), (1, 17, 15, 1037), (1, 23, 4, 1039), (1, 9, 6, 1035), (1, 17, 0, 1037), (1, 38, 7, 1141), (3, 9, 16, 1052), (4, 9, 17, 1045), (4, 9, 3, 1045), (6, 9, 8, 1197), (6, 25, 16, 1199), (6, 72, 7, 4169), (6, 25, 2, 1199), (7, 7, 8, 1147), (9, 7, 1, 1029), (9, 139, 2, 4189), (12, 16, 9, 1021)]
/-- constants: pool, entry, value, 1 a long, the word's place -/
def qKL : List (Nat × Nat × Nat × Nat × Nat) := [(6, 144, 1048576, 0, 3068), (9, 324, 2423, 1, 3226), (9, 326, 31, 1, 3227), (12, 7, 2147483647, 0, 4081), (12, 8, 790386105, 0, 4085), (13, 265, 1431655765, 0, 3015), (13, 266, 858993459, 0, 3016), (13, 267, 252645135, 0, 3017)]
/-- throws (all in class 9): new's entry, the text's, the constructor's, which exception, 1 a wide text, the place of the class link -/
def qTH : List (Nat × Nat × Nat × Nat × Nat × Nat) := [(19, 21, 23, 0, 0, 2107), (19, 69, 23, 0, 0, 2107), (214, 216, 218, 1, 0, 4099), (255, 257, 259, 2, 1, 3198), (214, 377, 218, 1, 1, 4099), (255, 379, 259, 2, 1, 3198), (19, 381, 23, 0, 1, 2107), (255, 383, 259, 2, 1, 3198), (255, 385, 259, 2, 1, 3198), (255, 387, 259, 2, 1, 3198), (19, 392, 23, 0, 1, 2107), (255, 401, 259, 2, 1, 3198)]
/-- a method: class, name, code, maxLocals, answer, args with this, 1 static, frames and locals below it, its handlers, places of its words: code, instance or static, selects, initialized -/
abbrev QMI : Type := Nat × MethodName × ByteArray × Nat × Option FieldType × Nat × Nat × Nat × Nat × List (Nat × Nat × Nat × Nat) × Nat × Nat × Nat × Nat
noncomputable def mi_0 : QMI := (0, yX0_init, cX0_init, 1, none, 1, 0, 1, 20, [], 2062, 2061, 0, 1009)
noncomputable def mi_1 : QMI := (0, yX0_forget, cX0_forget, 1, none, 1, 0, 0, 0, [], 2183, 2181, 2182, 1009)
noncomputable def mi_3 : QMI := (0, yX0_serial, cX0_serial, 1, (some FieldType.int), 1, 0, 0, 0, [], 3088, 3086, 3087, 1009)
noncomputable def mi_4 : QMI := (0, yX0_waits, cX0_waits, 1, (some FieldType.boolean), 1, 0, 0, 0, [], 4220, 4218, 4219, 1009)
noncomputable def mi_5 : QMI := (0, yX0_ask, cX0_ask, 6, (some FieldType.int), 6, 0, 2, 46, [], 4224, 4222, 4223, 1009)
noncomputable def mi_6 : QMI := (1, yX1_init, cX1_init, 3, none, 1, 0, 5, 124, [], 1033, 1032, 0, 1002)
noncomputable def mi_7 : QMI := (1, yX1_firstSnapshot, cX1_firstSnapshot, 1, (some (FieldType.object "QuorumLog$Snapshot")), 1, 1, 3, 85, [], 1140, 1139, 0, 1002)
noncomputable def mi_8 : QMI := (1, yX1_begin, cX1_begin, 7, none, 2, 0, 4, 105, [], 2178, 2176, 2177, 1002)
noncomputable def mi_10 : QMI := (1, yX1_countUp, cX1_countUp, 6, (some FieldType.int), 1, 0, 0, 0, [], 4122, 4120, 4121, 1002)
noncomputable def mi_11 : QMI := (1, yX1_countLeaders, cX1_countLeaders, 6, (some FieldType.int), 1, 0, 0, 0, [], 4015, 4013, 4014, 1002)
noncomputable def mi_12 : QMI := (1, yX1_newestLeader, cX1_newestLeader, 6, (some (FieldType.object "QuorumLog$Server")), 1, 0, 0, 0, [], 4007, 4005, 4006, 1002)
noncomputable def mi_13 : QMI := (1, yX1_countCopies, cX1_countCopies, 9, (some FieldType.int), 4, 0, 1, 21, [], 4065, 4063, 4064, 1002)
noncomputable def mi_14 : QMI := (1, yX1_isElectable, cX1_isElectable, 10, (some FieldType.boolean), 2, 0, 2, 43, [], 4044, 4042, 4043, 1002)
noncomputable def mi_21 : QMI := (1, yX1_playRound, cX1_playRound, 5, none, 1, 0, 5, 132, [], 2199, 2197, 2198, 1002)
noncomputable def mi_22 : QMI := (1, yX1_rise, cX1_rise, 4, none, 3, 0, 3, 74, [], 2239, 2237, 2238, 1002)
noncomputable def mi_23 : QMI := (1, yX1_sounding, cX1_sounding, 2, (some FieldType.int), 2, 0, 2, 50, [], 3003, 3002, 4, 1002)
noncomputable def mi_24 : QMI := (1, yX1_standing, cX1_standing, 2, (some FieldType.int), 2, 0, 2, 50, [], 3029, 3028, 6, 1002)
noncomputable def mi_25 : QMI := (1, yX1_askOthers, cX1_askOthers, 6, none, 4, 0, 1, 25, [], 3021, 3020, 5, 1002)
noncomputable def mi_26 : QMI := (1, yX1_sendToOthers, cX1_sendToOthers, 4, (some FieldType.int), 2, 0, 2, 51, [], 2203, 2201, 2202, 1002)
noncomputable def mi_27 : QMI := (1, yX1_sendTo, cX1_sendTo, 7, none, 3, 0, 1, 25, [], 2211, 2210, 3, 1002)
noncomputable def mi_28 : QMI := (1, yX1_lookCommitted, cX1_lookCommitted, 3, none, 2, 0, 2, 47, [], 3072, 3070, 3071, 1002)
noncomputable def mi_29 : QMI := (1, yX1_commit, cX1_commit, 6, none, 3, 0, 1, 22, [], 3080, 3079, 8, 1002)
noncomputable def mi_30 : QMI := (1, yX1_handle, cX1_handle, 5, (some FieldType.boolean), 2, 0, 4, 108, [], 3092, 3090, 3091, 1002)
noncomputable def mi_31 : QMI := (1, yX1_reply, cX1_reply, 7, none, 6, 0, 1, 25, [], 3121, 3120, 10, 1002)
noncomputable def mi_32 : QMI := (1, yX1_onSound, cX1_onSound, 5, none, 3, 0, 2, 51, [], 3112, 3111, 9, 1002)
noncomputable def mi_33 : QMI := (1, yX1_onCall, cX1_onCall, 5, none, 3, 0, 2, 51, [], 3129, 3128, 12, 1002)
noncomputable def mi_34 : QMI := (1, yX1_onYes, cX1_onYes, 5, (some FieldType.boolean), 5, 0, 2, 40, [], 3125, 3124, 11, 1002)
noncomputable def mi_35 : QMI := (1, yX1_onEntries, cX1_onEntries, 5, none, 3, 0, 3, 66, [], 3133, 3132, 13, 1002)
noncomputable def mi_36 : QMI := (1, yX1_onSnapshot, cX1_onSnapshot, 4, none, 3, 0, 3, 85, [], 3174, 3173, 16, 1002)
noncomputable def mi_37 : QMI := (1, yX1_onAnswer, cX1_onAnswer, 3, none, 3, 0, 3, 69, [], 3165, 3164, 15, 1002)
noncomputable def mi_38 : QMI := (1, yX1_isHurried, cX1_isHurried, 3, (some FieldType.boolean), 3, 0, 1, 20, [], 3186, 3185, 18, 1002)
noncomputable def mi_39 : QMI := (2, yX2_init, cX2_init, 5, none, 5, 0, 1, 20, [], 3039, 3038, 0, 1016)
noncomputable def mi_40 : QMI := (2, yX2_value, cX2_value, 1, (some FieldType.int), 1, 0, 1, 20, [], 4052, 4050, 4051, 1016)
noncomputable def mi_41 : QMI := (2, yX2_client, cX2_client, 1, (some FieldType.int), 1, 0, 0, 0, [], 4057, 4055, 4056, 1016)
noncomputable def mi_42 : QMI := (2, yX2_serial, cX2_serial, 1, (some FieldType.int), 1, 0, 0, 0, [], 4061, 4059, 4060, 1016)
noncomputable def mi_43 : QMI := (3, yX3_init, cX3_init, 1, none, 1, 0, 1, 20, [], 1050, 1049, 0, 1004)
noncomputable def mi_44 : QMI := (3, yX3_copyFrom, cX3_copyFrom, 3, none, 2, 0, 0, 0, [], 5054, 5052, 5053, 1004)
noncomputable def mi_45 : QMI := (3, yX3_told, cX3_told, 1, (some FieldType.int), 1, 0, 0, 0, [], 4028, 4026, 4027, 1004)
noncomputable def mi_46 : QMI := (3, yX3_bearsItsTerm, cX3_bearsItsTerm, 1, (some FieldType.boolean), 1, 0, 0, 0, [], 3104, 3102, 3103, 1004)
noncomputable def mi_47 : QMI := (4, yX4_init, cX4_init, 2, none, 1, 0, 2, 40, [], 1043, 1042, 0, 1003)
noncomputable def mi_48 : QMI := (4, yX4_clear, cX4_clear, 1, none, 1, 0, 1, 23, [], 2187, 2185, 2186, 1003)
noncomputable def mi_50 : QMI := (4, yX4_isCut, cX4_isCut, 3, (some FieldType.boolean), 3, 0, 0, 0, [], 3100, 3098, 3099, 1003)
noncomputable def mi_51 : QMI := (4, yX4_turn, cX4_turn, 3, (some FieldType.int), 3, 0, 1, 22, [], 4139, 4137, 4138, 1003)
noncomputable def mi_52 : QMI := (4, yX4_place, cX4_place, 6, (some (FieldType.object "QuorumLog$Message")), 5, 0, 0, 0, [], 2215, 2213, 2214, 1003)
noncomputable def mi_53 : QMI := (4, yX4_repeat, cX4_repeat, 2, (some FieldType.int), 2, 0, 1, 22, [], 5050, 5048, 5049, 1003)
noncomputable def mi_54 : QMI := (4, yX4_takeOut, cX4_takeOut, 4, (some (FieldType.object "QuorumLog$Message")), 2, 0, 0, 0, [], 3096, 3094, 3095, 1003)
noncomputable def mi_55 : QMI := (5, yX5_init, cX5_init, 7, none, 7, 0, 1, 20, [], 4230, 4229, 0, 1020)
noncomputable def mi_56 : QMI := (6, yX6_init, cX6_init, 3, none, 3, 0, 4, 102, [], 1195, 1194, 0, 1008)
noncomputable def mi_57 : QMI := (6, yX6_reset, cX6_reset, 2, none, 2, 0, 3, 81, [], 1203, 1201, 1202, 1008)
noncomputable def mi_58 : QMI := (6, yX6_rest, cX6_rest, 1, none, 1, 0, 2, 61, [], 1211, 1210, 1, 1008)
noncomputable def mi_59 : QMI := (6, yX6_goDown, cX6_goDown, 1, none, 1, 0, 3, 81, [], 4118, 4116, 4117, 1008)
noncomputable def mi_61 : QMI := (6, yX6_patience, cX6_patience, 1, (some FieldType.int), 1, 0, 0, 0, [], 2235, 2233, 2234, 1008)
noncomputable def mi_62 : QMI := (6, yX6_lastIndex, cX6_lastIndex, 1, (some FieldType.int), 1, 0, 0, 0, [], 2223, 2221, 2222, 1008)
noncomputable def mi_63 : QMI := (6, yX6_lastTerm, cX6_lastTerm, 1, (some FieldType.int), 1, 0, 0, 0, [], 3025, 3023, 3024, 1008)
noncomputable def mi_64 : QMI := (6, yX6_entryAt, cX6_entryAt, 2, (some (FieldType.object "QuorumLog$Entry")), 2, 0, 0, 0, [], 2227, 2225, 2226, 1008)
noncomputable def mi_65 : QMI := (6, yX6_termOfIndex, cX6_termOfIndex, 2, (some FieldType.int), 2, 0, 0, 0, [], 2219, 2217, 2218, 1008)
noncomputable def mi_66 : QMI := (6, yX6_seesMember, cX6_seesMember, 2, (some FieldType.boolean), 2, 0, 0, 0, [], 2207, 2205, 2206, 1008)
noncomputable def mi_67 : QMI := (6, yX6_isMember, cX6_isMember, 1, (some FieldType.boolean), 1, 0, 0, 0, [], 2231, 2229, 2230, 1008)
noncomputable def mi_68 : QMI := (6, yX6_hasMostYeses, cX6_hasMostYeses, 1, (some FieldType.boolean), 1, 0, 1, 20, [], 3011, 3009, 3010, 1008)
noncomputable def mi_69 : QMI := (6, yX6_mostHave, cX6_mostHave, 5, (some FieldType.boolean), 2, 0, 0, 0, [], 3076, 3074, 3075, 1008)
noncomputable def mi_70 : QMI := (6, yX6_maySound, cX6_maySound, 1, (some FieldType.boolean), 1, 0, 1, 20, [], 4152, 4150, 4151, 1008)
noncomputable def mi_71 : QMI := (6, yX6_mayChangeMembers, cX6_mayChangeMembers, 1, (some FieldType.boolean), 1, 0, 1, 21, [], 4188, 4186, 4187, 1008)
noncomputable def mi_72 : QMI := (6, yX6_isReachedBy, cX6_isReachedBy, 4, (some FieldType.boolean), 3, 0, 1, 20, [], 3116, 3114, 3115, 1008)
noncomputable def mi_73 : QMI := (6, yX6_agreement, cX6_agreement, 4, (some FieldType.int), 2, 0, 1, 40, [], 4076, 4074, 4075, 1008)
noncomputable def mi_74 : QMI := (6, yX6_append, cX6_append, 2, none, 2, 0, 1, 22, [], 3063, 3061, 3062, 1008)
noncomputable def mi_75 : QMI := (6, yX6_widen, cX6_widen, 3, none, 1, 0, 0, 0, [], 3067, 3066, 7, 1008)
noncomputable def mi_76 : QMI := (6, yX6_findMembers, cX6_findMembers, 2, none, 1, 0, 0, 0, [], 1207, 1206, 0, 1008)
noncomputable def mi_77 : QMI := (6, yX6_membersBehind, cX6_membersBehind, 3, (some FieldType.int), 2, 0, 0, 0, [], 4173, 4172, 25, 1008)
noncomputable def mi_78 : QMI := (6, yX6_makeSnapshot, cX6_makeSnapshot, 2, (some FieldType.int), 1, 0, 3, 85, [], 4168, 4166, 4167, 1008)
noncomputable def mi_79 : QMI := (6, yX6_install, cX6_install, 3, none, 2, 0, 2, 63, [], 3178, 3176, 3177, 1008)
noncomputable def mi_80 : QMI := (6, yX6_replaceSnapshot, cX6_replaceSnapshot, 4, none, 3, 0, 1, 40, [], 3182, 3181, 17, 1008)
noncomputable def mi_81 : QMI := (6, yX6_hasEntry, cX6_hasEntry, 4, (some FieldType.boolean), 3, 0, 1, 21, [], 3145, 3144, 14, 1008)
noncomputable def mi_82 : QMI := (6, yX6_hasPrevious, cX6_hasPrevious, 3, (some FieldType.boolean), 3, 0, 2, 44, [], 3141, 3139, 3140, 1008)
noncomputable def mi_83 : QMI := (6, yX6_indexToTryNext, cX6_indexToTryNext, 4, (some FieldType.int), 2, 0, 1, 40, [], 3150, 3148, 3149, 1008)
noncomputable def mi_84 : QMI := (6, yX6_accept, cX6_accept, 3, none, 3, 0, 2, 44, [], 3158, 3156, 3157, 1008)
noncomputable def mi_85 : QMI := (6, yX6_enterTerm, cX6_enterTerm, 2, none, 2, 0, 0, 0, [], 3108, 3106, 3107, 1008)
noncomputable def mi_86 : QMI := (6, yX6_obey, cX6_obey, 2, none, 2, 0, 0, 0, [], 3137, 3135, 3136, 1008)
noncomputable def mi_87 : QMI := (6, yX6_startAs, cX6_startAs, 2, none, 2, 0, 0, 0, [], 3007, 3005, 3006, 1008)
noncomputable def mi_88 : QMI := (6, yX6_startLeading, cX6_startLeading, 1, none, 1, 0, 2, 44, [], 3033, 3031, 3032, 1008)
noncomputable def mi_89 : QMI := (6, yX6_learnMatched, cX6_learnMatched, 3, none, 3, 0, 0, 0, [], 3170, 3168, 3169, 1008)
noncomputable def mi_90 : QMI := (7, yX7_init, cX7_init, 5, none, 5, 0, 2, 61, [], 1145, 1144, 0, 1005)
noncomputable def mi_91 : QMI := (8, yX8_init, cX8_init, 1, none, 1, 0, 1, 20, [], 1151, 1150, 0, 1006)
noncomputable def mi_92 : QMI := (8, yX8_copyFrom, cX8_copyFrom, 2, none, 2, 0, 1, 40, [], 1169, 1167, 1168, 1006)
noncomputable def mi_93 : QMI := (8, yX8_apply, cX8_apply, 3, none, 2, 0, 0, 0, [], 3084, 3082, 3083, 1006)
noncomputable def mi_94 : QMI := (9, yX9_init, cX9_init, 1, none, 1, 0, 6, 146, [], 1025, 1024, 0, 1001)
noncomputable def mi_95 : QMI := (9, yX9_found, cX9_found, 2, (some FieldType.int), 2, 0, 6, 131, [], 2106, 2104, 2105, 1001)
noncomputable def mi_96 : QMI := (9, yX9_fail, cX9_fail, 3, (some FieldType.int), 2, 0, 8, 131, [], 4095, 4093, 4094, 1001)
noncomputable def mi_97 : QMI := (9, yX9_recover, cX9_recover, 3, (some FieldType.int), 2, 0, 8, 131, [], 4126, 4124, 4125, 1001)
noncomputable def mi_98 : QMI := (9, yX9_cut, cX9_cut, 3, (some FieldType.int), 3, 0, 8, 131, [], 4130, 4128, 4129, 1001)
noncomputable def mi_99 : QMI := (9, yX9_mend, cX9_mend, 3, (some FieldType.int), 3, 0, 8, 131, [], 4144, 4142, 4143, 1001)
noncomputable def mi_100 : QMI := (9, yX9_pass, cX9_pass, 4, (some FieldType.int), 2, 0, 6, 156, [], 2194, 2192, 2193, 1001)
noncomputable def mi_101 : QMI := (9, yX9_sound, cX9_sound, 3, (some FieldType.int), 2, 0, 8, 131, [], 4148, 4146, 4147, 1001)
noncomputable def mi_102 : QMI := (9, yX9_beat, cX9_beat, 3, (some FieldType.int), 2, 0, 8, 131, [], 4159, 4157, 4158, 1001)
noncomputable def mi_103 : QMI := (9, yX9_shorten, cX9_shorten, 3, (some FieldType.int), 2, 0, 8, 131, [], 4164, 4162, 4163, 1001)
noncomputable def mi_104 : QMI := (9, yX9_handOver, cX9_handOver, 4, (some FieldType.int), 3, 0, 8, 131, [], 4178, 4176, 4177, 1001)
noncomputable def mi_105 : QMI := (9, yX9_join, cX9_join, 5, (some FieldType.int), 3, 0, 8, 131, [], 4184, 4182, 4183, 1001)
noncomputable def mi_106 : QMI := (9, yX9_leave, cX9_leave, 6, (some FieldType.int), 3, 0, 8, 131, [], 4196, 4194, 4195, 1001)
noncomputable def mi_107 : QMI := (9, yX9_messages, cX9_messages, 1, (some FieldType.int), 1, 0, 0, 0, [], 3239, 3237, 3238, 1001)
noncomputable def mi_108 : QMI := (9, yX9_deliver, cX9_deliver, 2, (some FieldType.boolean), 2, 0, 7, 132, [], 5058, 5056, 5057, 1001)
noncomputable def mi_109 : QMI := (9, yX9_lose, cX9_lose, 2, (some FieldType.int), 2, 0, 7, 111, [], 5036, 5034, 5035, 1001)
noncomputable def mi_110 : QMI := (9, yX9_twice, cX9_twice, 2, (some FieldType.int), 2, 0, 7, 111, [], 5046, 5044, 5045, 1001)
noncomputable def mi_116 : QMI := (9, yX9_askPut, cX9_askPut, 4, (some FieldType.int), 4, 0, 8, 134, [], 5027, 5025, 5026, 1001)
noncomputable def mi_117 : QMI := (9, yX9_askAdd, cX9_askAdd, 4, (some FieldType.int), 4, 0, 8, 134, [], 4200, 4198, 4199, 1001)
noncomputable def mi_119 : QMI := (9, yX9_hand, cX9_hand, 6, (some FieldType.int), 3, 0, 8, 131, [], 5031, 5029, 5030, 1001)
noncomputable def mi_120 : QMI := (9, yX9_serialOf, cX9_serialOf, 2, (some FieldType.int), 2, 0, 7, 110, [], 5106, 5104, 5105, 1001)
noncomputable def mi_123 : QMI := (9, yX9_round, cX9_round, 1, (some FieldType.int), 1, 0, 0, 0, [], 3231, 3229, 3230, 1001)
noncomputable def mi_124 : QMI := (9, yX9_lost, cX9_lost, 1, (some FieldType.int), 1, 0, 0, 0, [], 3235, 3233, 3234, 1001)
noncomputable def mi_125 : QMI := (9, yX9_isUp, cX9_isUp, 2, (some FieldType.boolean), 2, 0, 8, 131, [], 3190, 3188, 3189, 1001)
noncomputable def mi_126 : QMI := (9, yX9_roleOf, cX9_roleOf, 2, (some FieldType.int), 2, 0, 8, 131, [], 5066, 5064, 5065, 1001)
noncomputable def mi_127 : QMI := (9, yX9_termOf, cX9_termOf, 2, (some FieldType.int), 2, 0, 8, 131, [], 3217, 3215, 3216, 1001)
noncomputable def mi_128 : QMI := (9, yX9_votedFor, cX9_votedFor, 2, (some FieldType.int), 2, 0, 8, 131, [], 5089, 5087, 5088, 1001)
noncomputable def mi_129 : QMI := (9, yX9_follows, cX9_follows, 2, (some FieldType.int), 2, 0, 8, 131, [], 5085, 5083, 5084, 1001)
noncomputable def mi_130 : QMI := (9, yX9_waitedOf, cX9_waitedOf, 2, (some FieldType.int), 2, 0, 8, 131, [], 5077, 5075, 5076, 1001)
noncomputable def mi_132 : QMI := (9, yX9_snapshotOf, cX9_snapshotOf, 2, (some FieldType.int), 2, 0, 8, 131, [], 5081, 5079, 5080, 1001)
noncomputable def mi_133 : QMI := (9, yX9_lastOf, cX9_lastOf, 2, (some FieldType.int), 2, 0, 8, 131, [], 5073, 5071, 5072, 1001)
noncomputable def mi_134 : QMI := (9, yX9_lastTermOf, cX9_lastTermOf, 2, (some FieldType.int), 2, 0, 8, 131, [], 5093, 5091, 5092, 1001)
noncomputable def mi_135 : QMI := (9, yX9_committedOf, cX9_committedOf, 2, (some FieldType.int), 2, 0, 8, 131, [], 3221, 3219, 3220, 1001)
noncomputable def mi_136 : QMI := (9, yX9_membersOf, cX9_membersOf, 2, (some FieldType.int), 2, 0, 8, 131, [], 5098, 5096, 5097, 1001)
noncomputable def mi_138 : QMI := (9, yX9_termAt, cX9_termAt, 4, (some FieldType.int), 3, 0, 8, 131, [], 5110, 5108, 5109, 1001)
noncomputable def mi_139 : QMI := (9, yX9_kindAt, cX9_kindAt, 3, (some FieldType.int), 3, 0, 9, 154, [], 5133, 5131, 5132, 1001)
noncomputable def mi_140 : QMI := (9, yX9_valueAt, cX9_valueAt, 3, (some FieldType.int), 3, 0, 9, 154, [], 5143, 5141, 5142, 1001)
noncomputable def mi_141 : QMI := (9, yX9_clientAt, cX9_clientAt, 3, (some FieldType.int), 3, 0, 9, 154, [], 5147, 5145, 5146, 1001)
noncomputable def mi_142 : QMI := (9, yX9_serialAt, cX9_serialAt, 3, (some FieldType.int), 3, 0, 9, 154, [], 5151, 5149, 5150, 1001)
noncomputable def mi_143 : QMI := (9, yX9_valueOf, cX9_valueOf, 3, (some FieldType.int), 3, 0, 8, 131, [], 5155, 5153, 5154, 1001)
noncomputable def mi_144 : QMI := (9, yX9_appliedSerial, cX9_appliedSerial, 3, (some FieldType.int), 3, 0, 8, 131, [], 5102, 5100, 5101, 1001)
noncomputable def mi_145 : QMI := (9, yX9_nextOf, cX9_nextOf, 3, (some FieldType.int), 3, 0, 8, 131, [], 5120, 5118, 5119, 1001)
noncomputable def mi_146 : QMI := (9, yX9_matchedOf, cX9_matchedOf, 3, (some FieldType.int), 3, 0, 8, 131, [], 5116, 5114, 5115, 1001)
noncomputable def mi_147 : QMI := (9, yX9_leader, cX9_leader, 2, (some FieldType.int), 1, 0, 1, 25, [], 4003, 4001, 4002, 1001)
noncomputable def mi_148 : QMI := (9, yX9_leaders, cX9_leaders, 1, (some FieldType.int), 1, 0, 1, 25, [], 4011, 4009, 4010, 1001)
noncomputable def mi_149 : QMI := (9, yX9_committed, cX9_committed, 6, (some FieldType.int), 1, 0, 1, 40, [], 4019, 4017, 4018, 1001)
noncomputable def mi_150 : QMI := (9, yX9_agreeUpTo, cX9_agreeUpTo, 3, (some FieldType.int), 3, 0, 8, 131, [], 5127, 5125, 5126, 1001)
noncomputable def mi_160 : QMI := (9, yX9_digest, cX9_digest, 7, (some FieldType.long), 1, 0, 4, 97, [], 3225, 3223, 3224, 1001)
noncomputable def mi_161 : QMI := (9, yX9_digestMessages, cX9_digestMessages, 7, (some FieldType.long), 2, 0, 1, 20, [], 4024, 4023, 20, 1001)
noncomputable def mi_162 : QMI := (9, yX9_digestClients, cX9_digestClients, 9, (some FieldType.long), 2, 0, 1, 20, [], 4032, 4031, 21, 1001)
noncomputable def mi_163 : QMI := (9, yX9_digestServer, cX9_digestServer, 6, (some FieldType.long), 3, 0, 3, 72, [], 4037, 4036, 22, 1001)
noncomputable def mi_164 : QMI := (9, yX9_digestLog, cX9_digestLog, 8, (some FieldType.long), 3, 0, 2, 49, [], 4048, 4047, 23, 1001)
noncomputable def mi_165 : QMI := (9, yX9_digestTable, cX9_digestTable, 9, (some FieldType.long), 2, 1, 0, 0, [], 4068, 4067, 0, 1001)
noncomputable def mi_166 : QMI := (9, yX9_digestOthers, cX9_digestOthers, 10, (some FieldType.long), 3, 0, 2, 63, [], 4072, 4071, 24, 1001)
noncomputable def mi_168 : QMI := (9, yX9_refuseIf, cX9_refuseIf, 1, none, 1, 1, 6, 90, [], 4098, 4097, 0, 1001)
noncomputable def mi_169 : QMI := (9, yX9_checkServer, cX9_checkServer, 1, none, 1, 1, 6, 90, [], 3197, 3196, 0, 1001)
noncomputable def mi_170 : QMI := (9, yX9_checkPair, cX9_checkPair, 2, none, 2, 1, 7, 110, [], 4133, 4132, 0, 1001)
noncomputable def mi_171 : QMI := (9, yX9_checkClient, cX9_checkClient, 1, none, 1, 1, 6, 90, [], 4207, 4206, 0, 1001)
noncomputable def mi_172 : QMI := (9, yX9_checkKey, cX9_checkKey, 1, none, 1, 1, 6, 90, [], 4211, 4210, 0, 1001)
noncomputable def mi_173 : QMI := (9, yX9_checkMessage, cX9_checkMessage, 2, none, 2, 0, 6, 90, [], 5040, 5039, 27, 1001)
noncomputable def mi_174 : QMI := (9, yX9_checkRequest, cX9_checkRequest, 5, none, 5, 0, 7, 110, [], 4204, 4203, 26, 1001)
noncomputable def mi_175 : QMI := (9, yX9_isTooGreat, cX9_isTooGreat, 1, (some FieldType.boolean), 1, 1, 0, 0, [], 4215, 4214, 0, 1001)
noncomputable def mi_176 : QMI := (9, yX9_serverNumbered, cX9_serverNumbered, 2, (some (FieldType.object "QuorumLog$Server")), 2, 0, 7, 110, [], 3194, 3193, 19, 1001)
noncomputable def mi_178 : QMI := (9, yX9_entryOf, cX9_entryOf, 4, (some (FieldType.object "QuorumLog$Entry")), 3, 0, 8, 131, [], 5137, 5136, 28, 1001)
noncomputable def mi_322 : QMI := (12, yL_below, cL_below, 2, (some FieldType.int), 2, 1, 0, 0, [], 4080, 4079, 0, 1000)
noncomputable def mi_323 : QMI := (12, yL_cell, cL_cell, 2, (some FieldType.int), 2, 1, 0, 0, [], 4084, 4083, 0, 1000)
noncomputable def mi_324 : QMI := (12, yL_act, cL_act, 6, (some FieldType.int), 2, 1, 9, 179, [(29, 105, 289, 75), (29, 105, 289, 77), (29, 105, 289, 79), (106, 111, 289, 75), (106, 111, 289, 77), (106, 111, 289, 79), (112, 118, 289, 75), (112, 118, 289, 77), (112, 118, 289, 79), (119, 125, 289, 75), (119, 125, 289, 77), (119, 125, 289, 79), (126, 131, 289, 75), (126, 131, 289, 77), (126, 131, 289, 79), (132, 140, 289, 75), (132, 140, 289, 77), (132, 140, 289, 79), (141, 146, 289, 75), (141, 146, 289, 77), (141, 146, 289, 79), (147, 156, 289, 75), (147, 156, 289, 77), (147, 156, 289, 79), (157, 166, 289, 75), (157, 166, 289, 77), (157, 166, 289, 79), (167, 176, 289, 75), (167, 176, 289, 77), (167, 176, 289, 79), (177, 209, 289, 75), (177, 209, 289, 77), (177, 209, 289, 79), (210, 220, 289, 75), (210, 220, 289, 77), (210, 220, 289, 79), (221, 273, 289, 75), (221, 273, 289, 77), (221, 273, 289, 79), (274, 288, 289, 75), (274, 288, 289, 77), (274, 288, 289, 79)], 4088, 4087, 0, 1000)
noncomputable def mi_378 : QMI := (12, yL_law, cL_law, 12, (some .boolean), 1, 1, 11, 204, [], 0, 0, 0, 0)
noncomputable def mi_325 : QMI := (12, yL_leadsAlone, cL_leadsAlone, 4, (some FieldType.boolean), 3, 1, 9, 152, [], 5062, 5061, 0, 1000)
noncomputable def mi_326 : QMI := (12, yL_isSound, cL_isSound, 5, (some FieldType.boolean), 2, 1, 9, 154, [], 5069, 5068, 0, 1000)
noncomputable def mi_327 : QMI := (12, yL_agree, cL_agree, 5, (some FieldType.boolean), 3, 1, 10, 176, [], 5123, 5122, 0, 1000)
noncomputable def mi_379 : QMI := (13, yJ6_bitCount_0f7a4, cJ6_bitCount_0f7a4, 1, (some FieldType.int), 1, 1, 0, 0, [], 3014, 3013, 0, 1015)
noncomputable def mi_380 : QMI := (15, yJ7_fill_53178, cJ7_fill_53178, 4, none, 2, 1, 0, 0, [], 2190, 2189, 0, 1014)
noncomputable def qMIL : List QMI := [mi_0, mi_1, mi_0, mi_3, mi_4, mi_5, mi_6, mi_7, mi_8, mi_0, mi_10, mi_11, mi_12, mi_13, mi_14, mi_0, mi_0, mi_0, mi_0, mi_0, mi_0, mi_21, mi_22, mi_23, mi_24, mi_25, mi_26, mi_27, mi_28, mi_29, mi_30, mi_31, mi_32, mi_33, mi_34, mi_35, mi_36, mi_37, mi_38, mi_39, mi_40, mi_41, mi_42, mi_43, mi_44, mi_45, mi_46, mi_47, mi_48, mi_0, mi_50, mi_51, mi_52, mi_53, mi_54, mi_55, mi_56, mi_57, mi_58, mi_59, mi_0, mi_61, mi_62, mi_63, mi_64, mi_65, mi_66, mi_67, mi_68, mi_69, mi_70, mi_71, mi_72, mi_73, mi_74, mi_75, mi_76, mi_77, mi_78, mi_79, mi_80, mi_81, mi_82, mi_83, mi_84, mi_85, mi_86, mi_87, mi_88, mi_89, mi_90, mi_91, mi_92, mi_93, mi_94, mi_95, mi_96, mi_97, mi_98, mi_99, mi_100, mi_101, mi_102, mi_103, mi_104, mi_105, mi_106, mi_107, mi_108, mi_109, mi_110, mi_0, mi_0, mi_0, mi_0, mi_0, mi_116, mi_117, mi_0, mi_119, mi_120, mi_0, mi_0, mi_123, mi_124, mi_125, mi_126, mi_127, mi_128, mi_129, mi_130, mi_0, mi_132, mi_133, mi_134, mi_135, mi_136, mi_0, mi_138, mi_139, mi_140, mi_141, mi_142, mi_143, mi_144, mi_145, mi_146, mi_147, mi_148, mi_149, mi_150, mi_0, mi_0, mi_0, mi_0, mi_0, mi_0, mi_0, mi_0, mi_0, mi_160, mi_161, mi_162, mi_163, mi_164, mi_165, mi_166, mi_0, mi_168, mi_169, mi_170, mi_171, mi_172, mi_173, mi_174, mi_175, mi_176, mi_0, mi_178, mi_0, mi_0, mi_0, mi_0, mi_0, mi_0, mi_0, mi_0, mi_0, mi_0, mi_0, mi_0, mi_0, mi_0, mi_0, mi_0, mi_0, mi_0, mi_0, mi_0, mi_0, mi_0, mi_0, mi_0, mi_0, mi_0, mi_0, mi_0, mi_0, mi_0, mi_0, mi_0, mi_0, mi_0, mi_0, mi_0, mi_0, mi_0, mi_0, mi_0, mi_0, mi_0, mi_0, mi_0, mi_0, mi_0, mi_0, mi_0, mi_0, mi_0, mi_0, mi_0, mi_0, mi_0, mi_0, mi_0, mi_0, mi_0, mi_0, mi_0, mi_0, mi_0, mi_0, mi_0, mi_0, mi_0, mi_0, mi_0, mi_0, mi_0, mi_0, mi_0, mi_0, mi_0, mi_0, mi_0, mi_0, mi_0, mi_0, mi_0, mi_0, mi_0, mi_0, mi_0, mi_0, mi_0, mi_0, mi_0, mi_0, mi_0, mi_0, mi_0, mi_0, mi_0, mi_0, mi_0, mi_0, mi_0, mi_0, mi_0, mi_0, mi_0, mi_0, mi_0, mi_0, mi_0, mi_0, mi_0, mi_0, mi_0, mi_0, mi_0, mi_0, mi_0, mi_0, mi_0, mi_0, mi_0, mi_0, mi_0, mi_0, mi_0, mi_0, mi_0, mi_0, mi_0, mi_0, mi_0, mi_0, mi_0, mi_0, mi_0, mi_0, mi_0, mi_0, mi_0, mi_0, mi_0, mi_0, mi_0, mi_0, mi_0, mi_0, mi_322, mi_323, mi_324, mi_325, mi_326, mi_327, mi_0, mi_0, mi_0, mi_0, mi_0, mi_0, mi_0, mi_0, mi_0, mi_0, mi_0, mi_0, mi_0, mi_0, mi_0, mi_0, mi_0, mi_0, mi_0, mi_0, mi_0, mi_0, mi_0, mi_0, mi_0, mi_0, mi_0, mi_0, mi_0, mi_0, mi_0, mi_0, mi_0, mi_0, mi_0, mi_0, mi_0, mi_0, mi_0, mi_0, mi_0, mi_0, mi_0, mi_0, mi_0, mi_0, mi_0, mi_0, mi_0, mi_0, mi_378, mi_379, mi_380]
noncomputable def qMI (m : Nat) : QMI := qMIL.getD m mi_0
def qHdL : List (Nat × List PHd) := [(324, [(29, 105, 136, 2), (29, 105, 136, 0), (29, 105, 136, 1), (106, 111, 136, 2), (106, 111, 136, 0), (106, 111, 136, 1), (112, 118, 136, 2), (112, 118, 136, 0), (112, 118, 136, 1), (119, 125, 136, 2), (119, 125, 136, 0), (119, 125, 136, 1), (126, 131, 136, 2), (126, 131, 136, 0), (126, 131, 136, 1), (132, 140, 136, 2), (132, 140, 136, 0), (132, 140, 136, 1), (141, 146, 136, 2), (141, 146, 136, 0), (141, 146, 136, 1), (147, 156, 136, 2), (147, 156, 136, 0), (147, 156, 136, 1), (157, 166, 136, 2), (157, 166, 136, 0), (157, 166, 136, 1), (167, 176, 136, 2), (167, 176, 136, 0), (167, 176, 136, 1), (177, 209, 136, 2), (177, 209, 136, 0), (177, 209, 136, 1), (210, 220, 136, 2), (210, 220, 136, 0), (210, 220, 136, 1), (221, 273, 136, 2), (221, 273, 136, 0), (221, 273, 136, 1), (274, 288, 136, 2), (274, 288, 136, 0), (274, 288, 136, 1)])]
/-- a handler's place in the code, the class link of what it catches, that word's place -/
def qHhL : List (Nat × List (Nat × Nat × Nat)) := [(324, [(289, 75, 4089), (289, 77, 4090), (289, 79, 4091), (289, 75, 4089), (289, 77, 4090), (289, 79, 4091), (289, 75, 4089), (289, 77, 4090), (289, 79, 4091), (289, 75, 4089), (289, 77, 4090), (289, 79, 4091), (289, 75, 4089), (289, 77, 4090), (289, 79, 4091), (289, 75, 4089), (289, 77, 4090), (289, 79, 4091), (289, 75, 4089), (289, 77, 4090), (289, 79, 4091), (289, 75, 4089), (289, 77, 4090), (289, 79, 4091), (289, 75, 4089), (289, 77, 4090), (289, 79, 4091), (289, 75, 4089), (289, 77, 4090), (289, 79, 4091), (289, 75, 4089), (289, 77, 4090), (289, 79, 4091), (289, 75, 4089), (289, 77, 4090), (289, 79, 4091), (289, 75, 4089), (289, 77, 4090), (289, 79, 4091), (289, 75, 4089), (289, 77, 4090), (289, 79, 4091)])]
def qHd (m : Nat) : List PHd := ((qHdL.find? (fun q => q.1 == m)).map (fun q => q.2)).getD []
def qHh (m : Nat) : List (Nat × Nat × Nat) := ((qHhL.find? (fun q => q.1 == m)).map (fun q => q.2)).getD []
end
section
/-! ===== THE ROWS AGAINST THE CODE, THE LINKS AGAINST THE TABLES: decided by the kernel ===== -/
def qNx (tl : List PRow) (pc : Nat) : Bool := match tl with | [] => false | r :: _ => r.1 == pc
def qJp (all : List PRow) (r1 pc : Nat) (off : Int) : Bool := match all[r1]? with | none => false | some q => decide ((pc : Int) + off = (q.1 : Int))
def qFok (o idx ci k j : Nat) : Bool := match qFL[j]? with | none => false | some f => f.1 == o && (f.2.1 == idx && (f.2.2.1 == ci && f.2.2.2.1 == k))
def qFn (j : Nat) : Nat := match qFL[j]? with | none => 2 | some f => f.2.2.2.2.1
def qCok (o idx ci j : Nat) : Bool := match qCL[j]? with | none => false | some f => f.1 == o && (f.2.1 == idx && f.2.2.1 == ci)
def qKok (o idx v lg j : Nat) : Bool := match qKL[j]? with | none => false | some f => f.1 == o && (f.2.1 == idx && (f.2.2.1 == v && f.2.2.2.1 == lg))
noncomputable def qMok (o idx r1 r2 kd fr lo j : Nat) : Bool := match qML[j]? with
  | none => false
  | some f => f.1 == o && (f.2.1 == idx && (f.2.2.1 == r1 && (f.2.2.2.2.2 == kd && ((decide (f.2.2.2.1 = 0 ∧ kd < 2) || r2 == 1) && (
      if r1 = 0 then decide (1 ≤ fr ∧ 20 ≤ lo) else if r1 < 4 then decide (1 ≤ fr ∧ 40 ≤ lo)
      else decide (10 ≤ r1) && (match qMIL[r1 - 10]? with
        | none => false
        | some c => decide (c.2.2.2.2.2.2.2.1 + 1 ≤ fr ∧ 8 + (c.2.2.2.1 + 11) + c.2.2.2.2.2.2.2.2.1 ≤ lo)))))))
def qThok (bc : ByteArray) (o pc e fr lo j : Nat) : Bool := match qTH[j]? with
  | none => false
  | some t => o == 9 && (t.2.2.2.1 == e && (decide (6 ≤ fr ∧ 90 ≤ lo) && (decide (decode bc pc = .ok (.new t.1, 3)) && (decide (decode bc (pc + 3) = .ok (.dup, 1)) && (
      if t.2.2.2.2.1 = 0 then decide (decode bc (pc + 4) = .ok (.ldc t.2.1, 2)) && (decide (decode bc (pc + 6) = .ok (.invokespecial t.2.2.1, 3)) && decide (decode bc (pc + 9) = .ok (.athrow, 1)))
      else decide (decode bc (pc + 4) = .ok (.ldc_w t.2.1, 3)) && (decide (decode bc (pc + 7) = .ok (.invokespecial t.2.2.1, 3)) && decide (decode bc (pc + 10) = .ok (.athrow, 1))))))))
/-- a row is its code's -/
noncomputable def qRowOk (o : Nat) (init : Bool) (fr lo : Nat) (bc : ByteArray) (all tl : List PRow) (r : PRow) : Bool :=
  decide (decode bc r.1 = .ok (r.2.1, r.2.2.1)) && (match r.2.1 with
    | .goto off => r.2.2.1 == 3 && qJp all r.2.2.2.1 r.1 off
    | .ifCond _ off => r.2.2.1 == 3 && (qJp all r.2.2.2.1 r.1 off && qNx tl (r.1 + 3))
    | .if_icmp _ off => r.2.2.1 == 3 && (qJp all r.2.2.2.1 r.1 off && qNx tl (r.1 + 3))
    | .if_acmp _ off => r.2.2.1 == 3 && (qJp all r.2.2.2.1 r.1 off && qNx tl (r.1 + 3))
    | .ifnull off => r.2.2.1 == 3 && (qJp all r.2.2.2.1 r.1 off && qNx tl (r.1 + 3))
    | .ifnonnull off => r.2.2.1 == 3 && (qJp all r.2.2.2.1 r.1 off && qNx tl (r.1 + 3))
    | .ireturn => r.2.2.1 == 1
    | .lreturn => r.2.2.1 == 1
    | .dreturn => r.2.2.1 == 1
    | .areturn => r.2.2.1 == 1
    | .return_ => r.2.2.1 == 1
    | .tableswitch .. => true
    | .athrow => true
    | .getfield idx => r.2.2.1 == 3 && (qNx tl (r.1 + 3) && qFok o idx r.2.2.2.1 r.2.2.2.2.1 r.2.2.2.2.2)
    | .putfield idx => r.2.2.1 == 3 && (qNx tl (r.1 + 3) && (qFok o idx r.2.2.2.1 r.2.2.2.2.1 r.2.2.2.2.2 && (if (qTf r.2.2.2.1 r.2.2.2.2.1).2.2.2 = true then init && (decide (r.2.2.2.1 = o ∧ o < 12) && qFn r.2.2.2.2.2 == 0) else true)))
    | .new idx => if r.2.2.2.1 < 12 then r.2.2.1 == 3 && (qNx tl (r.1 + 3) && qCok o idx r.2.2.2.1 r.2.2.2.2.2) else decide (100 ≤ r.2.2.2.1) && qThok bc o r.1 (r.2.2.2.1 - 100) fr lo r.2.2.2.2.2
    | .anewarray idx => r.2.2.1 == 3 && (qNx tl (r.1 + 3) && (qCok o idx r.2.2.2.1 r.2.2.2.2.2 && decide (15 ≤ r.2.2.2.1)))
    | .multianewarray idx d => r.2.2.1 == 4 && (qNx tl (r.1 + 4) && (qCok o idx 19 r.2.2.2.2.2 && d == 2))
    | .invokevirtual idx => r.2.2.1 == 3 && (qNx tl (r.1 + 3) && qMok o idx r.2.2.2.1 r.2.2.2.2.1 0 fr lo r.2.2.2.2.2)
    | .invokestatic idx => r.2.2.1 == 3 && (qNx tl (r.1 + 3) && qMok o idx r.2.2.2.1 r.2.2.2.2.1 1 fr lo r.2.2.2.2.2)
    | .invokespecial idx => r.2.2.1 == 3 && (qNx tl (r.1 + 3) && (r.2.2.2.1 == 9 || qMok o idx r.2.2.2.1 r.2.2.2.2.1 2 fr lo r.2.2.2.2.2))
    | .ldc idx => r.2.2.1 == 2 && (qNx tl (r.1 + 2) && (r.2.2.2.1 == 0 || qKok o idx r.2.2.2.1 0 r.2.2.2.2.2))
    | .ldc_w idx => r.2.2.1 == 3 && (qNx tl (r.1 + 3) && (r.2.2.2.1 == 0 || qKok o idx r.2.2.2.1 0 r.2.2.2.2.2))
    | .ldc2_w idx => r.2.2.1 == 3 && (qNx tl (r.1 + 3) && (r.2.2.2.1 == 0 || qKok o idx r.2.2.2.1 1 r.2.2.2.2.2))
    | .bipush _ => r.2.2.1 == 2 && qNx tl (r.1 + 2)
    | .newarray _ => r.2.2.1 == 2 && qNx tl (r.1 + 2)
    | .sipush _ => r.2.2.1 == 3 && qNx tl (r.1 + 3)
    | .iinc _ _ => r.2.2.1 == 3 && qNx tl (r.1 + 3)
    | .iload _ => r.2.2.1 == 2 && qNx tl (r.1 + 2)
    | .lload _ => r.2.2.1 == 2 && qNx tl (r.1 + 2)
    | .dload _ => r.2.2.1 == 2 && qNx tl (r.1 + 2)
    | .aload _ => r.2.2.1 == 2 && qNx tl (r.1 + 2)
    | .istore _ => r.2.2.1 == 2 && qNx tl (r.1 + 2)
    | .lstore _ => r.2.2.1 == 2 && qNx tl (r.1 + 2)
    | .dstore _ => r.2.2.1 == 2 && qNx tl (r.1 + 2)
    | .astore _ => r.2.2.1 == 2 && qNx tl (r.1 + 2)
    | _ => r.2.2.1 == 1 && qNx tl (r.1 + 1))
noncomputable def qRowsOk (o : Nat) (init : Bool) (fr lo : Nat) (bc : ByteArray) (all : List PRow) : List PRow → Bool
  | [] => true
  | r :: tl => qRowOk o init fr lo bc all tl r && qRowsOk o init fr lo bc all tl
noncomputable def qMetOk (m : Nat) : Bool := match qMIL[m]? with
  | none => false
  | some c => qRowsOk c.1 (decide (c.2.1.name = "<init>")) c.2.2.2.2.2.2.2.1 c.2.2.2.2.2.2.2.2.1 c.2.2.1 (qRows m) (qRows m) && (match qRows m with | [] => false | r :: _ => r.1 == 0)
/-- rows a .. a + n - 1 of method m -/
noncomputable def qAt (m i : Nat) : Bool := match qMIL[m]? with
  | none => false
  | some c => match (qRows m).drop i with
    | [] => false
    | r :: tl => qRowOk c.1 (decide (c.2.1.name = "<init>")) c.2.2.2.2.2.2.2.1 c.2.2.2.2.2.2.2.2.1 c.2.2.1 (qRows m) tl r
noncomputable def qSpan (m a : Nat) : Nat → Bool
  | 0 => true
  | n + 1 => qAt m (a + n) && qSpan m a n
end
section
/-! ===== THE LINKS AGAINST THE TABLES: decided by the kernel ===== -/
/-- the tables' words by pieces: place 1000 * piece + number -/
def qTb (k : Nat) : List Cond := match k with
  | 0 => k2_sels lw_privs | 1 => tables_1_1 | 2 => tables_1_2 | 3 => tables_1_3 | 4 => tables_1_4 | 5 => tables_1_5 | _ => []
def qGet (x : Nat) : Option Cond := (qTb (x / 1000))[x % 1000]?
theorem qTb_mem {k : Nat} {w : Cond} (h : w ∈ qTb k) : w ∈ lw_tbl := by
  unfold lw_tbl tables_1
  simp only [List.mem_append]
  match k, h with
  | 0, h => exact Or.inl h
  | 1, h => exact Or.inr (Or.inl h)
  | 2, h => exact Or.inr (Or.inr (Or.inl h))
  | 3, h => exact Or.inr (Or.inr (Or.inr (Or.inl h)))
  | 4, h => exact Or.inr (Or.inr (Or.inr (Or.inr (Or.inl h))))
  | 5, h => exact Or.inr (Or.inr (Or.inr (Or.inr (Or.inr h))))
  | n + 6, h => exact absurd h List.not_mem_nil
theorem qGet_mem {x : Nat} {w : Cond} (h : qGet x = some w) : w ∈ lw_tbl := qTb_mem (List.mem_of_getElem? h)
def qLayP (ci : Nat) : List Nat := match ci with
  | 0 => [2072, 2074, 2076]
  | 1 => [2087, 2089, 2091, 2093]
  | 2 => [3051, 3053, 3055, 3057]
  | 3 => [1090, 1092, 1094, 1096, 1098, 1100, 1102, 1104, 1106, 1108, 1110]
  | 4 => [1125, 1127, 1129, 1131, 1133, 1135]
  | 5 => [5011, 5013, 5015, 5017, 5019, 5021]
  | 6 => [2022, 2024, 2026, 2028, 2030, 2032, 2034, 2036, 2038, 2040, 2042, 2044, 2046, 2048, 2050, 2052, 2054, 2056]
  | 7 => [1183, 1185, 1187, 1189]
  | 8 => [1159, 1161, 1163]
  | 9 => [2098, 2100]
  | 10 => [2072, 2074, 2076]
  | _ => [2072, 2074, 2076]
set_option maxRecDepth 100000 in
theorem qLay_ok : (List.range 12).all (fun ci => decide (u_ws (qOwn ci) (qTf ci) (pF ci) = (qLayP ci).filterMap qGet) && (u_ws (qOwn ci) (qTf ci) (pF ci)).all goodWord) = true := by decide +kernel
theorem qLay {ci : Nat} (h : ci < 12) : ∀ w ∈ u_ws (qOwn ci) (qTf ci) (pF ci), w ∈ lw_tbl ∧ goodWord w = true := by
  have h1 := List.all_eq_true.mp qLay_ok ci (List.mem_range.mpr h)
  simp only [Bool.and_eq_true, decide_eq_true_eq] at h1
  intro w hw
  refine ⟨?_, List.all_eq_true.mp h1.2 w hw⟩
  rw [h1.1] at hw
  obtain ⟨i, -, hi⟩ := List.mem_filterMap.mp hw
  exact qGet_mem hi
theorem qTf_ok : ∀ ci, ci < 12 → ∀ k, k < pF ci → parseFieldDescriptor (qTf ci k).2.2.1 = some (pT ci k) := by
  intro ci h
  match ci, h with
  | 0, _ => exact tyX0_ok
  | 1, _ => exact tyX1_ok
  | 2, _ => exact tyX2_ok
  | 3, _ => exact tyX3_ok
  | 4, _ => exact tyX4_ok
  | 5, _ => exact tyX5_ok
  | 6, _ => exact tyX6_ok
  | 7, _ => exact tyX7_ok
  | 8, _ => exact tyX8_ok
  | 9, _ => exact tyX9_ok
  | 10, _ => exact tyX0_ok
  | 11, _ => exact tyX0_ok
  | n + 12, h => omega
theorem qTf_nm : ∀ ci, ci < 12 → ∀ a, a < pF ci → ∀ b, b < pF ci → a ≠ b → (qTf ci a).2.1 ≠ (qTf ci b).2.1 := by
  intro ci h
  match ci, h with
  | 0, _ => exact nmX0
  | 1, _ => exact nmX1
  | 2, _ => exact nmX2
  | 3, _ => exact nmX3
  | 4, _ => exact nmX4
  | 5, _ => exact nmX5
  | 6, _ => exact nmX6
  | 7, _ => exact nmX7
  | 8, _ => exact nmX8
  | 9, _ => exact nmX9
  | 10, _ => exact nmX0
  | 11, _ => exact nmX0
  | n + 12, h => omega
theorem pF_lt {ci k : Nat} (h : k < pF ci) : ci < 12 := by
  rcases Nat.lt_or_ge ci 12 with z | z
  · exact z
  · match ci, z with
    | n + 12, _ => exact absurd h (Nat.not_lt_zero k)
abbrev QL6 : Type := Nat × Nat × Nat × Nat × Nat × Nat
/-- a field link's word -/
def qFw (f : QL6) : Cond := if f.2.2.2.2.1 = 1 then .fieldLinkNest (qOwn f.1) f.2.1 (qTf f.2.2.1 f.2.2.2.1).1 (qTf f.2.2.1 f.2.2.2.1).2.1 (qTf f.2.2.1 f.2.2.2.1).2.2.1 RX11
  else .fieldLink (qOwn f.1) f.2.1 (qTf f.2.2.1 f.2.2.2.1).1 (qTf f.2.2.1 f.2.2.2.1).2.1 (qTf f.2.2.1 f.2.2.2.1).2.2.1
set_option maxRecDepth 100000 in
theorem qFL_ok : qFL.all (fun f => decide (qGet f.2.2.2.2.2 = some (qFw f))) = true := by decide +kernel
/-- a class link's word, and where an array is made its array's -/
def qCn (kd : Nat) : String := if kd < 12 then qOwn kd else match kd with
  | 15 => RX0 | 16 => RX2 | 17 => RX3 | 18 => RX6 | _ => "[[I"
set_option maxRecDepth 100000 in
theorem qCL_ok : qCL.all (fun f => decide (qGet f.2.2.2 = some (.classLink (qOwn f.1) f.2.1 (qCn f.2.2.1)))) = true := by decide +kernel
set_option maxRecDepth 100000 in
theorem qKL_ok : qKL.all (fun f => decide (qGet f.2.2.2.2 = some (if f.2.2.2.1 = 1 then Cond.constantLong (qOwn f.1) f.2.1 (Int64.ofNat f.2.2.1) else Cond.constant (qOwn f.1) f.2.1 (Int32.ofNat f.2.2.1)))) = true := by decide +kernel
/-- a method link's word -/
noncomputable def qMn (r1 : Nat) : MethodName := if r1 = 0 then objectInit else if r1 = 1 then arraycopyName else if r1 = 2 then yJ9_max_7cf53 else if r1 = 3 then yJ9_min_7cf53 else (qMI (r1 - 10)).2.1
noncomputable def qMw (f : QL6) : Cond := if f.2.2.2.1 = 1 then .methodLinkNest (qOwn f.1) f.2.1 (qMn f.2.2.1) (if f.1 ≤ 9 then RX9 else RX11) else .methodLink (qOwn f.1) f.2.1 (qMn f.2.2.1)

set_option maxRecDepth 100000 in
theorem qML_ok_0 : ((qML.drop 0).take 60).all (fun f => decide (qGet f.2.2.2.2.1 = some (qMw f))) = true := by decide +kernel
set_option maxRecDepth 100000 in
theorem qML_ok_1 : ((qML.drop 60).take 60).all (fun f => decide (qGet f.2.2.2.2.1 = some (qMw f))) = true := by decide +kernel
set_option maxRecDepth 100000 in
theorem qML_ok_2 : ((qML.drop 120).take 60).all (fun f => decide (qGet f.2.2.2.2.1 = some (qMw f))) = true := by decide +kernel
set_option maxRecDepth 100000 in
theorem qML_ok_3 : ((qML.drop 180).take 60).all (fun f => decide (qGet f.2.2.2.2.1 = some (qMw f))) = true := by decide +kernel
set_option maxRecDepth 100000 in
theorem qML_ok_4 : ((qML.drop 240).take 60).all (fun f => decide (qGet f.2.2.2.2.1 = some (qMw f))) = true := by decide +kernel
set_option maxRecDepth 100000 in
theorem qML_ok_5 : ((qML.drop 300).take 60).all (fun f => decide (qGet f.2.2.2.2.1 = some (qMw f))) = true := by decide +kernel
set_option maxRecDepth 100000 in
theorem qML_ok_6 : ((qML.drop 360).take 60).all (fun f => decide (qGet f.2.2.2.2.1 = some (qMw f))) = true := by decide +kernel
set_option maxRecDepth 100000 in
theorem qML_ok_7 : ((qML.drop 420).take 60).all (fun f => decide (qGet f.2.2.2.2.1 = some (qMw f))) = true := by decide +kernel
def qInsP : List (Nat × Nat) := [(2059, 1009), (1030, 1002), (3036, 1016), (1047, 1004), (1040, 1003), (4226, 1020), (1192, 1008), (1142, 1005), (1148, 1006), (1022, 1001), (2059, 1009), (2059, 1009)]
set_option maxRecDepth 100000 in
theorem qIns_ok : (List.range 12).all (fun ci => match qInsP[ci]? with | none => false | some z => decide (qGet z.1 = some (Cond.instantiable (qOwn ci) (pF ci))) && decide (qGet z.2 = some (Cond.initialized (qOwn ci)))) = true := by decide +kernel
/-- methods: their words -/
noncomputable def qCw (c : QMI) : Cond := match c.2.2.2.2.2.2.2.2.2.1 with
  | [] => Cond.code c.2.1 c.2.2.1 c.2.2.2.1 c.2.2.2.2.1
  | h :: t => Cond.codeWith c.2.1 c.2.2.1 c.2.2.2.1 c.2.2.2.2.1 (h :: t)
noncomputable def qMiOk (c : QMI) : Bool :=
  plainName c.2.1.cls && (decide (c.2.1.cls = qOwn c.1) && (decide (c.2.1.cls ≠ "java/lang/invoke/MethodHandle" ∧ c.2.1.cls ≠ "java/lang/invoke/VarHandle") && (
  decide ((parseMethodDescriptor c.2.1.desc).map (fun d => d.parameters.length) = some (c.2.2.2.2.2.1 - (1 - c.2.2.2.2.2.2.1))) && (decide (1 - c.2.2.2.2.2.2.1 ≤ c.2.2.2.2.2.1) && (
  decide (qGet c.2.2.2.2.2.2.2.2.2.2.2.1 = some (if c.2.2.2.2.2.2.1 = 1 then Cond.static c.2.1 else Cond.instanceMethod c.2.1)) && (
  decide (qGet c.2.2.2.2.2.2.2.2.2.2.2.2.2 = some (Cond.initialized c.2.1.cls)) &&
  (c.2.2.2.2.2.2.1 == 1 || (decide (c.2.1.name = "<init>" ∧ c.2.2.2.2.1 = none) || decide (qGet c.2.2.2.2.2.2.2.2.2.2.2.2.1 = some (Cond.selects (qOwn c.1) c.2.1 c.2.1))))))))))
/-- the handlers against the tables -/
def qHandOk (rows : List PRow) : List (Nat × Nat × Nat × Nat) → List PHd → List (Nat × Nat × Nat) → Bool
  | [], [], [] => true
  | h :: hs, d :: ds, x :: xs => decide (h = (d.1, d.2.1, x.1, x.2.1)) && (decide ((rows[d.2.2.1]?).map (fun r => r.1) = some x.1) && (decide (qGet x.2.2 = some (Cond.classLink RL x.2.1 (qEx d.2.2.2))) && (decide (d.2.2.2 < 3 ∧ x.2.1 ≠ 0) && qHandOk rows hs ds xs)))
  | _, _, _ => false
set_option maxRecDepth 100000 in
theorem qHands : (List.range 381).all (fun m => qHandOk (if m < 320 ∨ m = 378 then [] else qRows m) (qMI m).2.2.2.2.2.2.2.2.2.1 (qHd m) (qHh m)) = true := by decide +kernel
end
section
theorem cw_0 : qGet mi_0.2.2.2.2.2.2.2.2.2.2.1 = some (qCw mi_0) := by rfl
set_option maxRecDepth 100000 in
theorem mo_0 : qMiOk mi_0 = true := by decide +kernel
theorem cw_1 : qGet mi_1.2.2.2.2.2.2.2.2.2.2.1 = some (qCw mi_1) := by rfl
set_option maxRecDepth 100000 in
theorem mo_1 : qMiOk mi_1 = true := by decide +kernel
theorem cw_3 : qGet mi_3.2.2.2.2.2.2.2.2.2.2.1 = some (qCw mi_3) := by rfl
set_option maxRecDepth 100000 in
theorem mo_3 : qMiOk mi_3 = true := by decide +kernel
theorem cw_4 : qGet mi_4.2.2.2.2.2.2.2.2.2.2.1 = some (qCw mi_4) := by rfl
set_option maxRecDepth 100000 in
theorem mo_4 : qMiOk mi_4 = true := by decide +kernel
theorem cw_5 : qGet mi_5.2.2.2.2.2.2.2.2.2.2.1 = some (qCw mi_5) := by rfl
set_option maxRecDepth 100000 in
theorem mo_5 : qMiOk mi_5 = true := by decide +kernel
theorem cw_6 : qGet mi_6.2.2.2.2.2.2.2.2.2.2.1 = some (qCw mi_6) := by rfl
set_option maxRecDepth 100000 in
theorem mo_6 : qMiOk mi_6 = true := by decide +kernel
theorem cw_7 : qGet mi_7.2.2.2.2.2.2.2.2.2.2.1 = some (qCw mi_7) := by rfl
set_option maxRecDepth 100000 in
theorem mo_7 : qMiOk mi_7 = true := by decide +kernel
theorem cw_8 : qGet mi_8.2.2.2.2.2.2.2.2.2.2.1 = some (qCw mi_8) := by rfl
set_option maxRecDepth 100000 in
theorem mo_8 : qMiOk mi_8 = true := by decide +kernel
theorem cw_10 : qGet mi_10.2.2.2.2.2.2.2.2.2.2.1 = some (qCw mi_10) := by rfl
set_option maxRecDepth 100000 in
theorem mo_10 : qMiOk mi_10 = true := by decide +kernel
theorem cw_11 : qGet mi_11.2.2.2.2.2.2.2.2.2.2.1 = some (qCw mi_11) := by rfl
set_option maxRecDepth 100000 in
theorem mo_11 : qMiOk mi_11 = true := by decide +kernel
theorem cw_12 : qGet mi_12.2.2.2.2.2.2.2.2.2.2.1 = some (qCw mi_12) := by rfl
set_option maxRecDepth 100000 in
theorem mo_12 : qMiOk mi_12 = true := by decide +kernel
theorem cw_13 : qGet mi_13.2.2.2.2.2.2.2.2.2.2.1 = some (qCw mi_13) := by rfl
set_option maxRecDepth 100000 in
theorem mo_13 : qMiOk mi_13 = true := by decide +kernel
theorem cw_14 : qGet mi_14.2.2.2.2.2.2.2.2.2.2.1 = some (qCw mi_14) := by rfl
set_option maxRecDepth 100000 in
theorem mo_14 : qMiOk mi_14 = true := by decide +kernel
theorem cw_21 : qGet mi_21.2.2.2.2.2.2.2.2.2.2.1 = some (qCw mi_21) := by rfl
set_option maxRecDepth 100000 in
theorem mo_21 : qMiOk mi_21 = true := by decide +kernel
theorem cw_22 : qGet mi_22.2.2.2.2.2.2.2.2.2.2.1 = some (qCw mi_22) := by rfl
set_option maxRecDepth 100000 in
theorem mo_22 : qMiOk mi_22 = true := by decide +kernel
theorem cw_23 : qGet mi_23.2.2.2.2.2.2.2.2.2.2.1 = some (qCw mi_23) := by rfl
set_option maxRecDepth 100000 in
theorem mo_23 : qMiOk mi_23 = true := by decide +kernel
theorem cw_24 : qGet mi_24.2.2.2.2.2.2.2.2.2.2.1 = some (qCw mi_24) := by rfl
set_option maxRecDepth 100000 in
theorem mo_24 : qMiOk mi_24 = true := by decide +kernel
theorem cw_25 : qGet mi_25.2.2.2.2.2.2.2.2.2.2.1 = some (qCw mi_25) := by rfl
set_option maxRecDepth 100000 in
theorem mo_25 : qMiOk mi_25 = true := by decide +kernel
theorem cw_26 : qGet mi_26.2.2.2.2.2.2.2.2.2.2.1 = some (qCw mi_26) := by rfl
set_option maxRecDepth 100000 in
theorem mo_26 : qMiOk mi_26 = true := by decide +kernel
theorem cw_27 : qGet mi_27.2.2.2.2.2.2.2.2.2.2.1 = some (qCw mi_27) := by rfl
set_option maxRecDepth 100000 in
theorem mo_27 : qMiOk mi_27 = true := by decide +kernel
theorem cw_28 : qGet mi_28.2.2.2.2.2.2.2.2.2.2.1 = some (qCw mi_28) := by rfl
set_option maxRecDepth 100000 in
theorem mo_28 : qMiOk mi_28 = true := by decide +kernel
theorem cw_29 : qGet mi_29.2.2.2.2.2.2.2.2.2.2.1 = some (qCw mi_29) := by rfl
set_option maxRecDepth 100000 in
theorem mo_29 : qMiOk mi_29 = true := by decide +kernel
theorem cw_30 : qGet mi_30.2.2.2.2.2.2.2.2.2.2.1 = some (qCw mi_30) := by rfl
set_option maxRecDepth 100000 in
theorem mo_30 : qMiOk mi_30 = true := by decide +kernel
theorem cw_31 : qGet mi_31.2.2.2.2.2.2.2.2.2.2.1 = some (qCw mi_31) := by rfl
set_option maxRecDepth 100000 in
theorem mo_31 : qMiOk mi_31 = true := by decide +kernel
theorem cw_32 : qGet mi_32.2.2.2.2.2.2.2.2.2.2.1 = some (qCw mi_32) := by rfl
set_option maxRecDepth 100000 in
theorem mo_32 : qMiOk mi_32 = true := by decide +kernel
theorem cw_33 : qGet mi_33.2.2.2.2.2.2.2.2.2.2.1 = some (qCw mi_33) := by rfl
set_option maxRecDepth 100000 in
theorem mo_33 : qMiOk mi_33 = true := by decide +kernel
theorem cw_34 : qGet mi_34.2.2.2.2.2.2.2.2.2.2.1 = some (qCw mi_34) := by rfl
set_option maxRecDepth 100000 in
theorem mo_34 : qMiOk mi_34 = true := by decide +kernel
theorem cw_35 : qGet mi_35.2.2.2.2.2.2.2.2.2.2.1 = some (qCw mi_35) := by rfl
set_option maxRecDepth 100000 in
theorem mo_35 : qMiOk mi_35 = true := by decide +kernel
theorem cw_36 : qGet mi_36.2.2.2.2.2.2.2.2.2.2.1 = some (qCw mi_36) := by rfl
set_option maxRecDepth 100000 in
theorem mo_36 : qMiOk mi_36 = true := by decide +kernel
theorem cw_37 : qGet mi_37.2.2.2.2.2.2.2.2.2.2.1 = some (qCw mi_37) := by rfl
set_option maxRecDepth 100000 in
theorem mo_37 : qMiOk mi_37 = true := by decide +kernel
theorem cw_38 : qGet mi_38.2.2.2.2.2.2.2.2.2.2.1 = some (qCw mi_38) := by rfl
set_option maxRecDepth 100000 in
theorem mo_38 : qMiOk mi_38 = true := by decide +kernel
theorem cw_39 : qGet mi_39.2.2.2.2.2.2.2.2.2.2.1 = some (qCw mi_39) := by rfl
set_option maxRecDepth 100000 in
theorem mo_39 : qMiOk mi_39 = true := by decide +kernel
theorem cw_40 : qGet mi_40.2.2.2.2.2.2.2.2.2.2.1 = some (qCw mi_40) := by rfl
set_option maxRecDepth 100000 in
theorem mo_40 : qMiOk mi_40 = true := by decide +kernel
theorem cw_41 : qGet mi_41.2.2.2.2.2.2.2.2.2.2.1 = some (qCw mi_41) := by rfl
set_option maxRecDepth 100000 in
theorem mo_41 : qMiOk mi_41 = true := by decide +kernel
theorem cw_42 : qGet mi_42.2.2.2.2.2.2.2.2.2.2.1 = some (qCw mi_42) := by rfl
set_option maxRecDepth 100000 in
theorem mo_42 : qMiOk mi_42 = true := by decide +kernel
theorem cw_43 : qGet mi_43.2.2.2.2.2.2.2.2.2.2.1 = some (qCw mi_43) := by rfl
set_option maxRecDepth 100000 in
theorem mo_43 : qMiOk mi_43 = true := by decide +kernel
theorem cw_44 : qGet mi_44.2.2.2.2.2.2.2.2.2.2.1 = some (qCw mi_44) := by rfl
set_option maxRecDepth 100000 in
theorem mo_44 : qMiOk mi_44 = true := by decide +kernel
theorem cw_45 : qGet mi_45.2.2.2.2.2.2.2.2.2.2.1 = some (qCw mi_45) := by rfl
set_option maxRecDepth 100000 in
theorem mo_45 : qMiOk mi_45 = true := by decide +kernel
theorem cw_46 : qGet mi_46.2.2.2.2.2.2.2.2.2.2.1 = some (qCw mi_46) := by rfl
set_option maxRecDepth 100000 in
theorem mo_46 : qMiOk mi_46 = true := by decide +kernel
theorem cw_47 : qGet mi_47.2.2.2.2.2.2.2.2.2.2.1 = some (qCw mi_47) := by rfl
set_option maxRecDepth 100000 in
theorem mo_47 : qMiOk mi_47 = true := by decide +kernel
theorem cw_48 : qGet mi_48.2.2.2.2.2.2.2.2.2.2.1 = some (qCw mi_48) := by rfl
set_option maxRecDepth 100000 in
theorem mo_48 : qMiOk mi_48 = true := by decide +kernel
theorem cw_50 : qGet mi_50.2.2.2.2.2.2.2.2.2.2.1 = some (qCw mi_50) := by rfl
set_option maxRecDepth 100000 in
theorem mo_50 : qMiOk mi_50 = true := by decide +kernel
theorem cw_51 : qGet mi_51.2.2.2.2.2.2.2.2.2.2.1 = some (qCw mi_51) := by rfl
set_option maxRecDepth 100000 in
theorem mo_51 : qMiOk mi_51 = true := by decide +kernel
theorem cw_52 : qGet mi_52.2.2.2.2.2.2.2.2.2.2.1 = some (qCw mi_52) := by rfl
set_option maxRecDepth 100000 in
theorem mo_52 : qMiOk mi_52 = true := by decide +kernel
theorem cw_53 : qGet mi_53.2.2.2.2.2.2.2.2.2.2.1 = some (qCw mi_53) := by rfl
set_option maxRecDepth 100000 in
theorem mo_53 : qMiOk mi_53 = true := by decide +kernel
theorem cw_54 : qGet mi_54.2.2.2.2.2.2.2.2.2.2.1 = some (qCw mi_54) := by rfl
set_option maxRecDepth 100000 in
theorem mo_54 : qMiOk mi_54 = true := by decide +kernel
theorem cw_55 : qGet mi_55.2.2.2.2.2.2.2.2.2.2.1 = some (qCw mi_55) := by rfl
set_option maxRecDepth 100000 in
theorem mo_55 : qMiOk mi_55 = true := by decide +kernel
theorem cw_56 : qGet mi_56.2.2.2.2.2.2.2.2.2.2.1 = some (qCw mi_56) := by rfl
set_option maxRecDepth 100000 in
theorem mo_56 : qMiOk mi_56 = true := by decide +kernel
theorem cw_57 : qGet mi_57.2.2.2.2.2.2.2.2.2.2.1 = some (qCw mi_57) := by rfl
set_option maxRecDepth 100000 in
theorem mo_57 : qMiOk mi_57 = true := by decide +kernel
theorem cw_58 : qGet mi_58.2.2.2.2.2.2.2.2.2.2.1 = some (qCw mi_58) := by rfl
set_option maxRecDepth 100000 in
theorem mo_58 : qMiOk mi_58 = true := by decide +kernel
theorem cw_59 : qGet mi_59.2.2.2.2.2.2.2.2.2.2.1 = some (qCw mi_59) := by rfl
set_option maxRecDepth 100000 in
theorem mo_59 : qMiOk mi_59 = true := by decide +kernel
theorem cw_61 : qGet mi_61.2.2.2.2.2.2.2.2.2.2.1 = some (qCw mi_61) := by rfl
set_option maxRecDepth 100000 in
theorem mo_61 : qMiOk mi_61 = true := by decide +kernel
theorem cw_62 : qGet mi_62.2.2.2.2.2.2.2.2.2.2.1 = some (qCw mi_62) := by rfl
set_option maxRecDepth 100000 in
theorem mo_62 : qMiOk mi_62 = true := by decide +kernel
theorem cw_63 : qGet mi_63.2.2.2.2.2.2.2.2.2.2.1 = some (qCw mi_63) := by rfl
set_option maxRecDepth 100000 in
theorem mo_63 : qMiOk mi_63 = true := by decide +kernel
theorem cw_64 : qGet mi_64.2.2.2.2.2.2.2.2.2.2.1 = some (qCw mi_64) := by rfl
set_option maxRecDepth 100000 in
theorem mo_64 : qMiOk mi_64 = true := by decide +kernel
theorem cw_65 : qGet mi_65.2.2.2.2.2.2.2.2.2.2.1 = some (qCw mi_65) := by rfl
set_option maxRecDepth 100000 in
theorem mo_65 : qMiOk mi_65 = true := by decide +kernel
theorem cw_66 : qGet mi_66.2.2.2.2.2.2.2.2.2.2.1 = some (qCw mi_66) := by rfl
set_option maxRecDepth 100000 in
theorem mo_66 : qMiOk mi_66 = true := by decide +kernel
theorem cw_67 : qGet mi_67.2.2.2.2.2.2.2.2.2.2.1 = some (qCw mi_67) := by rfl
set_option maxRecDepth 100000 in
theorem mo_67 : qMiOk mi_67 = true := by decide +kernel
theorem cw_68 : qGet mi_68.2.2.2.2.2.2.2.2.2.2.1 = some (qCw mi_68) := by rfl
set_option maxRecDepth 100000 in
theorem mo_68 : qMiOk mi_68 = true := by decide +kernel
theorem cw_69 : qGet mi_69.2.2.2.2.2.2.2.2.2.2.1 = some (qCw mi_69) := by rfl
set_option maxRecDepth 100000 in
theorem mo_69 : qMiOk mi_69 = true := by decide +kernel
theorem cw_70 : qGet mi_70.2.2.2.2.2.2.2.2.2.2.1 = some (qCw mi_70) := by rfl
set_option maxRecDepth 100000 in
theorem mo_70 : qMiOk mi_70 = true := by decide +kernel
theorem cw_71 : qGet mi_71.2.2.2.2.2.2.2.2.2.2.1 = some (qCw mi_71) := by rfl
set_option maxRecDepth 100000 in
theorem mo_71 : qMiOk mi_71 = true := by decide +kernel
theorem cw_72 : qGet mi_72.2.2.2.2.2.2.2.2.2.2.1 = some (qCw mi_72) := by rfl
set_option maxRecDepth 100000 in
theorem mo_72 : qMiOk mi_72 = true := by decide +kernel
theorem cw_73 : qGet mi_73.2.2.2.2.2.2.2.2.2.2.1 = some (qCw mi_73) := by rfl
set_option maxRecDepth 100000 in
theorem mo_73 : qMiOk mi_73 = true := by decide +kernel
theorem cw_74 : qGet mi_74.2.2.2.2.2.2.2.2.2.2.1 = some (qCw mi_74) := by rfl
set_option maxRecDepth 100000 in
theorem mo_74 : qMiOk mi_74 = true := by decide +kernel
theorem cw_75 : qGet mi_75.2.2.2.2.2.2.2.2.2.2.1 = some (qCw mi_75) := by rfl
set_option maxRecDepth 100000 in
theorem mo_75 : qMiOk mi_75 = true := by decide +kernel
theorem cw_76 : qGet mi_76.2.2.2.2.2.2.2.2.2.2.1 = some (qCw mi_76) := by rfl
set_option maxRecDepth 100000 in
theorem mo_76 : qMiOk mi_76 = true := by decide +kernel
theorem cw_77 : qGet mi_77.2.2.2.2.2.2.2.2.2.2.1 = some (qCw mi_77) := by rfl
set_option maxRecDepth 100000 in
theorem mo_77 : qMiOk mi_77 = true := by decide +kernel
theorem cw_78 : qGet mi_78.2.2.2.2.2.2.2.2.2.2.1 = some (qCw mi_78) := by rfl
set_option maxRecDepth 100000 in
theorem mo_78 : qMiOk mi_78 = true := by decide +kernel
theorem cw_79 : qGet mi_79.2.2.2.2.2.2.2.2.2.2.1 = some (qCw mi_79) := by rfl
set_option maxRecDepth 100000 in
theorem mo_79 : qMiOk mi_79 = true := by decide +kernel
theorem cw_80 : qGet mi_80.2.2.2.2.2.2.2.2.2.2.1 = some (qCw mi_80) := by rfl
set_option maxRecDepth 100000 in
theorem mo_80 : qMiOk mi_80 = true := by decide +kernel
theorem cw_81 : qGet mi_81.2.2.2.2.2.2.2.2.2.2.1 = some (qCw mi_81) := by rfl
set_option maxRecDepth 100000 in
theorem mo_81 : qMiOk mi_81 = true := by decide +kernel
theorem cw_82 : qGet mi_82.2.2.2.2.2.2.2.2.2.2.1 = some (qCw mi_82) := by rfl
set_option maxRecDepth 100000 in
theorem mo_82 : qMiOk mi_82 = true := by decide +kernel
theorem cw_83 : qGet mi_83.2.2.2.2.2.2.2.2.2.2.1 = some (qCw mi_83) := by rfl
set_option maxRecDepth 100000 in
theorem mo_83 : qMiOk mi_83 = true := by decide +kernel
theorem cw_84 : qGet mi_84.2.2.2.2.2.2.2.2.2.2.1 = some (qCw mi_84) := by rfl
set_option maxRecDepth 100000 in
theorem mo_84 : qMiOk mi_84 = true := by decide +kernel
theorem cw_85 : qGet mi_85.2.2.2.2.2.2.2.2.2.2.1 = some (qCw mi_85) := by rfl
set_option maxRecDepth 100000 in
theorem mo_85 : qMiOk mi_85 = true := by decide +kernel
theorem cw_86 : qGet mi_86.2.2.2.2.2.2.2.2.2.2.1 = some (qCw mi_86) := by rfl
set_option maxRecDepth 100000 in
theorem mo_86 : qMiOk mi_86 = true := by decide +kernel
theorem cw_87 : qGet mi_87.2.2.2.2.2.2.2.2.2.2.1 = some (qCw mi_87) := by rfl
set_option maxRecDepth 100000 in
theorem mo_87 : qMiOk mi_87 = true := by decide +kernel
theorem cw_88 : qGet mi_88.2.2.2.2.2.2.2.2.2.2.1 = some (qCw mi_88) := by rfl
set_option maxRecDepth 100000 in
theorem mo_88 : qMiOk mi_88 = true := by decide +kernel
theorem cw_89 : qGet mi_89.2.2.2.2.2.2.2.2.2.2.1 = some (qCw mi_89) := by rfl
set_option maxRecDepth 100000 in
theorem mo_89 : qMiOk mi_89 = true := by decide +kernel
theorem cw_90 : qGet mi_90.2.2.2.2.2.2.2.2.2.2.1 = some (qCw mi_90) := by rfl
set_option maxRecDepth 100000 in
theorem mo_90 : qMiOk mi_90 = true := by decide +kernel
theorem cw_91 : qGet mi_91.2.2.2.2.2.2.2.2.2.2.1 = some (qCw mi_91) := by rfl
set_option maxRecDepth 100000 in
theorem mo_91 : qMiOk mi_91 = true := by decide +kernel
theorem cw_92 : qGet mi_92.2.2.2.2.2.2.2.2.2.2.1 = some (qCw mi_92) := by rfl
set_option maxRecDepth 100000 in
theorem mo_92 : qMiOk mi_92 = true := by decide +kernel
theorem cw_93 : qGet mi_93.2.2.2.2.2.2.2.2.2.2.1 = some (qCw mi_93) := by rfl
set_option maxRecDepth 100000 in
theorem mo_93 : qMiOk mi_93 = true := by decide +kernel
theorem cw_94 : qGet mi_94.2.2.2.2.2.2.2.2.2.2.1 = some (qCw mi_94) := by rfl
set_option maxRecDepth 100000 in
theorem mo_94 : qMiOk mi_94 = true := by decide +kernel
theorem cw_95 : qGet mi_95.2.2.2.2.2.2.2.2.2.2.1 = some (qCw mi_95) := by rfl
set_option maxRecDepth 100000 in
theorem mo_95 : qMiOk mi_95 = true := by decide +kernel
theorem cw_96 : qGet mi_96.2.2.2.2.2.2.2.2.2.2.1 = some (qCw mi_96) := by rfl
set_option maxRecDepth 100000 in
theorem mo_96 : qMiOk mi_96 = true := by decide +kernel
theorem cw_97 : qGet mi_97.2.2.2.2.2.2.2.2.2.2.1 = some (qCw mi_97) := by rfl
set_option maxRecDepth 100000 in
theorem mo_97 : qMiOk mi_97 = true := by decide +kernel
theorem cw_98 : qGet mi_98.2.2.2.2.2.2.2.2.2.2.1 = some (qCw mi_98) := by rfl
set_option maxRecDepth 100000 in
theorem mo_98 : qMiOk mi_98 = true := by decide +kernel
theorem cw_99 : qGet mi_99.2.2.2.2.2.2.2.2.2.2.1 = some (qCw mi_99) := by rfl
set_option maxRecDepth 100000 in
theorem mo_99 : qMiOk mi_99 = true := by decide +kernel
theorem cw_100 : qGet mi_100.2.2.2.2.2.2.2.2.2.2.1 = some (qCw mi_100) := by rfl
set_option maxRecDepth 100000 in
theorem mo_100 : qMiOk mi_100 = true := by decide +kernel
theorem cw_101 : qGet mi_101.2.2.2.2.2.2.2.2.2.2.1 = some (qCw mi_101) := by rfl
set_option maxRecDepth 100000 in
theorem mo_101 : qMiOk mi_101 = true := by decide +kernel
theorem cw_102 : qGet mi_102.2.2.2.2.2.2.2.2.2.2.1 = some (qCw mi_102) := by rfl
set_option maxRecDepth 100000 in
theorem mo_102 : qMiOk mi_102 = true := by decide +kernel
theorem cw_103 : qGet mi_103.2.2.2.2.2.2.2.2.2.2.1 = some (qCw mi_103) := by rfl
set_option maxRecDepth 100000 in
theorem mo_103 : qMiOk mi_103 = true := by decide +kernel
theorem cw_104 : qGet mi_104.2.2.2.2.2.2.2.2.2.2.1 = some (qCw mi_104) := by rfl
set_option maxRecDepth 100000 in
theorem mo_104 : qMiOk mi_104 = true := by decide +kernel
theorem cw_105 : qGet mi_105.2.2.2.2.2.2.2.2.2.2.1 = some (qCw mi_105) := by rfl
set_option maxRecDepth 100000 in
theorem mo_105 : qMiOk mi_105 = true := by decide +kernel
theorem cw_106 : qGet mi_106.2.2.2.2.2.2.2.2.2.2.1 = some (qCw mi_106) := by rfl
set_option maxRecDepth 100000 in
theorem mo_106 : qMiOk mi_106 = true := by decide +kernel
theorem cw_107 : qGet mi_107.2.2.2.2.2.2.2.2.2.2.1 = some (qCw mi_107) := by rfl
set_option maxRecDepth 100000 in
theorem mo_107 : qMiOk mi_107 = true := by decide +kernel
theorem cw_108 : qGet mi_108.2.2.2.2.2.2.2.2.2.2.1 = some (qCw mi_108) := by rfl
set_option maxRecDepth 100000 in
theorem mo_108 : qMiOk mi_108 = true := by decide +kernel
theorem cw_109 : qGet mi_109.2.2.2.2.2.2.2.2.2.2.1 = some (qCw mi_109) := by rfl
set_option maxRecDepth 100000 in
theorem mo_109 : qMiOk mi_109 = true := by decide +kernel
theorem cw_110 : qGet mi_110.2.2.2.2.2.2.2.2.2.2.1 = some (qCw mi_110) := by rfl
set_option maxRecDepth 100000 in
theorem mo_110 : qMiOk mi_110 = true := by decide +kernel
theorem cw_116 : qGet mi_116.2.2.2.2.2.2.2.2.2.2.1 = some (qCw mi_116) := by rfl
set_option maxRecDepth 100000 in
theorem mo_116 : qMiOk mi_116 = true := by decide +kernel
theorem cw_117 : qGet mi_117.2.2.2.2.2.2.2.2.2.2.1 = some (qCw mi_117) := by rfl
set_option maxRecDepth 100000 in
theorem mo_117 : qMiOk mi_117 = true := by decide +kernel
theorem cw_119 : qGet mi_119.2.2.2.2.2.2.2.2.2.2.1 = some (qCw mi_119) := by rfl
set_option maxRecDepth 100000 in
theorem mo_119 : qMiOk mi_119 = true := by decide +kernel
theorem cw_120 : qGet mi_120.2.2.2.2.2.2.2.2.2.2.1 = some (qCw mi_120) := by rfl
set_option maxRecDepth 100000 in
theorem mo_120 : qMiOk mi_120 = true := by decide +kernel
theorem cw_123 : qGet mi_123.2.2.2.2.2.2.2.2.2.2.1 = some (qCw mi_123) := by rfl
set_option maxRecDepth 100000 in
theorem mo_123 : qMiOk mi_123 = true := by decide +kernel
theorem cw_124 : qGet mi_124.2.2.2.2.2.2.2.2.2.2.1 = some (qCw mi_124) := by rfl
set_option maxRecDepth 100000 in
theorem mo_124 : qMiOk mi_124 = true := by decide +kernel
theorem cw_125 : qGet mi_125.2.2.2.2.2.2.2.2.2.2.1 = some (qCw mi_125) := by rfl
set_option maxRecDepth 100000 in
theorem mo_125 : qMiOk mi_125 = true := by decide +kernel
theorem cw_126 : qGet mi_126.2.2.2.2.2.2.2.2.2.2.1 = some (qCw mi_126) := by rfl
set_option maxRecDepth 100000 in
theorem mo_126 : qMiOk mi_126 = true := by decide +kernel
theorem cw_127 : qGet mi_127.2.2.2.2.2.2.2.2.2.2.1 = some (qCw mi_127) := by rfl
set_option maxRecDepth 100000 in
theorem mo_127 : qMiOk mi_127 = true := by decide +kernel
theorem cw_128 : qGet mi_128.2.2.2.2.2.2.2.2.2.2.1 = some (qCw mi_128) := by rfl
set_option maxRecDepth 100000 in
theorem mo_128 : qMiOk mi_128 = true := by decide +kernel
theorem cw_129 : qGet mi_129.2.2.2.2.2.2.2.2.2.2.1 = some (qCw mi_129) := by rfl
set_option maxRecDepth 100000 in
theorem mo_129 : qMiOk mi_129 = true := by decide +kernel
theorem cw_130 : qGet mi_130.2.2.2.2.2.2.2.2.2.2.1 = some (qCw mi_130) := by rfl
set_option maxRecDepth 100000 in
theorem mo_130 : qMiOk mi_130 = true := by decide +kernel
theorem cw_132 : qGet mi_132.2.2.2.2.2.2.2.2.2.2.1 = some (qCw mi_132) := by rfl
set_option maxRecDepth 100000 in
theorem mo_132 : qMiOk mi_132 = true := by decide +kernel
theorem cw_133 : qGet mi_133.2.2.2.2.2.2.2.2.2.2.1 = some (qCw mi_133) := by rfl
set_option maxRecDepth 100000 in
theorem mo_133 : qMiOk mi_133 = true := by decide +kernel
theorem cw_134 : qGet mi_134.2.2.2.2.2.2.2.2.2.2.1 = some (qCw mi_134) := by rfl
set_option maxRecDepth 100000 in
theorem mo_134 : qMiOk mi_134 = true := by decide +kernel
theorem cw_135 : qGet mi_135.2.2.2.2.2.2.2.2.2.2.1 = some (qCw mi_135) := by rfl
set_option maxRecDepth 100000 in
theorem mo_135 : qMiOk mi_135 = true := by decide +kernel
theorem cw_136 : qGet mi_136.2.2.2.2.2.2.2.2.2.2.1 = some (qCw mi_136) := by rfl
set_option maxRecDepth 100000 in
theorem mo_136 : qMiOk mi_136 = true := by decide +kernel
theorem cw_138 : qGet mi_138.2.2.2.2.2.2.2.2.2.2.1 = some (qCw mi_138) := by rfl
set_option maxRecDepth 100000 in
theorem mo_138 : qMiOk mi_138 = true := by decide +kernel
theorem cw_139 : qGet mi_139.2.2.2.2.2.2.2.2.2.2.1 = some (qCw mi_139) := by rfl
set_option maxRecDepth 100000 in
theorem mo_139 : qMiOk mi_139 = true := by decide +kernel
theorem cw_140 : qGet mi_140.2.2.2.2.2.2.2.2.2.2.1 = some (qCw mi_140) := by rfl
set_option maxRecDepth 100000 in
theorem mo_140 : qMiOk mi_140 = true := by decide +kernel
theorem cw_141 : qGet mi_141.2.2.2.2.2.2.2.2.2.2.1 = some (qCw mi_141) := by rfl
set_option maxRecDepth 100000 in
theorem mo_141 : qMiOk mi_141 = true := by decide +kernel
theorem cw_142 : qGet mi_142.2.2.2.2.2.2.2.2.2.2.1 = some (qCw mi_142) := by rfl
set_option maxRecDepth 100000 in
theorem mo_142 : qMiOk mi_142 = true := by decide +kernel
theorem cw_143 : qGet mi_143.2.2.2.2.2.2.2.2.2.2.1 = some (qCw mi_143) := by rfl
set_option maxRecDepth 100000 in
theorem mo_143 : qMiOk mi_143 = true := by decide +kernel
theorem cw_144 : qGet mi_144.2.2.2.2.2.2.2.2.2.2.1 = some (qCw mi_144) := by rfl
set_option maxRecDepth 100000 in
theorem mo_144 : qMiOk mi_144 = true := by decide +kernel
theorem cw_145 : qGet mi_145.2.2.2.2.2.2.2.2.2.2.1 = some (qCw mi_145) := by rfl
set_option maxRecDepth 100000 in
theorem mo_145 : qMiOk mi_145 = true := by decide +kernel
theorem cw_146 : qGet mi_146.2.2.2.2.2.2.2.2.2.2.1 = some (qCw mi_146) := by rfl
set_option maxRecDepth 100000 in
theorem mo_146 : qMiOk mi_146 = true := by decide +kernel
theorem cw_147 : qGet mi_147.2.2.2.2.2.2.2.2.2.2.1 = some (qCw mi_147) := by rfl
set_option maxRecDepth 100000 in
theorem mo_147 : qMiOk mi_147 = true := by decide +kernel
theorem cw_148 : qGet mi_148.2.2.2.2.2.2.2.2.2.2.1 = some (qCw mi_148) := by rfl
set_option maxRecDepth 100000 in
theorem mo_148 : qMiOk mi_148 = true := by decide +kernel
theorem cw_149 : qGet mi_149.2.2.2.2.2.2.2.2.2.2.1 = some (qCw mi_149) := by rfl
set_option maxRecDepth 100000 in
theorem mo_149 : qMiOk mi_149 = true := by decide +kernel
theorem cw_150 : qGet mi_150.2.2.2.2.2.2.2.2.2.2.1 = some (qCw mi_150) := by rfl
set_option maxRecDepth 100000 in
theorem mo_150 : qMiOk mi_150 = true := by decide +kernel
theorem cw_160 : qGet mi_160.2.2.2.2.2.2.2.2.2.2.1 = some (qCw mi_160) := by rfl
set_option maxRecDepth 100000 in
theorem mo_160 : qMiOk mi_160 = true := by decide +kernel
theorem cw_161 : qGet mi_161.2.2.2.2.2.2.2.2.2.2.1 = some (qCw mi_161) := by rfl
set_option maxRecDepth 100000 in
theorem mo_161 : qMiOk mi_161 = true := by decide +kernel
theorem cw_162 : qGet mi_162.2.2.2.2.2.2.2.2.2.2.1 = some (qCw mi_162) := by rfl
set_option maxRecDepth 100000 in
theorem mo_162 : qMiOk mi_162 = true := by decide +kernel
theorem cw_163 : qGet mi_163.2.2.2.2.2.2.2.2.2.2.1 = some (qCw mi_163) := by rfl
set_option maxRecDepth 100000 in
theorem mo_163 : qMiOk mi_163 = true := by decide +kernel
theorem cw_164 : qGet mi_164.2.2.2.2.2.2.2.2.2.2.1 = some (qCw mi_164) := by rfl
set_option maxRecDepth 100000 in
theorem mo_164 : qMiOk mi_164 = true := by decide +kernel
theorem cw_165 : qGet mi_165.2.2.2.2.2.2.2.2.2.2.1 = some (qCw mi_165) := by rfl
set_option maxRecDepth 100000 in
theorem mo_165 : qMiOk mi_165 = true := by decide +kernel
theorem cw_166 : qGet mi_166.2.2.2.2.2.2.2.2.2.2.1 = some (qCw mi_166) := by rfl
set_option maxRecDepth 100000 in
theorem mo_166 : qMiOk mi_166 = true := by decide +kernel
theorem cw_168 : qGet mi_168.2.2.2.2.2.2.2.2.2.2.1 = some (qCw mi_168) := by rfl
set_option maxRecDepth 100000 in
theorem mo_168 : qMiOk mi_168 = true := by decide +kernel
theorem cw_169 : qGet mi_169.2.2.2.2.2.2.2.2.2.2.1 = some (qCw mi_169) := by rfl
set_option maxRecDepth 100000 in
theorem mo_169 : qMiOk mi_169 = true := by decide +kernel
theorem cw_170 : qGet mi_170.2.2.2.2.2.2.2.2.2.2.1 = some (qCw mi_170) := by rfl
set_option maxRecDepth 100000 in
theorem mo_170 : qMiOk mi_170 = true := by decide +kernel
theorem cw_171 : qGet mi_171.2.2.2.2.2.2.2.2.2.2.1 = some (qCw mi_171) := by rfl
set_option maxRecDepth 100000 in
theorem mo_171 : qMiOk mi_171 = true := by decide +kernel
theorem cw_172 : qGet mi_172.2.2.2.2.2.2.2.2.2.2.1 = some (qCw mi_172) := by rfl
set_option maxRecDepth 100000 in
theorem mo_172 : qMiOk mi_172 = true := by decide +kernel
theorem cw_173 : qGet mi_173.2.2.2.2.2.2.2.2.2.2.1 = some (qCw mi_173) := by rfl
set_option maxRecDepth 100000 in
theorem mo_173 : qMiOk mi_173 = true := by decide +kernel
theorem cw_174 : qGet mi_174.2.2.2.2.2.2.2.2.2.2.1 = some (qCw mi_174) := by rfl
set_option maxRecDepth 100000 in
theorem mo_174 : qMiOk mi_174 = true := by decide +kernel
theorem cw_175 : qGet mi_175.2.2.2.2.2.2.2.2.2.2.1 = some (qCw mi_175) := by rfl
set_option maxRecDepth 100000 in
theorem mo_175 : qMiOk mi_175 = true := by decide +kernel
theorem cw_176 : qGet mi_176.2.2.2.2.2.2.2.2.2.2.1 = some (qCw mi_176) := by rfl
set_option maxRecDepth 100000 in
theorem mo_176 : qMiOk mi_176 = true := by decide +kernel
theorem cw_178 : qGet mi_178.2.2.2.2.2.2.2.2.2.2.1 = some (qCw mi_178) := by rfl
set_option maxRecDepth 100000 in
theorem mo_178 : qMiOk mi_178 = true := by decide +kernel
theorem cw_322 : qGet mi_322.2.2.2.2.2.2.2.2.2.2.1 = some (qCw mi_322) := by rfl
set_option maxRecDepth 100000 in
theorem mo_322 : qMiOk mi_322 = true := by decide +kernel
theorem cw_323 : qGet mi_323.2.2.2.2.2.2.2.2.2.2.1 = some (qCw mi_323) := by rfl
set_option maxRecDepth 100000 in
theorem mo_323 : qMiOk mi_323 = true := by decide +kernel
theorem cw_324 : qGet mi_324.2.2.2.2.2.2.2.2.2.2.1 = some (qCw mi_324) := by rfl
set_option maxRecDepth 100000 in
theorem mo_324 : qMiOk mi_324 = true := by decide +kernel
theorem cw_325 : qGet mi_325.2.2.2.2.2.2.2.2.2.2.1 = some (qCw mi_325) := by rfl
set_option maxRecDepth 100000 in
theorem mo_325 : qMiOk mi_325 = true := by decide +kernel
theorem cw_326 : qGet mi_326.2.2.2.2.2.2.2.2.2.2.1 = some (qCw mi_326) := by rfl
set_option maxRecDepth 100000 in
theorem mo_326 : qMiOk mi_326 = true := by decide +kernel
theorem cw_327 : qGet mi_327.2.2.2.2.2.2.2.2.2.2.1 = some (qCw mi_327) := by rfl
set_option maxRecDepth 100000 in
theorem mo_327 : qMiOk mi_327 = true := by decide +kernel
theorem cw_379 : qGet mi_379.2.2.2.2.2.2.2.2.2.2.1 = some (qCw mi_379) := by rfl
set_option maxRecDepth 100000 in
theorem mo_379 : qMiOk mi_379 = true := by decide +kernel
theorem cw_380 : qGet mi_380.2.2.2.2.2.2.2.2.2.2.1 = some (qCw mi_380) := by rfl
set_option maxRecDepth 100000 in
theorem mo_380 : qMiOk mi_380 = true := by decide +kernel
end
section
/-! ===== THE PURE MACHINE: a bytecode interpreter over a heap of numbered cells; what it answers, the machine answers (part 06) ===== -/
abbrev PV : Type := List (Option Value)
/-- kinds of cells, lengths, contents, how many, cells made, slots made -/
abbrev PS : Type := (Nat → Nat) × (Nat → Nat) × (Nat → Nat → Value) × Nat × Nat × Nat
def pK (g : PS) : Nat → Nat := g.1
def pL (g : PS) : Nat → Nat := g.2.1
def pM (g : PS) : Nat → Nat → Value := g.2.2.1
def pN (g : PS) : Nat := g.2.2.2.1
def pC (g : PS) : Nat := g.2.2.2.2.1
def pZ (g : PS) : Nat := g.2.2.2.2.2
def pU (f : Nat → Nat → Value) (a k : Nat) (v : Value) : Nat → Nat → Value := fun x j => if x = a ∧ j = k then v else f x j
def pPut (g : PS) (a k : Nat) (v : Value) : PS := (g.1, g.2.1, pU g.2.2.1 a k v, g.2.2.2)
def pNew (g : PS) (kd ln z : Nat) (row : Nat → Value) : PS :=
  (fun x => if x = pN g then kd else pK g x, fun x => if x = pN g then ln else pL g x, fun x j => if x = pN g then row j else pM g x j, pN g + 1, pC g + 1, pZ g + z)
/-- new int[n][k]: the outer one first, then its rows -/
def pMul (g : PS) (n k : Nat) : PS :=
  (fun x => if x = pN g then 19 else if pN g < x ∧ x ≤ pN g + n then 12 else pK g x,
   fun x => if x = pN g then n else if pN g < x ∧ x ≤ pN g + n then k else pL g x,
   fun x j => if x = pN g then (if j < n then .ref (pN g + 1 + j) else .null) else if pN g < x ∧ x ≤ pN g + n then .int 0 else pM g x j,
   pN g + 1 + n, pC g + (1 + n), pZ g + (n + n * k))
/-- an exception is made and thrown: it costs its room; nobody looks at it -/
def pThr (g : PS) : PS := (fun x => if x = pN g then 99 else pK g x, pL g, pM g, pN g + 1, pC g + 1, pZ g + 6)
/-- an array copy, within one array too -/
def pCpy (g : PS) (a i b j n : Nat) : PS :=
  (g.1, g.2.1, fun x q => if x = b ∧ j ≤ q ∧ q < j + n then pM g a (i + (q - j)) else pM g x q, g.2.2.2)
/-- the kind of what an array of references holds -/
def pE (kd : Nat) : Nat := match kd with
  | 15 => 0 | 16 => 2 | 17 => 3 | 18 => 6 | _ => 98
def pIsRef (v : Value) : Bool := match v with | .ref _ => true | .null => true | _ => false
/-- what a value is worth of locals and stack -/
def pCat2 (o : Option (Option Value)) : Bool := match o with
  | some (some (.long _)) => true | some (some (.double _)) => true | _ => false
/-- the slot ahead of i is given up where it holds a value of two slots -/
def pClr (ls : PV) (i : Nat) : PV := match i with
  | 0 => ls
  | j + 1 => if pCat2 ls[j]? = true then ls.set j none else ls
def pSet1 (ls : PV) (i : Nat) (v : Value) : PV := (pClr ls i).set i (some v)
def pSet2 (ls : PV) (i : Nat) (v : Value) : PV := ((pClr ls i).set i (some v)).set (i + 1) none
def pOut (i : Int32) (n : Nat) : Prop := i < 0 ∨ n ≤ i.toNatClampNeg
abbrev PR : Type := Nat × PV × List Value × PS
/-- store into a local -/
def pSt1 (i : Nat) (v : Value) (nx : Nat) (ls : PV) (st : List Value) (g : PS) : Option PR := if i < ls.length then some (nx, pSet1 ls i v, st, g) else none
def pSt2 (i : Nat) (v : Value) (nx : Nat) (ls : PV) (st : List Value) (g : PS) : Option PR := if i + 1 < ls.length then some (nx, pSet2 ls i v, st, g) else none
/-- load an int, a long, a double, a reference -/
def pLdI (i : Nat) (nx : Nat) (ls : PV) (st : List Value) (g : PS) : Option PR := match ls[i]? with | some (some (.int x)) => some (nx, ls, .int x :: st, g) | _ => none
def pLdL (i : Nat) (nx : Nat) (ls : PV) (st : List Value) (g : PS) : Option PR := match ls[i]? with | some (some (.long x)) => some (nx, ls, .long x :: st, g) | _ => none
def pLdD (i : Nat) (nx : Nat) (ls : PV) (st : List Value) (g : PS) : Option PR := match ls[i]? with | some (some (.double x)) => some (nx, ls, .double x :: st, g) | _ => none
def pLdA (i : Nat) (nx : Nat) (ls : PV) (st : List Value) (g : PS) : Option PR := match ls[i]? with | some (some (.ref x)) => some (nx, ls, .ref x :: st, g) | some (some .null) => some (nx, ls, .null :: st, g) | _ => none
def pIf (P : Prop) [Decidable P] (tgt nx : Nat) (ls : PV) (st : List Value) (g : PS) : Option PR := some (if P then tgt else nx, ls, st, g)
/-- ints of a stack: two on top -/
def pII (st : List Value) (f : Int32 → Int32 → List Value → Option PR) : Option PR := match st with
  | .int y :: .int x :: r => f x y r | _ => none
def pI (st : List Value) (f : Int32 → List Value → Option PR) : Option PR := match st with
  | .int x :: r => f x r | _ => none
def pLL (st : List Value) (f : Int64 → Int64 → List Value → Option PR) : Option PR := match st with
  | .long y :: .long x :: r => f x y r | _ => none
def pDD (st : List Value) (f : UInt64 → UInt64 → List Value → Option PR) : Option PR := match st with
  | .double y :: .double x :: r => f x y r | _ => none
/-- one instruction (no call, no return, no throw): nx is the row behind, r1 .. r3 what its pool's entry says -/
def pStep (ins : Instr) (nx r1 r2 : Nat) (ls : PV) (st : List Value) (g : PS) : Option PR := match ins with
  | .iconst n => some (nx, ls, .int (Int32.ofInt n) :: st, g)
  | .bipush n => some (nx, ls, .int (Int8.ofInt n).toInt32 :: st, g)
  | .sipush n => some (nx, ls, .int (Int16.ofInt n).toInt32 :: st, g)
  | .lconst n => some (nx, ls, .long (Int64.ofNat (n : Nat)) :: st, g)
  | .dconst n => if (n : Nat) = 0 then some (nx, ls, .double FP.dconst0 :: st, g) else none
  | .aconst_null => some (nx, ls, .null :: st, g)
  | .ldc_w _ => some (nx, ls, .int (Int32.ofNat r1) :: st, g)
  | .ldc _ => some (nx, ls, .int (Int32.ofNat r1) :: st, g)
  | .ldc2_w _ => some (nx, ls, .long (Int64.ofNat r1) :: st, g)
  | .iload_n i => pLdI i nx ls st g
  | .iload i => pLdI i nx ls st g
  | .lload_n i => pLdL i nx ls st g
  | .lload i => pLdL i nx ls st g
  | .dload_n i => pLdD i nx ls st g
  | .dload i => pLdD i nx ls st g
  | .aload_n i => pLdA i nx ls st g
  | .aload i => pLdA i nx ls st g
  | .istore_n i => match st with | .int x :: r => pSt1 i (.int x) nx ls r g | _ => none
  | .istore i => match st with | .int x :: r => pSt1 i (.int x) nx ls r g | _ => none
  | .lstore_n i => match st with | .long x :: r => pSt2 i (.long x) nx ls r g | _ => none
  | .lstore i => match st with | .long x :: r => pSt2 i (.long x) nx ls r g | _ => none
  | .dstore_n i => match st with | .double x :: r => pSt2 i (.double x) nx ls r g | _ => none
  | .dstore i => match st with | .double x :: r => pSt2 i (.double x) nx ls r g | _ => none
  | .astore_n i => match st with | .ref x :: r => pSt1 i (.ref x) nx ls r g | .null :: r => pSt1 i .null nx ls r g | _ => none
  | .astore i => match st with | .ref x :: r => pSt1 i (.ref x) nx ls r g | .null :: r => pSt1 i .null nx ls r g | _ => none
  | .iinc i n => match ls[i]? with | some (some (.int x)) => pSt1 i (.int (x + Int32.ofInt n)) nx ls st g | _ => none
  | .iadd => pII st fun x y r => some (nx, ls, .int (x + y) :: r, g)
  | .isub => pII st fun x y r => some (nx, ls, .int (x - y) :: r, g)
  | .imul => pII st fun x y r => some (nx, ls, .int (x * y) :: r, g)
  | .idiv => pII st fun x y r => if y = 0 then none else some (nx, ls, .int (x / y) :: r, g)
  | .irem => pII st fun x y r => if y = 0 then none else some (nx, ls, .int (x - x / y * y) :: r, g)
  | .iand => pII st fun x y r => some (nx, ls, .int (x &&& y) :: r, g)
  | .ior => pII st fun x y r => some (nx, ls, .int (x ||| y) :: r, g)
  | .ixor => pII st fun x y r => some (nx, ls, .int (x ^^^ y) :: r, g)
  | .ishl => pII st fun x y r => some (nx, ls, .int (x <<< (y &&& 31)) :: r, g)
  | .ishr => pII st fun x y r => some (nx, ls, .int (x >>> (y &&& 31)) :: r, g)
  | .iushr => pII st fun x y r => some (nx, ls, .int (x.toUInt32 >>> (y.toUInt32 &&& Int32.toUInt32 31)).toInt32 :: r, g)
  | .ladd => pLL st fun x y r => some (nx, ls, .long (x + y) :: r, g)
  | .lmul => pLL st fun x y r => some (nx, ls, .long (x * y) :: r, g)
  | .lcmp => pLL st fun x y r => some (nx, ls, .int (lg_cmp x y) :: r, g)
  | .i2l => pI st fun x r => some (nx, ls, .long x.toInt64 :: r, g)
  | .i2d => pI st fun x r => some (nx, ls, .double (FP.i2d x) :: r, g)
  | .dadd => pDD st fun x y r => if FP.dadd x y &&& 0x7fffffffffffffff ≤ 0x7ff0000000000000 then some (nx, ls, .double (FP.dadd x y) :: r, g) else none
  | .ddiv => pDD st fun x y r => if FP.ddiv x y &&& 0x7fffffffffffffff ≤ 0x7ff0000000000000 then some (nx, ls, .double (FP.ddiv x y) :: r, g) else none
  | .dcmp o => pDD st fun x y r => some (nx, ls, .int (Op.cmpValue (FP.dcmp x y) o) :: r, g)
  | .dup => match st with | v :: r => if v.category = 1 then some (nx, ls, v :: v :: r, g) else none | _ => none
  | .dup2 => match st with | v :: w :: r => if v.category = 1 ∧ w.category = 1 then some (nx, ls, v :: w :: v :: w :: r, g) else none | _ => none
  | .pop => match st with | v :: r => if v.category = 1 then some (nx, ls, r, g) else none | _ => none
  | .goto _ => some (r1, ls, st, g)
  | .ifCond c _ => pI st fun x r => match c with
    | .eq => pIf (x = 0) r1 nx ls r g
    | .ne => pIf (¬ x = 0) r1 nx ls r g
    | .lt => pIf (x < 0) r1 nx ls r g
    | .ge => pIf (0 ≤ x) r1 nx ls r g
    | .gt => pIf (0 < x) r1 nx ls r g
    | .le => pIf (x ≤ 0) r1 nx ls r g
  | .if_icmp c _ => pII st fun x y r => match c with
    | .eq => pIf (x = y) r1 nx ls r g
    | .ne => pIf (¬ x = y) r1 nx ls r g
    | .lt => pIf (x < y) r1 nx ls r g
    | .ge => pIf (y ≤ x) r1 nx ls r g
    | .gt => pIf (y < x) r1 nx ls r g
    | .le => pIf (x ≤ y) r1 nx ls r g
  | .if_acmp c _ => match st with
    | .ref y :: .ref x :: r => match c with
      | .eq => pIf (x = y) r1 nx ls r g
      | .ne => pIf (¬ x = y) r1 nx ls r g
    | _ => none
  | .ifnull _ => match st with | .ref _ :: r => some (nx, ls, r, g) | .null :: r => some (r1, ls, r, g) | _ => none
  | .ifnonnull _ => match st with | .ref _ :: r => some (r1, ls, r, g) | .null :: r => some (nx, ls, r, g) | _ => none
  | .getfield _ => match st with | .ref a :: r => if pK g a = r1 ∧ r2 < pF r1 then some (nx, ls, pM g a r2 :: r, g) else none | _ => none
  | .putfield _ => match st with | v :: .ref a :: r => if pK g a = r1 ∧ r2 < pF r1 ∧ fits (pT r1 r2) v = true then some (nx, ls, r, pPut g a r2 v) else none | _ => none
  | .arraylength => match st with | .ref a :: r => if 12 ≤ pK g a ∧ pK g a ≤ 20 then some (nx, ls, .int (Int32.ofNat (pL g a)) :: r, g) else none | _ => none
  | .iaload => match st with | .int i :: .ref a :: r => if (pK g a = 12 ∨ pK g a = 20) ∧ ¬ (i < 0 ∨ pL g a ≤ i.toNatClampNeg) then some (nx, ls, pM g a i.toNatClampNeg :: r, g) else none | _ => none
  | .laload => none
  | .baload => none
  | .aaload => match st with | .int i :: .ref a :: r => if 15 ≤ pK g a ∧ pK g a ≤ 19 ∧ ¬ (i < 0 ∨ pL g a ≤ i.toNatClampNeg) then some (nx, ls, pM g a i.toNatClampNeg :: r, g) else none | _ => none
  | .iastore => match st with | .int x :: .int i :: .ref a :: r => if pK g a = 12 ∧ ¬ (i < 0 ∨ pL g a ≤ i.toNatClampNeg) then some (nx, ls, r, pPut g a i.toNatClampNeg (.int x)) else none | _ => none
  | .lastore => none
  | .bastore => none
  | .aastore => match st with
    | .ref v :: .int i :: .ref a :: r => if 15 ≤ pK g a ∧ pK g a ≤ 18 ∧ pK g v = pE (pK g a) ∧ ¬ (i < 0 ∨ pL g a ≤ i.toNatClampNeg) then some (nx, ls, r, pPut g a i.toNatClampNeg (.ref v)) else none
    | .null :: .int i :: .ref a :: r => if 15 ≤ pK g a ∧ pK g a ≤ 18 ∧ ¬ (i < 0 ∨ pL g a ≤ i.toNatClampNeg) then some (nx, ls, r, pPut g a i.toNatClampNeg .null) else none
    | _ => none
  | .new _ => if r1 < 12 then some (nx, ls, .ref (pN g) :: st, pNew g r1 0 (pF r1) (fun k => defaultValue (pT r1 k))) else none
  | .newarray t => match t with
    | .int => pI st fun n r => if n < 0 ∨ 100000000 < n.toNatClampNeg then none else some (nx, ls, .ref (pN g) :: r, pNew g 12 n.toNatClampNeg n.toNatClampNeg (fun _ => .int 0))
    | _ => none
  | .anewarray _ => pI st fun n r => if n < 0 ∨ 100000000 < n.toNatClampNeg ∨ ¬ (15 ≤ r1 ∧ r1 ≤ 18) then none else some (nx, ls, .ref (pN g) :: r, pNew g r1 n.toNatClampNeg n.toNatClampNeg (fun _ => .null))
  | .multianewarray _ _ => none
  | _ => none
/-- the args of a call, in the stack's order, out of the stack -/
def pPop (n : Nat) (st : List Value) : Option (List Value × List Value) := if n ≤ st.length then some ((st.take n).reverse, st.drop n) else none
/-- the locals at a method's entry -/
def pEnt : List Value → PV
  | [] => []
  | v :: vs => if v.category = 2 then some v :: none :: pEnt vs else some v :: pEnt vs
def pEntry (nL : Nat) (av : List Value) : PV := pEnt av ++ List.replicate (nL - (pEnt av).length) none
/-- what a frame comes to: an answer (or none), or an exception of a kind -/
abbrev PO : Type := Option Value ⊕ Nat
def pHand (hs : List PHd) (i e : Nat) : Option Nat := match hs with
  | [] => none
  | h :: t => if h.1 ≤ i ∧ i < h.2.1 ∧ h.2.2.2 = e then some h.2.2.1 else pHand t i e
/-- a handler's first instruction stores the exception, which nobody looks at -/
def pCat (ins : Instr) (ls : PV) : Option PV := match ins with
  | .astore_n i => if (i : Nat) < ls.length then some ((pClr ls i).set i none) else none
  | .astore i => if i < ls.length then some ((pClr ls i).set i none) else none
  | _ => none
/-- is this an answer, and which -/
def pRet (rt : Option FieldType) (ins : Instr) (st : List Value) : Option (Option Value) := match ins with
  | .ireturn => match st with
    | [.int x] => match rt with
      | some .int => some (some (.int x))
      | some .boolean => if x = 0 ∨ x = 1 then some (some (.int x)) else none
      | _ => none
    | _ => none
  | .lreturn => match st with
    | [.long x] => match rt with | some .long => some (some (.long x)) | _ => none
    | _ => none
  | .dreturn => match st with
    | [.double x] => match rt with | some .double => some (some (.double x)) | _ => none
    | _ => none
  | .areturn => match st with
    | [.ref x] => match rt with | some (.object _) => some (some (.ref x)) | _ => none
    | [.null] => match rt with | some (.object _) => some (some .null) | _ => none
    | _ => none
  | .return_ => match st with
    | [] => match rt with | none => some none | _ => none
    | _ => none
  | _ => none
/-- System.arraycopy of ints (kind 12) and booleans (13) -/
def pAcp (nx : Nat) (ls : PV) (st : List Value) (g : PS) : Option PR := match st with
  | .int n :: .int j :: .ref b :: .int i :: .ref a :: r =>
    if (pK g a = 12 ∨ pK g a = 13) ∧ pK g b = pK g a ∧ ¬ n < 0 ∧ ¬ i < 0 ∧ ¬ j < 0 ∧ i.toNatClampNeg + n.toNatClampNeg ≤ pL g a ∧ j.toNatClampNeg + n.toNatClampNeg ≤ pL g b
    then some (nx, ls, r, pCpy g a i.toNatClampNeg b j.toNatClampNeg n.toNatClampNeg) else none
  | _ => none
/-- what an instruction does beside a plain step: 0 plain, 1 returns, 2 calls, 3 throws, 4 Object.<init>, 5 arraycopy, 6 a table switch, 7 Math.max, Math.min, 9 never walked -/
def pKind (ins : Instr) (r1 : Nat) : Nat := match ins with
  | .ireturn | .lreturn | .dreturn | .areturn | .return_ => 1
  | .invokevirtual _ => 2
  | .invokestatic _ => if r1 = 1 then 5 else if r1 < 4 then 7 else 2
  | .invokespecial _ => if r1 = 0 then 4 else if r1 = 9 then 9 else 2
  | .new _ => if r1 < 12 then 0 else 3
  | .ldc _ | .ldc_w _ | .ldc2_w _ => if r1 = 0 then 9 else 0
  | .tableswitch .. => 6
  | _ => 0
/-- where a table switch goes: the place in the code, the stack behind -/
def pSw (ins : Instr) (pc : Nat) (st : List Value) : Option (Nat × List Value) := match ins with
  | .tableswitch d lo hi offs => match st with
    | .int x :: r => if x.toInt < lo ∨ hi < x.toInt then (if (pc : Int) + d < 0 then none else some (((pc : Int) + d).toNat, r)) else match offs[(x.toInt - lo).toNat]? with
      | some off => if (pc : Int) + off < 0 then none else some (((pc : Int) + off).toNat, r)
      | none => none
    | _ => none
  | _ => none
/-- the row of a place in the code -/
def pIdx : List PRow → Nat → Nat → Option Nat
  | [], _, _ => none
  | r :: t, pc, k => if r.1 = pc then some k else pIdx t pc (k + 1)
/-- what lies below a call's args is small -/
def pSm (st : List Value) : Prop := st.length ≤ 4 ∨ (st.map fun v => v.category).sum ≤ 8
/-- the receiver of a call is an object of the class -/
def pRv (ins : Instr) (o : Nat) (av : List Value) (g : PS) : Bool := match ins with
  | .invokevirtual _ => match av with | .ref a :: _ => decide (pK g a = o ∧ o < 12) | _ => false
  | .invokespecial _ => match av with | .ref _ :: _ => true | _ => false
  | _ => true
/-- THE RUN: method m (its number) from row i on; PT: the methods -/
def pRun (PT : Nat → PMet) : Nat → Nat → Nat → PV → List Value → PS → Option (PO × PS)
  | 0, _, _, _, _, _ => none
  | n + 1, m, i, ls, st, g => match (PT m).1[i]? with
    | none => none
    | some r => match pKind r.2.1 r.2.2.2.1 with
      | 0 => match pStep r.2.1 (i + 1) r.2.2.2.1 r.2.2.2.2.1 ls st g with
        | none => none
        | some q => pRun PT n m q.1 q.2.1 q.2.2.1 q.2.2.2
      | 1 => match pRet (PT m).2.2.2.2.1 r.2.1 st with
        | none => none
        | some v => some (.inl v, g)
      | 2 => match pPop (PT (r.2.2.2.1 - 10)).2.2.1 st with
        | none => none
        | some q => if (q.2.length ≤ 4 ∨ (q.2.map fun v => v.category).sum ≤ 8) ∧ (pEnt q.1).length ≤ (PT (r.2.2.2.1 - 10)).2.1 ∧ pRv r.2.1 (PT (r.2.2.2.1 - 10)).2.2.2.2.2 q.1 g = true then match pRun PT n (r.2.2.2.1 - 10) 0 (pEntry (PT (r.2.2.2.1 - 10)).2.1 q.1) [] g with
          | none => none
          | some (.inl v, g1) => pRun PT n m (i + 1) ls (v.toList ++ q.2) g1
          | some (.inr e, g1) => if r.2.2.2.2.1 = 0 then match pHand (PT m).2.2.2.1 r.1 e with
            | none => if (PT m).2.2.2.1.isEmpty = true then some (.inr e, g1) else none
            | some h => match (PT m).1[h]? with
              | none => none
              | some r2 => match pCat r2.2.1 ls with
                | none => none
                | some ls2 => pRun PT n m (h + 1) ls2 [] g1
            else none
          else none
      | 3 => if (st.length ≤ 4 ∨ (st.map fun v => v.category).sum ≤ 8) ∧ (PT m).2.2.2.1.isEmpty = true then some (.inr (r.2.2.2.1 - 100), pThr g) else none
      | 4 => match st with
        | .ref _ :: rest => if rest.length ≤ 4 ∨ (rest.map fun v => v.category).sum ≤ 8 then pRun PT n m (i + 1) ls rest g else none
        | _ => none
      | 5 => match pAcp (i + 1) ls st g with
        | none => none
        | some q => if q.2.2.1.length ≤ 4 ∨ (q.2.2.1.map fun v => v.category).sum ≤ 8 then pRun PT n m q.1 q.2.1 q.2.2.1 q.2.2.2 else none
      | 6 => match pSw r.2.1 r.1 st with
        | none => none
        | some q => match pIdx (PT m).1 q.1 0 with
          | none => none
          | some h => pRun PT n m h ls q.2 g
      | 7 => match st with
        | .int y :: .int x :: rest => if rest.length ≤ 4 ∨ (rest.map fun v => v.category).sum ≤ 8 then pRun PT n m (i + 1) ls (.int (if r.2.2.2.1 = 2 then (if x < y then y else x) else (if y < x then y else x)) :: rest) g else none
        | _ => none
      | _ => none
/-- the program -/
noncomputable def qPT (m : Nat) : PMet := (qRows m, (qMI m).2.2.2.1, (qMI m).2.2.2.2.2.1, qHd m, (qMI m).2.2.2.2.1, (qMI m).1)
end
section
/-! ===== THE PURE HEAP AGAINST THE MACHINE'S ===== -/
/-- where a cell lies: cell 0 (the script) at b, cell k at base + k - 1 -/
def qAd (b base k : Nat) : Nat := if k = 0 then b else base + (k - 1)
def qSh (b base : Nat) (v : Value) : Value := match v with
  | .ref a => .ref (qAd b base a)
  | v => v
theorem qSh_cat (b base : Nat) (v : Value) : (qSh b base v).category = v.category := by cases v <;> rfl
theorem qAd_inj {b base i j : Nat} (hb : b < base) (h : qAd b base i = qAd b base j) : i = j := by
  unfold qAd at h
  by_cases hi : i = 0 <;> by_cases hj : j = 0
  · omega
  · rw [if_pos hi, if_neg hj] at h; omega
  · rw [if_neg hi, if_pos hj] at h; omega
  · rw [if_neg hi, if_neg hj] at h; omega
theorem qAd_ge {b base k : Nat} (h : k ≠ 0) : base ≤ qAd b base k := by
  unfold qAd; rw [if_neg h]; omega
theorem qSh_fits {b base : Nat} {ty : FieldType} {v : Value} (h : fits ty v = true) : fits ty (qSh b base v) = true := by
  cases v <;> first | exact h | (cases ty <;> first | exact h | rfl)
theorem qSh_default (b base : Nat) (ty : FieldType) : qSh b base (defaultValue ty) = defaultValue ty := by
  cases ty <;> rfl
/-- the types of the arrays, by kinds; the class of what an array of references holds -/
def qTy (kd : Nat) : FieldType := match kd with
  | 15 => .object RX0 | 16 => .object RX2 | 17 => .object RX3 | 18 => .object RX6 | 19 => .object RX0 | _ => .int
def qEn (kd : Nat) : String := match kd with
  | 16 => RX2 | 17 => RX3 | 18 => RX6 | _ => RX0
/-- what the tables say of the class of a kind of arrays -/
def qArr (dA : Nat → ClassId) (kd : Nat) (U : State) : Prop :=
  U.vm.findClass ("[" ++ (qTy kd).toString) = some (dA kd) ∧ ∃ (kC : Class) (comp : ClassId), U.vm.classes[dA kd]? = some kC ∧ kC.kind = .array comp (qTy kd) ∧ (15 ≤ kd → U.vm.findClass (qEn kd) = some comp)
theorem qArr.moved {dA : Nat → ClassId} {kd : Nat} {u U : State} (hvm : u.vm.Alike U.vm) (h : qArr dA kd u) : qArr dA kd U := by
  obtain ⟨h1, kC, comp, h2, h3, h4⟩ := h
  obtain ⟨k', hk', he⟩ := hvm.2.2 _ _ h2
  exact ⟨by rw [hvm.findClass]; exact h1, k', comp, hk', by rw [he]; exact h3, fun z => by rw [hvm.findClass]; exact h4 z⟩
/-- .. and of the script's -/
def qScr (dA : Nat → ClassId) (U : State) : Prop := ∃ (kC : Class) (comp : ClassId), U.vm.classes[dA 20]? = some kC ∧ kC.kind = .array comp .int
theorem qScr.moved {dA : Nat → ClassId} {u U : State} (hvm : u.vm.Alike U.vm) (h : qScr dA u) : qScr dA U := by
  obtain ⟨kC, comp, h2, h3⟩ := h
  obtain ⟨k', hk', he⟩ := hvm.2.2 _ _ h2
  exact ⟨k', comp, hk', by rw [he]; exact h3⟩
/-- a cell of the pure heap in the machine's -/
def qCell (D : va_G) (dA : Nat → ClassId) (b base : Nat) (g : PS) (k : Nat) (H : Heap) : Prop :=
  (pK g k < 12 → t_OB (qAd b base k) (D.1 (pK g k)) (pF (pK g k)) (D.2 (pK g k)) H (fun j => qSh b base (pM g k j))) ∧
  (12 ≤ pK g k → pK g k ≤ 19 → H[qAd b base k]? = some (arrV (dA (pK g k)) (pL g k) (fun j => qSh b base (pM g k j)))) ∧
  (pK g k = 20 → ∃ scr : Cell, H[qAd b base k]? = some scr ∧ scr.cls = dA 20 ∧ (∀ q, scr.vm ≠ .statics q) ∧ scr.vm ≠ .unknown ∧ scr.slots.size = pL g k ∧ ∀ j, j < pL g k → scr.slots[j]? = some (qSh b base (pM g k j)))
/-- the arrays of numbers hold numbers -/
def qTyp (g : PS) (k : Nat) : Prop :=
  (pK g k = 12 → ∀ j, j < pL g k → ∃ x : Int32, pM g k j = .int x) ∧ (pK g k = 13 → ∀ j, j < pL g k → pM g k j = .int 0 ∨ pM g k j = .int 1)
/-- THE RELATION -/
def qRel (D : va_G) (dA : Nat → ClassId) (b base : Nat) (g : PS) (H : Heap) : Prop :=
  b < base ∧ 1 ≤ pN g ∧ H.size + 1 = base + pN g ∧ (∀ k, k < pN g → qCell D dA b base g k H ∧ qTyp g k) ∧ (∀ k, pN g ≤ k → pK g k = 50) ∧ pK g 0 = 20 ∧ ∀ k, k ≠ 0 → pK g k ≠ 20
theorem qRel.lt {D : va_G} {dA : Nat → ClassId} {b base : Nat} {g : PS} {H : Heap} (h : qRel D dA b base g H) {a : Nat} (ha : pK g a ≠ 50) : a < pN g := by
  rcases Nat.lt_or_ge a (pN g) with z | z
  · exact z
  · exact absurd (h.2.2.2.2.1 a z) ha
theorem qRel.ne0 {D : va_G} {dA : Nat → ClassId} {b base : Nat} {g : PS} {H : Heap} (h : qRel D dA b base g H) {a : Nat} (ha : pK g a ≠ 20) : a ≠ 0 := fun e => ha (by rw [e]; exact h.2.2.2.2.2.1)
theorem qAd_new {D : va_G} {dA : Nat → ClassId} {b base : Nat} {g : PS} {H : Heap} (h : qRel D dA b base g H) : qAd b base (pN g) = H.size := by
  have h1 := h.2.1
  have h2 := h.2.2.1
  unfold qAd
  rw [if_neg (by omega)]
  omega
theorem qAd_lt {D : va_G} {dA : Nat → ClassId} {b base : Nat} {g : PS} {H : Heap} (h : qRel D dA b base g H) {k : Nat} (hk : k < pN g) : qAd b base k < H.size := by
  have h0 := h.1
  have h1 := h.2.1
  have h2 := h.2.2.1
  unfold qAd
  split <;> omega
theorem qCell.kept {D : va_G} {dA : Nat → ClassId} {b base : Nat} {g g' : PS} {k : Nat} {H H' : Heap} (h : qCell D dA b base g k H) (e1 : pK g' k = pK g k) (e2 : pL g' k = pL g k) (e3 : ∀ j, pM g' k j = pM g k j) (hq : H'[qAd b base k]? = H[qAd b base k]?) : qCell D dA b base g' k H' := by
  have e4 : (fun j => qSh b base (pM g' k j)) = (fun j => qSh b base (pM g k j)) := funext fun j => by rw [e3 j]
  obtain ⟨h1, h2, h3⟩ := h
  refine ⟨fun z => ?_, fun z1 z2 => ?_, fun z => ?_⟩
  · rw [e1] at z ⊢
    rw [e4]
    exact (h1 z).kept hq
  · rw [e1] at z1 z2 ⊢
    rw [e2, e4, hq]
    exact h2 z1 z2
  · rw [e1] at z
    obtain ⟨scr, q1, q2⟩ := h3 z
    refine ⟨scr, by rw [hq]; exact q1, ?_⟩
    rw [e2]
    refine ⟨q2.1, q2.2.1, q2.2.2.1, q2.2.2.2.1, fun j hj => ?_⟩
    rw [e3 j]
    exact q2.2.2.2.2 j hj
theorem qTyp.kept {g g' : PS} {k : Nat} (h : qTyp g k) (e1 : pK g' k = pK g k) (e2 : pL g' k = pL g k) (e3 : ∀ j, pM g' k j = pM g k j) : qTyp g' k := by
  refine ⟨fun z j hj => ?_, fun z j hj => ?_⟩
  · rw [e3]; rw [e1] at z; rw [e2] at hj; exact h.1 z j hj
  · rw [e3]; rw [e1] at z; rw [e2] at hj; exact h.2 z j hj
/-! the pure operations, read -/
theorem pK_put (g : PS) (a k : Nat) (v : Value) : pK (pPut g a k v) = pK g := rfl
theorem pL_put (g : PS) (a k : Nat) (v : Value) : pL (pPut g a k v) = pL g := rfl
theorem pN_put (g : PS) (a k : Nat) (v : Value) : pN (pPut g a k v) = pN g := rfl
theorem pC_put (g : PS) (a k : Nat) (v : Value) : pC (pPut g a k v) = pC g := rfl
theorem pZ_put (g : PS) (a k : Nat) (v : Value) : pZ (pPut g a k v) = pZ g := rfl
theorem pM_put (g : PS) (a k : Nat) (v : Value) (x j : Nat) : pM (pPut g a k v) x j = if x = a ∧ j = k then v else pM g x j := rfl
theorem pM_put_ne {g : PS} {a k : Nat} {v : Value} {x : Nat} (h : x ≠ a) (j : Nat) : pM (pPut g a k v) x j = pM g x j := by
  rw [pM_put, if_neg (fun z => h z.1)]
/-- a field or an element is written -/
theorem qRel.put {D : va_G} {dA : Nat → ClassId} {b base : Nat} {g : PS} {H H' : Heap} {a k : Nat} {v : Value} (h : qRel D dA b base g H) (ha : a < pN g) (hz : H'.size = H.size) (hq : ∀ q, q ≠ qAd b base a → H'[q]? = H[q]?)
    (hc : qCell D dA b base (pPut g a k v) a H') (ht : qTyp (pPut g a k v) a) : qRel D dA b base (pPut g a k v) H' := by
  obtain ⟨h0, h1, h2, h3, h4, h5, h6⟩ := h
  refine ⟨h0, h1, by rw [hz]; exact h2, fun x hx => ?_, h4, h5, h6⟩
  by_cases e : x = a
  · rw [e]; exact ⟨hc, ht⟩
  · exact ⟨(h3 x hx).1.kept rfl rfl (pM_put_ne e) (hq _ (fun z => e (qAd_inj h0 z))), (h3 x hx).2.kept rfl rfl (pM_put_ne e)⟩
theorem pK_new (g : PS) (kd ln z : Nat) (row : Nat → Value) (x : Nat) : pK (pNew g kd ln z row) x = if x = pN g then kd else pK g x := rfl
theorem pL_new (g : PS) (kd ln z : Nat) (row : Nat → Value) (x : Nat) : pL (pNew g kd ln z row) x = if x = pN g then ln else pL g x := rfl
theorem pM_new (g : PS) (kd ln z : Nat) (row : Nat → Value) (x j : Nat) : pM (pNew g kd ln z row) x j = if x = pN g then row j else pM g x j := rfl
theorem pN_new (g : PS) (kd ln z : Nat) (row : Nat → Value) : pN (pNew g kd ln z row) = pN g + 1 := rfl
theorem pC_new (g : PS) (kd ln z : Nat) (row : Nat → Value) : pC (pNew g kd ln z row) = pC g + 1 := rfl
theorem pZ_new (g : PS) (kd ln z : Nat) (row : Nat → Value) : pZ (pNew g kd ln z row) = pZ g + z := rfl
/-- a cell is made -/
theorem qRel.new {D : va_G} {dA : Nat → ClassId} {b base : Nat} {g : PS} {H H' : Heap} {kd ln z : Nat} {row : Nat → Value} (h : qRel D dA b base g H) (hz : H'.size = H.size + 1) (hq : ∀ q, q < H.size → H'[q]? = H[q]?) (hk : kd ≠ 20)
    (hc : qCell D dA b base (pNew g kd ln z row) (pN g) H') (ht : qTyp (pNew g kd ln z row) (pN g)) : qRel D dA b base (pNew g kd ln z row) H' := by
  have hlt := fun k hk => qAd_lt (k := k) h hk
  obtain ⟨h0, h1, h2, h3, h4, h5, h6⟩ := h
  refine ⟨h0, by rw [pN_new]; omega, by rw [hz, pN_new]; omega, fun x hx => ?_, fun x hx => ?_, ?_, fun x hx => ?_⟩
  · rw [pN_new] at hx
    by_cases e : x = pN g
    · rw [e]; exact ⟨hc, ht⟩
    · have hx' : x < pN g := by omega
      exact ⟨(h3 x hx').1.kept (by rw [pK_new, if_neg e]) (by rw [pL_new, if_neg e]) (fun j => by rw [pM_new, if_neg e]) (hq _ (hlt x hx')), (h3 x hx').2.kept (by rw [pK_new, if_neg e]) (by rw [pL_new, if_neg e]) (fun j => by rw [pM_new, if_neg e])⟩
  · rw [pN_new] at hx
    rw [pK_new, if_neg (by omega)]
    exact h4 x (by omega)
  · rw [pK_new, if_neg (by omega)]
    exact h5
  · rw [pK_new]
    split
    · exact hk
    · exact h6 x hx
/-- an exception is made -/
theorem qRel.thr {D : va_G} {dA : Nat → ClassId} {b base : Nat} {g : PS} {H H' : Heap} (h : qRel D dA b base g H) (hz : H'.size = H.size + 1) (hq : ∀ q, q < H.size → H'[q]? = H[q]?) : qRel D dA b base (pThr g) H' := by
  have hlt := fun k hk => qAd_lt (k := k) h hk
  have ek : ∀ x, pK (pThr g) x = if x = pN g then 99 else pK g x := fun _ => rfl
  have en : pN (pThr g) = pN g + 1 := rfl
  obtain ⟨h0, h1, h2, h3, h4, h5, h6⟩ := h
  refine ⟨h0, by rw [en]; omega, by rw [hz, en]; omega, fun x hx => ?_, fun x hx => ?_, ?_, fun x hx => ?_⟩
  · rw [en] at hx
    by_cases e : x = pN g
    · refine ⟨⟨fun z => ?_, fun _ z => ?_, fun z => ?_⟩, ⟨fun z => ?_, fun z => ?_⟩⟩ <;> (rw [ek, if_pos e] at z; omega)
    · have hx' : x < pN g := by omega
      exact ⟨(h3 x hx').1.kept (by rw [ek, if_neg e]) rfl (fun j => rfl) (hq _ (hlt x hx')), (h3 x hx').2.kept (by rw [ek, if_neg e]) rfl (fun j => rfl)⟩
  · rw [en] at hx
    rw [ek, if_neg (by omega)]
    exact h4 x (by omega)
  · rw [ek, if_neg (by omega)]
    exact h5
  · rw [ek]
    split
    · omega
    · exact h6 x hx
/-! the locals -/
def qLs (b base nL : Nat) (lsM : Array Slot) (ls : PV) : Prop := lsM.size = nL ∧ ls.length = nL ∧ lv_wf lsM ∧ ∀ (i : Nat) (v : Value), ls[i]? = some (some v) → lsM[i]? = some (.val (qSh b base v))
def qAs (b base : Nat) (ls : PV) : List (Nat × Value) := (List.range ls.length).filterMap (fun i => match ls[i]? with | some (some v) => some (i, qSh b base v) | _ => none)
theorem qAs_mem {b base : Nat} {ls : PV} {i : Nat} {v : Value} (h : ls[i]? = some (some v)) : (i, qSh b base v) ∈ qAs b base ls := by
  have hi : i < ls.length := (List.getElem?_eq_some_iff.mp h).1
  refine List.mem_filterMap.mpr ⟨i, List.mem_range.mpr hi, ?_⟩
  simp only [h]
theorem qAs_of {b base : Nat} {ls : PV} {q : Nat × Value} (h : q ∈ qAs b base ls) : ∃ v, ls[q.1]? = some (some v) ∧ q.2 = qSh b base v := by
  obtain ⟨i, -, hi⟩ := List.mem_filterMap.mp h
  cases hl : ls[i]? with
  | none => rw [hl] at hi; cases hi
  | some o =>
    cases o with
    | none => rw [hl] at hi; cases hi
    | some v =>
      rw [hl] at hi
      cases hi
      exact ⟨v, hl, rfl⟩
theorem qLs.has {b base nL : Nat} {lsM : Array Slot} {ls : PV} (h : qLs b base nL lsM ls) : lv_has lsM nL (qAs b base ls) := by
  obtain ⟨h1, h2, h3, h4⟩ := h
  refine ⟨h1, h3, fun q hq => ?_⟩
  obtain ⟨v, e1, e2⟩ := qAs_of hq
  rw [e2]
  exact h4 _ _ e1
theorem pClr_len (ls : PV) (i : Nat) : (pClr ls i).length = ls.length := by
  unfold pClr
  cases i with
  | zero => rfl
  | succ j => dsimp only; split <;> simp
theorem pClr_get {ls : PV} {i j : Nat} {w : Value} (h : (pClr ls i)[j]? = some (some w)) : ls[j]? = some (some w) ∧ ¬ (j + 1 = i ∧ w.category = 2) := by
  unfold pClr at h
  cases i with
  | zero => exact ⟨h, fun z => by omega⟩
  | succ n =>
    dsimp only at h
    split at h
    · rename_i hc
      by_cases e : j = n
      · subst e
        rw [List.getElem?_set_self'] at h
        cases hl : ls[j]? <;> rw [hl] at h <;> simp at h
      · rw [List.getElem?_set_ne (Ne.symm e)] at h
        exact ⟨h, fun z => e (by omega)⟩
    · rename_i hc
      refine ⟨h, fun z => ?_⟩
      obtain ⟨z1, z2⟩ := z
      have e : j = n := by omega
      subst e
      rw [h] at hc
      cases w <;> first | exact hc rfl | (simp [Value.category] at z2)
/-- behind a store of one slot -/
theorem qLs.st1 {b base nL i : Nat} {lsM ls' : Array Slot} {ls : PV} {v : Value} (h : qLs b base nL lsM ls)
    (h' : lv_has ls' nL ((i, qSh b base v) :: (qAs b base ls).filter (fun q => !(q.1 == i) && !(q.1 + 1 == i && q.2.category == 2)))) : qLs b base nL ls' (pSet1 ls i v) := by
  refine ⟨h'.1, by unfold pSet1; rw [List.length_set, pClr_len]; exact h.2.1, h'.2.1, fun j w hj => ?_⟩
  unfold pSet1 at hj
  by_cases e : j = i
  · subst e
    rw [List.getElem?_set_self'] at hj
    have hw : w = v := by
      cases hl : (pClr ls j)[j]? with
      | none => rw [hl] at hj; simp at hj
      | some o => rw [hl] at hj; simp at hj; exact hj.symm
    rw [hw]
    exact h'.2.2 (j, qSh b base v) List.mem_cons_self
  · rw [List.getElem?_set_ne (Ne.symm e)] at hj
    obtain ⟨g1, g2⟩ := pClr_get hj
    refine h'.2.2 (j, qSh b base w) (List.mem_cons_of_mem _ (List.mem_filter.mpr ⟨qAs_mem g1, ?_⟩))
    have hn : ¬ (j + 1 = i ∧ (qSh b base w).category = 2) := by rw [qSh_cat]; exact g2
    simp only [Bool.and_eq_true, Bool.not_eq_true', Bool.and_eq_false_iff, beq_eq_false_iff_ne]
    refine ⟨e, ?_⟩
    by_cases e1 : j + 1 = i
    · exact Or.inr (fun z => hn ⟨e1, z⟩)
    · exact Or.inl e1
/-- behind a store whose value nobody looks at -/
theorem qLs.st0 {b base nL i : Nat} {lsM ls' : Array Slot} {ls : PV} {w0 : Value} (h : qLs b base nL lsM ls)
    (h' : lv_has ls' nL ((i, w0) :: (qAs b base ls).filter (fun q => !(q.1 == i) && !(q.1 + 1 == i && q.2.category == 2)))) : qLs b base nL ls' ((pClr ls i).set i none) := by
  refine ⟨h'.1, by rw [List.length_set, pClr_len]; exact h.2.1, h'.2.1, fun j w hj => ?_⟩
  by_cases e : j = i
  · subst e
    rw [List.getElem?_set_self'] at hj
    cases hl : (pClr ls j)[j]? with
    | none => rw [hl] at hj; simp at hj
    | some o => rw [hl] at hj; simp at hj
  · rw [List.getElem?_set_ne (Ne.symm e)] at hj
    obtain ⟨g1, g2⟩ := pClr_get hj
    refine h'.2.2 (j, qSh b base w) (List.mem_cons_of_mem _ (List.mem_filter.mpr ⟨qAs_mem g1, ?_⟩))
    have hn : ¬ (j + 1 = i ∧ (qSh b base w).category = 2) := by rw [qSh_cat]; exact g2
    simp only [Bool.and_eq_true, Bool.not_eq_true', Bool.and_eq_false_iff, beq_eq_false_iff_ne]
    refine ⟨e, ?_⟩
    by_cases e1 : j + 1 = i
    · exact Or.inr (fun z => hn ⟨e1, z⟩)
    · exact Or.inl e1
/-- behind a store of two slots -/
theorem qLs.st2 {b base nL i : Nat} {lsM ls' : Array Slot} {ls : PV} {v : Value} (h : qLs b base nL lsM ls)
    (h' : lv_has ls' nL ((i, qSh b base v) :: (qAs b base ls).filter (fun q => !(q.1 == i) && (!(q.1 == i + 1) && !(q.1 + 1 == i && q.2.category == 2))))) : qLs b base nL ls' (pSet2 ls i v) := by
  refine ⟨h'.1, by unfold pSet2; rw [List.length_set, List.length_set, pClr_len]; exact h.2.1, h'.2.1, fun j w hj => ?_⟩
  unfold pSet2 at hj
  by_cases e0 : j = i + 1
  · subst e0
    rw [List.getElem?_set_self'] at hj
    cases hl : ((pClr ls i).set i (some v))[i + 1]? with
    | none => rw [hl] at hj; simp at hj
    | some o => rw [hl] at hj; simp at hj
  · rw [List.getElem?_set_ne (Ne.symm e0)] at hj
    by_cases e : j = i
    · subst e
      rw [List.getElem?_set_self'] at hj
      have hw : w = v := by
        cases hl : (pClr ls j)[j]? with
        | none => rw [hl] at hj; simp at hj
        | some o => rw [hl] at hj; simp at hj; exact hj.symm
      rw [hw]
      exact h'.2.2 (j, qSh b base v) List.mem_cons_self
    · rw [List.getElem?_set_ne (Ne.symm e)] at hj
      obtain ⟨g1, g2⟩ := pClr_get hj
      refine h'.2.2 (j, qSh b base w) (List.mem_cons_of_mem _ (List.mem_filter.mpr ⟨qAs_mem g1, ?_⟩))
      have hn : ¬ (j + 1 = i ∧ (qSh b base w).category = 2) := by rw [qSh_cat]; exact g2
      simp only [Bool.and_eq_true, Bool.not_eq_true', Bool.and_eq_false_iff, beq_eq_false_iff_ne]
      refine ⟨e, e0, ?_⟩
      by_cases e1 : j + 1 = i
      · exact Or.inr (fun z => hn ⟨e1, z⟩)
      · exact Or.inl e1
/-! the words -/
/-- words that go over to a callee's start -/
def qW (w : Cond) : Bool := match w with
  | .castable .. => true
  | .declares _ => true
  | .fieldLinkNest .. => true
  | .methodLinkNest .. => true
  | .arrayOver _ => true
  | w => goodWord w
theorem qW_warm {w : Cond} (hq : qW w = true) {s U : State} {a a' : Array Value} (hW : s.WarmedH U.vm) (h : w.before a s = true) : w.before a' U = true := by
  by_cases hg : goodWord w = true
  · exact word_at hW (good_of_word hg) h
  · cases w <;> first
      | exact absurd hq hg
      | exact va_tabs rfl (rfl : (s.setVm U.vm).vm = U.vm) (by rw [Cond.castable_setVm hW.alike]; exact h)
      | exact va_tabs rfl (rfl : (s.setVm U.vm).vm = U.vm) (by rw [Cond.declares_setVm hW.alike]; exact h)
      | exact va_tabs rfl (rfl : (s.setVm U.vm).vm = U.vm) (Cond.fieldLinkNest_warmed hW h)
      | exact va_tabs rfl (rfl : (s.setVm U.vm).vm = U.vm) (Cond.methodLinkNest_warmed hW h)
      | exact (Cond.arrayOver_setVmC (args := a) hW.alike _).trans h
/-- WHAT HOLDS OF THE TABLES at a frame's start -/
def qCtx (D : va_G) (dA : Nat → ClassId) (base : Nat) (s : State) : Prop :=
  (∀ w ∈ lw_tbl, qW w = true → ∀ a : Array Value, w.before a s = true) ∧
  (∀ ci, ci < 12 → u_Kn s (qOwn ci) (qTf ci) (pF ci) (D.1 ci) (D.2 ci)) ∧
  (∀ kd, 12 ≤ kd → kd ≤ 19 → qArr dA kd s) ∧ qScr dA s ∧ base ≤ s.heap.size ∧
  vx_Zq Bundle.tN "UNASSIGNED_STACK" Bundle.steD (fun q => base ≤ q) s s.heap ∧ vx_Zq Bundle.tN "SUPPRESSED_SENTINEL" Bundle.listD (fun q => base ≤ q) s s.heap ∧
  (∀ (j : Nat) (t : Nat × Nat × Nat × Nat × Nat × Nat), qTH[j]? = some t → ∃ (tx : String) (sa : Nat), vk_R RX9 t.2.1 tx sa s) ∧
  (∀ x y : Nat, x < 3 → y < 3 → x ≠ y → va_Nc (qEx x) (qEx y) s)
/-- it goes over to a callee's start -/
theorem qCtx.moved {D : va_G} {dA : Nat → ClassId} {base : Nat} {s U : State} (h : qCtx D dA base s) (hW : s.WarmedH U.vm) (hz : base ≤ U.heap.size) (hq : ∀ q : Nat, q < s.heap.size → ¬ base ≤ q → U.heap[q]? = s.heap[q]?) : qCtx D dA base U := by
  obtain ⟨h1, h2, h3, h4, h5, h6, h7, h8, h9⟩ := h
  exact ⟨fun w hw hk a => qW_warm hk hW (h1 w hw hk a), fun ci hc => u_Kn_moved hW.alike (h2 ci hc), fun kd z1 z2 => (h3 kd z1 z2).moved hW.alike, h4.moved hW.alike, hz,
    vx_Zq.moved hW.alike (h6.kept hq), vx_Zq.moved hW.alike (h7.kept hq), fun j t ht => by obtain ⟨tx, sa, hv⟩ := h8 j t ht; exact ⟨tx, sa, vk_R.warm hW hv⟩, fun x y hx hy hn => va_Nc.moved hW.alike (h9 x y hx hy hn)⟩
end
section
/-! ===== ONE PLAIN STEP ===== -/
/-- what is known of a frame -/
def qFrm (D : va_G) (dA : Nat → ClassId) (b base : Nat) (p : Program) (l : Launch) (R : Room) (s : State) (m : MethodId) (meth : Method) (c : Code) (o : Nat) (init : Bool) (bc : ByteArray) (nL fr lo : Nat) : Prop :=
  p.tables.exec = Jvm.exec ∧ c.code = bc ∧ c.maxLocals = nL ∧ s.vm.findClass (qOwn o) = some m.cls ∧ meth.locks = false ∧ l.stackTraces = false ∧ qCtx D dA base s ∧ fr ≤ R.frames ∧ lo ≤ R.locals ∧ (init = true → meth.name = "<init>")
abbrev qA (base : Nat) : Nat → Prop := fun q => base ≤ q
theorem qNx_spec {all tl : List PRow} {i x : Nat} (h : qNx tl x = true) (ht : all.drop (i + 1) = tl) : (all[i + 1]?).map (fun r => r.1) = some x := by
  subst ht
  unfold qNx at h
  split at h
  · cases h
  · rename_i r t he
    have h1 : all[i + 1]? = some r := by
      have := List.getElem?_drop (xs := all) (i := i + 1) (j := 0)
      rw [he] at this
      simpa using this.symm
    rw [h1]
    simpa using h
theorem qJp_spec {all : List PRow} {r1 pc : Nat} {off : Int} (h : qJp all r1 pc off = true) : ∃ tgt : Nat, (pc : Int) + off = (tgt : Int) ∧ (all[r1]?).map (fun r => r.1) = some tgt := by
  unfold qJp at h
  split at h
  · cases h
  · rename_i q he
    exact ⟨q.1, of_decide_eq_true h, by rw [he]; rfl⟩
theorem pII_inv {st : List Value} {f : Int32 → Int32 → List Value → Option PR} {q : PR} (h : pII st f = some q) : ∃ x y r, st = .int y :: .int x :: r ∧ f x y r = some q := by
  unfold pII at h
  split at h
  · exact ⟨_, _, _, rfl, h⟩
  · cases h
theorem pI_inv {st : List Value} {f : Int32 → List Value → Option PR} {q : PR} (h : pI st f = some q) : ∃ x r, st = .int x :: r ∧ f x r = some q := by
  unfold pI at h
  split at h
  · exact ⟨_, _, rfl, h⟩
  · cases h
theorem pLL_inv {st : List Value} {f : Int64 → Int64 → List Value → Option PR} {q : PR} (h : pLL st f = some q) : ∃ x y r, st = .long y :: .long x :: r ∧ f x y r = some q := by
  unfold pLL at h
  split at h
  · exact ⟨_, _, _, rfl, h⟩
  · cases h
theorem pDD_inv {st : List Value} {f : UInt64 → UInt64 → List Value → Option PR} {q : PR} (h : pDD st f = some q) : ∃ x y r, st = .double y :: .double x :: r ∧ f x y r = some q := by
  unfold pDD at h
  split at h
  · exact ⟨_, _, _, rfl, h⟩
  · cases h
theorem pLdI_inv {i nx : Nat} {ls : PV} {st : List Value} {g : PS} {q : PR} (h : pLdI i nx ls st g = some q) : ∃ x, ls[i]? = some (some (.int x)) ∧ q = (nx, ls, .int x :: st, g) := by
  unfold pLdI at h
  split at h
  · rename_i x hx; exact ⟨x, hx, (Option.some.inj h).symm⟩
  · cases h
theorem pLdL_inv {i nx : Nat} {ls : PV} {st : List Value} {g : PS} {q : PR} (h : pLdL i nx ls st g = some q) : ∃ x, ls[i]? = some (some (.long x)) ∧ q = (nx, ls, .long x :: st, g) := by
  unfold pLdL at h
  split at h
  · rename_i x hx; exact ⟨x, hx, (Option.some.inj h).symm⟩
  · cases h
theorem pLdD_inv {i nx : Nat} {ls : PV} {st : List Value} {g : PS} {q : PR} (h : pLdD i nx ls st g = some q) : ∃ x, ls[i]? = some (some (.double x)) ∧ q = (nx, ls, .double x :: st, g) := by
  unfold pLdD at h
  split at h
  · rename_i x hx; exact ⟨x, hx, (Option.some.inj h).symm⟩
  · cases h
theorem pLdA_inv {i nx : Nat} {ls : PV} {st : List Value} {g : PS} {q : PR} (h : pLdA i nx ls st g = some q) : (∃ x, ls[i]? = some (some (.ref x)) ∧ q = (nx, ls, .ref x :: st, g)) ∨ (ls[i]? = some (some .null) ∧ q = (nx, ls, .null :: st, g)) := by
  unfold pLdA at h
  split at h
  · rename_i x hx; exact Or.inl ⟨x, hx, (Option.some.inj h).symm⟩
  · rename_i hx; exact Or.inr ⟨hx, (Option.some.inj h).symm⟩
  · cases h
theorem pSt1_inv {i nx : Nat} {v : Value} {ls : PV} {st : List Value} {g : PS} {q : PR} (h : pSt1 i v nx ls st g = some q) : i < ls.length ∧ q = (nx, pSet1 ls i v, st, g) := by
  unfold pSt1 at h
  split at h
  · rename_i hi; exact ⟨hi, (Option.some.inj h).symm⟩
  · cases h
theorem pSt2_inv {i nx : Nat} {v : Value} {ls : PV} {st : List Value} {g : PS} {q : PR} (h : pSt2 i v nx ls st g = some q) : i + 1 < ls.length ∧ q = (nx, pSet2 ls i v, st, g) := by
  unfold pSt2 at h
  split at h
  · rename_i hi; exact ⟨hi, (Option.some.inj h).symm⟩
  · cases h
section QSTEP
variable {p : Program} {l : Launch} {e : Env} {R : Room} {s : State} {m : MethodId} {args : Array Value} {below : List Frame} {meth : Method} {c : Code} {H : Heap} {locs : List Loc} {cells slots : Nat} {Q : State → Prop}
variable {D : va_G} {dA : Nat → ClassId} {b base o nL fr lo : Nat} {init : Bool} {bc : ByteArray} {all tl : List PRow} {i pc : Nat} {lsM : Array Slot} {ls : PV} {st : List Value} {g : PS}
/-- the goal behind a step -/
def qK (D : va_G) (dA : Nat → ClassId) (b base nL : Nat) (all : List PRow) (p : Program) (l : Launch) (e : Env) (R : Room) (s : State) (m : MethodId) (args : Array Value) (below : List Frame) (meth : Method) (c : Code) (c0 z0 : Nat) (Q : State → Prop) (q : PR) : Prop :=
  ∀ (pc' : Nat) (lsM' : Array Slot) (H' : Heap) (locs' : List Loc), (all[q.1]?).map (fun r => r.1) = some pc' → qLs b base nL lsM' q.2.1 → qRel D dA b base q.2.2.2 H' → va_S (qA base) s.heap H' locs' →
    W p l e R s m args below meth c H' locs' (pC q.2.2.2 - c0) (pZ q.2.2.2 - z0) Q (F0 m pc' lsM' (q.2.2.1.map (qSh b base)))
/-- a branch -/
theorem qIf {P : Prop} [Decidable P] {tgt nx t pc3 : Nat} {c0 z0 : Nat} {q : PR} (h : pIf P tgt nx ls st g = some q) (k : qK D dA b base nL all p l e R s m args below meth c c0 z0 Q q)
    (hl : qLs b base nL lsM ls) (hR : qRel D dA b base g H) (hS : va_S (qA base) s.heap H locs) (ht : (all[tgt]?).map (fun r => r.1) = some t) (hn : (all[nx]?).map (fun r => r.1) = some pc3) :
    (P → W p l e R s m args below meth c H locs (pC g - c0) (pZ g - z0) Q (F0 m t lsM (st.map (qSh b base)))) ∧ (¬ P → W p l e R s m args below meth c H locs (pC g - c0) (pZ g - z0) Q (F0 m pc3 lsM (st.map (qSh b base)))) := by
  unfold pIf at h
  have hq := Option.some.inj h
  subst hq
  refine ⟨fun hP => ?_, fun hP => ?_⟩
  · have k1 := k t lsM H locs (by show (all[if P then tgt else nx]?).map _ = _; rw [if_pos hP]; exact ht) hl hR hS
    exact k1
  · have k1 := k pc3 lsM H locs (by show (all[if P then tgt else nx]?).map _ = _; rw [if_neg hP]; exact hn) hl hR hS
    exact k1

/-- the words that a frame may use -/
def qTs : List Cond := lw_tbl.filter qW
theorem qTs_of {w : Cond} (h : w ∈ lw_tbl) (h2 : qW w = true) : w ∈ qTs := List.mem_filter.mpr ⟨h, h2⟩
theorem qW_good {w : Cond} (h : goodWord w = true) : qW w = true := by
  cases w <;> first | rfl | exact h
theorem qHts {s : State} {args : Array Value} (h : qCtx D dA base s) : ∀ w ∈ qTs, w.before args s = true := fun w hw => h.1 w (List.mem_filter.mp hw).1 (List.mem_filter.mp hw).2 args
theorem qLayTs {ci : Nat} (h : ci < 12) : ∀ w ∈ u_ws (qOwn ci) (qTf ci) (pF ci), w ∈ qTs := fun w hw => qTs_of (qLay h w hw).1 (qW_good (qLay h w hw).2)
theorem qFok_spec {idx ci kf j : Nat} (h : qFok o idx ci kf j = true) : ∃ f : QL6, qFn j = f.2.2.2.2.1 ∧ f.1 = o ∧ f.2.1 = idx ∧ f.2.2.1 = ci ∧ f.2.2.2.1 = kf ∧ qFw f ∈ lw_tbl := by
  unfold qFok at h
  unfold qFn
  split at h
  · cases h
  · rename_i f hf
    simp only [Bool.and_eq_true, beq_iff_eq] at h
    refine ⟨f, ?_, h.1, h.2.1, h.2.2.1, h.2.2.2, ?_⟩
    · first | rfl | rw [hf]
    · exact qGet_mem (of_decide_eq_true (List.all_eq_true.mp qFL_ok f (List.mem_of_getElem? hf)))
theorem qArr.of {dA : Nat → ClassId} {kd : Nat} (h : qArr dA kd s) (n : Nat) (f : Nat → Value) : s.isArrayOf (arrV (dA kd) n f) (qTy kd) := by
  obtain ⟨-, kC, comp, h2, h3, -⟩ := h
  exact ⟨fun k z => (by cases z), kC, h2, comp, h3⟩
/-- a field's cell and where it lies -/
theorem qFld {a ci kf : Nat} (hctx : qCtx D dA base s) (hR : qRel D dA b base g H) (ha : pK g a = ci) (hkf : kf < pF ci) : a < pN g ∧ a ≠ 0 ∧ ∃ (cell : Cell) (cf fi : Nat) (kC0 : Class) (f : Field), H[qAd b base a]? = some cell ∧ cell.cls = D.1 ci ∧ cell.vm = .none ∧
    (∀ j, j < pF ci → cell.slots[D.2 ci j]? = some (qSh b base (pM g a j))) ∧ s.fieldFound? (qTf ci kf).1 (qTf ci kf).2.1 (qTf ci kf).2.2.1 = some (cf, kC0, fi, f) ∧ f.slot = D.2 ci kf ∧ f.isStatic = false := by
  have hci := pF_lt hkf
  have hlt : a < pN g := hR.lt (by rw [ha]; omega)
  have h0 : a ≠ 0 := hR.ne0 (by rw [ha]; omega)
  obtain ⟨cell, q1, q2, q3, q4⟩ := (hR.2.2.2.1 a hlt).1.1 (by rw [ha]; exact hci)
  rw [ha] at q2 q4
  obtain ⟨hSl, hfc, kC, hkC, hkind⟩ := hctx.2.1 ci hci
  obtain ⟨cf, kf0, fi, f, hi, hsl⟩ := hSl kf hkf
  exact ⟨hlt, h0, cell, cf, fi, kf0, f, q1, q2, q3, q4, hi, hsl, (u_facts hfc hkC (u_lays (qHts (args := #[]) hctx) (qLayTs hci) hkf) hi).1⟩

theorem q_getfield {len r1 r2 r3 c0 z0 : Nat} {idx : Nat} {q : PR} (F : qFrm D dA b base p l R s m meth c o init bc nL fr lo) (hok : qRowOk o init fr lo bc all tl (pc, .getfield idx, len, r1, r2, r3) = true) (ht : all.drop (i + 1) = tl) (hk : pKind (.getfield idx) r1 = 0)
    (hs : pStep (.getfield idx) (i + 1) r1 r2 ls st g = some q) (hl : qLs b base nL lsM ls) (hR : qRel D dA b base g H) (hS : va_S (qA base) s.heap H locs) (hA : ∀ q : Nat, s.heap.size ≤ q → qA base q) (hc : c0 ≤ pC g) (hz : z0 ≤ pZ g) (hC : pC q.2.2.2 - c0 ≤ R.cells) (hZ : pZ q.2.2.2 - z0 ≤ R.slots)
    (k : qK D dA b base nL all p l e R s m args below meth c c0 z0 Q q) : W p l e R s m args below meth c H locs (pC g - c0) (pZ g - z0) Q (F0 m pc lsM (st.map (qSh b base))) := by
  obtain ⟨hx, hb, hml, hown, hlocks, htr, hctx, hfr, hlo, hinit⟩ := id F
  unfold qRowOk at hok
  simp only [Bool.and_eq_true, decide_eq_true_eq, beq_iff_eq] at hok
  obtain ⟨d, h1, h2, h3⟩ := hok
  subst h1
  unfold pStep at hs
  dsimp only at hs
  split at hs
  · rename_i a r
    split at hs
    · rename_i hP
      have hq := Option.some.inj hs
      subst hq
      obtain ⟨hlt, h0, cell, cf, fi, kC0, f, q1, q2, q3, q4, hi, hsl, hst⟩ := qFld hctx hR hP.1 hP.2
      obtain ⟨f6, g0, g1, g2, g3, g4, hw⟩ := qFok_spec h3
      have hslot : cell.slots[f.slot]? = some (qSh b base (pM g a r2)) := by rw [hsl]; exact q4 r2 hP.2
      unfold qFw at hw
      rw [g1, g2, g3, g4] at hw
      split at hw
      · exact va_Wgetf hx hb hown (qHts (args := args) hctx _ (qTs_of hw rfl)) hi hst q1 (by rw [q3]; exact fun z => by cases z) hslot rfl rfl d (k _ _ _ _ (qNx_spec h2 ht) hl hR hS)
      · exact W.getf hx hb hown (qHts (args := args) hctx _ (qTs_of hw rfl)) hi hst q1 (by rw [q3]; exact fun z => by cases z) hslot rfl rfl d (k _ _ _ _ (qNx_spec h2 ht) hl hR hS)
    · cases hs
  · cases hs

theorem fits_narrow {ty : FieldType} {v : Value} (h : fits ty v = true) (hb : ty = .int ∨ ty = .boolean ∨ ty = .long ∨ ty = .double ∨ (∃ n, ty = .object n) ∨ ∃ t, ty = .array t) : narrow ty v = v := by
  rcases hb with rfl | rfl | rfl | rfl | ⟨n, rfl⟩ | ⟨t, rfl⟩
  · cases v <;> first | rfl | cases h
  · cases v with
    | int x =>
      simp only [fits, Bool.or_eq_true, beq_iff_eq] at h
      rcases h with rfl | rfl <;> rfl
    | _ => first | rfl | cases h
  · cases v <;> rfl
  · cases v <;> rfl
  · cases v <;> rfl
  · cases v <;> rfl
theorem pT_plain {ci kf : Nat} (hci : ci < 12) (h : kf < pF ci) : pT ci kf = .int ∨ pT ci kf = .boolean ∨ pT ci kf = .long ∨ pT ci kf = .double ∨ (∃ n, pT ci kf = .object n) ∨ ∃ t, pT ci kf = .array t := by
  have key : ((List.range 12).all fun ci => (List.range (pF ci)).all fun k => match pT ci k with | .int => true | .boolean => true | .long => true | .double => true | .object _ => true | .array _ => true | _ => false) = true := by decide +kernel
  have h1 := List.all_eq_true.mp (List.all_eq_true.mp key ci (List.mem_range.mpr hci)) kf (List.mem_range.mpr h)
  cases hp : pT ci kf <;> rw [hp] at h1 <;> first
    | exact Or.inl rfl
    | exact Or.inr (Or.inl rfl)
    | exact Or.inr (Or.inr (Or.inl rfl))
    | exact Or.inr (Or.inr (Or.inr (Or.inl rfl)))
    | exact Or.inr (Or.inr (Or.inr (Or.inr (Or.inl ⟨_, rfl⟩))))
    | exact Or.inr (Or.inr (Or.inr (Or.inr (Or.inr ⟨_, rfl⟩))))
    | cases h1
/-- the pure heap behind a field's write -/
theorem qPutF {a ci kf : Nat} {v : Value} {H' : Heap} {cell : Cell} (hctx : qCtx D dA base s) (hR : qRel D dA b base g H) (ha : pK g a = ci) (hkf : kf < pF ci) (hlt : a < pN g) (q2 : cell.cls = D.1 ci) (q3 : cell.vm = .none)
    (q4 : ∀ j, j < pF ci → cell.slots[D.2 ci j]? = some (qSh b base (pM g a j))) (e1 : H'[qAd b base a]? = some (cell.setSlot (D.2 ci kf) (qSh b base v))) (e2 : H'.size = H.size) (e3 : ∀ q, q ≠ qAd b base a → H'[q]? = H[q]?) : qRel D dA b base (pPut g a kf v) H' := by
  have hci := pF_lt hkf
  have hap : ∀ x y, x < pF ci → y < pF ci → x ≠ y → D.2 ci x ≠ D.2 ci y := by
    intro x y hx hy hne
    obtain ⟨hSl, -⟩ := hctx.2.1 ci hci
    obtain ⟨_, _, _, fa, hia, ea⟩ := hSl x hx
    obtain ⟨_, _, _, fb, hib, eb⟩ := hSl y hy
    rw [← ea, ← eb]
    refine u_apart (u_lays (qHts (args := #[]) hctx) (qLayTs hci) hx) (u_lays (qHts (args := #[]) hctx) (qLayTs hci) hy) hia hib ?_
    rw [(State.fieldFound?_type hia (qTf_ok ci hci x hx)).1, (State.fieldFound?_type hib (qTf_ok ci hci y hy)).1]
    exact qTf_nm ci hci x hx y hy hne
  refine hR.put hlt e2 e3 ⟨fun _ => ?_, fun z => ?_, fun z => ?_⟩ ⟨fun z => ?_, fun z => ?_⟩
  · rw [pK_put, ha]
    refine ⟨_, e1, q2, q3, fun j hj => ?_⟩
    rw [t_set q4 hap hkf (qSh b base v) j hj]
    unfold updV
    dsimp only
    rw [pM_put]
    by_cases e : j = kf
    · rw [if_pos e, if_pos ⟨rfl, e⟩]
    · rw [if_neg e, if_neg (fun z => e z.2)]
  · rw [pK_put, ha] at z; omega
  · rw [pK_put, ha] at z; omega
  · rw [pK_put, ha] at z; omega
  · rw [pK_put, ha] at z; omega

theorem qTf_own {ci kf o : Nat} (h : ci = o) (ho : o < 12) (hk : kf < pF ci) : (qTf ci kf).1 = qOwn o := by
  subst h
  have key : ((List.range 12).all fun ci => (List.range (pF ci)).all fun k => decide ((qTf ci k).1 = qOwn ci)) = true := by decide +kernel
  exact of_decide_eq_true (List.all_eq_true.mp (List.all_eq_true.mp key ci (List.mem_range.mpr ho)) kf (List.mem_range.mpr hk))

theorem q_putfield {len r1 r2 r3 c0 z0 : Nat} {idx : Nat} {q : PR} (F : qFrm D dA b base p l R s m meth c o init bc nL fr lo) (hok : qRowOk o init fr lo bc all tl (pc, .putfield idx, len, r1, r2, r3) = true) (ht : all.drop (i + 1) = tl) (hk : pKind (.putfield idx) r1 = 0)
    (hs : pStep (.putfield idx) (i + 1) r1 r2 ls st g = some q) (hl : qLs b base nL lsM ls) (hR : qRel D dA b base g H) (hS : va_S (qA base) s.heap H locs) (hA : ∀ q : Nat, s.heap.size ≤ q → qA base q) (hc : c0 ≤ pC g) (hz : z0 ≤ pZ g) (hC : pC q.2.2.2 - c0 ≤ R.cells) (hZ : pZ q.2.2.2 - z0 ≤ R.slots)
    (k : qK D dA b base nL all p l e R s m args below meth c c0 z0 Q q) : W p l e R s m args below meth c H locs (pC g - c0) (pZ g - z0) Q (F0 m pc lsM (st.map (qSh b base))) := by
  obtain ⟨hx, hb, hml, hown, hlocks, htr, hctx, hfr, hlo, hinit⟩ := id F
  unfold qRowOk at hok
  simp only [Bool.and_eq_true, decide_eq_true_eq, beq_iff_eq] at hok
  obtain ⟨d, h1, h2, h3, h4⟩ := hok
  subst h1
  unfold pStep at hs
  dsimp only at hs
  split at hs
  · rename_i v a r
    split at hs
    · rename_i hP
      have hq := Option.some.inj hs
      subst hq
      obtain ⟨hlt, h0, cell, cf, fi, kC0, f, q1, q2, q3, q4, hi, hsl, hst⟩ := qFld hctx hR hP.1 hP.2.1
      obtain ⟨f6, g0, g1, g2, g3, g4, hw⟩ := qFok_spec h3
      have hci := pF_lt hP.2.1
      obtain ⟨hSl, hfc, kC, hkC, hkind⟩ := hctx.2.1 r1 hci
      have hft := qSh_fits (b := b) (base := base) hP.2.2
      have hnr := fits_narrow hft (pT_plain hci hP.2.1)
      have hlay := qHts (args := args) hctx _ (qLayTs hci _ (u_in_lay hP.2.1))
      have hlts : f.slot < cell.slots.size := by rw [hsl]; exact k2_hasslot (q4 r2 hP.2.1)
      unfold qFw at hw
      rw [g1, g2, g3, g4] at hw
      unfold u_lay at hlay
      by_cases hfin : (qTf r1 r2).2.2.2 = true
      · rw [if_pos hfin] at hlay
        rw [if_pos hfin] at h4
        simp only [Bool.and_eq_true, decide_eq_true_eq, beq_iff_eq] at h4
        obtain ⟨j1, ⟨j2, j3⟩, j4⟩ := h4
        rw [g0] at j4
        rw [if_neg (by rw [j4]; decide)] at hw
        have hcf : m.cls = cf := by
          obtain ⟨_, _, c', _, _, _, -, -, hf', -, -, -, hown2, -⟩ := Cond.laysFinal_spec hlay
          have e1 : c' = cf := by have := hi.symm.trans hf'; simp at this; exact this.1.symm
          have e2 : (qTf r1 r2).1 = qOwn o := qTf_own j2 j3 hP.2.1
          rw [e2] at hown2
          rw [← e1]; exact Option.some.inj (hown.symm.trans hown2)
        have h6 := u_fits hfc hkC hkind (Or.inr hlay) hi (qTf_ok r1 hci r2 hP.2.1) hnr hft
        refine W.putFinK hx hb hown (qHts (args := args) hctx _ (qTs_of hw rfl)) hi hst hcf (hinit j1) (by rw [q2]; exact h6) q1 q3 hlts rfl rfl d fun H' e1 e2 e3 => ?_
        rw [hsl] at e1 ⊢
        exact k _ _ _ _ (qNx_spec h2 ht) hl (qPutF hctx hR hP.1 hP.2.1 hlt q2 q3 q4 e1 e2 e3) (hS.put e2 e3 (qAd_ge h0))
      · rw [if_neg hfin] at hlay
        have h6 := u_store hfc hkC hkind hlay hi (qTf_ok r1 hci r2 hP.2.1) hnr hft
        split at hw
        · refine va_WputK hx hb (f := f) hown (qHts (args := args) hctx _ (qTs_of hw rfl)) hi hst (by rw [q2]; exact h6) q1 q3 hlts rfl rfl d fun H' e1 e2 e3 => ?_
          rw [hsl] at e1 ⊢
          exact k _ _ _ _ (qNx_spec h2 ht) hl (qPutF hctx hR hP.1 hP.2.1 hlt q2 q3 q4 e1 e2 e3) (hS.put e2 e3 (qAd_ge h0))
        · refine W.putK hx hb (f := f) ⟨hown, qHts (args := args) hctx _ (qTs_of hw rfl), ⟨_, _, _, hi⟩, hst⟩ (by rw [q2]; exact h6) q1 q3 hlts rfl rfl d fun H' e1 e2 e3 => ?_
          rw [hsl] at e1 ⊢
          exact k _ _ _ _ (qNx_spec h2 ht) hl (qPutF hctx hR hP.1 hP.2.1 hlt q2 q3 q4 e1 e2 e3) (hS.put e2 e3 (qAd_ge h0))
    · cases hs
  · cases hs

/-- an array's cell -/
theorem qArrC {a : Nat} (hR : qRel D dA b base g H) (h1 : 12 ≤ pK g a) (h2 : pK g a ≤ 19) : a < pN g ∧ a ≠ 0 ∧ H[qAd b base a]? = some (arrV (dA (pK g a)) (pL g a) (fun j => qSh b base (pM g a j))) := by
  have hlt : a < pN g := hR.lt (by omega)
  exact ⟨hlt, hR.ne0 (by omega), (hR.2.2.2.1 a hlt).1.2.1 h1 h2⟩
theorem qTy_ref {kd : Nat} (h1 : 15 ≤ kd) (h2 : kd ≤ 19) : (qTy kd).isReference = true := by
  match kd, h1, h2 with
  | 15, _, _ => exact rfl
  | 16, _, _ => exact rfl
  | 17, _, _ => exact rfl
  | 18, _, _ => exact rfl
  | 19, _, _ => exact rfl
  | n + 20, _, h => exact absurd h (by omega)
/-- the pure heap behind an element's write -/
theorem qPutA {a j : Nat} {v : Value} {H' : Heap} (hR : qRel D dA b base g H) (h1 : 12 ≤ pK g a) (h2 : pK g a ≤ 19) (hv : pK g a = 12 → ∃ x : Int32, v = .int x) (hv2 : pK g a = 13 → v = .int 0 ∨ v = .int 1)
    (e1 : H'[qAd b base a]? = some ((arrV (dA (pK g a)) (pL g a) (fun j => qSh b base (pM g a j))).setSlot j (qSh b base v))) (e2 : H'.size = H.size) (e3 : ∀ q, q ≠ qAd b base a → H'[q]? = H[q]?) : qRel D dA b base (pPut g a j v) H' := by
  obtain ⟨hlt, h0, hcell⟩ := qArrC hR h1 h2
  have ht := (hR.2.2.2.1 a hlt).2
  refine hR.put hlt e2 e3 ⟨fun z => ?_, fun _ _ => ?_, fun z => ?_⟩ ⟨fun z q hq => ?_, fun z q hq => ?_⟩
  · rw [pK_put] at z; omega
  · rw [e1, arrV_store, pK_put, pL_put]
    congr 2
    funext q
    unfold updV
    rw [pM_put]
    by_cases e : q = j
    · rw [if_pos e, if_pos ⟨rfl, e⟩]
    · rw [if_neg e, if_neg (fun z => e z.2)]
  · rw [pK_put] at z; omega
  · rw [pM_put]
    rw [pK_put] at z
    rw [pL_put] at hq
    split
    · exact hv z
    · exact ht.1 z q hq
  · rw [pM_put]
    rw [pK_put] at z
    rw [pL_put] at hq
    split
    · exact hv2 z
    · exact ht.2 z q hq
theorem qIn {a : Nat} {i : Int32} {cA : ClassId} {f : Nat → Value} (h : ¬ (i < 0 ∨ pL g a ≤ i.toNatClampNeg)) : ¬ (i < 0 ∨ (arrV cA (pL g a) f).slots.size ≤ i.toNatClampNeg) := by rw [arrV_size]; exact h
theorem qRd {a : Nat} {i : Int32} {cA : ClassId} {f : Nat → Value} (h : ¬ (i < 0 ∨ pL g a ≤ i.toNatClampNeg)) : (arrV cA (pL g a) f).slots[i.toNatClampNeg]? = some (f i.toNatClampNeg) := arrV_read _ _ (Nat.not_le.mp fun z => h (Or.inr z))

theorem q_arraylength {len r1 r2 r3 c0 z0 : Nat} {q : PR} (F : qFrm D dA b base p l R s m meth c o init bc nL fr lo) (hok : qRowOk o init fr lo bc all tl (pc, .arraylength, len, r1, r2, r3) = true) (ht : all.drop (i + 1) = tl) (hk : pKind (.arraylength) r1 = 0)
    (hs : pStep (.arraylength) (i + 1) r1 r2 ls st g = some q) (hl : qLs b base nL lsM ls) (hR : qRel D dA b base g H) (hS : va_S (qA base) s.heap H locs) (hA : ∀ q : Nat, s.heap.size ≤ q → qA base q) (hc : c0 ≤ pC g) (hz : z0 ≤ pZ g) (hC : pC q.2.2.2 - c0 ≤ R.cells) (hZ : pZ q.2.2.2 - z0 ≤ R.slots)
    (k : qK D dA b base nL all p l e R s m args below meth c c0 z0 Q q) : W p l e R s m args below meth c H locs (pC g - c0) (pZ g - z0) Q (F0 m pc lsM (st.map (qSh b base))) := by
  obtain ⟨hx, hb, hml, hown, hlocks, htr, hctx, hfr, hlo, hinit⟩ := id F
  unfold qRowOk at hok
  simp only [Bool.and_eq_true, decide_eq_true_eq, beq_iff_eq] at hok
  obtain ⟨d, h1, h2⟩ := hok
  subst h1
  unfold pStep at hs
  dsimp only at hs
  split at hs
  · rename_i a r
    split at hs
    · rename_i hP
      have hq := Option.some.inj hs
      subst hq
      by_cases h20 : pK g a = 20
      · have hlt : a < pN g := hR.lt (by omega)
        obtain ⟨scr, q1, q2, q3, q4, q5, -⟩ := (hR.2.2.2.1 a hlt).1.2.2 h20
        obtain ⟨kC, comp, k1, k2⟩ := hctx.2.2.2.1
        exact W.alen hx hb q1 ⟨q3, kC, by rw [q2]; exact k1, comp, k2⟩ (by rw [q5]) rfl rfl d (k _ _ _ _ (qNx_spec h2 ht) hl hR hS)
      · obtain ⟨hlt, h0, hcell⟩ := qArrC hR hP.1 (by omega)
        exact W.alen hx hb hcell ((hctx.2.2.1 (pK g a) hP.1 (by omega)).of _ _) (by rw [arrV_size]) rfl rfl d (k _ _ _ _ (qNx_spec h2 ht) hl hR hS)
    · cases hs
  · cases hs

theorem q_iaload {len r1 r2 r3 c0 z0 : Nat} {q : PR} (F : qFrm D dA b base p l R s m meth c o init bc nL fr lo) (hok : qRowOk o init fr lo bc all tl (pc, .iaload, len, r1, r2, r3) = true) (ht : all.drop (i + 1) = tl) (hk : pKind (.iaload) r1 = 0)
    (hs : pStep (.iaload) (i + 1) r1 r2 ls st g = some q) (hl : qLs b base nL lsM ls) (hR : qRel D dA b base g H) (hS : va_S (qA base) s.heap H locs) (hA : ∀ q : Nat, s.heap.size ≤ q → qA base q) (hc : c0 ≤ pC g) (hz : z0 ≤ pZ g) (hC : pC q.2.2.2 - c0 ≤ R.cells) (hZ : pZ q.2.2.2 - z0 ≤ R.slots)
    (k : qK D dA b base nL all p l e R s m args below meth c c0 z0 Q q) : W p l e R s m args below meth c H locs (pC g - c0) (pZ g - z0) Q (F0 m pc lsM (st.map (qSh b base))) := by
  obtain ⟨hx, hb, hml, hown, hlocks, htr, hctx, hfr, hlo, hinit⟩ := id F
  unfold qRowOk at hok
  simp only [Bool.and_eq_true, decide_eq_true_eq, beq_iff_eq] at hok
  obtain ⟨d, h1, h2⟩ := hok
  subst h1
  unfold pStep at hs
  dsimp only at hs
  split at hs
  · rename_i x a r
    split at hs
    · rename_i hP
      have hq := Option.some.inj hs
      subst hq
      by_cases h20 : pK g a = 20
      · have hlt : a < pN g := hR.lt (by omega)
        obtain ⟨scr, q1, q2, q3, q4, q5, q6⟩ := (hR.2.2.2.1 a hlt).1.2.2 h20
        obtain ⟨kC, comp, k1, k2⟩ := hctx.2.2.2.1
        exact W.iald hx hb q1 ⟨q3, kC, by rw [q2]; exact k1, comp, k2⟩ q4 (by rw [q5]; exact hP.2) (q6 _ (Nat.not_le.mp fun z => hP.2 (Or.inr z))) rfl rfl d (k _ _ _ _ (qNx_spec h2 ht) hl hR hS)
      · have h12 : pK g a = 12 := by rcases hP.1 with z | z <;> omega
        obtain ⟨hlt, h0, hcell⟩ := qArrC (a := a) hR (by omega) (by omega)
        have hty := (hctx.2.2.1 (pK g a) (by omega) (by omega)).of (pL g a) (fun j => qSh b base (pM g a j))
        have ety : qTy (pK g a) = .int := by rw [h12]; rfl
        rw [ety] at hty
        exact W.iald hx hb hcell hty (fun z => by cases z) (qIn hP.2) (qRd hP.2) rfl rfl d (k _ _ _ _ (qNx_spec h2 ht) hl hR hS)
    · cases hs
  · cases hs

theorem q_laload {len r1 r2 r3 c0 z0 : Nat} {q : PR} (F : qFrm D dA b base p l R s m meth c o init bc nL fr lo) (hok : qRowOk o init fr lo bc all tl (pc, .laload, len, r1, r2, r3) = true) (ht : all.drop (i + 1) = tl) (hk : pKind (.laload) r1 = 0)
    (hs : pStep (.laload) (i + 1) r1 r2 ls st g = some q) (hl : qLs b base nL lsM ls) (hR : qRel D dA b base g H) (hS : va_S (qA base) s.heap H locs) (hA : ∀ q : Nat, s.heap.size ≤ q → qA base q) (hc : c0 ≤ pC g) (hz : z0 ≤ pZ g) (hC : pC q.2.2.2 - c0 ≤ R.cells) (hZ : pZ q.2.2.2 - z0 ≤ R.slots)
    (k : qK D dA b base nL all p l e R s m args below meth c c0 z0 Q q) : W p l e R s m args below meth c H locs (pC g - c0) (pZ g - z0) Q (F0 m pc lsM (st.map (qSh b base))) := by
  cases hs

theorem q_baload {len r1 r2 r3 c0 z0 : Nat} {q : PR} (F : qFrm D dA b base p l R s m meth c o init bc nL fr lo) (hok : qRowOk o init fr lo bc all tl (pc, .baload, len, r1, r2, r3) = true) (ht : all.drop (i + 1) = tl) (hk : pKind (.baload) r1 = 0)
    (hs : pStep (.baload) (i + 1) r1 r2 ls st g = some q) (hl : qLs b base nL lsM ls) (hR : qRel D dA b base g H) (hS : va_S (qA base) s.heap H locs) (hA : ∀ q : Nat, s.heap.size ≤ q → qA base q) (hc : c0 ≤ pC g) (hz : z0 ≤ pZ g) (hC : pC q.2.2.2 - c0 ≤ R.cells) (hZ : pZ q.2.2.2 - z0 ≤ R.slots)
    (k : qK D dA b base nL all p l e R s m args below meth c c0 z0 Q q) : W p l e R s m args below meth c H locs (pC g - c0) (pZ g - z0) Q (F0 m pc lsM (st.map (qSh b base))) := by
  cases hs

theorem q_aaload {len r1 r2 r3 c0 z0 : Nat} {q : PR} (F : qFrm D dA b base p l R s m meth c o init bc nL fr lo) (hok : qRowOk o init fr lo bc all tl (pc, .aaload, len, r1, r2, r3) = true) (ht : all.drop (i + 1) = tl) (hk : pKind (.aaload) r1 = 0)
    (hs : pStep (.aaload) (i + 1) r1 r2 ls st g = some q) (hl : qLs b base nL lsM ls) (hR : qRel D dA b base g H) (hS : va_S (qA base) s.heap H locs) (hA : ∀ q : Nat, s.heap.size ≤ q → qA base q) (hc : c0 ≤ pC g) (hz : z0 ≤ pZ g) (hC : pC q.2.2.2 - c0 ≤ R.cells) (hZ : pZ q.2.2.2 - z0 ≤ R.slots)
    (k : qK D dA b base nL all p l e R s m args below meth c c0 z0 Q q) : W p l e R s m args below meth c H locs (pC g - c0) (pZ g - z0) Q (F0 m pc lsM (st.map (qSh b base))) := by
  obtain ⟨hx, hb, hml, hown, hlocks, htr, hctx, hfr, hlo, hinit⟩ := id F
  unfold qRowOk at hok
  simp only [Bool.and_eq_true, decide_eq_true_eq, beq_iff_eq] at hok
  obtain ⟨d, h1, h2⟩ := hok
  subst h1
  unfold pStep at hs
  dsimp only at hs
  split at hs
  · rename_i x a r
    split at hs
    · rename_i hP
      have hq := Option.some.inj hs
      subst hq
      obtain ⟨hlt, h0, hcell⟩ := qArrC (a := a) hR (by omega) (by omega)
      have hty := (hctx.2.2.1 (pK g a) (by omega) (by omega)).of (pL g a) (fun j => qSh b base (pM g a j))
      exact W.aald hx hb hcell hty (qTy_ref hP.1 hP.2.1) (fun z => by cases z) (qIn hP.2.2) (qRd hP.2.2) rfl rfl d (k _ _ _ _ (qNx_spec h2 ht) hl hR hS)
    · cases hs
  · cases hs

theorem q_iastore {len r1 r2 r3 c0 z0 : Nat} {q : PR} (F : qFrm D dA b base p l R s m meth c o init bc nL fr lo) (hok : qRowOk o init fr lo bc all tl (pc, .iastore, len, r1, r2, r3) = true) (ht : all.drop (i + 1) = tl) (hk : pKind (.iastore) r1 = 0)
    (hs : pStep (.iastore) (i + 1) r1 r2 ls st g = some q) (hl : qLs b base nL lsM ls) (hR : qRel D dA b base g H) (hS : va_S (qA base) s.heap H locs) (hA : ∀ q : Nat, s.heap.size ≤ q → qA base q) (hc : c0 ≤ pC g) (hz : z0 ≤ pZ g) (hC : pC q.2.2.2 - c0 ≤ R.cells) (hZ : pZ q.2.2.2 - z0 ≤ R.slots)
    (k : qK D dA b base nL all p l e R s m args below meth c c0 z0 Q q) : W p l e R s m args below meth c H locs (pC g - c0) (pZ g - z0) Q (F0 m pc lsM (st.map (qSh b base))) := by
  obtain ⟨hx, hb, hml, hown, hlocks, htr, hctx, hfr, hlo, hinit⟩ := id F
  unfold qRowOk at hok
  simp only [Bool.and_eq_true, decide_eq_true_eq, beq_iff_eq] at hok
  obtain ⟨d, h1, h2⟩ := hok
  subst h1
  unfold pStep at hs
  dsimp only at hs
  split at hs
  · rename_i x y a r
    split at hs
    · rename_i hP
      have hq := Option.some.inj hs
      subst hq
      obtain ⟨hlt, h0, hcell⟩ := qArrC (a := a) hR (by omega) (by omega)
      have hty := (hctx.2.2.1 (pK g a) (by omega) (by omega)).of (pL g a) (fun j => qSh b base (pM g a j))
      have ety : qTy (pK g a) = .int := by rw [hP.1]; rfl
      rw [ety] at hty
      exact W.iast hx hb hcell hty (fun z => by cases z) (qIn hP.2) rfl rfl d (fun H' e1 e2 e3 => k _ _ _ _ (qNx_spec h2 ht) hl (qPutA hR (by omega) (by omega) (fun _ => ⟨x, rfl⟩) (fun z => absurd z (by omega)) (by rw [e1]; rfl) e2 e3) (hS.put e2 e3 (qAd_ge h0)))
    · cases hs
  · cases hs

theorem q_lastore {len r1 r2 r3 c0 z0 : Nat} {q : PR} (F : qFrm D dA b base p l R s m meth c o init bc nL fr lo) (hok : qRowOk o init fr lo bc all tl (pc, .lastore, len, r1, r2, r3) = true) (ht : all.drop (i + 1) = tl) (hk : pKind (.lastore) r1 = 0)
    (hs : pStep (.lastore) (i + 1) r1 r2 ls st g = some q) (hl : qLs b base nL lsM ls) (hR : qRel D dA b base g H) (hS : va_S (qA base) s.heap H locs) (hA : ∀ q : Nat, s.heap.size ≤ q → qA base q) (hc : c0 ≤ pC g) (hz : z0 ≤ pZ g) (hC : pC q.2.2.2 - c0 ≤ R.cells) (hZ : pZ q.2.2.2 - z0 ≤ R.slots)
    (k : qK D dA b base nL all p l e R s m args below meth c c0 z0 Q q) : W p l e R s m args below meth c H locs (pC g - c0) (pZ g - z0) Q (F0 m pc lsM (st.map (qSh b base))) := by
  cases hs

theorem pNarB (x : Int32) : narrow .boolean (.int x) = .int 0 ∨ narrow .boolean (.int x) = .int 1 := by
  show Value.int (x &&& 1) = .int 0 ∨ Value.int (x &&& 1) = .int 1
  have h : x &&& 1 = 0 ∨ x &&& 1 = 1 := by
    obtain ⟨j, hj, e⟩ := pk_andE x (m := 1) 1 (by decide)
    rw [e]
    match j, hj with
    | 0, _ => exact Or.inl rfl
    | 1, _ => exact Or.inr rfl
    | n + 2, h => omega
  rcases h with h | h <;> rw [h]
  · exact Or.inl rfl
  · exact Or.inr rfl

theorem q_bastore {len r1 r2 r3 c0 z0 : Nat} {q : PR} (F : qFrm D dA b base p l R s m meth c o init bc nL fr lo) (hok : qRowOk o init fr lo bc all tl (pc, .bastore, len, r1, r2, r3) = true) (ht : all.drop (i + 1) = tl) (hk : pKind (.bastore) r1 = 0)
    (hs : pStep (.bastore) (i + 1) r1 r2 ls st g = some q) (hl : qLs b base nL lsM ls) (hR : qRel D dA b base g H) (hS : va_S (qA base) s.heap H locs) (hA : ∀ q : Nat, s.heap.size ≤ q → qA base q) (hc : c0 ≤ pC g) (hz : z0 ≤ pZ g) (hC : pC q.2.2.2 - c0 ≤ R.cells) (hZ : pZ q.2.2.2 - z0 ≤ R.slots)
    (k : qK D dA b base nL all p l e R s m args below meth c c0 z0 Q q) : W p l e R s m args below meth c H locs (pC g - c0) (pZ g - z0) Q (F0 m pc lsM (st.map (qSh b base))) := by
  cases hs

end QSTEP
end
section
section QSTEPB
variable {p : Program} {l : Launch} {e : Env} {R : Room} {s : State} {m : MethodId} {args : Array Value} {below : List Frame} {meth : Method} {c : Code} {H : Heap} {locs : List Loc} {cells slots : Nat} {Q : State → Prop}
variable {D : va_G} {dA : Nat → ClassId} {b base o nL fr lo : Nat} {init : Bool} {bc : ByteArray} {all tl : List PRow} {i pc : Nat} {lsM : Array Slot} {ls : PV} {st : List Value} {g : PS}

theorem qAsgRefl (vm : Vm) (cC : ClassId) : vm.assignable cC cC = true := by
  show (cC == cC || _) = true
  rw [beq_self_eq_true, Bool.true_or]

/-- where a reference's cell lies, and its class -/
theorem qAasg {a v : Nat} (hctx : qCtx D dA base s) (hR : qRel D dA b base g H) (h1 : 15 ≤ pK g a) (h2 : pK g a ≤ 18) (hv : pK g v = pE (pK g a)) : ∃ (k kv kcomp : Class) (comp : ClassId) (cv : Cell), s.vm.classes[dA (pK g a)]? = some k ∧ k.kind = .array comp (qTy (pK g a)) ∧ s.vm.classes[comp]? = some kcomp ∧
    H[qAd b base v]? = some cv ∧ (∀ q, cv.vm ≠ .statics q) ∧ s.vm.classes[cv.cls]? = some kv ∧ s.vm.assignable cv.cls comp = true := by
  obtain ⟨h3, kC, comp, h4, h5, h6⟩ := hctx.2.2.1 (pK g a) (by omega) (by omega)
  have h7 := h6 h1
  by_cases h19 : pK g a = 19
  · omega
  · have hci : pK g v < 12 ∧ qEn (pK g a) = qOwn (pK g v) := by
      rw [hv]
      have h8 : pK g a = 15 ∨ pK g a = 16 ∨ pK g a = 17 ∨ pK g a = 18 := by omega
      rcases h8 with h8 | h8 | h8 | h8 <;> rw [h8] <;> exact ⟨by decide, rfl⟩
    have hlt : v < pN g := hR.lt (by omega)
    obtain ⟨cell, q1, q2, q3, -⟩ := (hR.2.2.2.1 v hlt).1.1 hci.1
    obtain ⟨-, hfc, kv, hkv, hkind⟩ := hctx.2.1 (pK g v) hci.1
    rw [hci.2] at h7
    have hcomp : D.1 (pK g v) = comp := Option.some.inj (hfc.symm.trans h7)
    refine ⟨kC, kv, kv, comp, cell, h4, h5, by rw [← hcomp]; exact hkv, q1, fun q z => (by rw [q3] at z; cases z), by rw [q2]; exact hkv, ?_⟩
    rw [q2, hcomp]
    exact qAsgRefl _ _

theorem q_aastore {len r1 r2 r3 c0 z0 : Nat} {q : PR} (F : qFrm D dA b base p l R s m meth c o init bc nL fr lo) (hok : qRowOk o init fr lo bc all tl (pc, .aastore, len, r1, r2, r3) = true) (ht : all.drop (i + 1) = tl) (hk : pKind (.aastore) r1 = 0)
    (hs : pStep (.aastore) (i + 1) r1 r2 ls st g = some q) (hl : qLs b base nL lsM ls) (hR : qRel D dA b base g H) (hS : va_S (qA base) s.heap H locs) (hA : ∀ q : Nat, s.heap.size ≤ q → qA base q) (hc : c0 ≤ pC g) (hz : z0 ≤ pZ g) (hC : pC q.2.2.2 - c0 ≤ R.cells) (hZ : pZ q.2.2.2 - z0 ≤ R.slots)
    (k : qK D dA b base nL all p l e R s m args below meth c c0 z0 Q q) : W p l e R s m args below meth c H locs (pC g - c0) (pZ g - z0) Q (F0 m pc lsM (st.map (qSh b base))) := by
  obtain ⟨hx, hb, hml, hown, hlocks, htr, hctx, hfr, hlo, hinit⟩ := id F
  unfold qRowOk at hok
  simp only [Bool.and_eq_true, decide_eq_true_eq, beq_iff_eq] at hok
  obtain ⟨d, h1, h2⟩ := hok
  subst h1
  unfold pStep at hs
  dsimp only at hs
  split at hs
  · rename_i v y a r
    split at hs
    · rename_i hP
      have hq := Option.some.inj hs
      subst hq
      obtain ⟨hlt, h0, hcell⟩ := qArrC (a := a) hR (by omega) (by omega)
      obtain ⟨kA, kv, kcomp, comp, cv, g1, g2, g3, g4, g5, g6, g7⟩ := qAasg hctx hR hP.1 hP.2.1 hP.2.2.1
      refine W.aast hx hb hcell (fun q z => by cases z) (fun z => by cases z) g1 g2 (qTy_ref hP.1 (by omega)) g3 ?_ g4 g5 g6 g7 rfl rfl d (fun H' e1 e2 e3 => k _ _ _ _ (qNx_spec h2 ht) hl (qPutA (v := .ref v) hR (by omega) (by omega) (fun z => absurd z (by omega)) (fun z => absurd z (by omega)) (by rw [e1]; rfl) e2 e3) (hS.put e2 e3 (qAd_ge h0)))
      have h9 := qIn (cA := dA (pK g a)) (f := fun j => qSh b base (pM g a j)) hP.2.2.2
      exact ⟨fun z => h9 (Or.inl z), Nat.not_le.mp (fun z => h9 (Or.inr z))⟩
    · cases hs
  · rename_i y a r
    split at hs
    · rename_i hP
      have hq := Option.some.inj hs
      subst hq
      obtain ⟨hlt, h0, hcell⟩ := qArrC (a := a) hR (by omega) (by omega)
      have hty := (hctx.2.2.1 (pK g a) (by omega) (by omega)).of (pL g a) (fun j => qSh b base (pM g a j))
      obtain ⟨C9, ety⟩ : ∃ C9, qTy (pK g a) = .object C9 := by
        have h8 : pK g a = 15 ∨ pK g a = 16 ∨ pK g a = 17 ∨ pK g a = 18 := by omega
        rcases h8 with h8 | h8 | h8 | h8 <;> rw [h8] <;> exact ⟨_, rfl⟩
      rw [ety] at hty
      exact va_WaastN hx hb hcell hty (fun z => by cases z) (qIn hP.2.2) rfl rfl d (fun H' e1 e2 e3 => k _ _ _ _ (qNx_spec h2 ht) hl (qPutA (v := .null) hR (by omega) (by omega) (fun z => absurd z (by omega)) (fun z => absurd z (by omega)) (by rw [e1]; rfl) e2 e3) (hS.put e2 e3 (qAd_ge h0)))
    · cases hs
  · cases hs

theorem qCok_spec {idx ci j : Nat} (h : qCok o idx ci j = true) : Cond.classLink (qOwn o) idx (qCn ci) ∈ lw_tbl := by
  unfold qCok at h
  split at h
  · cases h
  · rename_i f hf
    simp only [Bool.and_eq_true, beq_iff_eq] at h
    have h1 := qGet_mem (of_decide_eq_true (List.all_eq_true.mp qCL_ok f (List.mem_of_getElem? hf)))
    rw [h.1, h.2.1, h.2.2] at h1
    exact h1
theorem qIns {ci : Nat} (h : ci < 12) : Cond.instantiable (qOwn ci) (pF ci) ∈ lw_tbl ∧ Cond.initialized (qOwn ci) ∈ lw_tbl := by
  have h1 := List.all_eq_true.mp qIns_ok ci (List.mem_range.mpr h)
  split at h1
  · cases h1
  · simp only [Bool.and_eq_true, decide_eq_true_eq] at h1
    exact ⟨qGet_mem h1.1, qGet_mem h1.2⟩
theorem va_S.push {A : Nat → Prop} {H0 H H1 : Heap} {locs : List Loc} (h : va_S A H0 H locs) (z : H.size ≤ H1.size) (oq : ∀ q : Nat, q < H.size → H1[q]? = H[q]?) : va_S A H0 H1 locs :=
  ⟨Nat.le_trans h.1 z, fun q h1 h2 => by rw [oq q (Nat.lt_of_lt_of_le h1 h.1)]; exact h.2.1 q h1 h2, h.2.2⟩
theorem sub_add_one {a c : Nat} (h : c ≤ a) : a - c + 1 = a + 1 - c := by omega
theorem sub_add_n {a c n : Nat} (h : c ≤ a) : a - c + n = a + n - c := by omega
/-- the pure heap behind a new array -/
theorem qNewA {H' : Heap} {kd n : Nat} {v : Value} (hR : qRel D dA b base g H) (h1 : 12 ≤ kd) (h2 : kd ≤ 18) (hv : kd = 12 → v = .int 0) (hv2 : kd = 13 → v = .int 0) (hsh : qSh b base v = v)
    (e1 : H'[H.size]? = some (arrV (dA kd) n (fun _ => v))) (e2 : H'.size = H.size + 1) (e3 : ∀ q, q < H.size → H'[q]? = H[q]?) : qRel D dA b base (pNew g kd n n (fun _ => v)) H' := by
  refine hR.new e2 e3 (by omega) ⟨fun z => ?_, fun _ _ => ?_, fun z => ?_⟩ ⟨fun z q hq => ?_, fun z q hq => ?_⟩
  · rw [pK_new, if_pos rfl] at z; omega
  · have e4 : (fun j => qSh b base (pM (pNew g kd n n (fun _ => v)) (pN g) j)) = fun _ => v := funext fun j => by rw [pM_new, if_pos rfl]; exact hsh
    rw [qAd_new hR, e1, e4, pK_new, if_pos rfl, pL_new, if_pos rfl]
  · rw [pK_new, if_pos rfl] at z; omega
  · rw [pK_new, if_pos rfl] at z
    rw [pM_new, if_pos rfl]
    exact ⟨0, hv z⟩
  · rw [pK_new, if_pos rfl] at z
    rw [pM_new, if_pos rfl]
    exact Or.inl (hv2 z)

theorem q_new {len r1 r2 r3 c0 z0 : Nat} {idx : Nat} {q : PR} (F : qFrm D dA b base p l R s m meth c o init bc nL fr lo) (hok : qRowOk o init fr lo bc all tl (pc, .new idx, len, r1, r2, r3) = true) (ht : all.drop (i + 1) = tl) (hk : pKind (.new idx) r1 = 0)
    (hs : pStep (.new idx) (i + 1) r1 r2 ls st g = some q) (hl : qLs b base nL lsM ls) (hR : qRel D dA b base g H) (hS : va_S (qA base) s.heap H locs) (hA : ∀ q : Nat, s.heap.size ≤ q → qA base q) (hc : c0 ≤ pC g) (hz : z0 ≤ pZ g) (hC : pC q.2.2.2 - c0 ≤ R.cells) (hZ : pZ q.2.2.2 - z0 ≤ R.slots)
    (k : qK D dA b base nL all p l e R s m args below meth c c0 z0 Q q) : W p l e R s m args below meth c H locs (pC g - c0) (pZ g - z0) Q (F0 m pc lsM (st.map (qSh b base))) := by
  obtain ⟨hx, hb, hml, hown, hlocks, htr, hctx, hfr, hlo, hinit⟩ := id F
  unfold qRowOk at hok
  simp only [Bool.and_eq_true, decide_eq_true_eq, beq_iff_eq] at hok
  unfold pStep at hs
  dsimp only at hs
  split at hs
  · rename_i hP
    have hq := Option.some.inj hs
    subst hq
    obtain ⟨d, h1⟩ := hok
    rw [if_pos hP] at h1
    simp only [Bool.and_eq_true, beq_iff_eq] at h1
    obtain ⟨h1, h2, h3⟩ := h1
    subst h1
    have hlk := qCok_spec h3
    have hcn : qCn r1 = qOwn r1 := by unfold qCn; rw [if_pos hP]
    rw [hcn] at hlk
    obtain ⟨hSl, hfc, kC, hkC, hkind⟩ := hctx.2.1 r1 hP
    have hin := qIns hP
    have hC' : pC g - c0 + 1 ≤ R.cells := by rw [sub_add_one hc]; exact hC
    have hZ' : pZ g - z0 + pF r1 ≤ R.slots := by rw [sub_add_n hz]; exact hZ
    refine W.newcK hx hb hown (qHts (args := args) hctx _ (qTs_of hlk rfl)) (qHts (args := args) hctx _ (qTs_of hin.1 rfl)) (qHts (args := args) hctx _ (qTs_of hin.2 rfl)) rfl d hC' hZ' hfc rfl fun H' kC' g1 g2 g3 g4 => ?_
    have hborn := u_born (pT r1) (qHts (args := args) hctx) (qLayTs hP) (hctx.2.1 r1 hP) g1 g2 (qTf_ok r1 hP)
    refine W.cs (sub_add_one hc) (sub_add_n hz) ?_
    have hR' : qRel D dA b base (pNew g r1 0 (pF r1) (fun k => defaultValue (pT r1 k))) H' := by
      refine hR.new g3 g4 (by omega) ⟨fun z => ?_, fun z => ?_, fun z => ?_⟩ ⟨fun z => ?_, fun z => ?_⟩
      · rw [pK_new, if_pos rfl, qAd_new hR]
        refine hborn.to fun j hj => ?_
        rw [pM_new, if_pos rfl]
        exact (qSh_default _ _ _).symm
      · rw [pK_new, if_pos rfl] at z; omega
      · rw [pK_new, if_pos rfl] at z; omega
      · rw [pK_new, if_pos rfl] at z; omega
      · rw [pK_new, if_pos rfl] at z; omega
    have k1 := k _ _ _ _ (qNx_spec h2 ht) hl hR' (hS.push (by omega) g4)
    have e5 : qSh b base (.ref (pN g)) = .ref H.size := by show Value.ref (qAd b base (pN g)) = _; rw [qAd_new hR]
    simp only [List.map_cons, e5] at k1
    exact k1
  · cases hs

theorem qArrW_int : Cond.arrayClass .int ∈ lw_tbl := qGet_mem (x := 1113) (by decide +kernel)
theorem qArrO_15 : Cond.arrayOver (.object RX0) ∈ lw_tbl := qGet_mem (x := 1038) (by decide +kernel)
theorem qArrO_16 : Cond.arrayOver (.object RX2) ∈ lw_tbl := qGet_mem (x := 1053) (by decide +kernel)
theorem qArrO_17 : Cond.arrayOver (.object RX3) ∈ lw_tbl := qGet_mem (x := 1046) (by decide +kernel)
theorem qArrO_18 : Cond.arrayOver (.object RX6) ∈ lw_tbl := qGet_mem (x := 1036) (by decide +kernel)
theorem qArrO {kd : Nat} (h1 : 15 ≤ kd) (h2 : kd ≤ 18) : ∃ C, qTy kd = .object C ∧ qCn kd = C ∧ Cond.arrayOver (.object C) ∈ lw_tbl := by
  have h8 : kd = 15 ∨ kd = 16 ∨ kd = 17 ∨ kd = 18 := by omega
  rcases h8 with h8 | h8 | h8 | h8 <;> subst h8
  · exact ⟨_, rfl, rfl, qArrO_15⟩
  · exact ⟨_, rfl, rfl, qArrO_16⟩
  · exact ⟨_, rfl, rfl, qArrO_17⟩
  · exact ⟨_, rfl, rfl, qArrO_18⟩

theorem q_newarray {len r1 r2 r3 c0 z0 : Nat} {at_ : ArrayType} {q : PR} (F : qFrm D dA b base p l R s m meth c o init bc nL fr lo) (hok : qRowOk o init fr lo bc all tl (pc, .newarray at_, len, r1, r2, r3) = true) (ht : all.drop (i + 1) = tl) (hk : pKind (.newarray at_) r1 = 0)
    (hs : pStep (.newarray at_) (i + 1) r1 r2 ls st g = some q) (hl : qLs b base nL lsM ls) (hR : qRel D dA b base g H) (hS : va_S (qA base) s.heap H locs) (hA : ∀ q : Nat, s.heap.size ≤ q → qA base q) (hc : c0 ≤ pC g) (hz : z0 ≤ pZ g) (hC : pC q.2.2.2 - c0 ≤ R.cells) (hZ : pZ q.2.2.2 - z0 ≤ R.slots)
    (k : qK D dA b base nL all p l e R s m args below meth c c0 z0 Q q) : W p l e R s m args below meth c H locs (pC g - c0) (pZ g - z0) Q (F0 m pc lsM (st.map (qSh b base))) := by
  obtain ⟨hx, hb, hml, hown, hlocks, htr, hctx, hfr, hlo, hinit⟩ := id F
  unfold qRowOk at hok
  simp only [Bool.and_eq_true, decide_eq_true_eq, beq_iff_eq] at hok
  obtain ⟨d, h1, h2⟩ := hok
  subst h1
  unfold pStep at hs
  dsimp only at hs
  split at hs
  · obtain ⟨n, r, rfl, h⟩ := pI_inv hs
    split at h
    · cases h
    · rename_i hP
      have hq := Option.some.inj h
      subst hq
      have hC' : pC g - c0 + 1 ≤ R.cells := by rw [sub_add_one hc]; exact hC
      have hZ' : pZ g - z0 + n.toNatClampNeg ≤ R.slots := by rw [sub_add_n hz]; exact hZ
      have hn9 := Nat.not_lt.mp (fun z => hP (Or.inr z))
      refine W.newa (atype := .int) hx hb (qHts (args := args) hctx _ (qTs_of (qArrW_int) rfl)) rfl d rfl (fun z => hP (Or.inl z)) (by show n.toNatClampNeg * 4 ≤ 536870912; omega) hC' hZ' fun cA kA comp g1 g2 g3 => ?_
      have hcA : cA = dA 12 := Option.some.inj (g1.symm.trans (hctx.2.2.1 12 (by omega) (by omega)).1)
      subst hcA
      refine W.cs (sub_add_one hc) (sub_add_n hz) ?_
      have hR' : qRel D dA b base (pNew g 12 n.toNatClampNeg n.toNatClampNeg (fun _ => .int 0)) (H.push { cls := dA 12, slots := Array.replicate n.toNatClampNeg (.int 0), vm := .none }) := by
        refine qNewA hR (by omega) (by omega) (fun z => rfl) (fun z => rfl) rfl ?_ (by simp) (fun q hq => by rw [Array.getElem?_push, if_neg (Nat.ne_of_lt hq)])
        rw [← arrV_new]; simp
      have k1 := k _ _ _ _ (qNx_spec h2 ht) hl hR' (hS.push (by simp) (fun q hq => by rw [Array.getElem?_push, if_neg (Nat.ne_of_lt hq)]))
      have e5 : qSh b base (.ref (pN g)) = .ref H.size := by show Value.ref (qAd b base (pN g)) = _; rw [qAd_new hR]
      simp only [List.map_cons, e5] at k1
      exact k1
  · cases hs

theorem q_anewarray {len r1 r2 r3 c0 z0 : Nat} {idx : Nat} {q : PR} (F : qFrm D dA b base p l R s m meth c o init bc nL fr lo) (hok : qRowOk o init fr lo bc all tl (pc, .anewarray idx, len, r1, r2, r3) = true) (ht : all.drop (i + 1) = tl) (hk : pKind (.anewarray idx) r1 = 0)
    (hs : pStep (.anewarray idx) (i + 1) r1 r2 ls st g = some q) (hl : qLs b base nL lsM ls) (hR : qRel D dA b base g H) (hS : va_S (qA base) s.heap H locs) (hA : ∀ q : Nat, s.heap.size ≤ q → qA base q) (hc : c0 ≤ pC g) (hz : z0 ≤ pZ g) (hC : pC q.2.2.2 - c0 ≤ R.cells) (hZ : pZ q.2.2.2 - z0 ≤ R.slots)
    (k : qK D dA b base nL all p l e R s m args below meth c c0 z0 Q q) : W p l e R s m args below meth c H locs (pC g - c0) (pZ g - z0) Q (F0 m pc lsM (st.map (qSh b base))) := by
  obtain ⟨hx, hb, hml, hown, hlocks, htr, hctx, hfr, hlo, hinit⟩ := id F
  unfold qRowOk at hok
  simp only [Bool.and_eq_true, decide_eq_true_eq, beq_iff_eq] at hok
  obtain ⟨d, h1, h2, h3, h4⟩ := hok
  subst h1
  obtain ⟨n, r, rfl, h⟩ := pI_inv hs
  split at h
  · cases h
  · rename_i hP
    have hq := Option.some.inj h
    subst hq
    have hP1 : ¬ n < 0 := fun z => hP (Or.inl z)
    have hn9 := Nat.not_lt.mp (fun z => hP (Or.inr (Or.inl z)))
    have hP3 : 15 ≤ r1 ∧ r1 ≤ 18 := Classical.byContradiction fun z => hP (Or.inr (Or.inr z))
    obtain ⟨C, t1, t2, t3⟩ := qArrO hP3.1 hP3.2
    have hlk := qCok_spec h3
    rw [t2] at hlk
    have hC' : pC g - c0 + 1 ≤ R.cells := by rw [sub_add_one hc]; exact hC
    have hZ' : pZ g - z0 + n.toNatClampNeg ≤ R.slots := by rw [sub_add_n hz]; exact hZ
    refine W.anew hx hb hown (qHts (args := args) hctx _ (qTs_of hlk rfl)) (qHts (args := args) hctx _ (qTs_of t3 rfl)) rfl d rfl hP1 (by omega) hC' hZ' fun cA kA comp g1 g2 g3 g4 => ?_
    have ha := (hctx.2.2.1 r1 (by omega) (by omega)).1
    rw [t1] at ha
    have hcA : cA = dA r1 := Option.some.inj (g1.symm.trans ha)
    subst hcA
    refine W.cs (sub_add_one hc) (sub_add_n hz) ?_
    have hR' : qRel D dA b base (pNew g r1 n.toNatClampNeg n.toNatClampNeg (fun _ => .null)) (H.push { cls := dA r1, slots := Array.replicate n.toNatClampNeg .null, vm := .none }) := by
      refine qNewA hR (by omega) (by omega) (fun z => absurd z (by omega)) (fun z => absurd z (by omega)) rfl ?_ (by simp) (fun q hq => by rw [Array.getElem?_push, if_neg (Nat.ne_of_lt hq)])
      rw [← arrV_new]; simp
    have k1 := k _ _ _ _ (qNx_spec h2 ht) hl hR' (hS.push (by simp) (fun q hq => by rw [Array.getElem?_push, if_neg (Nat.ne_of_lt hq)]))
    have e5 : qSh b base (.ref (pN g)) = .ref H.size := by show Value.ref (qAd b base (pN g)) = _; rw [qAd_new hR]
    simp only [List.map_cons, e5] at k1
    exact k1

theorem qKok_spec {idx v lg j : Nat} (h : qKok o idx v lg j = true) : (if lg = 1 then Cond.constantLong (qOwn o) idx (Int64.ofNat v) else Cond.constant (qOwn o) idx (Int32.ofNat v)) ∈ lw_tbl := by
  unfold qKok at h
  split at h
  · cases h
  · rename_i f hf
    simp only [Bool.and_eq_true, beq_iff_eq] at h
    have h1 := qGet_mem (of_decide_eq_true (List.all_eq_true.mp qKL_ok f (List.mem_of_getElem? hf)))
    rw [h.1, h.2.1, h.2.2.1, h.2.2.2] at h1
    exact h1

theorem q_ldc {len r1 r2 r3 c0 z0 : Nat} {idx : Nat} {q : PR} (F : qFrm D dA b base p l R s m meth c o init bc nL fr lo) (hok : qRowOk o init fr lo bc all tl (pc, .ldc idx, len, r1, r2, r3) = true) (ht : all.drop (i + 1) = tl) (hk : pKind (.ldc idx) r1 = 0)
    (hs : pStep (.ldc idx) (i + 1) r1 r2 ls st g = some q) (hl : qLs b base nL lsM ls) (hR : qRel D dA b base g H) (hS : va_S (qA base) s.heap H locs) (hA : ∀ q : Nat, s.heap.size ≤ q → qA base q) (hc : c0 ≤ pC g) (hz : z0 ≤ pZ g) (hC : pC q.2.2.2 - c0 ≤ R.cells) (hZ : pZ q.2.2.2 - z0 ≤ R.slots)
    (k : qK D dA b base nL all p l e R s m args below meth c c0 z0 Q q) : W p l e R s m args below meth c H locs (pC g - c0) (pZ g - z0) Q (F0 m pc lsM (st.map (qSh b base))) := by
  obtain ⟨hx, hb, hml, hown, hlocks, htr, hctx, hfr, hlo, hinit⟩ := id F
  unfold qRowOk at hok
  simp only [Bool.and_eq_true, decide_eq_true_eq, beq_iff_eq] at hok
  obtain ⟨d, h1, h2, h3⟩ := hok
  subst h1
  have h0 : ¬ r1 = 0 := fun z => by rw [z] at hk; exact absurd hk (by simp [pKind])
  have hq := Option.some.inj hs
  subst hq
  simp only [Bool.or_eq_true, beq_iff_eq] at h3
  have hw := qKok_spec (h3.resolve_left h0)
  rw [if_neg (by decide)] at hw
  exact lv_ldc hx hb hown (qHts (args := args) hctx _ (qTs_of hw rfl)) d (k _ _ _ _ (qNx_spec h2 ht) hl hR hS)

theorem q_ldc_w {len r1 r2 r3 c0 z0 : Nat} {idx : Nat} {q : PR} (F : qFrm D dA b base p l R s m meth c o init bc nL fr lo) (hok : qRowOk o init fr lo bc all tl (pc, .ldc_w idx, len, r1, r2, r3) = true) (ht : all.drop (i + 1) = tl) (hk : pKind (.ldc_w idx) r1 = 0)
    (hs : pStep (.ldc_w idx) (i + 1) r1 r2 ls st g = some q) (hl : qLs b base nL lsM ls) (hR : qRel D dA b base g H) (hS : va_S (qA base) s.heap H locs) (hA : ∀ q : Nat, s.heap.size ≤ q → qA base q) (hc : c0 ≤ pC g) (hz : z0 ≤ pZ g) (hC : pC q.2.2.2 - c0 ≤ R.cells) (hZ : pZ q.2.2.2 - z0 ≤ R.slots)
    (k : qK D dA b base nL all p l e R s m args below meth c c0 z0 Q q) : W p l e R s m args below meth c H locs (pC g - c0) (pZ g - z0) Q (F0 m pc lsM (st.map (qSh b base))) := by
  obtain ⟨hx, hb, hml, hown, hlocks, htr, hctx, hfr, hlo, hinit⟩ := id F
  unfold qRowOk at hok
  simp only [Bool.and_eq_true, decide_eq_true_eq, beq_iff_eq] at hok
  obtain ⟨d, h1, h2, h3⟩ := hok
  subst h1
  have h0 : ¬ r1 = 0 := fun z => by rw [z] at hk; exact absurd hk (by simp [pKind])
  have hq := Option.some.inj hs
  subst hq
  simp only [Bool.or_eq_true, beq_iff_eq] at h3
  have hw := qKok_spec (h3.resolve_left h0)
  rw [if_neg (by decide)] at hw
  exact lv_ldcw hx hb hown (qHts (args := args) hctx _ (qTs_of hw rfl)) d (k _ _ _ _ (qNx_spec h2 ht) hl hR hS)

theorem q_ldc2_w {len r1 r2 r3 c0 z0 : Nat} {idx : Nat} {q : PR} (F : qFrm D dA b base p l R s m meth c o init bc nL fr lo) (hok : qRowOk o init fr lo bc all tl (pc, .ldc2_w idx, len, r1, r2, r3) = true) (ht : all.drop (i + 1) = tl) (hk : pKind (.ldc2_w idx) r1 = 0)
    (hs : pStep (.ldc2_w idx) (i + 1) r1 r2 ls st g = some q) (hl : qLs b base nL lsM ls) (hR : qRel D dA b base g H) (hS : va_S (qA base) s.heap H locs) (hA : ∀ q : Nat, s.heap.size ≤ q → qA base q) (hc : c0 ≤ pC g) (hz : z0 ≤ pZ g) (hC : pC q.2.2.2 - c0 ≤ R.cells) (hZ : pZ q.2.2.2 - z0 ≤ R.slots)
    (k : qK D dA b base nL all p l e R s m args below meth c c0 z0 Q q) : W p l e R s m args below meth c H locs (pC g - c0) (pZ g - z0) Q (F0 m pc lsM (st.map (qSh b base))) := by
  obtain ⟨hx, hb, hml, hown, hlocks, htr, hctx, hfr, hlo, hinit⟩ := id F
  unfold qRowOk at hok
  simp only [Bool.and_eq_true, decide_eq_true_eq, beq_iff_eq] at hok
  obtain ⟨d, h1, h2, h3⟩ := hok
  subst h1
  have h0 : ¬ r1 = 0 := fun z => by rw [z] at hk; exact absurd hk (by simp [pKind])
  have hq := Option.some.inj hs
  subst hq
  simp only [Bool.or_eq_true, beq_iff_eq] at h3
  have hw := qKok_spec (h3.resolve_left h0)
  rw [if_pos rfl] at hw
  exact lv_ldc2 hx hb hown (qHts (args := args) hctx _ (qTs_of hw rfl)) d (k _ _ _ _ (qNx_spec h2 ht) hl hR hS)

end QSTEPB
end
section
section QSTEPC
variable {p : Program} {l : Launch} {e : Env} {R : Room} {s : State} {m : MethodId} {args : Array Value} {below : List Frame} {meth : Method} {c : Code} {H : Heap} {locs : List Loc} {cells slots : Nat} {Q : State → Prop}
variable {D : va_G} {dA : Nat → ClassId} {b base o nL fr lo : Nat} {init : Bool} {bc : ByteArray} {all tl : List PRow} {i pc : Nat} {lsM : Array Slot} {ls : PV} {st : List Value} {g : PS}
theorem q_multianewarray {len r1 r2 r3 c0 z0 : Nat} {idx dm : Nat} {q : PR} (F : qFrm D dA b base p l R s m meth c o init bc nL fr lo) (hok : qRowOk o init fr lo bc all tl (pc, .multianewarray idx dm, len, r1, r2, r3) = true) (ht : all.drop (i + 1) = tl) (hk : pKind (.multianewarray idx dm) r1 = 0)
    (hs : pStep (.multianewarray idx dm) (i + 1) r1 r2 ls st g = some q) (hl : qLs b base nL lsM ls) (hR : qRel D dA b base g H) (hS : va_S (qA base) s.heap H locs) (hA : ∀ q : Nat, s.heap.size ≤ q → qA base q) (hc : c0 ≤ pC g) (hz : z0 ≤ pZ g) (hC : pC q.2.2.2 - c0 ≤ R.cells) (hZ : pZ q.2.2.2 - z0 ≤ R.slots)
    (k : qK D dA b base nL all p l e R s m args below meth c c0 z0 Q q) : W p l e R s m args below meth c H locs (pC g - c0) (pZ g - z0) Q (F0 m pc lsM (st.map (qSh b base))) := by
  cases hs

set_option maxHeartbeats 40000000 in
set_option maxRecDepth 100000 in
/-- ONE STEP: what the pure machine does in one plain step the machine does -/
theorem qStep {len r1 r2 r3 c0 z0 : Nat} {ins : Instr} {q : PR} (F : qFrm D dA b base p l R s m meth c o init bc nL fr lo) (hok : qRowOk o init fr lo bc all tl (pc, ins, len, r1, r2, r3) = true) (ht : all.drop (i + 1) = tl) (hk : pKind ins r1 = 0)
    (hs : pStep ins (i + 1) r1 r2 ls st g = some q) (hl : qLs b base nL lsM ls) (hR : qRel D dA b base g H) (hS : va_S (qA base) s.heap H locs) (hc : c0 ≤ pC g) (hz : z0 ≤ pZ g) (hC : pC q.2.2.2 - c0 ≤ R.cells) (hZ : pZ q.2.2.2 - z0 ≤ R.slots)
    (k : qK D dA b base nL all p l e R s m args below meth c c0 z0 Q q) : W p l e R s m args below meth c H locs (pC g - c0) (pZ g - z0) Q (F0 m pc lsM (st.map (qSh b base))) := by
  obtain ⟨hx, hb, hml, hown, hlocks, htr, hctx, hfr, hlo, hinit⟩ := id F
  have hA : ∀ q : Nat, s.heap.size ≤ q → qA base q := fun q h => Nat.le_trans hctx.2.2.2.2.1 h
  unfold qRowOk at hok
  cases ins
  case iconst n =>
    simp only [Bool.and_eq_true, decide_eq_true_eq, beq_iff_eq] at hok
    obtain ⟨d, h1, h2⟩ := hok
    subst h1
    have hq := Option.some.inj hs
    subst hq
    exact lv_iconst hx hb d rfl (k _ _ _ _ (qNx_spec h2 ht) hl hR hS)
  case bipush n =>
    simp only [Bool.and_eq_true, decide_eq_true_eq, beq_iff_eq] at hok
    obtain ⟨d, h1, h2⟩ := hok
    subst h1
    have hq := Option.some.inj hs
    subst hq
    exact lv_bipush hx hb d rfl (k _ _ _ _ (qNx_spec h2 ht) hl hR hS)
  case sipush n =>
    simp only [Bool.and_eq_true, decide_eq_true_eq, beq_iff_eq] at hok
    obtain ⟨d, h1, h2⟩ := hok
    subst h1
    have hq := Option.some.inj hs
    subst hq
    exact lv_sipush hx hb d rfl (k _ _ _ _ (qNx_spec h2 ht) hl hR hS)
  case lconst n =>
    simp only [Bool.and_eq_true, decide_eq_true_eq, beq_iff_eq] at hok
    obtain ⟨d, h1, h2⟩ := hok
    subst h1
    have hq := Option.some.inj hs
    subst hq
    exact lv_lconst hx hb d rfl (k _ _ _ _ (qNx_spec h2 ht) hl hR hS)
  case aconst_null =>
    simp only [Bool.and_eq_true, decide_eq_true_eq, beq_iff_eq] at hok
    obtain ⟨d, h1, h2⟩ := hok
    subst h1
    have hq := Option.some.inj hs
    subst hq
    exact lv_null hx hb d (k _ _ _ _ (qNx_spec h2 ht) hl hR hS)
  case dconst n =>
    simp only [Bool.and_eq_true, decide_eq_true_eq, beq_iff_eq] at hok
    obtain ⟨d, h1, h2⟩ := hok
    subst h1
    unfold pStep at hs
    dsimp only at hs
    split at hs
    · rename_i hn
      have hq := Option.some.inj hs
      subst hq
      have hn0 : n = 0 := Fin.ext hn
      subst hn0
      exact lv_dconst0 hx hb d (k _ _ _ _ (qNx_spec h2 ht) hl hR hS)
    · cases hs
  case iload_n n =>
    simp only [Bool.and_eq_true, decide_eq_true_eq, beq_iff_eq] at hok
    obtain ⟨d, h1, h2⟩ := hok
    subst h1
    obtain ⟨x, hx1, hq⟩ := pLdI_inv hs
    subst hq
    exact lv_iload_n hx hb d rfl (hl.2.2.2 _ _ hx1) (k _ _ _ _ (qNx_spec h2 ht) hl hR hS)
  case iload n =>
    simp only [Bool.and_eq_true, decide_eq_true_eq, beq_iff_eq] at hok
    obtain ⟨d, h1, h2⟩ := hok
    subst h1
    obtain ⟨x, hx1, hq⟩ := pLdI_inv hs
    subst hq
    exact lv_iload hx hb d (hl.2.2.2 _ _ hx1) (k _ _ _ _ (qNx_spec h2 ht) hl hR hS)
  case lload_n n =>
    simp only [Bool.and_eq_true, decide_eq_true_eq, beq_iff_eq] at hok
    obtain ⟨d, h1, h2⟩ := hok
    subst h1
    obtain ⟨x, hx1, hq⟩ := pLdL_inv hs
    subst hq
    exact lv_lload_n hx hb d rfl (hl.2.2.2 _ _ hx1) (k _ _ _ _ (qNx_spec h2 ht) hl hR hS)
  case lload n =>
    simp only [Bool.and_eq_true, decide_eq_true_eq, beq_iff_eq] at hok
    obtain ⟨d, h1, h2⟩ := hok
    subst h1
    obtain ⟨x, hx1, hq⟩ := pLdL_inv hs
    subst hq
    exact lv_lload hx hb d (hl.2.2.2 _ _ hx1) (k _ _ _ _ (qNx_spec h2 ht) hl hR hS)
  case dload_n n =>
    simp only [Bool.and_eq_true, decide_eq_true_eq, beq_iff_eq] at hok
    obtain ⟨d, h1, h2⟩ := hok
    subst h1
    obtain ⟨x, hx1, hq⟩ := pLdD_inv hs
    subst hq
    exact lv_dload_n hx hb d rfl (hl.2.2.2 _ _ hx1) (k _ _ _ _ (qNx_spec h2 ht) hl hR hS)
  case dload n =>
    simp only [Bool.and_eq_true, decide_eq_true_eq, beq_iff_eq] at hok
    obtain ⟨d, h1, h2⟩ := hok
    subst h1
    obtain ⟨x, hx1, hq⟩ := pLdD_inv hs
    subst hq
    exact lv_dload hx hb d (hl.2.2.2 _ _ hx1) (k _ _ _ _ (qNx_spec h2 ht) hl hR hS)
  case aload_n n =>
    simp only [Bool.and_eq_true, decide_eq_true_eq, beq_iff_eq] at hok
    obtain ⟨d, h1, h2⟩ := hok
    subst h1
    rcases pLdA_inv hs with ⟨x, hx1, hq⟩ | ⟨hx1, hq⟩
    · subst hq
      exact lv_aload_n hx hb d rfl (hl.2.2.2 _ _ hx1) (k _ _ _ _ (qNx_spec h2 ht) hl hR hS)
    · subst hq
      exact lv_aload_nN hx hb d rfl (hl.2.2.2 _ _ hx1) (k _ _ _ _ (qNx_spec h2 ht) hl hR hS)
  case aload n =>
    simp only [Bool.and_eq_true, decide_eq_true_eq, beq_iff_eq] at hok
    obtain ⟨d, h1, h2⟩ := hok
    subst h1
    rcases pLdA_inv hs with ⟨x, hx1, hq⟩ | ⟨hx1, hq⟩
    · subst hq
      exact lv_aload hx hb d (hl.2.2.2 _ _ hx1) (k _ _ _ _ (qNx_spec h2 ht) hl hR hS)
    · subst hq
      exact lv_aloadN hx hb d (hl.2.2.2 _ _ hx1) (k _ _ _ _ (qNx_spec h2 ht) hl hR hS)
  case istore_n n =>
    simp only [Bool.and_eq_true, decide_eq_true_eq, beq_iff_eq] at hok
    obtain ⟨d, h1, h2⟩ := hok
    subst h1
    unfold pStep at hs
    dsimp only at hs
    split at hs
    · obtain ⟨hi, hq⟩ := pSt1_inv hs
      subst hq
      exact lv_istore_n hx hb d rfl hl.has (by have := hl.2.1; omega) rfl (fun ls' hl' => k _ _ _ _ (qNx_spec h2 ht) (qLs.st1 hl hl') hR hS)
    · cases hs
  case istore n =>
    simp only [Bool.and_eq_true, decide_eq_true_eq, beq_iff_eq] at hok
    obtain ⟨d, h1, h2⟩ := hok
    subst h1
    unfold pStep at hs
    dsimp only at hs
    split at hs
    · obtain ⟨hi, hq⟩ := pSt1_inv hs
      subst hq
      exact lv_istore hx hb d hl.has (by have := hl.2.1; omega) rfl (fun ls' hl' => k _ _ _ _ (qNx_spec h2 ht) (qLs.st1 hl hl') hR hS)
    · cases hs
  case lstore_n n =>
    simp only [Bool.and_eq_true, decide_eq_true_eq, beq_iff_eq] at hok
    obtain ⟨d, h1, h2⟩ := hok
    subst h1
    unfold pStep at hs
    dsimp only at hs
    split at hs
    · obtain ⟨hi, hq⟩ := pSt2_inv hs
      subst hq
      exact lv_lstore_n hx hb d rfl hl.has (by have := hl.2.1; omega) rfl (fun ls' hl' => k _ _ _ _ (qNx_spec h2 ht) (qLs.st2 hl hl') hR hS)
    · cases hs
  case lstore n =>
    simp only [Bool.and_eq_true, decide_eq_true_eq, beq_iff_eq] at hok
    obtain ⟨d, h1, h2⟩ := hok
    subst h1
    unfold pStep at hs
    dsimp only at hs
    split at hs
    · obtain ⟨hi, hq⟩ := pSt2_inv hs
      subst hq
      exact lv_lstore hx hb d hl.has (by have := hl.2.1; omega) rfl (fun ls' hl' => k _ _ _ _ (qNx_spec h2 ht) (qLs.st2 hl hl') hR hS)
    · cases hs
  case dstore_n n =>
    simp only [Bool.and_eq_true, decide_eq_true_eq, beq_iff_eq] at hok
    obtain ⟨d, h1, h2⟩ := hok
    subst h1
    unfold pStep at hs
    dsimp only at hs
    split at hs
    · obtain ⟨hi, hq⟩ := pSt2_inv hs
      subst hq
      exact lv_dstore_n hx hb d rfl hl.has (by have := hl.2.1; omega) rfl (fun ls' hl' => k _ _ _ _ (qNx_spec h2 ht) (qLs.st2 hl hl') hR hS)
    · cases hs
  case dstore n =>
    simp only [Bool.and_eq_true, decide_eq_true_eq, beq_iff_eq] at hok
    obtain ⟨d, h1, h2⟩ := hok
    subst h1
    unfold pStep at hs
    dsimp only at hs
    split at hs
    · obtain ⟨hi, hq⟩ := pSt2_inv hs
      subst hq
      exact lv_dstore hx hb d hl.has (by have := hl.2.1; omega) rfl (fun ls' hl' => k _ _ _ _ (qNx_spec h2 ht) (qLs.st2 hl hl') hR hS)
    · cases hs
  case astore_n n =>
    simp only [Bool.and_eq_true, decide_eq_true_eq, beq_iff_eq] at hok
    obtain ⟨d, h1, h2⟩ := hok
    subst h1
    unfold pStep at hs
    dsimp only at hs
    split at hs
    · obtain ⟨hi, hq⟩ := pSt1_inv hs
      subst hq
      exact lv_astore_n hx hb d rfl hl.has (by have := hl.2.1; omega) rfl (fun ls' hl' => k _ _ _ _ (qNx_spec h2 ht) (qLs.st1 hl hl') hR hS)
    · obtain ⟨hi, hq⟩ := pSt1_inv hs
      subst hq
      exact lv_astore_nN hx hb d rfl hl.has (by have := hl.2.1; omega) rfl (fun ls' hl' => k _ _ _ _ (qNx_spec h2 ht) (qLs.st1 (v := .null) hl hl') hR hS)
    · cases hs
  case astore n =>
    simp only [Bool.and_eq_true, decide_eq_true_eq, beq_iff_eq] at hok
    obtain ⟨d, h1, h2⟩ := hok
    subst h1
    unfold pStep at hs
    dsimp only at hs
    split at hs
    · obtain ⟨hi, hq⟩ := pSt1_inv hs
      subst hq
      exact lv_astore hx hb d hl.has (by have := hl.2.1; omega) rfl (fun ls' hl' => k _ _ _ _ (qNx_spec h2 ht) (qLs.st1 hl hl') hR hS)
    · obtain ⟨hi, hq⟩ := pSt1_inv hs
      subst hq
      exact lv_astoreN hx hb d hl.has (by have := hl.2.1; omega) rfl (fun ls' hl' => k _ _ _ _ (qNx_spec h2 ht) (qLs.st1 (v := .null) hl hl') hR hS)
    · cases hs
  case iinc n cst =>
    simp only [Bool.and_eq_true, decide_eq_true_eq, beq_iff_eq] at hok
    obtain ⟨d, h1, h2⟩ := hok
    subst h1
    unfold pStep at hs
    dsimp only at hs
    split at hs
    · rename_i x hx1
      obtain ⟨hi, hq⟩ := pSt1_inv hs
      subst hq
      obtain ⟨j, hj⟩ := List.getElem?_of_mem (qAs_mem (b := b) (base := base) hx1)
      exact lv_iinc hx hb d hl.has (k := j) hj rfl (by have := hl.2.1; omega) rfl (fun ls' hl' => k _ _ _ _ (qNx_spec h2 ht) (qLs.st1 (v := .int _) hl hl') hR hS)
    · cases hs
  case iadd =>
    simp only [Bool.and_eq_true, decide_eq_true_eq, beq_iff_eq] at hok
    obtain ⟨d, h1, h2⟩ := hok
    subst h1
    obtain ⟨x, y, r, rfl, h⟩ := pII_inv hs
    have hq := Option.some.inj h
    subst hq
    exact lv_iadd hx hb d (k _ _ _ _ (qNx_spec h2 ht) hl hR hS)
  case isub =>
    simp only [Bool.and_eq_true, decide_eq_true_eq, beq_iff_eq] at hok
    obtain ⟨d, h1, h2⟩ := hok
    subst h1
    obtain ⟨x, y, r, rfl, h⟩ := pII_inv hs
    have hq := Option.some.inj h
    subst hq
    exact lv_isub hx hb d (k _ _ _ _ (qNx_spec h2 ht) hl hR hS)
  case imul =>
    simp only [Bool.and_eq_true, decide_eq_true_eq, beq_iff_eq] at hok
    obtain ⟨d, h1, h2⟩ := hok
    subst h1
    obtain ⟨x, y, r, rfl, h⟩ := pII_inv hs
    have hq := Option.some.inj h
    subst hq
    exact lv_imul hx hb d (k _ _ _ _ (qNx_spec h2 ht) hl hR hS)
  case iand =>
    simp only [Bool.and_eq_true, decide_eq_true_eq, beq_iff_eq] at hok
    obtain ⟨d, h1, h2⟩ := hok
    subst h1
    obtain ⟨x, y, r, rfl, h⟩ := pII_inv hs
    have hq := Option.some.inj h
    subst hq
    exact lv_iand hx hb d (k _ _ _ _ (qNx_spec h2 ht) hl hR hS)
  case ior =>
    simp only [Bool.and_eq_true, decide_eq_true_eq, beq_iff_eq] at hok
    obtain ⟨d, h1, h2⟩ := hok
    subst h1
    obtain ⟨x, y, r, rfl, h⟩ := pII_inv hs
    have hq := Option.some.inj h
    subst hq
    exact lv_ior hx hb d (k _ _ _ _ (qNx_spec h2 ht) hl hR hS)
  case ixor =>
    simp only [Bool.and_eq_true, decide_eq_true_eq, beq_iff_eq] at hok
    obtain ⟨d, h1, h2⟩ := hok
    subst h1
    obtain ⟨x, y, r, rfl, h⟩ := pII_inv hs
    have hq := Option.some.inj h
    subst hq
    exact lv_ixor hx hb d (k _ _ _ _ (qNx_spec h2 ht) hl hR hS)
  case ishl =>
    simp only [Bool.and_eq_true, decide_eq_true_eq, beq_iff_eq] at hok
    obtain ⟨d, h1, h2⟩ := hok
    subst h1
    obtain ⟨x, y, r, rfl, h⟩ := pII_inv hs
    have hq := Option.some.inj h
    subst hq
    exact lv_ishl hx hb d (k _ _ _ _ (qNx_spec h2 ht) hl hR hS)
  case ishr =>
    simp only [Bool.and_eq_true, decide_eq_true_eq, beq_iff_eq] at hok
    obtain ⟨d, h1, h2⟩ := hok
    subst h1
    obtain ⟨x, y, r, rfl, h⟩ := pII_inv hs
    have hq := Option.some.inj h
    subst hq
    exact lv_ishr hx hb d (k _ _ _ _ (qNx_spec h2 ht) hl hR hS)
  case iushr =>
    simp only [Bool.and_eq_true, decide_eq_true_eq, beq_iff_eq] at hok
    obtain ⟨d, h1, h2⟩ := hok
    subst h1
    obtain ⟨x, y, r, rfl, h⟩ := pII_inv hs
    have hq := Option.some.inj h
    subst hq
    exact lv_iushr hx hb d rfl (k _ _ _ _ (qNx_spec h2 ht) hl hR hS)
  case idiv =>
    simp only [Bool.and_eq_true, decide_eq_true_eq, beq_iff_eq] at hok
    obtain ⟨d, h1, h2⟩ := hok
    subst h1
    obtain ⟨x, y, r, rfl, h⟩ := pII_inv hs
    split at h
    · cases h
    · rename_i hne
      have hq := Option.some.inj h
      subst hq
      exact lv_idiv hx hb d hne (k _ _ _ _ (qNx_spec h2 ht) hl hR hS)
  case irem =>
    simp only [Bool.and_eq_true, decide_eq_true_eq, beq_iff_eq] at hok
    obtain ⟨d, h1, h2⟩ := hok
    subst h1
    obtain ⟨x, y, r, rfl, h⟩ := pII_inv hs
    split at h
    · cases h
    · rename_i hne
      have hq := Option.some.inj h
      subst hq
      exact lv_irem hx hb d hne (k _ _ _ _ (qNx_spec h2 ht) hl hR hS)
  case ladd =>
    simp only [Bool.and_eq_true, decide_eq_true_eq, beq_iff_eq] at hok
    obtain ⟨d, h1, h2⟩ := hok
    subst h1
    obtain ⟨x, y, r, rfl, h⟩ := pLL_inv hs
    have hq := Option.some.inj h
    subst hq
    exact lv_ladd hx hb d (k _ _ _ _ (qNx_spec h2 ht) hl hR hS)
  case lmul =>
    simp only [Bool.and_eq_true, decide_eq_true_eq, beq_iff_eq] at hok
    obtain ⟨d, h1, h2⟩ := hok
    subst h1
    obtain ⟨x, y, r, rfl, h⟩ := pLL_inv hs
    have hq := Option.some.inj h
    subst hq
    exact lv_lmul hx hb d (k _ _ _ _ (qNx_spec h2 ht) hl hR hS)
  case lcmp =>
    simp only [Bool.and_eq_true, decide_eq_true_eq, beq_iff_eq] at hok
    obtain ⟨d, h1, h2⟩ := hok
    subst h1
    obtain ⟨x, y, r, rfl, h⟩ := pLL_inv hs
    have hq := Option.some.inj h
    subst hq
    exact W.lcmp hx hb d (k _ _ _ _ (qNx_spec h2 ht) hl hR hS)
  case i2l =>
    simp only [Bool.and_eq_true, decide_eq_true_eq, beq_iff_eq] at hok
    obtain ⟨d, h1, h2⟩ := hok
    subst h1
    obtain ⟨x, r, rfl, h⟩ := pI_inv hs
    have hq := Option.some.inj h
    subst hq
    exact lv_i2l hx hb d rfl (k _ _ _ _ (qNx_spec h2 ht) hl hR hS)
  case i2d =>
    simp only [Bool.and_eq_true, decide_eq_true_eq, beq_iff_eq] at hok
    obtain ⟨d, h1, h2⟩ := hok
    subst h1
    obtain ⟨x, r, rfl, h⟩ := pI_inv hs
    have hq := Option.some.inj h
    subst hq
    exact lv_i2d hx hb d (k _ _ _ _ (qNx_spec h2 ht) hl hR hS)
  case dadd =>
    simp only [Bool.and_eq_true, decide_eq_true_eq, beq_iff_eq] at hok
    obtain ⟨d, h1, h2⟩ := hok
    subst h1
    obtain ⟨x, y, r, rfl, h⟩ := pDD_inv hs
    split at h
    · rename_i hne
      have hq := Option.some.inj h
      subst hq
      exact lv_dadd hx hb d hne (k _ _ _ _ (qNx_spec h2 ht) hl hR hS)
    · cases h
  case ddiv =>
    simp only [Bool.and_eq_true, decide_eq_true_eq, beq_iff_eq] at hok
    obtain ⟨d, h1, h2⟩ := hok
    subst h1
    obtain ⟨x, y, r, rfl, h⟩ := pDD_inv hs
    split at h
    · rename_i hne
      have hq := Option.some.inj h
      subst hq
      exact lv_ddiv hx hb d hne (k _ _ _ _ (qNx_spec h2 ht) hl hR hS)
    · cases h
  case dcmp op =>
    simp only [Bool.and_eq_true, decide_eq_true_eq, beq_iff_eq] at hok
    obtain ⟨d, h1, h2⟩ := hok
    subst h1
    obtain ⟨x, y, r, rfl, h⟩ := pDD_inv hs
    have hq := Option.some.inj h
    subst hq
    exact lv_dcmp hx hb d (k _ _ _ _ (qNx_spec h2 ht) hl hR hS)
  case dup =>
    simp only [Bool.and_eq_true, decide_eq_true_eq, beq_iff_eq] at hok
    obtain ⟨d, h1, h2⟩ := hok
    subst h1
    unfold pStep at hs
    dsimp only at hs
    split at hs
    · split at hs
      · rename_i hv
        have hq := Option.some.inj hs
        subst hq
        exact lv_dup hx hb d (by rw [qSh_cat]; exact hv) (k _ _ _ _ (qNx_spec h2 ht) hl hR hS)
      · cases hs
    · cases hs
  case pop =>
    simp only [Bool.and_eq_true, decide_eq_true_eq, beq_iff_eq] at hok
    obtain ⟨d, h1, h2⟩ := hok
    subst h1
    unfold pStep at hs
    dsimp only at hs
    split at hs
    · split at hs
      · rename_i hv
        have hq := Option.some.inj hs
        subst hq
        exact lv_pop hx hb d (by rw [qSh_cat]; exact hv) (k _ _ _ _ (qNx_spec h2 ht) hl hR hS)
      · cases hs
    · cases hs
  case dup2 =>
    simp only [Bool.and_eq_true, decide_eq_true_eq, beq_iff_eq] at hok
    obtain ⟨d, h1, h2⟩ := hok
    subst h1
    unfold pStep at hs
    dsimp only at hs
    split at hs
    · split at hs
      · rename_i hv
        have hq := Option.some.inj hs
        subst hq
        exact lv_dup2_11 hx hb d (by rw [qSh_cat]; exact hv.1) (by rw [qSh_cat]; exact hv.2) (k _ _ _ _ (qNx_spec h2 ht) hl hR hS)
      · cases hs
    · cases hs
  case goto off =>
    simp only [Bool.and_eq_true, decide_eq_true_eq, beq_iff_eq] at hok
    obtain ⟨d, h1, h2⟩ := hok
    subst h1
    have hq := Option.some.inj hs
    subst hq
    obtain ⟨tgt, g1, g2⟩ := qJp_spec h2
    exact lv_goto hx hb d g1 (k _ _ _ _ g2 hl hR hS)
  case ifCond cond off =>
    simp only [Bool.and_eq_true, decide_eq_true_eq, beq_iff_eq] at hok
    obtain ⟨d, h1, h2, h3⟩ := hok
    subst h1
    obtain ⟨tgt, g1, g2⟩ := qJp_spec h2
    obtain ⟨x, r, rfl, h⟩ := pI_inv hs
    cases cond
    case eq =>
      obtain ⟨kt, kf⟩ := qIf h k hl hR hS g2 (qNx_spec h3 ht)
      exact lv_if_eq hx hb d g1 kt kf
    case ne =>
      obtain ⟨kt, kf⟩ := qIf h k hl hR hS g2 (qNx_spec h3 ht)
      exact lv_if_ne hx hb d g1 kt (fun z => kf (fun y => y z))
    case lt =>
      obtain ⟨kt, kf⟩ := qIf h k hl hR hS g2 (qNx_spec h3 ht)
      exact lv_if_lt hx hb d g1 kt kf
    case ge =>
      obtain ⟨kt, kf⟩ := qIf h k hl hR hS g2 (qNx_spec h3 ht)
      exact lv_if_ge hx hb d g1 kt kf
    case gt =>
      obtain ⟨kt, kf⟩ := qIf h k hl hR hS g2 (qNx_spec h3 ht)
      exact lv_if_gt hx hb d g1 kt kf
    case le =>
      obtain ⟨kt, kf⟩ := qIf h k hl hR hS g2 (qNx_spec h3 ht)
      exact lv_if_le hx hb d g1 kt kf
  case if_icmp cond off =>
    simp only [Bool.and_eq_true, decide_eq_true_eq, beq_iff_eq] at hok
    obtain ⟨d, h1, h2, h3⟩ := hok
    subst h1
    obtain ⟨tgt, g1, g2⟩ := qJp_spec h2
    obtain ⟨x, y, r, rfl, h⟩ := pII_inv hs
    cases cond
    case eq =>
      obtain ⟨kt, kf⟩ := qIf h k hl hR hS g2 (qNx_spec h3 ht)
      exact lv_icmp_eq hx hb d g1 kt kf
    case ne =>
      obtain ⟨kt, kf⟩ := qIf h k hl hR hS g2 (qNx_spec h3 ht)
      exact lv_icmp_ne hx hb d g1 kt (fun z => kf (fun y => y z))
    case lt =>
      obtain ⟨kt, kf⟩ := qIf h k hl hR hS g2 (qNx_spec h3 ht)
      exact lv_icmp_lt hx hb d g1 kt kf
    case ge =>
      obtain ⟨kt, kf⟩ := qIf h k hl hR hS g2 (qNx_spec h3 ht)
      exact lv_icmp_ge hx hb d g1 kt kf
    case gt =>
      obtain ⟨kt, kf⟩ := qIf h k hl hR hS g2 (qNx_spec h3 ht)
      exact lv_icmp_gt hx hb d g1 kt kf
    case le =>
      obtain ⟨kt, kf⟩ := qIf h k hl hR hS g2 (qNx_spec h3 ht)
      exact lv_icmp_le hx hb d g1 kt kf
  case if_acmp cond off =>
    simp only [Bool.and_eq_true, decide_eq_true_eq, beq_iff_eq] at hok
    obtain ⟨d, h1, h2, h3⟩ := hok
    subst h1
    obtain ⟨tgt, g1, g2⟩ := qJp_spec h2
    unfold pStep at hs
    dsimp only at hs
    split at hs
    · rename_i y x r
      cases cond
      case eq =>
        obtain ⟨kt, kf⟩ := qIf hs k hl hR hS g2 (qNx_spec h3 ht)
        exact lv_acmp_eq (rx := some (qAd b base x)) (ry := some (qAd b base y)) hx hb d g1 (fun z => kt (qAd_inj hR.1 (Option.some.inj z))) (fun z => kf (fun w => z (by rw [w])))
      case ne =>
        obtain ⟨kt, kf⟩ := qIf hs k hl hR hS g2 (qNx_spec h3 ht)
        exact lv_acmp_ne (rx := some (qAd b base x)) (ry := some (qAd b base y)) hx hb d g1 (fun z => kt (fun w => z (by rw [w]))) (fun z => kf (fun w => w (qAd_inj hR.1 (Option.some.inj z))))
    · cases hs
  case ifnull off =>
    simp only [Bool.and_eq_true, decide_eq_true_eq, beq_iff_eq] at hok
    obtain ⟨d, h1, h2, h3⟩ := hok
    subst h1
    obtain ⟨tgt, g1, g2⟩ := qJp_spec h2
    unfold pStep at hs
    dsimp only at hs
    split at hs
    · have hq := Option.some.inj hs
      subst hq
      exact lv_ifnull hx hb d (k _ _ _ _ (qNx_spec h3 ht) hl hR hS)
    · have hq := Option.some.inj hs
      subst hq
      exact lv_ifnullN hx hb d g1 (k _ _ _ _ g2 hl hR hS)
    · cases hs
  case ifnonnull off =>
    simp only [Bool.and_eq_true, decide_eq_true_eq, beq_iff_eq] at hok
    obtain ⟨d, h1, h2, h3⟩ := hok
    subst h1
    obtain ⟨tgt, g1, g2⟩ := qJp_spec h2
    unfold pStep at hs
    dsimp only at hs
    split at hs
    · have hq := Option.some.inj hs
      subst hq
      exact lv_ifnonnull hx hb d g1 (k _ _ _ _ g2 hl hR hS)
    · have hq := Option.some.inj hs
      subst hq
      exact lv_ifnonnullN hx hb d (k _ _ _ _ (qNx_spec h3 ht) hl hR hS)
    · cases hs
  case getfield idx =>
    exact q_getfield F hok ht hk hs hl hR hS hA hc hz hC hZ k
  case putfield idx =>
    exact q_putfield F hok ht hk hs hl hR hS hA hc hz hC hZ k
  case arraylength =>
    exact q_arraylength F hok ht hk hs hl hR hS hA hc hz hC hZ k
  case iaload =>
    exact q_iaload F hok ht hk hs hl hR hS hA hc hz hC hZ k
  case laload =>
    exact q_laload F hok ht hk hs hl hR hS hA hc hz hC hZ k
  case baload =>
    exact q_baload F hok ht hk hs hl hR hS hA hc hz hC hZ k
  case aaload =>
    exact q_aaload F hok ht hk hs hl hR hS hA hc hz hC hZ k
  case iastore =>
    exact q_iastore F hok ht hk hs hl hR hS hA hc hz hC hZ k
  case lastore =>
    exact q_lastore F hok ht hk hs hl hR hS hA hc hz hC hZ k
  case bastore =>
    exact q_bastore F hok ht hk hs hl hR hS hA hc hz hC hZ k
  case aastore =>
    exact q_aastore F hok ht hk hs hl hR hS hA hc hz hC hZ k
  case new idx =>
    exact q_new F hok ht hk hs hl hR hS hA hc hz hC hZ k
  case newarray at_ =>
    exact q_newarray F hok ht hk hs hl hR hS hA hc hz hC hZ k
  case anewarray idx =>
    exact q_anewarray F hok ht hk hs hl hR hS hA hc hz hC hZ k
  case multianewarray idx dm =>
    exact q_multianewarray F hok ht hk hs hl hR hS hA hc hz hC hZ k
  case ldc idx =>
    exact q_ldc F hok ht hk hs hl hR hS hA hc hz hC hZ k
  case ldc_w idx =>
    exact q_ldc_w F hok ht hk hs hl hR hS hA hc hz hC hZ k
  case ldc2_w idx =>
    exact q_ldc2_w F hok ht hk hs hl hR hS hA hc hz hC hZ k
  all_goals (first | (exact absurd hs (by simp [pStep])) | (exact absurd hk (by simp [pKind])))

end QSTEPC
end
section
/-! ===== A METHOD'S ENTRY, ITS CONTRACT ===== -/
theorem qEnt_len (b base : Nat) : ∀ av : List Value, (lg_sl (av.map (qSh b base))).length = (pEnt av).length
  | [] => rfl
  | v :: vs => by
    have ih := qEnt_len b base vs
    unfold lg_sl at ih ⊢
    unfold pEnt
    simp only [List.map_cons, List.flatMap_cons, List.length_append, qSh_cat]
    split <;> simp [ih] <;> omega
theorem qEnt_mem (b base : Nat) : ∀ (av : List Value) (k j : Nat) (v : Value), (pEnt av)[j]? = some (some v) → (k + j, qSh b base v) ∈ lv_args k (av.map (qSh b base))
  | [], _, _, _, h => by simp [pEnt] at h
  | w :: ws, k, j, v, h => by
    unfold pEnt at h
    simp only [List.map_cons, lv_args, qSh_cat]
    split at h
    · rename_i hc
      rw [if_pos hc]
      match j, h with
      | 0, h =>
        simp at h
        subst h
        exact List.mem_cons_self
      | 1, h => simp at h
      | j + 2, h =>
        simp only [List.getElem?_cons_succ] at h
        have h1 := qEnt_mem b base ws (k + 2) j v h
        rw [show k + 2 + j = k + (j + 2) by omega] at h1
        exact List.mem_cons_of_mem _ h1
    · rename_i hc
      rw [if_neg hc]
      match j, h with
      | 0, h =>
        simp at h
        subst h
        exact List.mem_cons_self
      | j + 1, h =>
        simp only [List.getElem?_cons_succ] at h
        have h1 := qEnt_mem b base ws (k + 1) j v h
        rw [show k + 1 + j = k + (j + 1) by omega] at h1
        exact List.mem_cons_of_mem _ h1
/-- the locals at the entry -/
theorem qEntry {b base nL : Nat} {av : List Value} (h : (pEnt av).length ≤ nL) : qLs b base nL ((lg_sl (av.map (qSh b base)) ++ List.replicate (nL - (lg_sl (av.map (qSh b base))).length) Slot.unset).toArray) (pEntry nL av) := by
  have h1 := lv_entry (av.map (qSh b base)) (n := nL) (by rw [qEnt_len]; exact h)
  refine ⟨h1.1, ?_, h1.2.1, fun i v hv => ?_⟩
  · unfold pEntry
    simp
    omega
  · unfold pEntry at hv
    have hv' : (pEnt av)[i]? = some (some v) := by
      by_cases hi : i < (pEnt av).length
      · rw [List.getElem?_append_left hi] at hv
        exact hv
      · rw [List.getElem?_append_right (by omega)] at hv
        rw [List.getElem?_replicate] at hv
        split at hv
        · cases Option.some.inj hv
        · cases hv
    have h2 := qEnt_mem b base av 0 i v hv'
    rw [Nat.zero_add] at h2
    exact h1.2.2 _ h2
/-- the word of a method's code -/
def qCode (y : MethodName) (cc : ByteArray) (maxL : Nat) (ret : Option FieldType) (hh : List (Nat × Nat × Nat × Nat)) : Cond := match hh with
  | [] => Cond.code y cc maxL ret
  | h :: t => Cond.codeWith y cc maxL ret (h :: t)
theorem qOfW {l : Launch} {y : MethodName} {ws' : List Cond} {rm : Room} {Pc : Array Value → State → Prop} {Qc : Array Value → State → Outcome → State → Prop} {mc ms : Nat} {free : Addr → Prop} {cc : ByteArray} {maxL : Nat} {ret : Option FieldType} {hh : List (Nat × Nat × Nat × Nat)}
    (hy : plainName y.cls = true)
    (body : ∀ p e s m args below meth c s₁, BodyLoose p l y (headSpec (qCode y cc maxL ret hh :: ws') rm) cc maxL ret e s m args below meth c s₁ → c.maxLocals = maxL → c.exceptionTable.toList = tableOf hh → Pc args s →
      W p l e rm s m args below meth c s.heap [] 0 0 (MQ below Qc args s mc ms free) (entryFrame m args maxL)) : Met l y (qCode y cc maxL ret hh :: ws') rm Pc Qc mc ms free := by
  refine MetFree.of_bodyS (code := cc) (maxLocals := maxL) (ret := ret) hy ?_ ?_
  · intro args s m h hn
    have hw := atoms_spec (ws := qCode y cc maxL ret hh :: ws') h _ List.mem_cons_self
    cases hh with
    | nil =>
      obtain ⟨meth, c, h1, h2, h3, h4, h5, h6, -, -⟩ := Cond.code_spec hn hw
      exact ⟨meth, c, h1, h2, h3, h4, h5, h6⟩
    | cons x t =>
      obtain ⟨m9, meth, c, hn9, h1, h2, h3, h4, -, h5, h6, -⟩ := Cond.codeWith_spec hw
      cases hn.symm.trans hn9
      exact ⟨meth, c, h1, h2, h3, h4, h5, h6⟩
  · intro p e s m args below meth c s₁ B hml hP _
    have hh0 : s₁.heap = s.heap := by rw [B.state]; rfl
    have hw := atoms_spec (ws := qCode y cc maxL ret hh :: ws') B.pre _ List.mem_cons_self
    have ht : c.exceptionTable.toList = tableOf hh := by
      cases hh with
      | nil =>
        obtain ⟨meth9, c9, h1, h2, -, -, -, -, h7, -⟩ := Cond.code_spec B.named hw
        cases Option.some.inj (h1.symm.trans B.method)
        cases Option.some.inj (h2.symm.trans (Stand.of_body B).code)
        rw [Array.isEmpty_iff.mp h7]
        rfl
      | cons x t => exact vx_table (x := y) B hw
    obtain ⟨t, a1, o, b1, b2, b3⟩ := body p e s m args below meth c s₁ B hml ht hP s₁ hh0 (Stand.of_body B)
    exact ⟨t, o, a1, b1, b2, ⟨b3.1, b3.2⟩⟩
/-- a method's start, its answer, its exception -/
def qPc (D : va_G) (dA : Nat → ClassId) (b base : Nat) (av : List Value) (g : PS) : Array Value → State → Prop := fun v U => v = (av.map (qSh b base)).toArray ∧ qCtx D dA base U ∧ qRel D dA b base g U.heap
def qQr (D : va_G) (dA : Nat → ClassId) (b base : Nat) (v : Option Value) (g' : PS) : Array Value → State → Outcome → State → Prop := fun _ st oc t => oc = .returned (v.map (qSh b base)) ∧ qRel D dA b base g' t.heap ∧ va_F (qA base) st t
def qXr (D : va_G) (dA : Nat → ClassId) (b base : Nat) (e : Nat) (g' : PS) : String → State → State → Prop := fun E st t => E = qEx e ∧ qRel D dA b base g' t.heap ∧ va_F (qA base) st t
theorem qPc_blind {D : va_G} {dA : Nat → ClassId} {b base : Nat} {av : List Value} {g : PS} : FrameBlind (qPc D dA b base av g) := fun a U gf mk h =>
  ⟨h.1, qCtx.moved (U := U.calling gf mk a) h.2.1 (State.WarmedH.refl U) h.2.1.2.2.2.2.1 (fun _ _ _ => rfl), h.2.2⟩
/-- the run only adds cells -/
theorem pStep_mono {ins : Instr} {nx r1 r2 : Nat} {ls : PV} {st : List Value} {g : PS} {q : PR} (h : pStep ins nx r1 r2 ls st g = some q) : pC g ≤ pC q.2.2.2 ∧ pZ g ≤ pZ q.2.2.2 := by
  have refl : pC g ≤ pC g ∧ pZ g ≤ pZ g := ⟨Nat.le_refl _, Nat.le_refl _⟩
  have hnew : ∀ kd ln z row, pC g ≤ pC (pNew g kd ln z row) ∧ pZ g ≤ pZ (pNew g kd ln z row) := fun kd ln z row => ⟨Nat.le_succ _, Nat.le_add_right _ _⟩
  have hmul : ∀ n k, pC g ≤ pC (pMul g n k) ∧ pZ g ≤ pZ (pMul g n k) := fun n k => ⟨Nat.le_add_right _ _, Nat.le_add_right _ _⟩
  unfold pStep at h
  split at h
  all_goals (try unfold pII at h)
  all_goals (try unfold pI at h)
  all_goals (try unfold pLL at h)
  all_goals (try unfold pDD at h)
  all_goals (try unfold pLdI at h)
  all_goals (try unfold pLdL at h)
  all_goals (try unfold pLdD at h)
  all_goals (try unfold pLdA at h)
  all_goals (try unfold pSt1 at h)
  all_goals (try unfold pSt2 at h)
  all_goals (try unfold pIf at h)
  all_goals (repeat' (split at h))
  all_goals (first | (cases h; done) | (cases h; exact refl) | (cases h; exact hnew _ _ _ _) | (cases h; exact hmul _ _) | skip)
  all_goals (try dsimp only at h)
  all_goals (try unfold pSt1 at h)
  all_goals (try unfold pSt2 at h)
  all_goals (try unfold pIf at h)
  all_goals (repeat' (split at h))
  all_goals (first | (cases h; done) | (cases h; exact refl) | (cases h; exact hnew _ _ _ _) | (cases h; exact hmul _ _))
theorem pRun_mono (PT : Nat → PMet) : ∀ (n m i : Nat) (ls : PV) (st : List Value) (g : PS) (o : PO) (g' : PS), pRun PT n m i ls st g = some (o, g') → pC g ≤ pC g' ∧ pZ g ≤ pZ g'
  | 0, _, _, _, _, _, _, _, h => by cases h
  | n + 1, m, i, ls, st, g, o, g', h => by
    have ih := pRun_mono PT n
    unfold pRun at h
    split at h
    · cases h
    · rename_i r hr
      split at h
      · -- plain
        split at h
        · cases h
        · rename_i q hq
          have h1 := pStep_mono hq
          have h2 := ih _ _ _ _ _ _ _ h
          exact ⟨Nat.le_trans h1.1 h2.1, Nat.le_trans h1.2 h2.2⟩
      · split at h
        · cases h
        · cases h
          exact ⟨Nat.le_refl _, Nat.le_refl _⟩
      · split at h
        · cases h
        · split at h
          · split at h
            · cases h
            · rename_i v g1 h1
              have h2 := ih _ _ _ _ _ _ _ h1
              have h3 := ih _ _ _ _ _ _ _ h
              exact ⟨Nat.le_trans h2.1 h3.1, Nat.le_trans h2.2 h3.2⟩
            · rename_i e g1 h1
              have h2 := ih _ _ _ _ _ _ _ h1
              split at h
              · split at h
                · split at h
                  · cases h
                    exact h2
                  · cases h
                · split at h
                  · cases h
                  · split at h
                    · cases h
                    · have h3 := ih _ _ _ _ _ _ _ h
                      exact ⟨Nat.le_trans h2.1 h3.1, Nat.le_trans h2.2 h3.2⟩
              · cases h
          · cases h
      · split at h
        · cases h
          exact ⟨Nat.le_add_right _ _, Nat.le_add_right _ _⟩
        · cases h
      · split at h
        · split at h
          · exact ih _ _ _ _ _ _ _ h
          · cases h
        · cases h
      · split at h
        · cases h
        · rename_i q hq
          split at h
          · have h2 := ih _ _ _ _ _ _ _ h
            unfold pAcp at hq
            split at hq
            · split at hq
              · cases hq
                exact h2
              · cases hq
            · cases hq
          · cases h
      · split at h
        · cases h
        · split at h
          · cases h
          · exact ih _ _ _ _ _ _ _ h
      · split at h
        · split at h
          · exact ih _ _ _ _ _ _ _ h
          · cases h
        · cases h
      · cases h
/-- who throws has no handlers -/
theorem pRun_inr (PT : Nat → PMet) : ∀ (n m i : Nat) (ls : PV) (st : List Value) (g : PS) (e : Nat) (g' : PS), pRun PT n m i ls st g = some (.inr e, g') → (PT m).2.2.2.1 = []
  | 0, _, _, _, _, _, _, _, h => by cases h
  | n + 1, m, i, ls, st, g, e, g', h => by
    have ih := pRun_inr PT n
    unfold pRun at h
    split at h
    · cases h
    · split at h
      · split at h
        · cases h
        · exact ih _ _ _ _ _ _ _ h
      · split at h
        · cases h
        · cases h
      · split at h
        · cases h
        · split at h
          · split at h
            · cases h
            · exact ih _ _ _ _ _ _ _ h
            · split at h
              · split at h
                · split at h
                  · rename_i hn
                    exact List.isEmpty_iff.mp hn
                  · cases h
                · split at h
                  · cases h
                  · split at h
                    · cases h
                    · exact ih _ _ _ _ _ _ _ h
              · cases h
          · cases h
      · split at h
        · rename_i hn
          exact List.isEmpty_iff.mp hn.2
        · cases h
      · split at h
        · split at h
          · exact ih _ _ _ _ _ _ _ h
          · cases h
        · cases h
      · split at h
        · cases h
        · split at h
          · exact ih _ _ _ _ _ _ _ h
          · cases h
      · split at h
        · cases h
        · split at h
          · cases h
          · exact ih _ _ _ _ _ _ _ h
      · split at h
        · split at h
          · exact ih _ _ _ _ _ _ _ h
          · cases h
        · cases h
      · cases h
end
section
/-! ===== A THROW, with the heap said exactly (the kit's vx_throwS, vx_throwSW, turned: their proofs, one number more) ===== -/
section QTHROW
variable {p : Program} {l : Launch} {e : Env} {R : Room} {s : State} {m : MethodId} {args : Array Value} {below : List Frame} {meth : Method} {c : Code} {H : Heap} {locs : List Loc} {cells slots : Nat} {Q : State → Prop}
variable {mc ms : Nat} {free : Addr → Prop} {A0 A1 : Nat → Prop} {H0 : Heap} {a : Array Value} {ls : Array Slot} {st0 rest : List Value}
variable {Qc : Array Value → State → Outcome → State → Prop} {XC : String → State → State → Prop}
theorem qx_throwS {cc : ByteArray} {pc : Nat} (hexec : p.tables.exec = Jvm.exec) (hb : c.code = cc) (hl : l.stackTraces = false) {own cls text : String} {names : List String} {ik is ic mc ms sa : Nat} {A : Nat → Prop}
    (hown : s.vm.findClass own = some m.cls) (hcls : Bundle.fit cls = true) (hnames : ∀ n ∈ names, Bundle.fit n = true)
    (hk : (Cond.classLink own ik cls).before args s = true) (hini : (Cond.initialized cls).before args s = true) (hstr : vk_R own is text sa s) (hat : ∀ w ∈ vx_atS own ic cls names, w.before args s = true)
    (hgood : ∀ w ∈ Cond.classLink own ik cls :: Cond.initialized cls :: vx_atS own ic cls names, vx_ot w = true)
    (hU : vx_Zq Bundle.tN "UNASSIGNED_STACK" Bundle.steD A s s.heap) (hN : vx_Zq Bundle.tN "SUPPRESSED_SENTINEL" Bundle.listD A s s.heap) (hS : va_S A s.heap H locs) (hsize : ls.size = c.maxLocals)
    (d0 : decode cc pc = .ok (.new ik, 3)) (d3 : decode cc (pc + 3) = .ok (.dup, 1)) (d4 : decode cc (pc + 4) = .ok (.ldc is, 2)) (d6 : decode cc (pc + 6) = .ok (.invokespecial ic, 3)) (d9 : decode cc (pc + 9) = .ok (.athrow, 1))
    (hout : ∀ x ∈ c.exceptionTable.toList, covers x (pc + 9) = false)
    (hRframes : names.length + 3 < R.frames) (hRlocals : (rest.map fun v => v.category).sum + (13 * (names.length + 1) + 43) ≤ R.locals) (hRcells : cells + 1 ≤ R.cells) (hRslots : slots + 6 ≤ R.slots) (hlocks : meth.locks = false)
    (hx : ∀ t : State, s.vm.Alike t.vm → t.heap.size = H.size + 1 → (∀ q : Nat, q < H.size → t.heap[q]? = H[q]?) → XC cls s t)
    (hf : ∀ z ∈ locs, free z.base) (hc : cells + 1 ≤ mc) (hs : slots + 6 ≤ ms) :
    W p l e R s m args below meth c H locs cells slots (vx_MQ below Qc XC args s mc ms free) (F0 m pc ls rest) := by
  intro T hT X
  have htr : e.platform.stackTraces = false := (show e.platform.stackTraces = l.stackTraces by rw [X.admits.platform]).trans hl
  have Y := vx_rebase X (R' := { frames := R.frames, locals := R.locals, cells := 1, slots := 6 }) (Nat.le_refl _) (Nat.le_refl _) hRcells hRslots
  obtain ⟨s', hA⟩ : ∃ z, z = (T.setVm s.vm).setFrames (.invoking m args :: below) := ⟨_, rfl⟩
  rw [← hA] at Y
  have hvm : s'.vm = s.vm := by rw [hA]; rfl
  have hhp : s'.heap = H := by rw [hA]; exact hT
  have hW0 : s.WarmedH s'.vm := by rw [hvm]; exact State.WarmedH.refl s
  have hat' : ∀ w ∈ vx_atS own ic cls names, w.before args s' = true := fun w hw => vx_ot_at hW0 hvm.symm (hgood w (List.mem_cons_of_mem _ (List.mem_cons_of_mem _ hw))) (hat w hw)
  have hk' : (Cond.classLink own ik cls).before args s' = true := vx_ot_at hW0 hvm.symm (hgood _ List.mem_cons_self) hk
  have hini' : (Cond.initialized cls).before args s' = true := vx_ot_at hW0 hvm.symm (hgood _ (List.mem_cons_of_mem _ List.mem_cons_self)) hini
  have hU' : vx_Zq Bundle.tN "UNASSIGNED_STACK" Bundle.steD A s' s'.heap := by rw [hhp]; exact vx_Zq.moved hW0.alike (hU.kept hS.2.1)
  have hN' : vx_Zq Bundle.tN "SUPPRESSED_SENTINEL" Bundle.listD A s' s'.heap := by rw [hhp]; exact vx_Zq.moved hW0.alike (hN.kept hS.2.1)
  have h : ∀ w ∈ Bundle.ownAtoms own ic cls names, w.before args s' = true := vx_own hat' (vx_isRefq hU'.1) (vx_isRefq hN'.1) hU'.2.word hN'.2.word
  have hown' : s'.vm.findClass own = some m.cls := by rw [hvm]; exact hown
  have hins : (Cond.instantiable cls 6).before args s' = true := h _ (by simp [Bundle.ownAtoms])
  obtain ⟨vm₁, cX, kX, hfX, hkX, -, -, X₁, st1⟩ := Y.newCold hexec (own := own) (C := cls) (index := ik) (n := 6) hown' hk' hins hini'
    (g := F0 m pc ls rest) rfl (by rw [hb]; exact d0) (Nat.le_refl _) (Nat.le_refl _)
  generalize hT1 : (T.setVm vm₁).pushCell { cls := cX, slots := kX.instanceTypes.map defaultValue, vm := .none } = T1 at X₁ st1
  have hcat : (Value.ref T.heap.size).category = 1 := rfl
  have hcellA : T1.heap[T.heap.size]? = some (freshCell cX kX) := by rw [← hT1]; exact State.heap_pushCell_size _ _
  have d3' : decode c.code (pc + 3) = .ok (.dup, 1) := by rw [hb]; exact d3
  have d4' : decode c.code (pc + 4) = .ok (.ldc is, 2) := by rw [hb]; exact d4
  have hstr' : vk_R own is text sa s' := vk_R.warm hW0 hstr
  obtain ⟨U, hsteps, hrun, hend, hW, hsame, ce, hce, hO⟩ := X₁.ctorThrowS hexec htr (own := own) (cls := cls) (names := names) (ic := ic) hown' hcls hnames h (fun x hx => nomatch hx) hfX hkX hcellA (by rw [hhp, hT]; exact Nat.le_refl _) (msg := .ref sa) rfl
    (g := { method := m, pc := pc + 6, locals := ls, stack := .ref sa :: .ref T.heap.size :: .ref T.heap.size :: rest, locked := none }) rfl hsize rfl rfl (rest := rest) rfl
    (by rw [hb]; exact d6) (by rw [hb]; exact d9) hout hRframes (by simp only [List.map_cons, List.sum_cons, hcat]; omega) hlocks
  obtain ⟨f1, f2⟩ := vx_frame hsame
  rw [hhp] at f1 f2
  have hsz9 : U.heap.size = H.size + 1 := by
    have g1 : U.heap.size ≤ s'.heap.size + (0 + 1) := hsame.2.2.1
    have g2 : T.heap.size < U.heap.size := (Array.getElem?_eq_some_iff.mp hce).1
    rw [hhp] at g1
    rw [hT] at g2
    omega
  have hWs : s.WarmedH U.vm := State.WarmedH.trans hW0 hW
  have hcl : s.vm.findClass cls = some ce.cls := by
    have h9 := hO.cls
    rw [hvm] at h9
    exact h9
  have hall : s.sameButNew ({ U with vm := s.vm } : State) locs mc ms := by
    subst hA
    obtain ⟨e1, e2⟩ := hsame
    rw [State.setFrames_setFrames] at e1
    have h2 : (T.setVm s.vm).sameButNew ({ U with vm := s.vm } : State) [] (0 + 1) (0 + 6) := ⟨e1, e2⟩
    have h3 := X.same.trans h2
    rw [List.append_nil] at h3
    exact h3.mono hc hs
  refine ⟨U, ?_, .threw T.heap.size, hrun, hend, Or.inr ⟨T.heap.size, rfl, cls, ce, locs, hx U hWs.alike hsz9 (fun q hq => f2 q hq (fun z hz => nomatch hz)), hce, hO.vm, hcl, hWs, hall, hf⟩⟩
  refine st1 _ ?_
  show Steps p.tables e below (T1.setTop { method := m, pc := pc + 3, locals := ls, stack := .ref T.heap.size :: rest, locked := none }) _
  jvm_step X₁.here [X₁.here.top, hexec, d3', Value.category]
  exact X₁.ldcString hexec (own := own) (text := text) (index := is) (a := sa) hown' hstr'.1 hstr'.2
    (g := { method := m, pc := pc + 4, locals := ls, stack := .ref T.heap.size :: .ref T.heap.size :: rest, locked := none }) rfl d4' _ hsteps
theorem qx_throwSW {cc : ByteArray} {pc : Nat} (hexec : p.tables.exec = Jvm.exec) (hb : c.code = cc) (hl : l.stackTraces = false) {own cls text : String} {names : List String} {ik is ic mc ms sa : Nat} {A : Nat → Prop}
    (hown : s.vm.findClass own = some m.cls) (hcls : Bundle.fit cls = true) (hnames : ∀ n ∈ names, Bundle.fit n = true)
    (hk : (Cond.classLink own ik cls).before args s = true) (hini : (Cond.initialized cls).before args s = true) (hstr : vk_R own is text sa s) (hat : ∀ w ∈ vx_atS own ic cls names, w.before args s = true)
    (hgood : ∀ w ∈ Cond.classLink own ik cls :: Cond.initialized cls :: vx_atS own ic cls names, vx_ot w = true)
    (hU : vx_Zq Bundle.tN "UNASSIGNED_STACK" Bundle.steD A s s.heap) (hN : vx_Zq Bundle.tN "SUPPRESSED_SENTINEL" Bundle.listD A s s.heap) (hS : va_S A s.heap H locs) (hsize : ls.size = c.maxLocals)
    (d0 : decode cc pc = .ok (.new ik, 3)) (d3 : decode cc (pc + 3) = .ok (.dup, 1)) (d4 : decode cc (pc + 4) = .ok (.ldc_w is, 3)) (d7 : decode cc (pc + 7) = .ok (.invokespecial ic, 3)) (d10 : decode cc (pc + 10) = .ok (.athrow, 1))
    (hout : ∀ x ∈ c.exceptionTable.toList, covers x (pc + 10) = false)
    (hRframes : names.length + 3 < R.frames) (hRlocals : (rest.map fun v => v.category).sum + (13 * (names.length + 1) + 43) ≤ R.locals) (hRcells : cells + 1 ≤ R.cells) (hRslots : slots + 6 ≤ R.slots) (hlocks : meth.locks = false)
    (hx : ∀ t : State, s.vm.Alike t.vm → t.heap.size = H.size + 1 → (∀ q : Nat, q < H.size → t.heap[q]? = H[q]?) → XC cls s t)
    (hf : ∀ z ∈ locs, free z.base) (hc : cells + 1 ≤ mc) (hs : slots + 6 ≤ ms) :
    W p l e R s m args below meth c H locs cells slots (vx_MQ below Qc XC args s mc ms free) (F0 m pc ls rest) := by
  intro T hT X
  have htr : e.platform.stackTraces = false := (show e.platform.stackTraces = l.stackTraces by rw [X.admits.platform]).trans hl
  have Y := vx_rebase X (R' := { frames := R.frames, locals := R.locals, cells := 1, slots := 6 }) (Nat.le_refl _) (Nat.le_refl _) hRcells hRslots
  obtain ⟨s', hA⟩ : ∃ z, z = (T.setVm s.vm).setFrames (.invoking m args :: below) := ⟨_, rfl⟩
  rw [← hA] at Y
  have hvm : s'.vm = s.vm := by rw [hA]; rfl
  have hhp : s'.heap = H := by rw [hA]; exact hT
  have hW0 : s.WarmedH s'.vm := by rw [hvm]; exact State.WarmedH.refl s
  have hat' : ∀ w ∈ vx_atS own ic cls names, w.before args s' = true := fun w hw => vx_ot_at hW0 hvm.symm (hgood w (List.mem_cons_of_mem _ (List.mem_cons_of_mem _ hw))) (hat w hw)
  have hk' : (Cond.classLink own ik cls).before args s' = true := vx_ot_at hW0 hvm.symm (hgood _ List.mem_cons_self) hk
  have hini' : (Cond.initialized cls).before args s' = true := vx_ot_at hW0 hvm.symm (hgood _ (List.mem_cons_of_mem _ List.mem_cons_self)) hini
  have hU' : vx_Zq Bundle.tN "UNASSIGNED_STACK" Bundle.steD A s' s'.heap := by rw [hhp]; exact vx_Zq.moved hW0.alike (hU.kept hS.2.1)
  have hN' : vx_Zq Bundle.tN "SUPPRESSED_SENTINEL" Bundle.listD A s' s'.heap := by rw [hhp]; exact vx_Zq.moved hW0.alike (hN.kept hS.2.1)
  have h : ∀ w ∈ Bundle.ownAtoms own ic cls names, w.before args s' = true := vx_own hat' (vx_isRefq hU'.1) (vx_isRefq hN'.1) hU'.2.word hN'.2.word
  have hown' : s'.vm.findClass own = some m.cls := by rw [hvm]; exact hown
  have hins : (Cond.instantiable cls 6).before args s' = true := h _ (by simp [Bundle.ownAtoms])
  obtain ⟨vm₁, cX, kX, hfX, hkX, -, -, X₁, st1⟩ := Y.newCold hexec (own := own) (C := cls) (index := ik) (n := 6) hown' hk' hins hini'
    (g := F0 m pc ls rest) rfl (by rw [hb]; exact d0) (Nat.le_refl _) (Nat.le_refl _)
  generalize hT1 : (T.setVm vm₁).pushCell { cls := cX, slots := kX.instanceTypes.map defaultValue, vm := .none } = T1 at X₁ st1
  have hcat : (Value.ref T.heap.size).category = 1 := rfl
  have hcellA : T1.heap[T.heap.size]? = some (freshCell cX kX) := by rw [← hT1]; exact State.heap_pushCell_size _ _
  have d3' : decode c.code (pc + 3) = .ok (.dup, 1) := by rw [hb]; exact d3
  have d4' : decode c.code (pc + 4) = .ok (.ldc_w is, 3) := by rw [hb]; exact d4
  have hstr' : vk_R own is text sa s' := vk_R.warm hW0 hstr
  obtain ⟨U, hsteps, hrun, hend, hW, hsame, ce, hce, hO⟩ := X₁.ctorThrowS hexec htr (own := own) (cls := cls) (names := names) (ic := ic) hown' hcls hnames h (fun x hx => nomatch hx) hfX hkX hcellA (by rw [hhp, hT]; exact Nat.le_refl _) (msg := .ref sa) rfl
    (g := { method := m, pc := pc + 7, locals := ls, stack := .ref sa :: .ref T.heap.size :: .ref T.heap.size :: rest, locked := none }) rfl hsize rfl rfl (rest := rest) rfl
    (by rw [hb]; exact d7) (by rw [hb]; exact d10) hout hRframes (by simp only [List.map_cons, List.sum_cons, hcat]; omega) hlocks
  obtain ⟨f1, f2⟩ := vx_frame hsame
  rw [hhp] at f1 f2
  have hsz9 : U.heap.size = H.size + 1 := by
    have g1 : U.heap.size ≤ s'.heap.size + (0 + 1) := hsame.2.2.1
    have g2 : T.heap.size < U.heap.size := (Array.getElem?_eq_some_iff.mp hce).1
    rw [hhp] at g1
    rw [hT] at g2
    omega
  have hWs : s.WarmedH U.vm := State.WarmedH.trans hW0 hW
  have hcl : s.vm.findClass cls = some ce.cls := by
    have h9 := hO.cls
    rw [hvm] at h9
    exact h9
  have hall : s.sameButNew ({ U with vm := s.vm } : State) locs mc ms := by
    subst hA
    obtain ⟨e1, e2⟩ := hsame
    rw [State.setFrames_setFrames] at e1
    have h2 : (T.setVm s.vm).sameButNew ({ U with vm := s.vm } : State) [] (0 + 1) (0 + 6) := ⟨e1, e2⟩
    have h3 := X.same.trans h2
    rw [List.append_nil] at h3
    exact h3.mono hc hs
  refine ⟨U, ?_, .threw T.heap.size, hrun, hend, Or.inr ⟨T.heap.size, rfl, cls, ce, locs, hx U hWs.alike hsz9 (fun q hq => f2 q hq (fun z hz => nomatch hz)), hce, hO.vm, hcl, hWs, hall, hf⟩⟩
  refine st1 _ ?_
  show Steps p.tables e below (T1.setTop { method := m, pc := pc + 3, locals := ls, stack := .ref T.heap.size :: rest, locked := none }) _
  jvm_step X₁.here [X₁.here.top, hexec, d3', Value.category]
  exact X₁.ldcStringW hexec (own := own) (text := text) (index := is) (a := sa) hown' hstr'.1 hstr'.2
    (g := { method := m, pc := pc + 4, locals := ls, stack := .ref T.heap.size :: .ref T.heap.size :: rest, locked := none }) rfl d4' _ hsteps
end QTHROW
/-! ===== System.arraycopy ===== -/
theorem arrV_congr {cA : ClassId} {n : Nat} {f g : Nat → Value} (h : ∀ j, j < n → f j = g j) : arrV cA n f = arrV cA n g := by
  unfold arrV
  congr 1
  apply Array.ext
  · simp
  · intro j h1 h2
    simp only [Array.getElem_ofFn]
    exact h j (by simpa using h1)
section QACP
variable {p : Program} {l : Launch} {e : Env} {R : Room} {s : State} {m : MethodId} {args : Array Value} {below : List Frame} {meth : Method} {c : Code} {H : Heap} {locs : List Loc} {cells slots : Nat} {Q : State → Prop}
variable {D : va_G} {dA : Nat → ClassId} {b base o nL fr lo : Nat} {init : Bool} {bc : ByteArray} {all tl : List PRow} {i pc : Nat} {lsM : Array Slot} {ls : PV} {st : List Value} {g : PS}
theorem qAcpN : Cond.native arraycopyName ∈ qTs := qTs_of (qGet_mem (x := 1172) (by decide +kernel)) rfl
theorem qAcpS : Cond.static arraycopyName ∈ qTs := qTs_of (qGet_mem (x := 1171) (by decide +kernel)) rfl
theorem qAcpI : Cond.initialized "java/lang/System" ∈ qTs := qTs_of (qGet_mem (x := 1007) (by decide +kernel)) rfl
theorem qSm {r : List Value} (h : r.length ≤ 4 ∨ (r.map fun v => v.category).sum ≤ 8) : ((r.map (qSh b base)).map fun v => v.category).sum ≤ 8 := by
  have e : (r.map (qSh b base)).map (fun v => v.category) = r.map (fun v => v.category) := by
    rw [List.map_map]
    exact List.map_congr_left fun v _ => qSh_cat _ _ v
  rw [e]
  rcases h with h | h
  · have key : ∀ r : List Value, (r.map fun v => v.category).sum ≤ 2 * r.length := by
      intro r
      induction r with
      | nil => exact Nat.le_refl _
      | cons v t ih =>
        have := lv_cat v
        simp only [List.map_cons, List.sum_cons, List.length_cons]
        omega
    have := key r
    omega
  · exact h
def pInt (v : Value) : Int32 := match v with | .int x => x | _ => 0
theorem qTyp.ints {a : Nat} (h : qTyp g a) (hk : pK g a = 12 ∨ pK g a = 13) (b base : Nat) : ∀ j, j < pL g a → qSh b base (pM g a j) = .int (pInt (pM g a j)) := by
  intro j hj
  rcases hk with z | z
  · obtain ⟨x, hx⟩ := h.1 z j hj
    rw [hx]; rfl
  · rcases h.2 z j hj with hx | hx <;> rw [hx] <;> rfl
/-- the pure heap behind a copy -/
theorem qCpy {a d i j n : Nat} {H' : Heap} (hR : qRel D dA b base g H) (ha : pK g a = 12 ∨ pK g a = 13) (hd : pK g d = pK g a) (hi : i + n ≤ pL g a) (hlt : d < pN g)
    (e1 : H'[qAd b base d]? = some (arrV (dA (pK g d)) (pL g d) (fun q => if j ≤ q ∧ q < j + n then qSh b base (pM g a (i + (q - j))) else qSh b base (pM g d q)))) (e2 : H'.size = H.size) (e3 : ∀ q, q ≠ qAd b base d → H'[q]? = H[q]?) : qRel D dA b base (pCpy g a i d j n) H' := by
  obtain ⟨h0, h1, h2, h3, h4, h5, h6⟩ := hR
  have hla : a < pN g := by
    rcases Nat.lt_or_ge a (pN g) with z | z
    · exact z
    · have := h4 a z; omega
  have em : ∀ x q, pM (pCpy g a i d j n) x q = if x = d ∧ j ≤ q ∧ q < j + n then pM g a (i + (q - j)) else pM g x q := fun _ _ => rfl
  refine ⟨h0, h1, by rw [e2]; exact h2, fun x hx => ?_, h4, h5, h6⟩
  by_cases ex : x = d
  · subst ex
    have hta := (h3 a hla).2
    have htd := (h3 x hlt).2
    refine ⟨⟨fun z => ?_, fun _ _ => ?_, fun z => ?_⟩, ⟨fun z q hq => ?_, fun z q hq => ?_⟩⟩
    · have z' : pK g x < 12 := z
      omega
    · show H'[qAd b base x]? = some (arrV (dA (pK g x)) (pL g x) _)
      rw [e1]
      congr 2
      funext q
      rw [em]
      by_cases hq : j ≤ q ∧ q < j + n
      · rw [if_pos hq, if_pos ⟨rfl, hq⟩]
      · rw [if_neg hq, if_neg (fun z => hq z.2)]
    · have z' : pK g x = 20 := z
      omega
    · have z' : pK g x = 12 := z
      rw [em]
      split
      · exact hta.1 (by omega) _ (by omega)
      · exact htd.1 z' q hq
    · have z' : pK g x = 13 := z
      rw [em]
      split
      · exact hta.2 (by omega) _ (by omega)
      · exact htd.2 z' q hq
  · exact ⟨(h3 x hx).1.kept rfl rfl (fun q => by rw [em, if_neg (fun z => ex z.1)]) (e3 _ (fun z => ex (qAd_inj h0 z))), (h3 x hx).2.kept rfl rfl (fun q => by rw [em, if_neg (fun z => ex z.1)])⟩
theorem nn_clamp {z : Int32} (hz : ¬ z < 0) : z.toInt = (z.toNatClampNeg : Int) := by
  have hz0 : (0 : Int) ≤ z.toInt := by
    have := Int32.not_lt.mp hz
    simpa using Int32.le_iff_toInt_le.mp this
  show z.toInt = ((z.toInt.toNat : Nat) : Int)
  omega
theorem q_acp {idx c0 z0 : Nat} {pc' : Nat} {q : PR} (F : qFrm D dA b base p l R s m meth c o init bc nL fr lo) (d : decode bc pc = .ok (.invokestatic idx, 3)) (hlk : Cond.methodLink (qOwn o) idx arraycopyName ∈ lw_tbl) (hn : (all[i + 1]?).map (fun r => r.1) = some (pc + 3)) (hf1 : 1 ≤ fr) (hf2 : 40 ≤ lo)
    (hs : pAcp (i + 1) ls st g = some q) (hsm : q.2.2.1.length ≤ 4 ∨ (q.2.2.1.map fun v => v.category).sum ≤ 8) (hl : qLs b base nL lsM ls) (hR : qRel D dA b base g H) (hS : va_S (qA base) s.heap H locs)
    (k : qK D dA b base nL all p l e R s m args below meth c c0 z0 Q q) : W p l e R s m args below meth c H locs (pC g - c0) (pZ g - z0) Q (F0 m pc lsM (st.map (qSh b base))) := by
  obtain ⟨hx, hb, hml, hown, hlocks, htr, hctx, hfr, hlo, hinit⟩ := id F
  unfold pAcp at hs
  split at hs
  · rename_i n j b0 i0 a0 r
    split at hs
    · rename_i hP
      have hq := Option.some.inj hs
      subst hq
      obtain ⟨hk, hkb, hn0, hi0, hj0, hr1, hr2⟩ := hP
      have hka : 12 ≤ pK g a0 ∧ pK g a0 ≤ 19 := by rcases hk with z | z <;> omega
      have hkb' : pK g b0 = 12 ∨ pK g b0 = 13 := by rw [hkb]; exact hk
      obtain ⟨hla, ha0, hca⟩ := qArrC (a := a0) hR hka.1 hka.2
      obtain ⟨hlb, hb0, hcb⟩ := qArrC (a := b0) hR (by omega) (by omega)
      have hta := (hR.2.2.2.1 a0 hla).2.ints hk b base
      have htb := (hR.2.2.2.1 b0 hlb).2.ints hkb' b base
      rw [arrV_congr hta] at hca
      rw [arrV_congr htb] at hcb
      obtain ⟨-, kA, cmA, hkA, hkkA, -⟩ := hctx.2.2.1 (pK g a0) hka.1 hka.2
      intro T hT X
      have hws := qHts (args := args) hctx
      obtain ⟨vm', X', step⟩ := X.arraycopy hx hown (hws _ (qTs_of hlk rfl)) (hws _ qAcpN) (hws _ qAcpS) (hws _ qAcpI) (src := qAd b base a0) (dst := qAd b base b0) (srcPos := i0) (destPos := j) (n := n) (by rw [hT]; exact hca) (by rw [hT]; exact hcb)
        (fun _ h => by cases h) (fun _ h => by cases h) (fun h => by cases h) (fun h => by cases h) hkA (by rw [hkb]; exact hkA) hkkA hkkA (by rcases hk with z | z <;> rw [z] <;> rfl) hi0 hj0 hn0
        (by rw [nn_clamp hi0, nn_clamp hn0, arrV_size]; omega) (by rw [nn_clamp hj0, nn_clamp hn0, arrV_size]; omega)
        (fun vm₁ _ i9 hi9 => by
          have e9 : (arrV (dA (pK g a0)) (pL g a0) (fun j => Value.int (pInt (pM g a0 j)))).slots.getD (i0.toNatClampNeg + i9) .null = .int (pInt (pM g a0 (i0.toNatClampNeg + i9))) := by
            rw [Array.getD_eq_getD_getElem?, arrV_read _ _ (by omega)]
            rfl
          refine ⟨?_, ?_⟩
          · rw [e9]
            rcases hk with z | z
            · rw [z]; rfl
            · rw [z]
              rcases (hR.2.2.2.1 a0 hla).2.2 z (i0.toNatClampNeg + i9) (by omega) with y | y <;> rw [y] <;> rfl
          · rw [e9]
            exact trivial)
        (g := F0 m pc lsM (.int n :: .int j :: .ref (qAd b base b0) :: .int i0 :: .ref (qAd b base a0) :: r.map (qSh b base))) rfl (by rw [hml]; exact hl.1) (rest := r.map (qSh b base)) rfl (by rw [hb]; exact d) (Nat.le_trans hf1 hfr) (by
          have h9 : ((r.map (qSh b base)).map fun v => v.category).sum ≤ 8 := qSm hsm
          have h10 : nativeFrameWords "java/lang/System" "arraycopy" 5 + 11 ≤ 32 := by decide
          show 2 * 0 + _ + _ ≤ _
          omega)
      have e0 : copied (arrV (dA (pK g a0)) (pL g a0) (fun j => Value.int (pInt (pM g a0 j)))) (arrV (dA (pK g b0)) (pL g b0) (fun j => Value.int (pInt (pM g b0 j)))) i0 j n = arrV (dA (pK g b0)) (pL g b0) (fun j9 => Value.int (va_cpy (fun j => pInt (pM g a0 j)) (fun j => pInt (pM g b0 j)) i0.toNatClampNeg j.toNatClampNeg n.toNatClampNeg j9)) := va_copied (fun z => Value.int z) (dA (pK g a0)) (dA (pK g b0)) (fun j => pInt (pM g a0 j)) (fun j => pInt (pM g b0 j)) hr1
      rw [e0] at X' step
      have hlh : qAd b base b0 < H.size := qAd_lt hR hlb
      have hheap : ((T.setVm vm').setCell (qAd b base b0) (arrV (dA (pK g b0)) (pL g b0) (fun j9 => Value.int (va_cpy (fun j => pInt (pM g a0 j)) (fun j => pInt (pM g b0 j)) i0.toNatClampNeg j.toNatClampNeg n.toNatClampNeg j9)))).heap = H.setIfInBounds (qAd b base b0) (arrV (dA (pK g b0)) (pL g b0) (fun j9 => Value.int (va_cpy (fun j => pInt (pM g a0 j)) (fun j => pInt (pM g b0 j)) i0.toNatClampNeg j.toNatClampNeg n.toNatClampNeg j9))) := by rw [← hT]; rfl
      have oq : ∀ q : Nat, q ≠ qAd b base b0 → (H.setIfInBounds (qAd b base b0) (arrV (dA (pK g b0)) (pL g b0) (fun j9 => Value.int (va_cpy (fun j => pInt (pM g a0 j)) (fun j => pInt (pM g b0 j)) i0.toNatClampNeg j.toNatClampNeg n.toNatClampNeg j9))))[q]? = H[q]? := fun q hq => by simp [Array.getElem?_setIfInBounds, Ne.symm hq]
      have hR' : qRel D dA b base (pCpy g a0 i0.toNatClampNeg b0 j.toNatClampNeg n.toNatClampNeg) (H.setIfInBounds (qAd b base b0) (arrV (dA (pK g b0)) (pL g b0) (fun j9 => Value.int (va_cpy (fun j => pInt (pM g a0 j)) (fun j => pInt (pM g b0 j)) i0.toNatClampNeg j.toNatClampNeg n.toNatClampNeg j9)))) := by
        refine qCpy hR hk hkb hr1 hlb ?_ (by simp) oq
        have e9 : (H.setIfInBounds (qAd b base b0) (arrV (dA (pK g b0)) (pL g b0) (fun j9 => Value.int (va_cpy (fun j => pInt (pM g a0 j)) (fun j => pInt (pM g b0 j)) i0.toNatClampNeg j.toNatClampNeg n.toNatClampNeg j9))))[qAd b base b0]? = some (arrV (dA (pK g b0)) (pL g b0) (fun j9 => Value.int (va_cpy (fun j => pInt (pM g a0 j)) (fun j => pInt (pM g b0 j)) i0.toNatClampNeg j.toNatClampNeg n.toNatClampNeg j9))) := by simp [Array.getElem?_setIfInBounds, hlh]
        rw [e9]
        congr 1
        refine arrV_congr fun q9 hq9 => ?_
        unfold va_cpy
        by_cases hz : j.toNatClampNeg ≤ q9 ∧ q9 < j.toNatClampNeg + n.toNatClampNeg
        · rw [if_pos hz, if_pos hz]
          exact (hta _ (by omega)).symm
        · rw [if_neg hz, if_neg hz]
          exact (htb _ hq9).symm
      obtain ⟨t, a1, b1⟩ := k _ lsM _ (locs ++ _) hn hl hR' ⟨by simp; exact hS.1, fun q g1 g2 => by
          rw [oq q (fun e => g2 (by rw [e]; exact qAd_ge hb0))]
          exact hS.2.1 q g1 g2, fun q hq => by
          rcases List.mem_append.mp hq with h | h
          · exact hS.2.2 q h
          · obtain ⟨z, -, hz⟩ := List.mem_map.mp h
            rw [← hz]
            exact qAd_ge hb0⟩ _ hheap X'
      exact ⟨t, step t a1, b1⟩
    · cases hs
  · cases hs
end QACP
end
section
/-! ===== THE WORDS OF THE THROWS ===== -/
def qAll {A : Type} (P : A → Prop) : List A → Prop
  | [] => True
  | c :: t => P c ∧ qAll P t
theorem qAll_mem {A : Type} {P : A → Prop} : ∀ {L : List A}, qAll P L → ∀ w ∈ L, P w
  | c :: t, h, w, hw => by
    rcases List.mem_cons.mp hw with e | e
    · rw [e]; exact h.1
    · exact qAll_mem h.2 w e
abbrev qUp : List String := ["java/lang/RuntimeException", "java/lang/Exception"]
def qIc (e : Nat) : Nat := match e with | 0 => 23 | 1 => 218 | _ => 259
set_option maxRecDepth 100000 in
theorem qOwnW_0 : qAll (fun w => vx_no w = true → w ∈ lw_tbl) (Bundle.ownAtoms RX9 23 (qEx 0) qUp) := And.intro (fun _ => qGet_mem (x := 1010) rfl) (And.intro (fun _ => qGet_mem (x := 2129) rfl) (And.intro (fun _ => qGet_mem (x := 2138) rfl) (And.intro (fun _ => qGet_mem (x := 2142) rfl) (And.intro (fun _ => qGet_mem (x := 2145) rfl) (And.intro (fun _ => qGet_mem (x := 2147) rfl) (And.intro (fun _ => qGet_mem (x := 2130) rfl) (And.intro (fun _ => qGet_mem (x := 2131) rfl) (And.intro (fun _ => qGet_mem (x := 1027) rfl) (And.intro (fun _ => qGet_mem (x := 1028) rfl) (And.intro (fun _ => qGet_mem (x := 2132) rfl) (And.intro (fun _ => qGet_mem (x := 2137) rfl) (And.intro (fun _ => qGet_mem (x := 2143) rfl) (And.intro (fun _ => qGet_mem (x := 2163) rfl) (And.intro (fun _ => qGet_mem (x := 2119) rfl) (And.intro (fun _ => qGet_mem (x := 2164) rfl) (And.intro (fun _ => qGet_mem (x := 2121) rfl) (And.intro (fun _ => qGet_mem (x := 2165) rfl) (And.intro (fun _ => qGet_mem (x := 2123) rfl) (And.intro (fun _ => qGet_mem (x := 2133) rfl) (And.intro (fun h => absurd h (by decide)) (And.intro (fun _ => qGet_mem (x := 2135) rfl) (And.intro (fun h => absurd h (by decide)) (And.intro (fun _ => qGet_mem (x := 2125) rfl) (And.intro (fun _ => qGet_mem (x := 2159) rfl) (And.intro (fun _ => qGet_mem (x := 2160) rfl) (And.intro (fun _ => qGet_mem (x := 2162) rfl) (And.intro (fun _ => qGet_mem (x := 2125) rfl) (And.intro (fun _ => qGet_mem (x := 2150) rfl) (And.intro (fun _ => qGet_mem (x := 2151) rfl) (And.intro (fun _ => qGet_mem (x := 2152) rfl) (And.intro (fun _ => qGet_mem (x := 2153) rfl) (And.intro (fun _ => qGet_mem (x := 2111) rfl) (And.intro (fun _ => qGet_mem (x := 2153) rfl) (And.intro (fun _ => qGet_mem (x := 2154) rfl) (And.intro (fun _ => qGet_mem (x := 2155) rfl) (And.intro (fun _ => qGet_mem (x := 2156) rfl) (And.intro (fun _ => qGet_mem (x := 2113) rfl) (And.intro (fun _ => qGet_mem (x := 2156) rfl) (And.intro (fun _ => qGet_mem (x := 2157) rfl) (And.intro (fun _ => qGet_mem (x := 2158) rfl) (And.intro (fun _ => qGet_mem (x := 2159) rfl) (And.intro (fun _ => qGet_mem (x := 2115) rfl) (And.intro (fun _ => qGet_mem (x := 2149) rfl) (And.intro (fun _ => qGet_mem (x := 2108) rfl) (And.intro (fun _ => qGet_mem (x := 2109) rfl) (And.intro (fun _ => qGet_mem (x := 2116) rfl) (And.intro (fun _ => qGet_mem (x := 2117) rfl) (And.intro (fun _ => qGet_mem (x := 2118) rfl) (And.intro (fun _ => qGet_mem (x := 2120) rfl) (And.intro (fun _ => qGet_mem (x := 2122) rfl) (And.intro (fun _ => qGet_mem (x := 2124) rfl) (And.intro (fun h => absurd h (by decide)) (And.intro (fun h => absurd h (by decide)) (And.intro (fun _ => qGet_mem (x := 2128) rfl) (And.intro (fun _ => qGet_mem (x := 2127) rfl) (And.intro (fun _ => qGet_mem (x := 2126) rfl) (trivial)))))))))))))))))))))))))))))))))))))))))))))))))))))))))
set_option maxRecDepth 100000 in
theorem qOwnW_1 : qAll (fun w => vx_no w = true → w ∈ lw_tbl) (Bundle.ownAtoms RX9 218 (qEx 1) qUp) := And.intro (fun _ => qGet_mem (x := 1010) rfl) (And.intro (fun _ => qGet_mem (x := 2129) rfl) (And.intro (fun _ => qGet_mem (x := 2138) rfl) (And.intro (fun _ => qGet_mem (x := 2142) rfl) (And.intro (fun _ => qGet_mem (x := 2145) rfl) (And.intro (fun _ => qGet_mem (x := 2147) rfl) (And.intro (fun _ => qGet_mem (x := 2130) rfl) (And.intro (fun _ => qGet_mem (x := 2131) rfl) (And.intro (fun _ => qGet_mem (x := 1027) rfl) (And.intro (fun _ => qGet_mem (x := 1028) rfl) (And.intro (fun _ => qGet_mem (x := 2132) rfl) (And.intro (fun _ => qGet_mem (x := 2137) rfl) (And.intro (fun _ => qGet_mem (x := 2143) rfl) (And.intro (fun _ => qGet_mem (x := 2163) rfl) (And.intro (fun _ => qGet_mem (x := 2119) rfl) (And.intro (fun _ => qGet_mem (x := 2164) rfl) (And.intro (fun _ => qGet_mem (x := 2121) rfl) (And.intro (fun _ => qGet_mem (x := 2165) rfl) (And.intro (fun _ => qGet_mem (x := 2123) rfl) (And.intro (fun _ => qGet_mem (x := 2133) rfl) (And.intro (fun h => absurd h (by decide)) (And.intro (fun _ => qGet_mem (x := 2135) rfl) (And.intro (fun h => absurd h (by decide)) (And.intro (fun _ => qGet_mem (x := 2125) rfl) (And.intro (fun _ => qGet_mem (x := 2159) rfl) (And.intro (fun _ => qGet_mem (x := 2160) rfl) (And.intro (fun _ => qGet_mem (x := 2162) rfl) (And.intro (fun _ => qGet_mem (x := 2125) rfl) (And.intro (fun _ => qGet_mem (x := 4110) rfl) (And.intro (fun _ => qGet_mem (x := 4111) rfl) (And.intro (fun _ => qGet_mem (x := 4112) rfl) (And.intro (fun _ => qGet_mem (x := 2153) rfl) (And.intro (fun _ => qGet_mem (x := 2111) rfl) (And.intro (fun _ => qGet_mem (x := 2153) rfl) (And.intro (fun _ => qGet_mem (x := 2154) rfl) (And.intro (fun _ => qGet_mem (x := 2155) rfl) (And.intro (fun _ => qGet_mem (x := 2156) rfl) (And.intro (fun _ => qGet_mem (x := 2113) rfl) (And.intro (fun _ => qGet_mem (x := 2156) rfl) (And.intro (fun _ => qGet_mem (x := 2157) rfl) (And.intro (fun _ => qGet_mem (x := 2158) rfl) (And.intro (fun _ => qGet_mem (x := 2159) rfl) (And.intro (fun _ => qGet_mem (x := 2115) rfl) (And.intro (fun _ => qGet_mem (x := 4109) rfl) (And.intro (fun _ => qGet_mem (x := 4100) rfl) (And.intro (fun _ => qGet_mem (x := 4101) rfl) (And.intro (fun _ => qGet_mem (x := 4102) rfl) (And.intro (fun _ => qGet_mem (x := 2140) rfl) (And.intro (fun _ => qGet_mem (x := 4103) rfl) (And.intro (fun _ => qGet_mem (x := 4104) rfl) (And.intro (fun _ => qGet_mem (x := 4105) rfl) (And.intro (fun _ => qGet_mem (x := 4106) rfl) (And.intro (fun h => absurd h (by decide)) (And.intro (fun h => absurd h (by decide)) (And.intro (fun _ => qGet_mem (x := 2128) rfl) (And.intro (fun _ => qGet_mem (x := 2127) rfl) (And.intro (fun _ => qGet_mem (x := 4107) rfl) (trivial)))))))))))))))))))))))))))))))))))))))))))))))))))))))))
set_option maxRecDepth 100000 in
theorem qOwnW_2 : qAll (fun w => vx_no w = true → w ∈ lw_tbl) (Bundle.ownAtoms RX9 259 (qEx 2) qUp) := And.intro (fun _ => qGet_mem (x := 1010) rfl) (And.intro (fun _ => qGet_mem (x := 2129) rfl) (And.intro (fun _ => qGet_mem (x := 2138) rfl) (And.intro (fun _ => qGet_mem (x := 2142) rfl) (And.intro (fun _ => qGet_mem (x := 2145) rfl) (And.intro (fun _ => qGet_mem (x := 2147) rfl) (And.intro (fun _ => qGet_mem (x := 2130) rfl) (And.intro (fun _ => qGet_mem (x := 2131) rfl) (And.intro (fun _ => qGet_mem (x := 1027) rfl) (And.intro (fun _ => qGet_mem (x := 1028) rfl) (And.intro (fun _ => qGet_mem (x := 2132) rfl) (And.intro (fun _ => qGet_mem (x := 2137) rfl) (And.intro (fun _ => qGet_mem (x := 2143) rfl) (And.intro (fun _ => qGet_mem (x := 2163) rfl) (And.intro (fun _ => qGet_mem (x := 2119) rfl) (And.intro (fun _ => qGet_mem (x := 2164) rfl) (And.intro (fun _ => qGet_mem (x := 2121) rfl) (And.intro (fun _ => qGet_mem (x := 2165) rfl) (And.intro (fun _ => qGet_mem (x := 2123) rfl) (And.intro (fun _ => qGet_mem (x := 2133) rfl) (And.intro (fun h => absurd h (by decide)) (And.intro (fun _ => qGet_mem (x := 2135) rfl) (And.intro (fun h => absurd h (by decide)) (And.intro (fun _ => qGet_mem (x := 2125) rfl) (And.intro (fun _ => qGet_mem (x := 2159) rfl) (And.intro (fun _ => qGet_mem (x := 2160) rfl) (And.intro (fun _ => qGet_mem (x := 2162) rfl) (And.intro (fun _ => qGet_mem (x := 2125) rfl) (And.intro (fun _ => qGet_mem (x := 3209) rfl) (And.intro (fun _ => qGet_mem (x := 3210) rfl) (And.intro (fun _ => qGet_mem (x := 3211) rfl) (And.intro (fun _ => qGet_mem (x := 2153) rfl) (And.intro (fun _ => qGet_mem (x := 2111) rfl) (And.intro (fun _ => qGet_mem (x := 2153) rfl) (And.intro (fun _ => qGet_mem (x := 2154) rfl) (And.intro (fun _ => qGet_mem (x := 2155) rfl) (And.intro (fun _ => qGet_mem (x := 2156) rfl) (And.intro (fun _ => qGet_mem (x := 2113) rfl) (And.intro (fun _ => qGet_mem (x := 2156) rfl) (And.intro (fun _ => qGet_mem (x := 2157) rfl) (And.intro (fun _ => qGet_mem (x := 2158) rfl) (And.intro (fun _ => qGet_mem (x := 2159) rfl) (And.intro (fun _ => qGet_mem (x := 2115) rfl) (And.intro (fun _ => qGet_mem (x := 3208) rfl) (And.intro (fun _ => qGet_mem (x := 3199) rfl) (And.intro (fun _ => qGet_mem (x := 3200) rfl) (And.intro (fun _ => qGet_mem (x := 3201) rfl) (And.intro (fun _ => qGet_mem (x := 2141) rfl) (And.intro (fun _ => qGet_mem (x := 3202) rfl) (And.intro (fun _ => qGet_mem (x := 3203) rfl) (And.intro (fun _ => qGet_mem (x := 3204) rfl) (And.intro (fun _ => qGet_mem (x := 3205) rfl) (And.intro (fun h => absurd h (by decide)) (And.intro (fun h => absurd h (by decide)) (And.intro (fun _ => qGet_mem (x := 2128) rfl) (And.intro (fun _ => qGet_mem (x := 2127) rfl) (And.intro (fun _ => qGet_mem (x := 3206) rfl) (trivial)))))))))))))))))))))))))))))))))))))))))))))))))))))))))
set_option maxRecDepth 100000 in
theorem qOwnG : ((List.range 3).all fun e => (Bundle.ownAtoms RX9 (qIc e) (qEx e) qUp).all fun w => !vx_no w || (qW w && vx_ot w)) = true := by decide +kernel
theorem qExI {e : Nat} (h : e < 3) : Cond.initialized (qEx e) ∈ lw_tbl ∧ Cond.castable (qEx e) (qEx e) ∈ lw_tbl := by
  match e, h with
  | 0, _ => exact ⟨qGet_mem (x := 1013) rfl, qGet_mem (x := 2109) rfl⟩
  | 1, _ => exact ⟨qGet_mem (x := 1019) rfl, qGet_mem (x := 4101) rfl⟩
  | 2, _ => exact ⟨qGet_mem (x := 1018) rfl, qGet_mem (x := 3200) rfl⟩
  | n + 3, h => omega
theorem qOwnW {e : Nat} (h : e < 3) : ∀ w ∈ vx_atS RX9 (qIc e) (qEx e) qUp, w ∈ qTs ∧ vx_ot w = true := by
  intro w hw
  obtain ⟨h1, h2⟩ := List.mem_filter.mp hw
  have h3 := List.all_eq_true.mp (List.all_eq_true.mp qOwnG e (List.mem_range.mpr h)) w h1
  rw [h2] at h3
  simp only [Bool.not_true, Bool.false_or, Bool.and_eq_true] at h3
  refine ⟨qTs_of ?_ h3.1, h3.2⟩
  match e, h with
  | 0, _ => exact qAll_mem qOwnW_0 w h1 h2
  | 1, _ => exact qAll_mem qOwnW_1 w h1 h2
  | 2, _ => exact qAll_mem qOwnW_2 w h1 h2
  | n + 3, h => omega
theorem qExFit : ((List.range 3).all fun e => Bundle.fit (qEx e) && qUp.all Bundle.fit) = true := by decide +kernel
/-- the class links of the throws -/
theorem qTH_ok : qTH.all (fun t => decide (t.2.2.2.1 < 3) && (decide (qIc t.2.2.2.1 = t.2.2.1) && (decide (t.2.2.2.2.1 < 2) && decide (qGet t.2.2.2.2.2 = some (Cond.classLink RX9 t.1 (qEx t.2.2.2.1)))))) = true := by decide +kernel
end
section
/-! ===== FACTS OF ALL METHODS ===== -/
noncomputable abbrev qmO (m : Nat) : Nat := (qMI m).1
noncomputable abbrev qmY (m : Nat) : MethodName := (qMI m).2.1
noncomputable abbrev qmB (m : Nat) : ByteArray := (qMI m).2.2.1
noncomputable abbrev qmL (m : Nat) : Nat := (qMI m).2.2.2.1
noncomputable abbrev qmR (m : Nat) : Option FieldType := (qMI m).2.2.2.2.1
noncomputable abbrev qmN (m : Nat) : Nat := (qMI m).2.2.2.2.2.1
noncomputable abbrev qmS (m : Nat) : Nat := (qMI m).2.2.2.2.2.2.1
noncomputable abbrev qmF (m : Nat) : Nat := (qMI m).2.2.2.2.2.2.2.1
noncomputable abbrev qmG (m : Nat) : Nat := (qMI m).2.2.2.2.2.2.2.2.1
noncomputable abbrev qmH (m : Nat) : List (Nat × Nat × Nat × Nat) := (qMI m).2.2.2.2.2.2.2.2.2.1
def qAllI {A : Type} (P : Nat → A → Prop) : Nat → List A → Prop
  | _, [] => True
  | k, c :: t => P k c ∧ qAllI P (k + 1) t
theorem qAllI_get {A : Type} {P : Nat → A → Prop} : ∀ {L : List A} {k i : Nat} {c : A}, qAllI P k L → L[i]? = some c → P (k + i) c
  | [], k, i, c, _, hi => by simp at hi
  | a :: t, k, 0, c, h, hi => by
    simp at hi
    subst hi
    exact h.1
  | a :: t, k, i + 1, c, h, hi => by
    have h1 := qAllI_get (i := i) h.2 (by simpa using hi)
    rw [show k + (i + 1) = k + 1 + i by omega]
    exact h1
set_option maxRecDepth 100000 in
theorem qMIL_len : qMIL.length = 381 := rfl
theorem qMI_get {m : Nat} (h : m < 381) : qMIL[m]? = some (qMI m) := by
  have h1 : m < qMIL.length := by rw [qMIL_len]; exact h
  unfold qMI
  rw [List.getD_eq_getElem?_getD, List.getElem?_eq_getElem h1]
  rfl
set_option maxRecDepth 100000 in
theorem qMo_all : qAllI (fun m c => m ≠ 378 → qMiOk c = true ∧ qGet c.2.2.2.2.2.2.2.2.2.2.1 = some (qCw c)) 0 qMIL := And.intro (fun _ => ⟨mo_0, cw_0⟩) (And.intro (fun _ => ⟨mo_1, cw_1⟩) (And.intro (fun _ => ⟨mo_0, cw_0⟩) (And.intro (fun _ => ⟨mo_3, cw_3⟩) (And.intro (fun _ => ⟨mo_4, cw_4⟩) (And.intro (fun _ => ⟨mo_5, cw_5⟩) (And.intro (fun _ => ⟨mo_6, cw_6⟩) (And.intro (fun _ => ⟨mo_7, cw_7⟩) (And.intro (fun _ => ⟨mo_8, cw_8⟩) (And.intro (fun _ => ⟨mo_0, cw_0⟩) (And.intro (fun _ => ⟨mo_10, cw_10⟩) (And.intro (fun _ => ⟨mo_11, cw_11⟩) (And.intro (fun _ => ⟨mo_12, cw_12⟩) (And.intro (fun _ => ⟨mo_13, cw_13⟩) (And.intro (fun _ => ⟨mo_14, cw_14⟩) (And.intro (fun _ => ⟨mo_0, cw_0⟩) (And.intro (fun _ => ⟨mo_0, cw_0⟩) (And.intro (fun _ => ⟨mo_0, cw_0⟩) (And.intro (fun _ => ⟨mo_0, cw_0⟩) (And.intro (fun _ => ⟨mo_0, cw_0⟩) (And.intro (fun _ => ⟨mo_0, cw_0⟩) (And.intro (fun _ => ⟨mo_21, cw_21⟩) (And.intro (fun _ => ⟨mo_22, cw_22⟩) (And.intro (fun _ => ⟨mo_23, cw_23⟩) (And.intro (fun _ => ⟨mo_24, cw_24⟩) (And.intro (fun _ => ⟨mo_25, cw_25⟩) (And.intro (fun _ => ⟨mo_26, cw_26⟩) (And.intro (fun _ => ⟨mo_27, cw_27⟩) (And.intro (fun _ => ⟨mo_28, cw_28⟩) (And.intro (fun _ => ⟨mo_29, cw_29⟩) (And.intro (fun _ => ⟨mo_30, cw_30⟩) (And.intro (fun _ => ⟨mo_31, cw_31⟩) (And.intro (fun _ => ⟨mo_32, cw_32⟩) (And.intro (fun _ => ⟨mo_33, cw_33⟩) (And.intro (fun _ => ⟨mo_34, cw_34⟩) (And.intro (fun _ => ⟨mo_35, cw_35⟩) (And.intro (fun _ => ⟨mo_36, cw_36⟩) (And.intro (fun _ => ⟨mo_37, cw_37⟩) (And.intro (fun _ => ⟨mo_38, cw_38⟩) (And.intro (fun _ => ⟨mo_39, cw_39⟩) (And.intro (fun _ => ⟨mo_40, cw_40⟩) (And.intro (fun _ => ⟨mo_41, cw_41⟩) (And.intro (fun _ => ⟨mo_42, cw_42⟩) (And.intro (fun _ => ⟨mo_43, cw_43⟩) (And.intro (fun _ => ⟨mo_44, cw_44⟩) (And.intro (fun _ => ⟨mo_45, cw_45⟩) (And.intro (fun _ => ⟨mo_46, cw_46⟩) (And.intro (fun _ => ⟨mo_47, cw_47⟩) (And.intro (fun _ => ⟨mo_48, cw_48⟩) (And.intro (fun _ => ⟨mo_0, cw_0⟩) (And.intro (fun _ => ⟨mo_50, cw_50⟩) (And.intro (fun _ => ⟨mo_51, cw_51⟩) (And.intro (fun _ => ⟨mo_52, cw_52⟩) (And.intro (fun _ => ⟨mo_53, cw_53⟩) (And.intro (fun _ => ⟨mo_54, cw_54⟩) (And.intro (fun _ => ⟨mo_55, cw_55⟩) (And.intro (fun _ => ⟨mo_56, cw_56⟩) (And.intro (fun _ => ⟨mo_57, cw_57⟩) (And.intro (fun _ => ⟨mo_58, cw_58⟩) (And.intro (fun _ => ⟨mo_59, cw_59⟩) (And.intro (fun _ => ⟨mo_0, cw_0⟩) (And.intro (fun _ => ⟨mo_61, cw_61⟩) (And.intro (fun _ => ⟨mo_62, cw_62⟩) (And.intro (fun _ => ⟨mo_63, cw_63⟩) (And.intro (fun _ => ⟨mo_64, cw_64⟩) (And.intro (fun _ => ⟨mo_65, cw_65⟩) (And.intro (fun _ => ⟨mo_66, cw_66⟩) (And.intro (fun _ => ⟨mo_67, cw_67⟩) (And.intro (fun _ => ⟨mo_68, cw_68⟩) (And.intro (fun _ => ⟨mo_69, cw_69⟩) (And.intro (fun _ => ⟨mo_70, cw_70⟩) (And.intro (fun _ => ⟨mo_71, cw_71⟩) (And.intro (fun _ => ⟨mo_72, cw_72⟩) (And.intro (fun _ => ⟨mo_73, cw_73⟩) (And.intro (fun _ => ⟨mo_74, cw_74⟩) (And.intro (fun _ => ⟨mo_75, cw_75⟩) (And.intro (fun _ => ⟨mo_76, cw_76⟩) (And.intro (fun _ => ⟨mo_77, cw_77⟩) (And.intro (fun _ => ⟨mo_78, cw_78⟩) (And.intro (fun _ => ⟨mo_79, cw_79⟩) (And.intro (fun _ => ⟨mo_80, cw_80⟩) (And.intro (fun _ => ⟨mo_81, cw_81⟩) (And.intro (fun _ => ⟨mo_82, cw_82⟩) (And.intro (fun _ => ⟨mo_83, cw_83⟩) (And.intro (fun _ => ⟨mo_84, cw_84⟩) (And.intro (fun _ => ⟨mo_85, cw_85⟩) (And.intro (fun _ => ⟨mo_86, cw_86⟩) (And.intro (fun _ => ⟨mo_87, cw_87⟩) (And.intro (fun _ => ⟨mo_88, cw_88⟩) (And.intro (fun _ => ⟨mo_89, cw_89⟩) (And.intro (fun _ => ⟨mo_90, cw_90⟩) (And.intro (fun _ => ⟨mo_91, cw_91⟩) (And.intro (fun _ => ⟨mo_92, cw_92⟩) (And.intro (fun _ => ⟨mo_93, cw_93⟩) (And.intro (fun _ => ⟨mo_94, cw_94⟩) (And.intro (fun _ => ⟨mo_95, cw_95⟩) (And.intro (fun _ => ⟨mo_96, cw_96⟩) (And.intro (fun _ => ⟨mo_97, cw_97⟩) (And.intro (fun _ => ⟨mo_98, cw_98⟩) (And.intro (fun _ => ⟨mo_99, cw_99⟩) (And.intro (fun _ => ⟨mo_100, cw_100⟩) (And.intro (fun _ => ⟨mo_101, cw_101⟩) (And.intro (fun _ => ⟨mo_102, cw_102⟩) (And.intro (fun _ => ⟨mo_103, cw_103⟩) (And.intro (fun _ => ⟨mo_104, cw_104⟩) (And.intro (fun _ => ⟨mo_105, cw_105⟩) (And.intro (fun _ => ⟨mo_106, cw_106⟩) (And.intro (fun _ => ⟨mo_107, cw_107⟩) (And.intro (fun _ => ⟨mo_108, cw_108⟩) (And.intro (fun _ => ⟨mo_109, cw_109⟩) (And.intro (fun _ => ⟨mo_110, cw_110⟩) (And.intro (fun _ => ⟨mo_0, cw_0⟩) (And.intro (fun _ => ⟨mo_0, cw_0⟩) (And.intro (fun _ => ⟨mo_0, cw_0⟩) (And.intro (fun _ => ⟨mo_0, cw_0⟩) (And.intro (fun _ => ⟨mo_0, cw_0⟩) (And.intro (fun _ => ⟨mo_116, cw_116⟩) (And.intro (fun _ => ⟨mo_117, cw_117⟩) (And.intro (fun _ => ⟨mo_0, cw_0⟩) (And.intro (fun _ => ⟨mo_119, cw_119⟩) (And.intro (fun _ => ⟨mo_120, cw_120⟩) (And.intro (fun _ => ⟨mo_0, cw_0⟩) (And.intro (fun _ => ⟨mo_0, cw_0⟩) (And.intro (fun _ => ⟨mo_123, cw_123⟩) (And.intro (fun _ => ⟨mo_124, cw_124⟩) (And.intro (fun _ => ⟨mo_125, cw_125⟩) (And.intro (fun _ => ⟨mo_126, cw_126⟩) (And.intro (fun _ => ⟨mo_127, cw_127⟩) (And.intro (fun _ => ⟨mo_128, cw_128⟩) (And.intro (fun _ => ⟨mo_129, cw_129⟩) (And.intro (fun _ => ⟨mo_130, cw_130⟩) (And.intro (fun _ => ⟨mo_0, cw_0⟩) (And.intro (fun _ => ⟨mo_132, cw_132⟩) (And.intro (fun _ => ⟨mo_133, cw_133⟩) (And.intro (fun _ => ⟨mo_134, cw_134⟩) (And.intro (fun _ => ⟨mo_135, cw_135⟩) (And.intro (fun _ => ⟨mo_136, cw_136⟩) (And.intro (fun _ => ⟨mo_0, cw_0⟩) (And.intro (fun _ => ⟨mo_138, cw_138⟩) (And.intro (fun _ => ⟨mo_139, cw_139⟩) (And.intro (fun _ => ⟨mo_140, cw_140⟩) (And.intro (fun _ => ⟨mo_141, cw_141⟩) (And.intro (fun _ => ⟨mo_142, cw_142⟩) (And.intro (fun _ => ⟨mo_143, cw_143⟩) (And.intro (fun _ => ⟨mo_144, cw_144⟩) (And.intro (fun _ => ⟨mo_145, cw_145⟩) (And.intro (fun _ => ⟨mo_146, cw_146⟩) (And.intro (fun _ => ⟨mo_147, cw_147⟩) (And.intro (fun _ => ⟨mo_148, cw_148⟩) (And.intro (fun _ => ⟨mo_149, cw_149⟩) (And.intro (fun _ => ⟨mo_150, cw_150⟩) (And.intro (fun _ => ⟨mo_0, cw_0⟩) (And.intro (fun _ => ⟨mo_0, cw_0⟩) (And.intro (fun _ => ⟨mo_0, cw_0⟩) (And.intro (fun _ => ⟨mo_0, cw_0⟩) (And.intro (fun _ => ⟨mo_0, cw_0⟩) (And.intro (fun _ => ⟨mo_0, cw_0⟩) (And.intro (fun _ => ⟨mo_0, cw_0⟩) (And.intro (fun _ => ⟨mo_0, cw_0⟩) (And.intro (fun _ => ⟨mo_0, cw_0⟩) (And.intro (fun _ => ⟨mo_160, cw_160⟩) (And.intro (fun _ => ⟨mo_161, cw_161⟩) (And.intro (fun _ => ⟨mo_162, cw_162⟩) (And.intro (fun _ => ⟨mo_163, cw_163⟩) (And.intro (fun _ => ⟨mo_164, cw_164⟩) (And.intro (fun _ => ⟨mo_165, cw_165⟩) (And.intro (fun _ => ⟨mo_166, cw_166⟩) (And.intro (fun _ => ⟨mo_0, cw_0⟩) (And.intro (fun _ => ⟨mo_168, cw_168⟩) (And.intro (fun _ => ⟨mo_169, cw_169⟩) (And.intro (fun _ => ⟨mo_170, cw_170⟩) (And.intro (fun _ => ⟨mo_171, cw_171⟩) (And.intro (fun _ => ⟨mo_172, cw_172⟩) (And.intro (fun _ => ⟨mo_173, cw_173⟩) (And.intro (fun _ => ⟨mo_174, cw_174⟩) (And.intro (fun _ => ⟨mo_175, cw_175⟩) (And.intro (fun _ => ⟨mo_176, cw_176⟩) (And.intro (fun _ => ⟨mo_0, cw_0⟩) (And.intro (fun _ => ⟨mo_178, cw_178⟩) (And.intro (fun _ => ⟨mo_0, cw_0⟩) (And.intro (fun _ => ⟨mo_0, cw_0⟩) (And.intro (fun _ => ⟨mo_0, cw_0⟩) (And.intro (fun _ => ⟨mo_0, cw_0⟩) (And.intro (fun _ => ⟨mo_0, cw_0⟩) (And.intro (fun _ => ⟨mo_0, cw_0⟩) (And.intro (fun _ => ⟨mo_0, cw_0⟩) (And.intro (fun _ => ⟨mo_0, cw_0⟩) (And.intro (fun _ => ⟨mo_0, cw_0⟩) (And.intro (fun _ => ⟨mo_0, cw_0⟩) (And.intro (fun _ => ⟨mo_0, cw_0⟩) (And.intro (fun _ => ⟨mo_0, cw_0⟩) (And.intro (fun _ => ⟨mo_0, cw_0⟩) (And.intro (fun _ => ⟨mo_0, cw_0⟩) (And.intro (fun _ => ⟨mo_0, cw_0⟩) (And.intro (fun _ => ⟨mo_0, cw_0⟩) (And.intro (fun _ => ⟨mo_0, cw_0⟩) (And.intro (fun _ => ⟨mo_0, cw_0⟩) (And.intro (fun _ => ⟨mo_0, cw_0⟩) (And.intro (fun _ => ⟨mo_0, cw_0⟩) (And.intro (fun _ => ⟨mo_0, cw_0⟩) (And.intro (fun _ => ⟨mo_0, cw_0⟩) (And.intro (fun _ => ⟨mo_0, cw_0⟩) (And.intro (fun _ => ⟨mo_0, cw_0⟩) (And.intro (fun _ => ⟨mo_0, cw_0⟩) (And.intro (fun _ => ⟨mo_0, cw_0⟩) (And.intro (fun _ => ⟨mo_0, cw_0⟩) (And.intro (fun _ => ⟨mo_0, cw_0⟩) (And.intro (fun _ => ⟨mo_0, cw_0⟩) (And.intro (fun _ => ⟨mo_0, cw_0⟩) (And.intro (fun _ => ⟨mo_0, cw_0⟩) (And.intro (fun _ => ⟨mo_0, cw_0⟩) (And.intro (fun _ => ⟨mo_0, cw_0⟩) (And.intro (fun _ => ⟨mo_0, cw_0⟩) (And.intro (fun _ => ⟨mo_0, cw_0⟩) (And.intro (fun _ => ⟨mo_0, cw_0⟩) (And.intro (fun _ => ⟨mo_0, cw_0⟩) (And.intro (fun _ => ⟨mo_0, cw_0⟩) (And.intro (fun _ => ⟨mo_0, cw_0⟩) (And.intro (fun _ => ⟨mo_0, cw_0⟩) (And.intro (fun _ => ⟨mo_0, cw_0⟩) (And.intro (fun _ => ⟨mo_0, cw_0⟩) (And.intro (fun _ => ⟨mo_0, cw_0⟩) (And.intro (fun _ => ⟨mo_0, cw_0⟩) (And.intro (fun _ => ⟨mo_0, cw_0⟩) (And.intro (fun _ => ⟨mo_0, cw_0⟩) (And.intro (fun _ => ⟨mo_0, cw_0⟩) (And.intro (fun _ => ⟨mo_0, cw_0⟩) (And.intro (fun _ => ⟨mo_0, cw_0⟩) (And.intro (fun _ => ⟨mo_0, cw_0⟩) (And.intro (fun _ => ⟨mo_0, cw_0⟩) (And.intro (fun _ => ⟨mo_0, cw_0⟩) (And.intro (fun _ => ⟨mo_0, cw_0⟩) (And.intro (fun _ => ⟨mo_0, cw_0⟩) (And.intro (fun _ => ⟨mo_0, cw_0⟩) (And.intro (fun _ => ⟨mo_0, cw_0⟩) (And.intro (fun _ => ⟨mo_0, cw_0⟩) (And.intro (fun _ => ⟨mo_0, cw_0⟩) (And.intro (fun _ => ⟨mo_0, cw_0⟩) (And.intro (fun _ => ⟨mo_0, cw_0⟩) (And.intro (fun _ => ⟨mo_0, cw_0⟩) (And.intro (fun _ => ⟨mo_0, cw_0⟩) (And.intro (fun _ => ⟨mo_0, cw_0⟩) (And.intro (fun _ => ⟨mo_0, cw_0⟩) (And.intro (fun _ => ⟨mo_0, cw_0⟩) (And.intro (fun _ => ⟨mo_0, cw_0⟩) (And.intro (fun _ => ⟨mo_0, cw_0⟩) (And.intro (fun _ => ⟨mo_0, cw_0⟩) (And.intro (fun _ => ⟨mo_0, cw_0⟩) (And.intro (fun _ => ⟨mo_0, cw_0⟩) (And.intro (fun _ => ⟨mo_0, cw_0⟩) (And.intro (fun _ => ⟨mo_0, cw_0⟩) (And.intro (fun _ => ⟨mo_0, cw_0⟩) (And.intro (fun _ => ⟨mo_0, cw_0⟩) (And.intro (fun _ => ⟨mo_0, cw_0⟩) (And.intro (fun _ => ⟨mo_0, cw_0⟩) (And.intro (fun _ => ⟨mo_0, cw_0⟩) (And.intro (fun _ => ⟨mo_0, cw_0⟩) (And.intro (fun _ => ⟨mo_0, cw_0⟩) (And.intro (fun _ => ⟨mo_0, cw_0⟩) (And.intro (fun _ => ⟨mo_0, cw_0⟩) (And.intro (fun _ => ⟨mo_0, cw_0⟩) (And.intro (fun _ => ⟨mo_0, cw_0⟩) (And.intro (fun _ => ⟨mo_0, cw_0⟩) (And.intro (fun _ => ⟨mo_0, cw_0⟩) (And.intro (fun _ => ⟨mo_0, cw_0⟩) (And.intro (fun _ => ⟨mo_0, cw_0⟩) (And.intro (fun _ => ⟨mo_0, cw_0⟩) (And.intro (fun _ => ⟨mo_0, cw_0⟩) (And.intro (fun _ => ⟨mo_0, cw_0⟩) (And.intro (fun _ => ⟨mo_0, cw_0⟩) (And.intro (fun _ => ⟨mo_0, cw_0⟩) (And.intro (fun _ => ⟨mo_0, cw_0⟩) (And.intro (fun _ => ⟨mo_0, cw_0⟩) (And.intro (fun _ => ⟨mo_0, cw_0⟩) (And.intro (fun _ => ⟨mo_0, cw_0⟩) (And.intro (fun _ => ⟨mo_0, cw_0⟩) (And.intro (fun _ => ⟨mo_0, cw_0⟩) (And.intro (fun _ => ⟨mo_0, cw_0⟩) (And.intro (fun _ => ⟨mo_0, cw_0⟩) (And.intro (fun _ => ⟨mo_0, cw_0⟩) (And.intro (fun _ => ⟨mo_0, cw_0⟩) (And.intro (fun _ => ⟨mo_0, cw_0⟩) (And.intro (fun _ => ⟨mo_0, cw_0⟩) (And.intro (fun _ => ⟨mo_0, cw_0⟩) (And.intro (fun _ => ⟨mo_0, cw_0⟩) (And.intro (fun _ => ⟨mo_0, cw_0⟩) (And.intro (fun _ => ⟨mo_0, cw_0⟩) (And.intro (fun _ => ⟨mo_0, cw_0⟩) (And.intro (fun _ => ⟨mo_0, cw_0⟩) (And.intro (fun _ => ⟨mo_0, cw_0⟩) (And.intro (fun _ => ⟨mo_0, cw_0⟩) (And.intro (fun _ => ⟨mo_0, cw_0⟩) (And.intro (fun _ => ⟨mo_0, cw_0⟩) (And.intro (fun _ => ⟨mo_0, cw_0⟩) (And.intro (fun _ => ⟨mo_0, cw_0⟩) (And.intro (fun _ => ⟨mo_0, cw_0⟩) (And.intro (fun _ => ⟨mo_0, cw_0⟩) (And.intro (fun _ => ⟨mo_0, cw_0⟩) (And.intro (fun _ => ⟨mo_0, cw_0⟩) (And.intro (fun _ => ⟨mo_0, cw_0⟩) (And.intro (fun _ => ⟨mo_0, cw_0⟩) (And.intro (fun _ => ⟨mo_0, cw_0⟩) (And.intro (fun _ => ⟨mo_0, cw_0⟩) (And.intro (fun _ => ⟨mo_0, cw_0⟩) (And.intro (fun _ => ⟨mo_0, cw_0⟩) (And.intro (fun _ => ⟨mo_0, cw_0⟩) (And.intro (fun _ => ⟨mo_0, cw_0⟩) (And.intro (fun _ => ⟨mo_0, cw_0⟩) (And.intro (fun _ => ⟨mo_0, cw_0⟩) (And.intro (fun _ => ⟨mo_0, cw_0⟩) (And.intro (fun _ => ⟨mo_0, cw_0⟩) (And.intro (fun _ => ⟨mo_0, cw_0⟩) (And.intro (fun _ => ⟨mo_0, cw_0⟩) (And.intro (fun _ => ⟨mo_0, cw_0⟩) (And.intro (fun _ => ⟨mo_0, cw_0⟩) (And.intro (fun _ => ⟨mo_0, cw_0⟩) (And.intro (fun _ => ⟨mo_0, cw_0⟩) (And.intro (fun _ => ⟨mo_0, cw_0⟩) (And.intro (fun _ => ⟨mo_0, cw_0⟩) (And.intro (fun _ => ⟨mo_0, cw_0⟩) (And.intro (fun _ => ⟨mo_0, cw_0⟩) (And.intro (fun _ => ⟨mo_0, cw_0⟩) (And.intro (fun _ => ⟨mo_322, cw_322⟩) (And.intro (fun _ => ⟨mo_323, cw_323⟩) (And.intro (fun _ => ⟨mo_324, cw_324⟩) (And.intro (fun _ => ⟨mo_325, cw_325⟩) (And.intro (fun _ => ⟨mo_326, cw_326⟩) (And.intro (fun _ => ⟨mo_327, cw_327⟩) (And.intro (fun _ => ⟨mo_0, cw_0⟩) (And.intro (fun _ => ⟨mo_0, cw_0⟩) (And.intro (fun _ => ⟨mo_0, cw_0⟩) (And.intro (fun _ => ⟨mo_0, cw_0⟩) (And.intro (fun _ => ⟨mo_0, cw_0⟩) (And.intro (fun _ => ⟨mo_0, cw_0⟩) (And.intro (fun _ => ⟨mo_0, cw_0⟩) (And.intro (fun _ => ⟨mo_0, cw_0⟩) (And.intro (fun _ => ⟨mo_0, cw_0⟩) (And.intro (fun _ => ⟨mo_0, cw_0⟩) (And.intro (fun _ => ⟨mo_0, cw_0⟩) (And.intro (fun _ => ⟨mo_0, cw_0⟩) (And.intro (fun _ => ⟨mo_0, cw_0⟩) (And.intro (fun _ => ⟨mo_0, cw_0⟩) (And.intro (fun _ => ⟨mo_0, cw_0⟩) (And.intro (fun _ => ⟨mo_0, cw_0⟩) (And.intro (fun _ => ⟨mo_0, cw_0⟩) (And.intro (fun _ => ⟨mo_0, cw_0⟩) (And.intro (fun _ => ⟨mo_0, cw_0⟩) (And.intro (fun _ => ⟨mo_0, cw_0⟩) (And.intro (fun _ => ⟨mo_0, cw_0⟩) (And.intro (fun _ => ⟨mo_0, cw_0⟩) (And.intro (fun _ => ⟨mo_0, cw_0⟩) (And.intro (fun _ => ⟨mo_0, cw_0⟩) (And.intro (fun _ => ⟨mo_0, cw_0⟩) (And.intro (fun _ => ⟨mo_0, cw_0⟩) (And.intro (fun _ => ⟨mo_0, cw_0⟩) (And.intro (fun _ => ⟨mo_0, cw_0⟩) (And.intro (fun _ => ⟨mo_0, cw_0⟩) (And.intro (fun _ => ⟨mo_0, cw_0⟩) (And.intro (fun _ => ⟨mo_0, cw_0⟩) (And.intro (fun _ => ⟨mo_0, cw_0⟩) (And.intro (fun _ => ⟨mo_0, cw_0⟩) (And.intro (fun _ => ⟨mo_0, cw_0⟩) (And.intro (fun _ => ⟨mo_0, cw_0⟩) (And.intro (fun _ => ⟨mo_0, cw_0⟩) (And.intro (fun _ => ⟨mo_0, cw_0⟩) (And.intro (fun _ => ⟨mo_0, cw_0⟩) (And.intro (fun _ => ⟨mo_0, cw_0⟩) (And.intro (fun _ => ⟨mo_0, cw_0⟩) (And.intro (fun _ => ⟨mo_0, cw_0⟩) (And.intro (fun _ => ⟨mo_0, cw_0⟩) (And.intro (fun _ => ⟨mo_0, cw_0⟩) (And.intro (fun _ => ⟨mo_0, cw_0⟩) (And.intro (fun _ => ⟨mo_0, cw_0⟩) (And.intro (fun _ => ⟨mo_0, cw_0⟩) (And.intro (fun _ => ⟨mo_0, cw_0⟩) (And.intro (fun _ => ⟨mo_0, cw_0⟩) (And.intro (fun _ => ⟨mo_0, cw_0⟩) (And.intro (fun _ => ⟨mo_0, cw_0⟩) (And.intro (fun z => absurd rfl z) (And.intro (fun _ => ⟨mo_379, cw_379⟩) (And.intro (fun _ => ⟨mo_380, cw_380⟩) (trivial)))))))))))))))))))))))))))))))))))))))))))))))))))))))))))))))))))))))))))))))))))))))))))))))))))))))))))))))))))))))))))))))))))))))))))))))))))))))))))))))))))))))))))))))))))))))))))))))))))))))))))))))))))))))))))))))))))))))))))))))))))))))))))))))))))))))))))))))))))))))))))))))))))))))))))))))))))))))))))))))))))))))))))))))))))))))))))))))))))))))))))))))))))))))))))))
/-- what the tables say of a method -/
theorem qMe {m : Nat} (h : m < 381) (h2 : m ≠ 378) : qMiOk (qMI m) = true ∧ qCw (qMI m) ∈ lw_tbl := by
  have h1 := qAllI_get qMo_all (qMI_get h)
  rw [Nat.zero_add] at h1
  exact ⟨(h1 h2).1, qGet_mem (h1 h2).2⟩
theorem qMo_spec {m : Nat} (h : m < 381) (h2 : m ≠ 378) : plainName (qmY m).cls = true ∧ (qmY m).cls = qOwn (qmO m) ∧ ((qmY m).cls ≠ "java/lang/invoke/MethodHandle" ∧ (qmY m).cls ≠ "java/lang/invoke/VarHandle") ∧
    (parseMethodDescriptor (qmY m).desc).map (fun d => d.parameters.length) = some (qmN m - (1 - qmS m)) ∧ 1 - qmS m ≤ qmN m ∧ (if qmS m = 1 then Cond.static (qmY m) else Cond.instanceMethod (qmY m)) ∈ lw_tbl ∧ Cond.initialized (qmY m).cls ∈ lw_tbl := by
  have h1 := (qMe h h2).1
  unfold qMiOk at h1
  simp only [Bool.and_eq_true, decide_eq_true_eq] at h1
  obtain ⟨g1, g2, g3, g4, g5, g6, g7, -⟩ := h1
  exact ⟨g1, g2, g3, g4, g5, qGet_mem g6, qGet_mem g7⟩
theorem qCw_eq (c : QMI) : qCw c = qCode c.2.1 c.2.2.1 c.2.2.2.1 c.2.2.2.2.1 c.2.2.2.2.2.2.2.2.2.1 := by
  obtain ⟨o, y, cc, L, ret, na, st, fr, lo, hh, w⟩ := c
  cases hh <;> rfl
theorem qCw_good (c : QMI) : goodWord (qCw c) = true := by
  rw [qCw_eq]
  unfold qCode
  split <;> rfl
theorem qCw_in {m : Nat} (h : m < 381) (h2 : m ≠ 378) : GoodIn qTs [qCw (qMI m)] := by
  intro w hw
  have e : w = qCw (qMI m) := by simpa using hw
  rw [e]
  exact ⟨qTs_of (qMe h h2).2 (qW_good (qCw_good _)), good_of_word (qCw_good _)⟩
/-- the links, once more: what kind of a method is linked -/
noncomputable def qLinkOk (f : QL6) : Bool :=
  if f.2.2.1 < 10 then f.2.2.2.1 == 0 && decide (f.2.2.1 < 4 ∧ f.2.2.2.2.2 = if f.2.2.1 = 0 then 2 else 1) else
  decide (f.2.2.1 - 10 < 381 ∧ f.2.2.1 - 10 ≠ 378) && (f.2.2.2.1 == 0 || f.2.2.2.1 == 1) && (match qMIL[f.2.2.1 - 10]? with
    | none => false
    | some c =>
      if f.2.2.2.2.2 = 0 then c.2.2.2.2.2.2.1 == 0 && (c.2.2.2.2.2.2.2.2.2.1.isEmpty && decide (qGet c.2.2.2.2.2.2.2.2.2.2.2.2.1 = some (Cond.selects (qOwn c.1) c.2.1 c.2.1)))
      else if f.2.2.2.2.2 = 1 then c.2.2.2.2.2.2.1 == 1 && (c.2.2.2.2.2.2.2.2.2.1.isEmpty || f.2.2.2.1 == 0)
      else c.2.2.2.2.2.2.1 == 0 && (c.2.2.2.2.2.2.2.2.2.1.isEmpty && decide (c.2.1.name = "<init>" ∧ c.2.2.2.2.1 = none)))
set_option maxRecDepth 100000 in
theorem qLL_0 : ((qML.drop 0).take 60).all qLinkOk = true := by decide +kernel
set_option maxRecDepth 100000 in
theorem qLL_1 : ((qML.drop 60).take 60).all qLinkOk = true := by decide +kernel
set_option maxRecDepth 100000 in
theorem qLL_2 : ((qML.drop 120).take 60).all qLinkOk = true := by decide +kernel
set_option maxRecDepth 100000 in
theorem qLL_3 : ((qML.drop 180).take 60).all qLinkOk = true := by decide +kernel
set_option maxRecDepth 100000 in
theorem qLL_4 : ((qML.drop 240).take 60).all qLinkOk = true := by decide +kernel
set_option maxRecDepth 100000 in
theorem qLL_5 : ((qML.drop 300).take 60).all qLinkOk = true := by decide +kernel
set_option maxRecDepth 100000 in
theorem qLL_6 : ((qML.drop 360).take 60).all qLinkOk = true := by decide +kernel
set_option maxRecDepth 100000 in
theorem qLL_7 : ((qML.drop 420).take 60).all qLinkOk = true := by decide +kernel
theorem qML_len : qML.length ≤ 480 := by decide +kernel
theorem qChunk {f : QL6} {P : QL6 → Bool} (h : f ∈ qML) (h0 : ((qML.drop 0).take 60).all P = true) (h1 : ((qML.drop 60).take 60).all P = true) (h2 : ((qML.drop 120).take 60).all P = true) (h3 : ((qML.drop 180).take 60).all P = true)
    (h4 : ((qML.drop 240).take 60).all P = true) (h5 : ((qML.drop 300).take 60).all P = true) (h6 : ((qML.drop 360).take 60).all P = true) (h7 : ((qML.drop 420).take 60).all P = true) : P f = true := by
  obtain ⟨i, hi⟩ := List.getElem?_of_mem h
  have hl : i < qML.length := (List.getElem?_eq_some_iff.mp hi).1
  have hl2 := qML_len
  have key : ∀ a, a ≤ i → i < a + 60 → f ∈ (qML.drop a).take 60 := by
    intro a ha hb
    refine List.mem_of_getElem? (i := i - a) ?_
    rw [List.getElem?_take, if_pos (by omega), List.getElem?_drop, show a + (i - a) = i by omega]
    exact hi
  by_cases z1 : i < 60
  · exact List.all_eq_true.mp h0 f (key 0 (by omega) (by omega))
  by_cases z2 : i < 120
  · exact List.all_eq_true.mp h1 f (key 60 (by omega) (by omega))
  by_cases z3 : i < 180
  · exact List.all_eq_true.mp h2 f (key 120 (by omega) (by omega))
  by_cases z4 : i < 240
  · exact List.all_eq_true.mp h3 f (key 180 (by omega) (by omega))
  by_cases z5 : i < 300
  · exact List.all_eq_true.mp h4 f (key 240 (by omega) (by omega))
  by_cases z6 : i < 360
  · exact List.all_eq_true.mp h5 f (key 300 (by omega) (by omega))
  by_cases z7 : i < 420
  · exact List.all_eq_true.mp h6 f (key 360 (by omega) (by omega))
  · exact List.all_eq_true.mp h7 f (key 420 (by omega) (by omega))
theorem qML_word {f : QL6} (h : f ∈ qML) : qMw f ∈ lw_tbl ∧ qLinkOk f = true := by
  refine ⟨qGet_mem (of_decide_eq_true (qChunk (P := fun f => decide (qGet f.2.2.2.2.1 = some (qMw f))) h qML_ok_0 qML_ok_1 qML_ok_2 qML_ok_3 qML_ok_4 qML_ok_5 qML_ok_6 qML_ok_7)), ?_⟩
  exact qChunk h qLL_0 qLL_1 qLL_2 qLL_3 qLL_4 qLL_5 qLL_6 qLL_7
/-- a link of a row: the word, the kind -/
theorem qMok_spec {o idx r1 r2 kd fr lo j : Nat} (h : qMok o idx r1 r2 kd fr lo j = true) : ∃ nest : Nat, ((nest = 0 ∧ kd < 2) ∨ r2 = 1) ∧
    (if nest = 1 then Cond.methodLinkNest (qOwn o) idx (qMn r1) (if o ≤ 9 then RX9 else RX11) else Cond.methodLink (qOwn o) idx (qMn r1)) ∈ lw_tbl ∧
    (r1 = 0 → 1 ≤ fr ∧ 20 ≤ lo) ∧ (r1 < 4 → 1 ≤ fr) ∧ (r1 ≠ 0 → r1 < 4 → 40 ≤ lo) ∧ (r1 < 10 → nest = 0 ∧ kd = if r1 = 0 then 2 else 1) ∧
    (4 ≤ r1 → 10 ≤ r1 ∧ r1 - 10 < 381 ∧ r1 - 10 ≠ 378 ∧ (nest = 0 ∨ nest = 1) ∧ qmF (r1 - 10) + 1 ≤ fr ∧ 8 + (qmL (r1 - 10) + 11) + qmG (r1 - 10) ≤ lo ∧
      (kd = 0 → qmS (r1 - 10) = 0 ∧ qmH (r1 - 10) = [] ∧ Cond.selects (qOwn (qmO (r1 - 10))) (qmY (r1 - 10)) (qmY (r1 - 10)) ∈ lw_tbl) ∧
      (kd = 1 → qmS (r1 - 10) = 1 ∧ (qmH (r1 - 10) = [] ∨ nest = 0)) ∧
      (kd = 2 → qmS (r1 - 10) = 0 ∧ qmH (r1 - 10) = [] ∧ (qmY (r1 - 10)).name = "<init>" ∧ qmR (r1 - 10) = none)) := by
  unfold qMok at h
  split at h
  · cases h
  · rename_i f hf
    obtain ⟨hw, hk⟩ := qML_word (List.mem_of_getElem? hf)
    simp only [Bool.and_eq_true, beq_iff_eq, Bool.or_eq_true, decide_eq_true_eq] at h
    obtain ⟨e1, e2, e3, e4, e5, h6⟩ := h
    refine ⟨f.2.2.2.1, e5, ?_, ?_, ?_, ?_, ?_, ?_⟩
    · unfold qMw at hw
      rw [e1, e2, e3] at hw
      exact hw
    · intro z
      rw [if_pos z] at h6
      exact of_decide_eq_true h6
    · intro z
      by_cases z0 : r1 = 0
      · rw [if_pos z0] at h6
        exact (of_decide_eq_true h6).1
      · rw [if_neg z0, if_pos z] at h6
        exact (of_decide_eq_true h6).1
    · intro z0 z
      rw [if_neg z0, if_pos z] at h6
      exact (of_decide_eq_true h6).2
    · intro z
      unfold qLinkOk at hk
      rw [if_pos (by rw [e3]; exact z)] at hk
      simp only [Bool.and_eq_true, beq_iff_eq, decide_eq_true_eq] at hk
      rw [e3, e4] at hk
      exact ⟨hk.1, hk.2.2⟩
    · intro z
      rw [if_neg (by omega), if_neg (by omega)] at h6
      simp only [Bool.and_eq_true, decide_eq_true_eq] at h6
      obtain ⟨h7, h8⟩ := h6
      unfold qLinkOk at hk
      rw [if_neg (by rw [e3]; omega), e3, e4] at hk
      simp only [Bool.and_eq_true, decide_eq_true_eq, Bool.or_eq_true, beq_iff_eq] at hk
      obtain ⟨⟨k1, k2⟩, k3⟩ := hk
      have hg := qMI_get k1.1
      rw [hg] at h8 k3
      dsimp only at h8 k3
      refine ⟨h7, k1.1, k1.2, k2, (of_decide_eq_true h8).1, (of_decide_eq_true h8).2, fun z => ?_, fun z => ?_, fun z => ?_⟩
      · rw [if_pos z] at k3
        simp only [Bool.and_eq_true, beq_iff_eq, List.isEmpty_iff, decide_eq_true_eq] at k3
        exact ⟨k3.1, k3.2.1, qGet_mem k3.2.2⟩
      · rw [if_neg (by omega), if_pos z] at k3
        simp only [Bool.and_eq_true, beq_iff_eq, List.isEmpty_iff, Bool.or_eq_true] at k3
        exact ⟨k3.1, k3.2⟩
      · rw [if_neg (by omega), if_neg (by omega)] at k3
        simp only [Bool.and_eq_true, beq_iff_eq, List.isEmpty_iff, decide_eq_true_eq] at k3
        exact ⟨k3.1, k3.2.1, k3.2.2.1, k3.2.2.2⟩
/-- the handlers: the law's methods alone have some -/
theorem qHd_own : (List.range 381).all (fun m => (qHd m).isEmpty || ((qMI m).1 == 12 && (decide (320 ≤ m) && decide (m ≠ 378)))) = true := by decide +kernel
theorem qHd_len : (List.range 381).all (fun m => ((qMI m).2.2.2.2.2.2.2.2.2.1.isEmpty == (qHd m).isEmpty)) = true := by decide +kernel
theorem qH_none {m : Nat} (h : m < 381) (hd : qHd m = []) : qmH m = [] := by
  have h1 := List.all_eq_true.mp qHd_len m (List.mem_range.mpr h)
  rw [hd] at h1
  simpa using h1
/-- which handler takes it -/
theorem qHandOk_spec {rows : List PRow} {pc e h0 : Nat} : ∀ {hh : List (Nat × Nat × Nat × Nat)} {hd : List PHd} {hx : List (Nat × Nat × Nat)}, qHandOk rows hh hd hx = true → pHand hd pc e = some h0 →
    ∃ (pre : List ExceptionTableEntry) (x : ExceptionTableEntry) (suf : List ExceptionTableEntry), tableOf hh = pre ++ x :: suf ∧ covers x pc = true ∧ x.catchType ≠ 0 ∧ e < 3 ∧ Cond.classLink RL x.catchType (qEx e) ∈ lw_tbl ∧ (rows[h0]?).map (fun r => r.1) = some x.handlerPc ∧
      ∀ z ∈ pre, covers z pc = false ∨ (z.catchType ≠ 0 ∧ ∃ e2, e2 < 3 ∧ e2 ≠ e ∧ Cond.classLink RL z.catchType (qEx e2) ∈ lw_tbl)
  | [], [], [], _, h2 => by cases h2
  | h :: hs, d :: ds, x :: xs, h1, h2 => by
    unfold qHandOk at h1
    simp only [Bool.and_eq_true, decide_eq_true_eq] at h1
    obtain ⟨a1, a2, a3, a4, a5⟩ := h1
    unfold pHand at h2
    have hcov : covers (⟨h.1, h.2.1, h.2.2.1, h.2.2.2⟩ : ExceptionTableEntry) pc = (decide (d.1 ≤ pc) && decide (pc < d.2.1)) := by rw [a1]
    by_cases hc : d.1 ≤ pc ∧ pc < d.2.1 ∧ d.2.2.2 = e
    · rw [if_pos hc] at h2
      have h3 := Option.some.inj h2
      subst h3
      refine ⟨[], ⟨h.1, h.2.1, h.2.2.1, h.2.2.2⟩, tableOf hs, rfl, ?_, ?_, ?_, ?_, ?_, fun z hz => by cases hz⟩
      · rw [hcov]
        simp only [Bool.and_eq_true, decide_eq_true_eq]
        exact ⟨hc.1, hc.2.1⟩
      · show h.2.2.2 ≠ 0
        rw [a1]; exact a4.2
      · rw [← hc.2.2]; exact a4.1
      · show Cond.classLink RL h.2.2.2 (qEx e) ∈ lw_tbl
        rw [a1, ← hc.2.2]
        exact qGet_mem a3
      · show _ = some h.2.2.1
        rw [a1]; exact a2
    · rw [if_neg hc] at h2
      obtain ⟨pre, y, suf, b1, b2, b3, b4, b5, b6, b7⟩ := qHandOk_spec a5 h2
      refine ⟨⟨h.1, h.2.1, h.2.2.1, h.2.2.2⟩ :: pre, y, suf, ?_, b2, b3, b4, b5, b6, fun z hz => ?_⟩
      · show _ :: tableOf hs = _
        rw [b1]; rfl
      · rcases List.mem_cons.mp hz with z1 | z1
        · rw [z1]
          by_cases hcv : d.1 ≤ pc ∧ pc < d.2.1
          · refine Or.inr ⟨?_, d.2.2.2, a4.1, fun z2 => hc ⟨hcv.1, hcv.2, z2⟩, ?_⟩
            · show h.2.2.2 ≠ 0
              rw [a1]; exact a4.2
            · show Cond.classLink RL h.2.2.2 _ ∈ lw_tbl
              rw [a1]; exact qGet_mem a3
          · refine Or.inl ?_
            rw [hcov]
            simp only [Bool.and_eq_false_iff, decide_eq_false_iff_not]
            by_cases z3 : d.1 ≤ pc
            · exact Or.inr (fun z4 => hcv ⟨z3, z4⟩)
            · exact Or.inl z3
        · exact b7 z z1
  | [], [], _ :: _, h1, _ => by simp [qHandOk] at h1
  | [], _ :: _, [], h1, _ => by simp [qHandOk] at h1
  | [], _ :: _, _ :: _, h1, _ => by simp [qHandOk] at h1
  | _ :: _, [], [], h1, _ => by simp [qHandOk] at h1
  | _ :: _, [], _ :: _, h1, _ => by simp [qHandOk] at h1
  | _ :: _, _ :: _, [], h1, _ => by simp [qHandOk] at h1
theorem qHands_of {m pc e h0 : Nat} (hm : m < 381) (h : pHand (qHd m) pc e = some h0) : qmO m = 12 ∧ qHandOk (qRows m) (qmH m) (qHd m) (qHh m) = true := by
  have hne : qHd m ≠ [] := fun z => by rw [z] at h; cases h
  have h1 := List.all_eq_true.mp qHd_own m (List.mem_range.mpr hm)
  simp only [Bool.or_eq_true, List.isEmpty_iff, Bool.and_eq_true, beq_iff_eq, decide_eq_true_eq] at h1
  rcases h1 with z | ⟨z1, z2, z3⟩
  · exact absurd z hne
  · have h2 := List.all_eq_true.mp qHands m (List.mem_range.mpr hm)
    rw [if_neg (by omega)] at h2
    exact ⟨z1, h2⟩
/-- THE ROWS ARE THE CODE'S: decided in parts 06 and 07, put together in part 16 -/
def qAllOk : Prop := ∀ m, m < 381 → (∀ (i : Nat) (r : PRow), (qRows m)[i]? = some r → qRowOk (qmO m) (decide ((qmY m).name = "<init>")) (qmF m) (qmG m) (qmB m) (qRows m) ((qRows m).drop (i + 1)) r = true) ∧ ∃ r, (qRows m)[0]? = some r ∧ r.1 = 0
end
section
/-! ===== THE MACHINE DOES WHAT THE PURE MACHINE DOES ===== -/
def qFm (D : va_G) (dA : Nat → ClassId) (b base : Nat) (p : Program) (l : Launch) (R : Room) (s : State) (mid : MethodId) (meth : Method) (c : Code) (m : Nat) : Prop :=
  qFrm D dA b base p l R s mid meth c (qmO m) (decide ((qmY m).name = "<init>")) (qmB m) (qmL m) (qmF m) (qmG m) ∧ c.exceptionTable.toList = tableOf (qmH m) ∧ meth.sig.returnType = qmR m
/-- what a frame owes at its end -/
def qEnd (D : va_G) (dA : Nat → ClassId) (b base : Nat) (below : List Frame) (args : Array Value) (s : State) (c0 z0 : Nat) (o : PO) (g' : PS) : State → Prop := match o with
  | .inl v => MQ below (qQr D dA b base v g') args s (pC g' - c0) (pZ g' - z0) (qA base)
  | .inr e => vx_MQ below (fun _ _ _ _ => False) (qXr D dA b base e g') args s (pC g' - c0) (pZ g' - z0) (qA base)
/-- THE SIMULATION, for runs of n steps -/
def qSimAt (D : va_G) (dA : Nat → ClassId) (b base : Nat) (l : Launch) (n : Nat) : Prop := ∀ (m i : Nat) (ls : PV) (st : List Value) (g : PS) (o : PO) (g' : PS), pRun qPT n m i ls st g = some (o, g') →
  ∀ (p : Program) (e : Env) (R : Room) (s : State) (mid : MethodId) (args : Array Value) (below : List Frame) (meth : Method) (c : Code) (c0 z0 : Nat), m < 381 → qFm D dA b base p l R s mid meth c m →
    c0 ≤ pC g → z0 ≤ pZ g → pC g' - c0 ≤ R.cells → pZ g' - z0 ≤ R.slots → qK D dA b base (qmL m) (qRows m) p l e R s mid args below meth c c0 z0 (qEnd D dA b base below args s c0 z0 o g') (i, ls, st, g)
section QSIM
variable {D : va_G} {dA : Nat → ClassId} {b base : Nat} {l : Launch} {n : Nat}
theorem qFm_of {p : Program} {S : Spec} {e : Env} {R : Room} {s s₁ : State} {mid : MethodId} {args : Array Value} {below : List Frame} {meth : Method} {c : Code} {m : Nat} (hm : m < 381) (h2 : m ≠ 378) (hlt : l.stackTraces = false)
    (B : BodyLoose p l (qmY m) S (qmB m) (qmL m) (qmR m) e s mid args below meth c s₁) (hml : c.maxLocals = qmL m) (ht : c.exceptionTable.toList = tableOf (qmH m)) (hctx : qCtx D dA base s) (hfr : qmF m ≤ R.frames) (hlo : qmG m ≤ R.locals) : qFm D dA b base p l R s mid meth c m := by
  obtain ⟨-, g2, -⟩ := qMo_spec hm h2
  refine ⟨⟨B.exec, B.bytes, hml, ?_, B.notSynchronized, hlt, hctx, hfr, hlo, fun z => ?_⟩, ht, B.returns⟩
  · rw [← g2]; exact findClass_of_methodNamed B.named
  · rw [(name_of_methodNamed B.named B.method).1]; exact of_decide_eq_true z
/-- a method that returns -/
theorem qMet {m : Nat} {av : List Value} {g g' : PS} {v : Option Value} (hOK : qAllOk) (ih : qSimAt D dA b base l n) (hm : m < 381) (h2 : m ≠ 378) (hlt : l.stackTraces = false) (hr : pRun qPT n m 0 (pEntry (qmL m) av) [] g = some (.inl v, g')) (he : (pEnt av).length ≤ qmL m) :
    Met l (qmY m) [qCw (qMI m)] { frames := qmF m, locals := qmG m, cells := pC g' - pC g, slots := pZ g' - pZ g } (qPc D dA b base av g) (qQr D dA b base v g') (pC g' - pC g) (pZ g' - pZ g) (qA base) := by
  obtain ⟨g1, -⟩ := qMo_spec hm h2
  rw [qCw_eq]
  refine qOfW g1 ?_
  intro p e s mid args below meth c s₁ B hml ht hP
  obtain ⟨ha, hctx, hR⟩ := hP
  have hF : qFm D dA b base p l { frames := qmF m, locals := qmG m, cells := pC g' - pC g, slots := pZ g' - pZ g } s mid meth c m := qFm_of hm h2 hlt B hml ht hctx (Nat.le_refl _) (Nat.le_refl _)
  obtain ⟨r0, hr0, hr1⟩ := (hOK m hm).2
  have h := ih m 0 _ _ g _ g' hr p e _ s mid args below meth c (pC g) (pZ g) hm hF (Nat.le_refl _) (Nat.le_refl _) (Nat.le_refl _) (Nat.le_refl _) 0 _ s.heap [] (by show ((qRows m)[0]?).map _ = _; rw [hr0]; exact congrArg some hr1) (qEntry he) hR va_S.rf
  subst ha
  rw [lg_entry_eq]
  simp only [Nat.sub_self] at h
  exact h
theorem qCw_nil {c : QMI} (h : c.2.2.2.2.2.2.2.2.2.1 = []) : qCw c = Cond.code c.2.1 c.2.2.1 c.2.2.2.1 c.2.2.2.2.1 := by
  rw [qCw_eq, h]; rfl
theorem qCw_cons {c : QMI} {h : Nat × Nat × Nat × Nat} {t : List (Nat × Nat × Nat × Nat)} (e : c.2.2.2.2.2.2.2.2.2.1 = h :: t) : qCw c = Cond.codeWith c.2.1 c.2.2.1 c.2.2.2.1 c.2.2.2.2.1 (h :: t) := by
  rw [qCw_eq, e]; rfl
/-- a method that throws -/
theorem qMetX {m : Nat} {av : List Value} {g g' : PS} {x : Nat} (hOK : qAllOk) (ih : qSimAt D dA b base l n) (hm : m < 381) (h2 : m ≠ 378) (hlt : l.stackTraces = false) (hr : pRun qPT n m 0 (pEntry (qmL m) av) [] g = some (.inr x, g')) (he : (pEnt av).length ≤ qmL m) :
    vx_Met l (qmY m) [qCw (qMI m)] { frames := qmF m, locals := qmG m, cells := pC g' - pC g, slots := pZ g' - pZ g } (qPc D dA b base av g) (fun _ _ _ _ => False) (qXr D dA b base x g') (pC g' - pC g) (pZ g' - pZ g) (qA base) := by
  obtain ⟨g1, -⟩ := qMo_spec hm h2
  have hd : qHd m = [] := pRun_inr qPT n m 0 _ _ g x g' hr
  have hh := qH_none hm hd
  refine vx_ofW (ws' := []) (cc := qmB m) (maxL := qmL m) (ret := qmR m) g1 (by rw [qCw_nil hh]) ?_
  intro p e s mid args below meth c s₁ B hml ht hP
  obtain ⟨ha, hctx, hR⟩ := hP
  have ht2 : c.exceptionTable.toList = tableOf (qmH m) := by
    rw [hh]
    exact List.eq_nil_iff_forall_not_mem.mpr fun z hz => ht z hz
  have hF : qFm D dA b base p l { frames := qmF m, locals := qmG m, cells := pC g' - pC g, slots := pZ g' - pZ g } s mid meth c m := qFm_of hm h2 hlt B hml ht2 hctx (Nat.le_refl _) (Nat.le_refl _)
  obtain ⟨r0, hr0, hr1⟩ := (hOK m hm).2
  have h := ih m 0 _ _ g _ g' hr p e _ s mid args below meth c (pC g) (pZ g) hm hF (Nat.le_refl _) (Nat.le_refl _) (Nat.le_refl _) (Nat.le_refl _) 0 _ s.heap [] (by show ((qRows m)[0]?).map _ = _; rw [hr0]; exact congrArg some hr1) (qEntry he) hR va_S.rf
  subst ha
  rw [lg_entry_eq]
  simp only [Nat.sub_self] at h
  exact h
theorem pPop_inv {k : Nat} {st : List Value} {q : List Value × List Value} (h : pPop k st = some q) : st = q.1.reverse ++ q.2 ∧ q.1.length = k := by
  unfold pPop at h
  split at h
  · rename_i hk
    cases h
    refine ⟨?_, ?_⟩
    · show st = (st.take k).reverse.reverse ++ st.drop k
      rw [List.reverse_reverse, List.take_append_drop]
    · show (st.take k).reverse.length = k
      rw [List.length_reverse, List.length_take]
      omega
  · cases h
variable {p : Program} {e : Env} {R : Room} {s : State} {m : MethodId} {args : Array Value} {below : List Frame} {meth : Method} {c : Code} {H : Heap} {locs : List Loc} {cells slots : Nat} {Q : State → Prop}
/-- behind a call that has returned -/
theorem qBack {mc ms pc : Nat} {lsM : Array Slot} {st9 rest9 : List Value} {v : Option Value} {g1 : PS} {a : Array Value} (hr : va_Run p l e R s m args below meth c H locs cells slots mc ms (F0 m pc lsM st9) rest9 (qQr D dA b base v g1 a) (qA base)) (hS : va_S (qA base) s.heap H locs)
    (k : ∀ (H' : Heap) (locs' : List Loc), qRel D dA b base g1 H' → va_S (qA base) s.heap H' locs' → W p l e R s m args below meth c H' locs' (cells + mc) (slots + ms) Q (F0 m (pc + 3) lsM ((v.map (qSh b base)).toList ++ rest9))) : W p l e R s m args below meth c H locs cells slots Q (F0 m pc lsM st9) := by
  intro T hT X
  obtain ⟨v', st₀, t, T', L, h0, X', hL, e1, e2, ⟨hv, hR, hF⟩, st⟩ := hr T hT X
  cases hv
  obtain ⟨k1, k2, k3⟩ := vx_keep h0 e1 hS (fun _ _ h => h) (fun _ h => h) hL hF
  obtain ⟨t2, a1, b1⟩ := k T'.heap (locs ++ L) (by rw [e1]; exact hR) k3 T' rfl X'
  exact ⟨t2, st t2 a1, b1⟩
/-- behind a call that has thrown -/
theorem qBackX {mc ms pc x : Nat} {lsM : Array Slot} {st9 rest9 : List Value} {g1 : PS} (hr : vx_Run p l e R s m args below meth c H locs cells slots mc ms (F0 m pc lsM st9) rest9 (fun _ _ _ => False) (qXr D dA b base x g1) (qA base)) (hS : va_S (qA base) s.heap H locs)
    (k : ∀ (H' : Heap) (locs' : List Loc) (ce : Cell) (q : Addr), qRel D dA b base g1 H' → va_S (qA base) s.heap H' locs' → H'[q]? = some ce → ce.vm = .none → s.vm.findClass (qEx x) = some ce.cls → vx_W p l e R s m args below meth c H' locs' (cells + mc) (slots + ms) Q (F0 m pc lsM rest9) q) : W p l e R s m args below meth c H locs cells slots Q (F0 m pc lsM st9) := by
  intro T hT X
  rcases hr T hT X with ⟨v, st₀, t, T', L, h0, X', hL, e1, e2, hb, st⟩ | ⟨q, st₀, t, T', L, E, ce, h0, X', hL, e1, e2, ⟨hE, hR, hF⟩, hce, hcv, hcl, st⟩
  · exact hb.elim
  · subst hE
    obtain ⟨k1, k2, k3⟩ := vx_keep h0 e1 hS (fun _ _ h => h) (fun _ h => h) hL hF
    obtain ⟨t2, a1, b1⟩ := k T'.heap (locs ++ L) ce q (by rw [e1]; exact hR) k3 (by rw [e1]; exact hce) hcv hcl T' rfl X'
    exact ⟨t2, st.trans a1, b1⟩
/-- a receiver's cell -/
theorem qRcv {a o : Nat} {g : PS} (hctx : qCtx D dA base s) (hR : qRel D dA b base g H) (ha : pK g a = o) (ho : o < 12) : ∃ cellB : Cell, H[qAd b base a]? = some cellB ∧ cellB.vm.isStatics = false ∧ s.vm.findClass (qOwn o) = some cellB.cls := by
  have hlt : a < pN g := hR.lt (by omega)
  obtain ⟨cell, q1, q2, q3, q4⟩ := (hR.2.2.2.1 a hlt).1.1 (by omega)
  rw [ha] at q2
  obtain ⟨hSl, hfc, -⟩ := hctx.2.1 o ho
  exact ⟨cell, q1, by rw [q3]; rfl, by rw [q2]; exact hfc⟩
theorem qPcOf {av : List Value} {g : PS} {U : State} (hctx : qCtx D dA base s) (hR : qRel D dA b base g H) (hS : va_S (qA base) s.heap H locs) (hU : U.heap = H) (hW : s.WarmedH U.vm) : qPc D dA b base av g (av.map (qSh b base)).toArray U :=
  ⟨rfl, hctx.moved hW (by rw [hU]; exact Nat.le_trans hctx.2.2.2.2.1 hS.1) (fun q h1 h2 => by rw [hU]; exact hS.2.1 q h1 h2), by rw [hU]; exact hR⟩
theorem qStV {st rest As : List Value} {a : Nat} (h : st = (Value.ref a :: As).reverse ++ rest) : st.map (qSh b base) = (As.map (qSh b base)).reverse ++ .ref (qAd b base a) :: rest.map (qSh b base) := by
  subst h
  simp [List.map_reverse, qSh]
theorem qStS {st rest av : List Value} (h : st = av.reverse ++ rest) : st.map (qSh b base) = (av.map (qSh b base)).reverse ++ rest.map (qSh b base) := by
  subst h
  simp [List.map_reverse]
/-- a call that returns -/
theorem qCallR {mm i pc len r1 r2 r3 c0 z0 : Nat} {ins : Instr} {tl : List PRow} {ls : PV} {lsM : Array Slot} {st av rest : List Value} {g g1 : PS} {v : Option Value} (hOK : qAllOk) (ih : qSimAt D dA b base l n) (F : qFm D dA b base p l R s m meth c mm)
    (hok : qRowOk (qmO mm) (decide ((qmY mm).name = "<init>")) (qmF mm) (qmG mm) (qmB mm) (qRows mm) tl (pc, ins, len, r1, r2, r3) = true) (ht : (qRows mm).drop (i + 1) = tl) (hk : pKind ins r1 = 2) (hp : pPop (qmN (r1 - 10)) st = some (av, rest)) (hsm : rest.length ≤ 4 ∨ (rest.map fun v => v.category).sum ≤ 8)
    (he : (pEnt av).length ≤ qmL (r1 - 10)) (hv : pRv ins (qmO (r1 - 10)) av g = true) (hr : pRun qPT n (r1 - 10) 0 (pEntry (qmL (r1 - 10)) av) [] g = some (.inl v, g1)) (hl : qLs b base (qmL mm) lsM ls) (hR : qRel D dA b base g H) (hS : va_S (qA base) s.heap H locs)
    (hC : (pC g - c0) + (pC g1 - pC g) ≤ R.cells) (hZ : (pZ g - z0) + (pZ g1 - pZ g) ≤ R.slots) :
    va_Run p l e R s m args below meth c H locs (pC g - c0) (pZ g - z0) (pC g1 - pC g) (pZ g1 - pZ g) (F0 m pc lsM (st.map (qSh b base))) (rest.map (qSh b base)) (qQr D dA b base v g1 #[]) (qA base) ∧ ((qRows mm)[i + 1]?).map (fun r => r.1) = some (pc + 3) := by
  obtain ⟨⟨hx, hb, hml, hown, hlocks, htr, hctx, hfr, hlo, hinit⟩, htab, hret⟩ := id F
  obtain ⟨e1, e2⟩ := pPop_inv hp
  dsimp only at e1 e2
  have hW8 : 2 * (F0 m pc lsM (st.map (qSh b base))).monitorRoom + ((rest.map (qSh b base)).map fun v => v.category).sum ≤ 8 := by
    have := qSm (b := b) (base := base) hsm
    show 2 * 0 + _ ≤ 8
    omega
  have hts := qHts (args := args) hctx
  have htn := qHts (args := #[]) hctx
  have FX : CallFix p m c (qmB mm) (qmL mm) s args qTs (qOwn (qmO mm)) := ⟨hx, hb, hml, hown, hts⟩
  unfold qRowOk at hok
  cases ins <;> try (exact absurd hk (by decide))
  case invokevirtual idx =>
    simp only [Bool.and_eq_true, decide_eq_true_eq, beq_iff_eq] at hok
    obtain ⟨d, h1, h2, h3⟩ := hok
    subst h1
    refine ⟨?_, qNx_spec h2 ht⟩
    obtain ⟨nest, hn, hlw, f0, f1, f2, f3, f4⟩ := qMok_spec h3
    have h10 : 4 ≤ r1 := by
      rcases Nat.lt_or_ge r1 4 with z | z
      · have z1 := (f3 (by omega)).2
        split at z1 <;> omega
      · exact z
    obtain ⟨i1, i2, i3, i4, i5, i6, i7, -, -⟩ := f4 h10
    obtain ⟨s1, s2, s3⟩ := i7 rfl
    obtain ⟨g1', g2, g3, g4, g5, g6, g7⟩ := qMo_spec i2 i3
    have hmn : qMn r1 = qmY (r1 - 10) := by
      unfold qMn
      rw [if_neg (by omega), if_neg (by omega), if_neg (by omega), if_neg (by omega)]
    rw [hmn] at hlw
    rw [if_neg (by omega)] at g6
    unfold pRv at hv
    dsimp only at hv
    cases av with
    | nil => cases hv
    | cons v0 As =>
      cases v0 <;> try (exact absurd (show false = true from hv) (by decide))
      case ref a =>
        have hv2 := of_decide_eq_true hv
        have hlen : As.length + 1 = qmN (r1 - 10) := e2
        have hd1 : (parseMethodDescriptor (qmY (r1 - 10)).desc).map (fun d => d.parameters.length) = some (As.map (qSh b base)).length := by
          rw [g4, List.length_map, s1]
          exact congrArg some (by omega)
        have hM := qMet (av := .ref a :: As) hOK ih i2 i3 htr hr he
        have hcell := qRcv hctx hR hv2.1 hv2.2
        have hPV : PreV s H (qOwn (qmO (r1 - 10))) (qAd b base a) (qPc D dA b base (.ref a :: As) g) (As.map (qSh b base)) := ⟨qPc_blind, hcell, fun U hU hW => qPcOf hctx hR hS hU hW⟩
        have hcw := qCw_nil s2
        have hinW : Cond.initialized (qOwn (qmO (r1 - 10))) ∈ lw_tbl := by rw [← g2]; exact g7
        rcases i4 with z | z
        · rw [if_neg (by omega)] at hlw
          have cw := cwV (R := R) (own := qOwn (qmO mm)) (C := qOwn (qmO (r1 - 10))) (index := idx) (y := qmY (r1 - 10)) (bytes := qmB (r1 - 10)) (maxL := qmL (r1 - 10)) (ret := qmR (r1 - 10)) (ws := [qCw (qMI (r1 - 10))]) (ws' := []) (rm := { frames := qmF (r1 - 10), locals := qmG (r1 - 10), cells := pC g1 - pC g, slots := pZ g1 - pZ g }) (mc := pC g1 - pC g) (ms := pZ g1 - pZ g) (As.map (qSh b base)).length hts
            (fun w hw => by
              unfold wsV at hw
              rcases List.mem_append.mp hw with hw | hw
              · simp only [List.mem_cons, List.not_mem_nil, or_false] at hw
                rcases hw with rfl | rfl | rfl | rfl
                · exact ⟨qTs_of hlw rfl, Or.inl rfl⟩
                · exact ⟨qTs_of g6 rfl, Or.inl rfl⟩
                · exact ⟨qTs_of s3 rfl, Or.inl rfl⟩
                · exact ⟨qTs_of hinW rfl, Or.inl rfl⟩
              · exact qCw_in i2 i3 w hw) (by rw [hcw]) rfl rfl ⟨g2, g3.1, g3.2, hd1⟩ ⟨by show qmF (r1 - 10) + 1 ≤ _; omega, by show 8 + (qmL (r1 - 10) + 11) + qmG (r1 - 10) ≤ _; omega⟩
          exact va_runV FX hM cw hPV rfl rfl hl.1 (qStV e1) hW8 d ⟨hC, hZ⟩
        · rw [if_pos z] at hlw
          have cw := va_cnB (R := R) (own := qOwn (qmO mm)) (host := if qmO mm ≤ 9 then RX9 else RX11) (index := idx) (y := qmY (r1 - 10)) (bytes := qmB (r1 - 10)) (maxL := qmL (r1 - 10)) (ret := qmR (r1 - 10)) (ws := [qCw (qMI (r1 - 10))]) (ws' := []) (rm := { frames := qmF (r1 - 10), locals := qmG (r1 - 10), cells := pC g1 - pC g, slots := pZ g1 - pZ g }) (mc := pC g1 - pC g) (ms := pZ g1 - pZ g) (As.map (qSh b base)).length hts
            (qCw_in i2 i3) (by rw [hcw]) rfl rfl (htn _ (qTs_of hlw rfl)) (hts _ (qTs_of g7 rfl)) ⟨g3.1, g3.2, hd1⟩ ⟨by show qmF (r1 - 10) + 1 ≤ _; omega, by show 8 + (qmL (r1 - 10) + 11) + qmG (r1 - 10) ≤ _; omega⟩
          exact va_runVN FX hM ⟨cw, hts _ (qTs_of g6 rfl), hts _ (qTs_of s3 rfl)⟩ hPV rfl rfl hl.1 (qStV e1) hW8 d ⟨hC, hZ⟩
  case invokestatic idx =>
    simp only [Bool.and_eq_true, decide_eq_true_eq, beq_iff_eq] at hok
    obtain ⟨d, h1, h2, h3⟩ := hok
    subst h1
    refine ⟨?_, qNx_spec h2 ht⟩
    obtain ⟨nest, hn, hlw, f0, f1, f2, f3, f4⟩ := qMok_spec h3
    have h10 : 4 ≤ r1 := by
      rcases Nat.lt_or_ge r1 4 with z | z
      · unfold pKind at hk
        dsimp only at hk
        split at hk
        · omega
        · first | omega | (rw [if_pos z] at hk; omega)
      · exact z
    obtain ⟨i1, i2, i3, i4, i5, i6, -, i7, -⟩ := f4 h10
    obtain ⟨s1, s2⟩ := i7 rfl
    obtain ⟨g1', g2, g3, g4, g5, g6, g7⟩ := qMo_spec i2 i3
    have hmn : qMn r1 = qmY (r1 - 10) := by
      unfold qMn
      rw [if_neg (by omega), if_neg (by omega), if_neg (by omega), if_neg (by omega)]
    rw [hmn] at hlw
    rw [if_pos s1] at g6
    have hd1 : (parseMethodDescriptor (qmY (r1 - 10)).desc).map (fun d => d.parameters.length) = some (av.map (qSh b base)).length := by
      rw [g4, List.length_map, s1]
      exact congrArg some (by omega)
    have hM := qMet (av := av) hOK ih i2 i3 htr hr he
    have hPS : PreS s H (qPc D dA b base av g) (av.map (qSh b base)) := ⟨qPc_blind, fun U hU hW => qPcOf hctx hR hS hU hW⟩
    have hgin : ∀ (hlw : Cond.methodLink (qOwn (qmO mm)) idx (qmY (r1 - 10)) ∈ lw_tbl), GoodIn qTs (va_wsS (qOwn (qmO mm)) idx (qmY (r1 - 10)) [qCw (qMI (r1 - 10))]) := fun hlw w hw => by
      unfold va_wsS at hw
      rcases List.mem_append.mp hw with hw | hw
      · simp only [List.mem_cons, List.not_mem_nil, or_false] at hw
        rcases hw with rfl | rfl | rfl
        · exact ⟨qTs_of hlw rfl, Or.inl rfl⟩
        · exact ⟨qTs_of g6 rfl, Or.inl rfl⟩
        · exact ⟨qTs_of g7 rfl, Or.inl rfl⟩
      · exact qCw_in i2 i3 w hw
    have hrm : qmF (r1 - 10) + 1 ≤ R.frames ∧ 8 + (qmL (r1 - 10) + 11) + qmG (r1 - 10) ≤ R.locals := ⟨by omega, by omega⟩
    rcases i4 with z | z
    · rw [if_neg (by omega)] at hlw
      cases hhc : qmH (r1 - 10) with
      | nil =>
        have cw := va_cwS (R := R) (own := qOwn (qmO mm)) (index := idx) (y := qmY (r1 - 10)) (bytes := qmB (r1 - 10)) (maxL := qmL (r1 - 10)) (ret := qmR (r1 - 10)) (ws := [qCw (qMI (r1 - 10))]) (ws' := []) (rm := { frames := qmF (r1 - 10), locals := qmG (r1 - 10), cells := pC g1 - pC g, slots := pZ g1 - pZ g }) (mc := pC g1 - pC g) (ms := pZ g1 - pZ g) (av.map (qSh b base)).length hts
          (hgin hlw) (by rw [qCw_nil hhc]) rfl rfl ⟨g3.1, g3.2, hd1⟩ hrm
        exact va_runS (As := av.map (qSh b base)) FX hM cw hPS rfl rfl hl.1 (qStS e1) hW8 d ⟨hC, hZ⟩
      | cons h0 t0 =>
        have cw := vx_cwSW (R := R) (own := qOwn (qmO mm)) (index := idx) (y := qmY (r1 - 10)) (bytes := qmB (r1 - 10)) (maxL := qmL (r1 - 10)) (ret := qmR (r1 - 10)) (hh := h0 :: t0) (ws := [qCw (qMI (r1 - 10))]) (ws' := []) (rm := { frames := qmF (r1 - 10), locals := qmG (r1 - 10), cells := pC g1 - pC g, slots := pZ g1 - pZ g }) (mc := pC g1 - pC g) (ms := pZ g1 - pZ g) (av.map (qSh b base)).length hts
          (hgin hlw) (by rw [qCw_cons hhc]) rfl rfl ⟨g3.1, g3.2, hd1⟩ hrm
        exact vx_runSW (As := av.map (qSh b base)) FX hM cw hPS rfl rfl hl.1 (qStS e1) hW8 d ⟨hC, hZ⟩
    · rw [if_pos z] at hlw
      have hhc : qmH (r1 - 10) = [] := s2.resolve_right (by omega)
      have cw := va_cnB (R := R) (own := qOwn (qmO mm)) (host := if qmO mm ≤ 9 then RX9 else RX11) (index := idx) (y := qmY (r1 - 10)) (bytes := qmB (r1 - 10)) (maxL := qmL (r1 - 10)) (ret := qmR (r1 - 10)) (ws := [qCw (qMI (r1 - 10))]) (ws' := []) (rm := { frames := qmF (r1 - 10), locals := qmG (r1 - 10), cells := pC g1 - pC g, slots := pZ g1 - pZ g }) (mc := pC g1 - pC g) (ms := pZ g1 - pZ g) (av.map (qSh b base)).length hts
        (qCw_in i2 i3) (by rw [qCw_nil hhc]) rfl rfl (htn _ (qTs_of hlw rfl)) (hts _ (qTs_of g7 rfl)) ⟨g3.1, g3.2, hd1⟩ hrm
      exact va_runSN (As := av.map (qSh b base)) FX hM ⟨cw, hts _ (qTs_of g6 rfl), trivial⟩ hPS rfl rfl hl.1 (qStS e1) hW8 d ⟨hC, hZ⟩
  case invokespecial idx =>
    have h9 : r1 ≠ 0 ∧ r1 ≠ 9 := by
      unfold pKind at hk
      dsimp only at hk
      refine ⟨fun z => ?_, fun z => ?_⟩
      · first | omega | (rw [if_pos z] at hk; omega)
      · rw [if_neg (by omega), if_pos z] at hk; omega
    simp only [Bool.and_eq_true, decide_eq_true_eq, beq_iff_eq, Bool.or_eq_true] at hok
    obtain ⟨d, h1, h2, h3⟩ := hok
    subst h1
    refine ⟨?_, qNx_spec h2 ht⟩
    obtain ⟨nest, hn, hlw, f0, f1, f2, f3, f4⟩ := qMok_spec (h3.resolve_left h9.2)
    have h10 : 4 ≤ r1 := by
      rcases Nat.lt_or_ge r1 4 with z | z
      · have z1 := (f3 (by omega)).2
        rw [if_neg h9.1] at z1
        omega
      · exact z
    obtain ⟨i1, i2, i3, i4, i5, i6, -, -, i7⟩ := f4 h10
    obtain ⟨s1, s2, s3, s4⟩ := i7 rfl
    obtain ⟨g1', g2, g3, g4, g5, g6, g7⟩ := qMo_spec i2 i3
    have hmn : qMn r1 = qmY (r1 - 10) := by
      unfold qMn
      rw [if_neg (by omega), if_neg (by omega), if_neg (by omega), if_neg (by omega)]
    rw [hmn] at hlw
    rw [if_neg (by omega)] at g6
    unfold pRv at hv
    dsimp only at hv
    cases av with
    | nil => cases hv
    | cons v0 As =>
      cases v0 <;> try (exact absurd (show false = true from hv) (by decide))
      case ref a =>
        have hlen : As.length + 1 = qmN (r1 - 10) := e2
        have hd1 : (parseMethodDescriptor (qmY (r1 - 10)).desc).map (fun d => d.parameters.length) = some (As.map (qSh b base)).length := by
          rw [g4, List.length_map, s1]
          exact congrArg some (by omega)
        have hM := qMet (av := .ref a :: As) hOK ih i2 i3 htr hr he
        have hPS : PreS s H (qPc D dA b base (.ref a :: As) g) (.ref (qAd b base a) :: As.map (qSh b base)) := ⟨qPc_blind, fun U hU hW => qPcOf hctx hR hS hU hW⟩
        have hcw : [qCw (qMI (r1 - 10))] = Cond.code (qmY (r1 - 10)) (qmB (r1 - 10)) (qmL (r1 - 10)) none :: [] := by rw [qCw_nil s2]; exact congrArg (fun z => [Cond.code (qmY (r1 - 10)) (qmB (r1 - 10)) (qmL (r1 - 10)) z]) s4
        have hrm : qmF (r1 - 10) + 1 ≤ R.frames ∧ 8 + (qmL (r1 - 10) + 11) + qmG (r1 - 10) ≤ R.locals := ⟨by omega, by omega⟩
        rcases i4 with z | z
        · rw [if_neg (by omega)] at hlw
          have cw := cwI (R := R) (own := qOwn (qmO mm)) (index := idx) (y := qmY (r1 - 10)) (bytes := qmB (r1 - 10)) (maxL := qmL (r1 - 10)) (ws := [qCw (qMI (r1 - 10))]) (ws' := []) (rm := { frames := qmF (r1 - 10), locals := qmG (r1 - 10), cells := pC g1 - pC g, slots := pZ g1 - pZ g }) (mc := pC g1 - pC g) (ms := pZ g1 - pZ g) (As.map (qSh b base)).length hts
            (qCw_in i2 i3) hcw rfl rfl (hts _ (qTs_of g7 rfl)) (hts _ (qTs_of hlw rfl)) (hts _ (qTs_of g6 rfl)) s3 ⟨g3.1, g3.2, hd1⟩ hrm
          exact va_runI FX hM cw hPS rfl rfl hl.1 (qStV e1) hW8 d ⟨hC, hZ⟩
        · rw [if_pos z] at hlw
          have cw := va_cnB (R := R) (own := qOwn (qmO mm)) (host := if qmO mm ≤ 9 then RX9 else RX11) (index := idx) (y := qmY (r1 - 10)) (bytes := qmB (r1 - 10)) (maxL := qmL (r1 - 10)) (ret := none) (ws := [qCw (qMI (r1 - 10))]) (ws' := []) (rm := { frames := qmF (r1 - 10), locals := qmG (r1 - 10), cells := pC g1 - pC g, slots := pZ g1 - pZ g }) (mc := pC g1 - pC g) (ms := pZ g1 - pZ g) (As.map (qSh b base)).length hts
            (qCw_in i2 i3) hcw rfl rfl (htn _ (qTs_of hlw rfl)) (hts _ (qTs_of g7 rfl)) ⟨g3.1, g3.2, hd1⟩ hrm
          exact va_runIN FX hM ⟨cw, s3, hts _ (qTs_of g6 rfl)⟩ hPS rfl rfl hl.1 (qStV e1) hW8 d ⟨hC, hZ⟩
  all_goals (unfold pKind at hk; dsimp only at hk; first | omega | (split at hk <;> omega))
/-- a call that throws -/
theorem qCallX {mm i pc len r1 c0 z0 x : Nat} {r2 r3 : Nat} {ins : Instr} {tl : List PRow} {ls : PV} {lsM : Array Slot} {st av rest : List Value} {g g1 : PS} (hOK : qAllOk) (ih : qSimAt D dA b base l n) (F : qFm D dA b base p l R s m meth c mm)
    (hok : qRowOk (qmO mm) (decide ((qmY mm).name = "<init>")) (qmF mm) (qmG mm) (qmB mm) (qRows mm) tl (pc, ins, len, r1, r2, r3) = true) (hk : pKind ins r1 = 2) (hr2 : r2 = 0) (hp : pPop (qmN (r1 - 10)) st = some (av, rest)) (hsm : rest.length ≤ 4 ∨ (rest.map fun v => v.category).sum ≤ 8)
    (he : (pEnt av).length ≤ qmL (r1 - 10)) (hv : pRv ins (qmO (r1 - 10)) av g = true) (hr : pRun qPT n (r1 - 10) 0 (pEntry (qmL (r1 - 10)) av) [] g = some (.inr x, g1)) (hl : qLs b base (qmL mm) lsM ls) (hR : qRel D dA b base g H) (hS : va_S (qA base) s.heap H locs)
    (hC : (pC g - c0) + (pC g1 - pC g) ≤ R.cells) (hZ : (pZ g - z0) + (pZ g1 - pZ g) ≤ R.slots) :
    vx_Run p l e R s m args below meth c H locs (pC g - c0) (pZ g - z0) (pC g1 - pC g) (pZ g1 - pZ g) (F0 m pc lsM (st.map (qSh b base))) (rest.map (qSh b base)) (fun _ _ _ => False) (qXr D dA b base x g1) (qA base) := by
  obtain ⟨⟨hx, hb, hml, hown, hlocks, htr, hctx, hfr, hlo, hinit⟩, htab, hret⟩ := id F
  obtain ⟨e1, e2⟩ := pPop_inv hp
  dsimp only at e1 e2
  have hW8 : 2 * (F0 m pc lsM (st.map (qSh b base))).monitorRoom + ((rest.map (qSh b base)).map fun v => v.category).sum ≤ 8 := by
    have := qSm (b := b) (base := base) hsm
    show 2 * 0 + _ ≤ 8
    omega
  have hts := qHts (args := args) hctx
  have FX : CallFix p m c (qmB mm) (qmL mm) s args qTs (qOwn (qmO mm)) := ⟨hx, hb, hml, hown, hts⟩
  unfold qRowOk at hok
  cases ins <;> try (exact absurd hk (by decide))
  case invokevirtual idx =>
    simp only [Bool.and_eq_true, decide_eq_true_eq, beq_iff_eq] at hok
    obtain ⟨d, h1, h2, h3⟩ := hok
    subst h1
    obtain ⟨nest, hn, hlw, f0, f1, f2, f3, f4⟩ := qMok_spec h3
    have h10 : 4 ≤ r1 := by
      rcases Nat.lt_or_ge r1 4 with z | z
      · have z1 := (f3 (by omega)).2
        split at z1 <;> omega
      · exact z
    obtain ⟨i1, i2, i3, i4, i5, i6, i7, -, -⟩ := f4 h10
    obtain ⟨s1, s2, s3⟩ := i7 rfl
    obtain ⟨g1', g2, g3, g4, g5, g6, g7⟩ := qMo_spec i2 i3
    have hmn : qMn r1 = qmY (r1 - 10) := by
      unfold qMn
      rw [if_neg (by omega), if_neg (by omega), if_neg (by omega), if_neg (by omega)]
    rw [hmn, if_neg (by omega)] at hlw
    rw [if_neg (by omega)] at g6
    unfold pRv at hv
    dsimp only at hv
    cases av with
    | nil => cases hv
    | cons v0 As =>
      cases v0 <;> try (exact absurd (show false = true from hv) (by decide))
      case ref a =>
        have hv2 := of_decide_eq_true hv
        have hlen : As.length + 1 = qmN (r1 - 10) := e2
        have hd1 : (parseMethodDescriptor (qmY (r1 - 10)).desc).map (fun d => d.parameters.length) = some (As.map (qSh b base)).length := by
          rw [g4, List.length_map, s1]
          exact congrArg some (by omega)
        have hM := qMetX (av := .ref a :: As) hOK ih i2 i3 htr hr he
        have hcell := qRcv hctx hR hv2.1 hv2.2
        have hPV : PreV s H (qOwn (qmO (r1 - 10))) (qAd b base a) (qPc D dA b base (.ref a :: As) g) (As.map (qSh b base)) := ⟨qPc_blind, hcell, fun U hU hW => qPcOf hctx hR hS hU hW⟩
        have hinW : Cond.initialized (qOwn (qmO (r1 - 10))) ∈ lw_tbl := by rw [← g2]; exact g7
        have cw := cwV (R := R) (own := qOwn (qmO mm)) (C := qOwn (qmO (r1 - 10))) (index := idx) (y := qmY (r1 - 10)) (bytes := qmB (r1 - 10)) (maxL := qmL (r1 - 10)) (ret := qmR (r1 - 10)) (ws := [qCw (qMI (r1 - 10))]) (ws' := []) (rm := { frames := qmF (r1 - 10), locals := qmG (r1 - 10), cells := pC g1 - pC g, slots := pZ g1 - pZ g }) (mc := pC g1 - pC g) (ms := pZ g1 - pZ g) (As.map (qSh b base)).length hts
            (fun w hw => by
              unfold wsV at hw
              rcases List.mem_append.mp hw with hw | hw
              · simp only [List.mem_cons, List.not_mem_nil, or_false] at hw
                rcases hw with rfl | rfl | rfl | rfl
                · exact ⟨qTs_of hlw rfl, Or.inl rfl⟩
                · exact ⟨qTs_of g6 rfl, Or.inl rfl⟩
                · exact ⟨qTs_of s3 rfl, Or.inl rfl⟩
                · exact ⟨qTs_of hinW rfl, Or.inl rfl⟩
              · exact qCw_in i2 i3 w hw) (by rw [qCw_nil s2]) rfl rfl ⟨g2, g3.1, g3.2, hd1⟩ ⟨by show qmF (r1 - 10) + 1 ≤ _; omega, by show 8 + (qmL (r1 - 10) + 11) + qmG (r1 - 10) ≤ _; omega⟩
        exact vx_runV FX hM cw hPV rfl rfl hl.1 (qStV e1) hW8 d ⟨hC, hZ⟩
  case invokestatic idx =>
    simp only [Bool.and_eq_true, decide_eq_true_eq, beq_iff_eq] at hok
    obtain ⟨d, h1, h2, h3⟩ := hok
    subst h1
    obtain ⟨nest, hn, hlw, f0, f1, f2, f3, f4⟩ := qMok_spec h3
    have h10 : 4 ≤ r1 := by
      rcases Nat.lt_or_ge r1 4 with z | z
      · unfold pKind at hk
        dsimp only at hk
        split at hk
        · omega
        · first | omega | (rw [if_pos z] at hk; omega)
      · exact z
    obtain ⟨i1, i2, i3, i4, i5, i6, -, i7, -⟩ := f4 h10
    obtain ⟨s1, s2⟩ := i7 rfl
    obtain ⟨g1', g2, g3, g4, g5, g6, g7⟩ := qMo_spec i2 i3
    have hmn : qMn r1 = qmY (r1 - 10) := by
      unfold qMn
      rw [if_neg (by omega), if_neg (by omega), if_neg (by omega), if_neg (by omega)]
    rw [hmn, if_neg (by omega)] at hlw
    rw [if_pos s1] at g6
    have hd1 : (parseMethodDescriptor (qmY (r1 - 10)).desc).map (fun d => d.parameters.length) = some (av.map (qSh b base)).length := by
      rw [g4, List.length_map, s1]
      exact congrArg some (by omega)
    have hM := qMetX (av := av) hOK ih i2 i3 htr hr he
    have hPS : PreS s H (qPc D dA b base av g) (av.map (qSh b base)) := ⟨qPc_blind, fun U hU hW => qPcOf hctx hR hS hU hW⟩
    have hhc : qmH (r1 - 10) = [] := qH_none i2 (pRun_inr qPT n (r1 - 10) 0 _ _ g x g1 hr)
    have cw := va_cwS (R := R) (own := qOwn (qmO mm)) (index := idx) (y := qmY (r1 - 10)) (bytes := qmB (r1 - 10)) (maxL := qmL (r1 - 10)) (ret := qmR (r1 - 10)) (ws := [qCw (qMI (r1 - 10))]) (ws' := []) (rm := { frames := qmF (r1 - 10), locals := qmG (r1 - 10), cells := pC g1 - pC g, slots := pZ g1 - pZ g }) (mc := pC g1 - pC g) (ms := pZ g1 - pZ g) (av.map (qSh b base)).length hts
      (fun w hw => by
      unfold va_wsS at hw
      rcases List.mem_append.mp hw with hw | hw
      · simp only [List.mem_cons, List.not_mem_nil, or_false] at hw
        rcases hw with rfl | rfl | rfl
        · exact ⟨qTs_of hlw rfl, Or.inl rfl⟩
        · exact ⟨qTs_of g6 rfl, Or.inl rfl⟩
        · exact ⟨qTs_of g7 rfl, Or.inl rfl⟩
      · exact qCw_in i2 i3 w hw) (by rw [qCw_nil hhc]) rfl rfl ⟨g3.1, g3.2, hd1⟩ ⟨by show qmF (r1 - 10) + 1 ≤ _; omega, by show 8 + (qmL (r1 - 10) + 11) + qmG (r1 - 10) ≤ _; omega⟩
    exact vx_runS (As := av.map (qSh b base)) FX hM cw hPS rfl rfl hl.1 (qStS e1) hW8 d ⟨hC, hZ⟩
  case invokespecial idx =>
    have h9 : r1 ≠ 9 := by
      unfold pKind at hk
      dsimp only at hk
      intro z
      rw [if_neg (by omega), if_pos z] at hk; omega
    simp only [Bool.and_eq_true, decide_eq_true_eq, beq_iff_eq, Bool.or_eq_true] at hok
    obtain ⟨nest, hn, -⟩ := qMok_spec (hok.2.2.2.resolve_left h9)
    omega
  all_goals (unfold pKind at hk; dsimp only at hk; first | omega | (split at hk <;> omega))
end QSIM
end
section
/-! ===== THE SIMULATION, put together ===== -/
section QMAIN
variable {D : va_G} {dA : Nat → ClassId} {b base : Nat} {l : Launch} {n : Nat}
variable {p : Program} {e : Env} {R : Room} {s : State} {m : MethodId} {args : Array Value} {below : List Frame} {meth : Method} {c : Code} {H : Heap} {locs : List Loc} {Q : State → Prop}
theorem pIdx_spec {pc : Nat} : ∀ {L : List PRow} {k h : Nat}, pIdx L pc k = some h → k ≤ h ∧ (L[h - k]?).map (fun r => r.1) = some pc
  | [], k, h, hh => by cases hh
  | r :: t, k, h, hh => by
    unfold pIdx at hh
    split at hh
    · rename_i e
      cases hh
      refine ⟨Nat.le_refl _, ?_⟩
      rw [Nat.sub_self]
      exact congrArg some e
    · obtain ⟨a1, a2⟩ := pIdx_spec hh
      refine ⟨by omega, ?_⟩
      rw [show h - k = (h - (k + 1)) + 1 by omega, List.getElem?_cons_succ]
      exact a2
/-- an answer -/
theorem qRetn {mm pc len r1 r2 r3 c0 z0 : Nat} {ins : Instr} {tl : List PRow} {lsM : Array Slot} {st : List Value} {g : PS} {v : Option Value} (F : qFm D dA b base p l R s m meth c mm)
    (hok : qRowOk (qmO mm) (decide ((qmY mm).name = "<init>")) (qmF mm) (qmG mm) (qmB mm) (qRows mm) tl (pc, ins, len, r1, r2, r3) = true) (hv : pRet (qmR mm) ins st = some v) (hR : qRel D dA b base g H) (hS : va_S (qA base) s.heap H locs) :
    W p l e R s m args below meth c H locs (pC g - c0) (pZ g - z0) (MQ below (qQr D dA b base v g) args s (pC g - c0) (pZ g - z0) (qA base)) (F0 m pc lsM (st.map (qSh b base))) := by
  obtain ⟨⟨hx, hb, hml, hown, hlocks, htr, hctx, hfr, hlo, hinit⟩, htab, hret⟩ := id F
  unfold qRowOk at hok
  have hf : ∀ q ∈ locs, qA base q.base := fun q hq => hS.2.2 q hq
  have hq : ∀ t : State, t.heap = H → s.WarmedH t.vm → qQr D dA b base v g args s (.returned (v.map (qSh b base))) t := fun t ht _ => ⟨rfl, by rw [ht]; exact hR, hS.F ht⟩
  unfold pRet at hv
  split at hv
  · simp only [Bool.and_eq_true, decide_eq_true_eq, beq_iff_eq] at hok
    obtain ⟨d, h1⟩ := hok
    subst h1
    split at hv
    · split at hv
      · rename_i hrt
        cases hv
        exact W.iret hx hb (hret.trans hrt) hq hf d hlocks
      · rename_i x _ hrt
        split at hv
        · rename_i h01
          cases hv
          exact W.zret (ty := .boolean) hx hb (hret.trans hrt) (by rcases h01 with rfl | rfl <;> rfl) hq hf d hlocks
        · cases hv
      · cases hv
    · cases hv
  · simp only [Bool.and_eq_true, decide_eq_true_eq, beq_iff_eq] at hok
    obtain ⟨d, h1⟩ := hok
    subst h1
    split at hv
    · split at hv
      · rename_i hrt
        cases hv
        exact W.lret hx hb (hret.trans hrt) hq hf d hlocks
      · cases hv
    · cases hv
  · simp only [Bool.and_eq_true, decide_eq_true_eq, beq_iff_eq] at hok
    obtain ⟨d, h1⟩ := hok
    subst h1
    split at hv
    · split at hv
      · rename_i hrt
        cases hv
        exact W.dret hx hb (hret.trans hrt) hq hf d hlocks
      · cases hv
    · cases hv
  · simp only [Bool.and_eq_true, decide_eq_true_eq, beq_iff_eq] at hok
    obtain ⟨d, h1⟩ := hok
    subst h1
    split at hv
    · split at hv
      · rename_i hrt
        cases hv
        exact W.aret hx hb (hret.trans hrt) (Or.inl ⟨_, rfl⟩) (Or.inr ⟨_, rfl⟩) hq hf d hlocks
      · cases hv
    · split at hv
      · rename_i hrt
        cases hv
        exact W.aret (v := .null) hx hb (hret.trans hrt) (Or.inl ⟨_, rfl⟩) (Or.inl rfl) hq hf d hlocks
      · cases hv
    · cases hv
  · simp only [Bool.and_eq_true, decide_eq_true_eq, beq_iff_eq] at hok
    obtain ⟨d, h1⟩ := hok
    subst h1
    split at hv
    · split at hv
      · rename_i hrt
        cases hv
        exact W.vret hx hb (hret.trans hrt) hq hf d hlocks
      · cases hv
    · cases hv
  · cases hv
/-- an exception of its own -/
theorem qThrow {mm pc len r1 r2 r3 c0 z0 : Nat} {ins : Instr} {tl : List PRow} {lsM : Array Slot} {ls : PV} {st : List Value} {g : PS} {Qc : Array Value → State → Outcome → State → Prop} (hm : mm < 381) (F : qFm D dA b base p l R s m meth c mm)
    (hok : qRowOk (qmO mm) (decide ((qmY mm).name = "<init>")) (qmF mm) (qmG mm) (qmB mm) (qRows mm) tl (pc, ins, len, r1, r2, r3) = true) (hk : pKind ins r1 = 3) (hsm : st.length ≤ 4 ∨ (st.map fun v => v.category).sum ≤ 8) (hd : qHd mm = []) (hl : qLs b base (qmL mm) lsM ls)
    (hR : qRel D dA b base g H) (hS : va_S (qA base) s.heap H locs) (hc : c0 ≤ pC g) (hz : z0 ≤ pZ g) (hC : pC (pThr g) - c0 ≤ R.cells) (hZ : pZ (pThr g) - z0 ≤ R.slots) :
    W p l e R s m args below meth c H locs (pC g - c0) (pZ g - z0) (vx_MQ below Qc (qXr D dA b base (r1 - 100) (pThr g)) args s (pC (pThr g) - c0) (pZ (pThr g) - z0) (qA base)) (F0 m pc lsM (st.map (qSh b base))) := by
  obtain ⟨⟨hx, hb, hml, hown, hlocks, htr, hctx, hfr, hlo, hinit⟩, htab, hret⟩ := id F
  have hts := qHts (args := args) hctx
  have htb : c.exceptionTable.toList = [] := by rw [htab, qH_none hm hd]; rfl
  have hW8 : ((st.map (qSh b base)).map fun v => v.category).sum ≤ 8 := qSm hsm
  unfold qRowOk at hok
  cases ins <;> try (exact absurd hk (by decide))
  case new idx =>
    have h12 : ¬ r1 < 12 := fun z => by
      unfold pKind at hk
      dsimp only at hk
      rw [if_pos z] at hk
      omega
    dsimp only at hok
    rw [if_neg h12] at hok
    simp only [Bool.and_eq_true, decide_eq_true_eq] at hok
    obtain ⟨-, h100, hth⟩ := hok
    unfold qThok at hth
    split at hth
    · cases hth
    · rename_i t htj
      simp only [Bool.and_eq_true, decide_eq_true_eq, beq_iff_eq] at hth
      obtain ⟨ho, he, ⟨h6, h90⟩, d0, d3, hw⟩ := hth
      have hq := List.all_eq_true.mp qTH_ok t (List.mem_of_getElem? htj)
      simp only [Bool.and_eq_true, decide_eq_true_eq] at hq
      obtain ⟨he3, hic, hwd, hcl⟩ := hq
      obtain ⟨tx, sa, hstr⟩ := hctx.2.2.2.2.2.2.2.1 r3 t htj
      rw [ho] at hown
      rw [he] at he3 hic hcl
      have hown9 : s.vm.findClass RX9 = some m.cls := hown
      have hX := qExI he3
      have hat : ∀ w ∈ vx_atS RX9 t.2.2.1 (qEx (r1 - 100)) qUp, w ∈ qTs ∧ vx_ot w = true := by rw [← hic]; exact qOwnW he3
      have hfit := List.all_eq_true.mp qExFit (r1 - 100) (List.mem_range.mpr he3)
      simp only [Bool.and_eq_true] at hfit
      have hnames : ∀ n ∈ qUp, Bundle.fit n = true := fun n hn => List.all_eq_true.mp hfit.2 n hn
      have hxx : ∀ t : State, s.vm.Alike t.vm → t.heap.size = H.size + 1 → (∀ q : Nat, q < H.size → t.heap[q]? = H[q]?) → qXr D dA b base (r1 - 100) (pThr g) (qEx (r1 - 100)) s t := fun t _ hz1 hq1 =>
        ⟨rfl, hR.thr hz1 hq1, ⟨by have := hS.1; omega, fun q h1 h2 => by rw [hq1 q (Nat.lt_of_lt_of_le h1 hS.1)]; exact hS.2.1 q h1 h2⟩⟩
      have hC1 : pC g - c0 + 1 ≤ pC (pThr g) - c0 := by show pC g - c0 + 1 ≤ pC g + 1 - c0; omega
      have hZ1 : pZ g - z0 + 6 ≤ pZ (pThr g) - z0 := by show pZ g - z0 + 6 ≤ pZ g + 6 - z0; omega
      have hgood : ∀ w ∈ Cond.classLink RX9 t.1 (qEx (r1 - 100)) :: Cond.initialized (qEx (r1 - 100)) :: vx_atS RX9 t.2.2.1 (qEx (r1 - 100)) qUp, vx_ot w = true := by
        intro w hw
        rcases List.mem_cons.mp hw with e1 | hw
        · rw [e1]; rfl
        · rcases List.mem_cons.mp hw with e1 | hw
          · rw [e1]; rfl
          · exact (hat w hw).2
      split at hw
      · simp only [Bool.and_eq_true, decide_eq_true_eq] at hw
        exact qx_throwS hx hb htr hown9 hfit.1 hnames (hts _ (qTs_of (qGet_mem hcl) rfl)) (hts _ (qTs_of hX.1 rfl)) hstr (fun w hw => hts w (hat w hw).1) hgood hctx.2.2.2.2.2.1 hctx.2.2.2.2.2.2.1 hS (by rw [hml]; exact hl.1)
          d0 d3 hw.1 hw.2.1 hw.2.2 (fun x hx => by rw [htb] at hx; cases hx) (by show 2 + 3 < R.frames; omega) (by show _ + (13 * (2 + 1) + 43) ≤ R.locals; omega) (by omega) (by omega) hlocks hxx (fun z hz => hS.2.2 z hz) hC1 hZ1
      · simp only [Bool.and_eq_true, decide_eq_true_eq] at hw
        exact qx_throwSW hx hb htr hown9 hfit.1 hnames (hts _ (qTs_of (qGet_mem hcl) rfl)) (hts _ (qTs_of hX.1 rfl)) hstr (fun w hw => hts w (hat w hw).1) hgood hctx.2.2.2.2.2.1 hctx.2.2.2.2.2.2.1 hS (by rw [hml]; exact hl.1)
          d0 d3 hw.1 hw.2.1 hw.2.2 (fun x hx => by rw [htb] at hx; cases hx) (by show 2 + 3 < R.frames; omega) (by show _ + (13 * (2 + 1) + 43) ≤ R.locals; omega) (by omega) (by omega) hlocks hxx (fun z hz => hS.2.2 z hz) hC1 hZ1
  all_goals (unfold pKind at hk; dsimp only at hk; first | omega | (split at hk <;> first | omega | (split at hk <;> omega)))
/-- Object.<init> -/
theorem qObjI {mm i pc len r1 r2 r3 c0 z0 a : Nat} {ins : Instr} {tl : List PRow} {ls : PV} {lsM : Array Slot} {rest : List Value} {g : PS} (F : qFm D dA b base p l R s m meth c mm)
    (hok : qRowOk (qmO mm) (decide ((qmY mm).name = "<init>")) (qmF mm) (qmG mm) (qmB mm) (qRows mm) tl (pc, ins, len, r1, r2, r3) = true) (ht : (qRows mm).drop (i + 1) = tl) (hk : pKind ins r1 = 4) (hsm : rest.length ≤ 4 ∨ (rest.map fun v => v.category).sum ≤ 8) (hl : qLs b base (qmL mm) lsM ls)
    (hR : qRel D dA b base g H) (hS : va_S (qA base) s.heap H locs) (k : qK D dA b base (qmL mm) (qRows mm) p l e R s m args below meth c c0 z0 Q (i + 1, ls, rest, g)) :
    W p l e R s m args below meth c H locs (pC g - c0) (pZ g - z0) Q (F0 m pc lsM ((.ref a :: rest).map (qSh b base))) := by
  obtain ⟨⟨hx, hb, hml, hown, hlocks, htr, hctx, hfr, hlo, hinit⟩, htab, hret⟩ := id F
  have hts := qHts (args := args) hctx
  have hW8 : ((rest.map (qSh b base)).map fun v => v.category).sum ≤ 8 := qSm hsm
  unfold qRowOk at hok
  cases ins <;> try (exact absurd hk (by decide))
  case invokespecial idx =>
    have h0 : r1 = 0 := by
      unfold pKind at hk
      dsimp only at hk
      split at hk
      · assumption
      · split at hk <;> omega
    simp only [Bool.and_eq_true, decide_eq_true_eq, beq_iff_eq, Bool.or_eq_true] at hok
    obtain ⟨d, h1, h2, h3⟩ := hok
    subst h1
    subst h0
    obtain ⟨nest, hn, hlw, f0, f1, f2, f3, f4⟩ := qMok_spec (h3.resolve_left (by omega))
    rw [if_neg (by have := (f3 (by omega)).1; omega)] at hlw
    have f0' := f0 rfl
    exact W.objInit hx hb hown (hts _ (qTs_of hlw rfl)) (hts _ (qTs_of (qGet_mem (x := 1027) rfl) rfl)) (hts _ (qTs_of (qGet_mem (x := 1028) rfl) rfl)) rfl (by rw [hml]; exact hl.1) (rest := rest.map (qSh b base)) rfl d (by omega) (by show 2 * 0 + _ + 12 ≤ _; omega)
      (k _ _ _ _ (qNx_spec h2 ht) hl hR hS)
  all_goals (unfold pKind at hk; dsimp only at hk; first | omega | (split at hk <;> first | omega | (split at hk <;> omega)))
/-- Math.max, Math.min -/
theorem qMinMax {mm i pc len r1 r2 r3 c0 z0 : Nat} {x y : Int32} {ins : Instr} {tl : List PRow} {ls : PV} {lsM : Array Slot} {rest : List Value} {g : PS} (F : qFm D dA b base p l R s m meth c mm)
    (hok : qRowOk (qmO mm) (decide ((qmY mm).name = "<init>")) (qmF mm) (qmG mm) (qmB mm) (qRows mm) tl (pc, ins, len, r1, r2, r3) = true) (ht : (qRows mm).drop (i + 1) = tl) (hk : pKind ins r1 = 7) (hsm : rest.length ≤ 4 ∨ (rest.map fun v => v.category).sum ≤ 8) (hl : qLs b base (qmL mm) lsM ls)
    (hR : qRel D dA b base g H) (hS : va_S (qA base) s.heap H locs) (hC : pC g - c0 ≤ R.cells) (hZ : pZ g - z0 ≤ R.slots)
    (k : qK D dA b base (qmL mm) (qRows mm) p l e R s m args below meth c c0 z0 Q (i + 1, ls, .int (if r1 = 2 then (if x < y then y else x) else (if y < x then y else x)) :: rest, g)) :
    W p l e R s m args below meth c H locs (pC g - c0) (pZ g - z0) Q (F0 m pc lsM ((.int y :: .int x :: rest).map (qSh b base))) := by
  obtain ⟨⟨hx, hb, hml, hown, hlocks, htr, hctx, hfr, hlo, hinit⟩, htab, hret⟩ := id F
  have hts := qHts (args := args) hctx
  have hW8 : ((rest.map (qSh b base)).map fun v => v.category).sum ≤ 8 := qSm hsm
  have hmls : c.maxLocals = lsM.size := by rw [hml]; exact hl.1.symm
  unfold qRowOk at hok
  cases ins <;> try (exact absurd hk (by decide))
  case invokestatic idx =>
    simp only [Bool.and_eq_true, decide_eq_true_eq, beq_iff_eq, Bool.or_eq_true] at hok
    obtain ⟨d, h1, h2, h3⟩ := hok
    subst h1
    obtain ⟨nest, hn, hlw, f0, f1, f2, f3, f4⟩ := qMok_spec h3
    have h4 : r1 = 2 ∨ r1 = 3 := by
      unfold pKind at hk
      dsimp only at hk
      split at hk
      · omega
      · split at hk
        · have z1 := (f3 (by omega)).2
          split at z1 <;> omega
        · omega
    rw [if_neg (by have := (f3 (by omega)).1; omega)] at hlw
    have f1' := f1 (by omega)
    have f2' := f2 (by omega) (by omega)
    have hini : (Cond.initialized "java/lang/Math").before args s = true := hts _ (qTs_of (qGet_mem (x := 1017) rfl) rfl)
    rcases h4 with z | z
    · subst z
      exact va_mmax hx hb hmls hown (hts _ (qTs_of hlw rfl)) (hts _ (qTs_of (qGet_mem (x := 3153) rfl) rfl)) hini (hts _ (qTs_of (qGet_mem (x := 3154) rfl) rfl)) (by omega) (by omega) hC hZ d (k _ _ _ _ (qNx_spec h2 ht) hl hR hS)
    · subst z
      exact va_mmin hx hb hmls hown (hts _ (qTs_of hlw rfl)) (hts _ (qTs_of (qGet_mem (x := 3160) rfl) rfl)) hini (hts _ (qTs_of (qGet_mem (x := 3161) rfl) rfl)) (by omega) (by omega) hC hZ d (k _ _ _ _ (qNx_spec h2 ht) hl hR hS)
  all_goals (unfold pKind at hk; dsimp only at hk; first | omega | (split at hk <;> first | omega | (split at hk <;> omega)))
/-- System.arraycopy -/
theorem qArc {mm i pc len r1 r2 r3 c0 z0 : Nat} {ins : Instr} {tl : List PRow} {ls : PV} {lsM : Array Slot} {st : List Value} {g : PS} {q : PR} (F : qFm D dA b base p l R s m meth c mm)
    (hok : qRowOk (qmO mm) (decide ((qmY mm).name = "<init>")) (qmF mm) (qmG mm) (qmB mm) (qRows mm) tl (pc, ins, len, r1, r2, r3) = true) (ht : (qRows mm).drop (i + 1) = tl) (hk : pKind ins r1 = 5) (hq : pAcp (i + 1) ls st g = some q) (hsm : q.2.2.1.length ≤ 4 ∨ (q.2.2.1.map fun v => v.category).sum ≤ 8) (hl : qLs b base (qmL mm) lsM ls)
    (hR : qRel D dA b base g H) (hS : va_S (qA base) s.heap H locs) (k : qK D dA b base (qmL mm) (qRows mm) p l e R s m args below meth c c0 z0 Q q) :
    W p l e R s m args below meth c H locs (pC g - c0) (pZ g - z0) Q (F0 m pc lsM (st.map (qSh b base))) := by
  obtain ⟨⟨hx, hb, hml, hown, hlocks, htr, hctx, hfr, hlo, hinit⟩, htab, hret⟩ := id F
  unfold qRowOk at hok
  cases ins <;> try (exact absurd hk (by decide))
  case invokestatic idx =>
    have h1' : r1 = 1 := by
      unfold pKind at hk
      dsimp only at hk
      split at hk
      · assumption
      · split at hk <;> omega
    subst h1'
    simp only [Bool.and_eq_true, decide_eq_true_eq, beq_iff_eq, Bool.or_eq_true] at hok
    obtain ⟨d, h1, h2, h3⟩ := hok
    subst h1
    obtain ⟨nest, hn, hlw, f0, f1, f2, f3, f4⟩ := qMok_spec h3
    rw [if_neg (by have := (f3 (by omega)).1; omega)] at hlw
    exact q_acp (pc' := 0) F.1 d hlw (qNx_spec h2 ht) (f1 (by omega)) (f2 (by omega) (by omega)) hq hsm hl hR hS k
  all_goals (unfold pKind at hk; dsimp only at hk; first | omega | (split at hk <;> first | omega | (split at hk <;> omega)))
/-- a table switch -/
theorem qSwitch {mm pc len r1 r2 r3 c0 z0 h0 : Nat} {ins : Instr} {tl : List PRow} {ls : PV} {lsM : Array Slot} {st : List Value} {q : Nat × List Value} {g : PS} (F : qFm D dA b base p l R s m meth c mm)
    (hok : qRowOk (qmO mm) (decide ((qmY mm).name = "<init>")) (qmF mm) (qmG mm) (qmB mm) (qRows mm) tl (pc, ins, len, r1, r2, r3) = true) (hq : pSw ins pc st = some q) (hi : pIdx (qRows mm) q.1 0 = some h0) (hl : qLs b base (qmL mm) lsM ls)
    (hR : qRel D dA b base g H) (hS : va_S (qA base) s.heap H locs) (k : qK D dA b base (qmL mm) (qRows mm) p l e R s m args below meth c c0 z0 Q (h0, ls, q.2, g)) :
    W p l e R s m args below meth c H locs (pC g - c0) (pZ g - z0) Q (F0 m pc lsM (st.map (qSh b base))) := by
  obtain ⟨⟨hx, hb, hml, hown, hlocks, htr, hctx, hfr, hlo, hinit⟩, htab, hret⟩ := id F
  have hrow := (pIdx_spec hi).2
  rw [Nat.sub_zero] at hrow
  unfold qRowOk at hok
  unfold pSw at hq
  split at hq
  · simp only [Bool.and_eq_true, decide_eq_true_eq, beq_iff_eq] at hok
    obtain ⟨d, -⟩ := hok
    split at hq
    · split at hq
      · rename_i hout
        split at hq
        · cases hq
        · rename_i hneg
          cases hq
          exact lv_tableOut hx hb d hout (tgt := _) (by dsimp only; omega) (k _ _ _ _ hrow hl hR hS)
      · rename_i hin
        have h1 : ¬ _ := fun z => hin (Or.inl z)
        have h2 : ¬ _ := fun z => hin (Or.inr z)
        split at hq
        · rename_i off hoff
          split at hq
          · cases hq
          · rename_i hneg
            cases hq
            exact lv_tableIn hx hb d h1 h2 hoff (tgt := _) (by dsimp only; omega) (k _ _ _ _ hrow hl hR hS)
        · cases hq
    · cases hq
  · cases hq
/-- THE SIMULATION -/
theorem qSim (hOK : qAllOk) : ∀ n : Nat, qSimAt D dA b base l n
  | 0 => fun m i ls st g o g' h => by cases h
  | n + 1 => by
    have ih : qSimAt D dA b base l n := qSim hOK n
    intro m i ls st g o g' h p e R s mid args below meth c c0 z0 hm F hc hz hC hZ pc lsM H locs hpc hl hR hS
    replace hl : qLs b base (qmL m) lsM ls := hl
    replace hR : qRel D dA b base g H := hR
    replace hpc : ((qRows m)[i]?).map (fun r => r.1) = some pc := hpc
    show W p l e R s mid args below meth c H locs (pC g - c0) (pZ g - z0) (qEnd D dA b base below args s c0 z0 o g') (F0 mid pc lsM (st.map (qSh b base)))
    have go : ∀ {i' : Nat} {ls' : PV} {st' : List Value} {g1 : PS}, pRun qPT n m i' ls' st' g1 = some (o, g') → pC g ≤ pC g1 → pZ g ≤ pZ g1 → qK D dA b base (qmL m) (qRows m) p l e R s mid args below meth c c0 z0 (qEnd D dA b base below args s c0 z0 o g') (i', ls', st', g1) :=
      fun h1 h2 h3 => ih m _ _ _ _ o g' h1 p e R s mid args below meth c c0 z0 hm F (Nat.le_trans hc h2) (Nat.le_trans hz h3) hC hZ
    obtain ⟨hx, hb, hml, hown, hlocks, htr, hctx, hfr, hlo, hinit⟩ := id F.1
    have mono := pRun_mono qPT (n + 1) m i ls st g o g' h
    unfold pRun at h
    split at h
    · cases h
    · rename_i r hr
      have hr' : (qRows m)[i]? = some r := hr
      rw [hr'] at hpc
      obtain ⟨pc0, ins, len, r1, r2, r3⟩ := r
      have hpc0 : pc0 = pc := Option.some.inj hpc
      subst hpc0
      have hok := (hOK m hm).1 i _ hr'
      dsimp only at h
      split at h
      · rename_i hk
        split at h
        · cases h
        · rename_i q hq
          have m1 := pStep_mono hq
          have m2 := pRun_mono qPT n m _ _ _ _ _ _ h
          exact qStep F.1 hok rfl hk hq hl hR hS hc hz (by omega) (by omega) (go h m1.1 m1.2)
      · rename_i hk
        split at h
        · cases h
        · rename_i v hv
          cases h
          exact qRetn F hok hv hR hS
      · rename_i hk
        split at h
        · cases h
        · rename_i q hq
          split at h
          · rename_i hcond
            split at h
            · cases h
            · rename_i v g1 hcall
              have m1 := pRun_mono qPT n (r1 - 10) _ _ _ _ _ _ hcall
              have m2 := pRun_mono qPT n m _ _ _ _ _ _ h
              obtain ⟨hrun, hnext⟩ := qCallR (c0 := c0) (z0 := z0) hOK ih F hok rfl hk hq hcond.1 hcond.2.1 hcond.2.2 hcall hl hR hS (by omega) (by omega)
              refine qBack hrun hS (fun H' locs' hR' hS' => ?_)
              have h9 := go h m1.1 m1.2 (pc0 + 3) lsM H' locs' hnext hl hR' hS'
              rw [show pC g - c0 + (pC g1 - pC g) = pC g1 - c0 by omega, show pZ g - z0 + (pZ g1 - pZ g) = pZ g1 - z0 by omega]
              have e9 : (v.map (qSh b base)).toList ++ q.2.map (qSh b base) = (v.toList ++ q.2).map (qSh b base) := by cases v <;> simp
              rw [e9]
              exact h9
            · rename_i x g1 hcall
              have m1 := pRun_mono qPT n (r1 - 10) _ _ _ _ _ _ hcall
              split at h
              · rename_i hr2
                split at h
                · rename_i hhand
                  split at h
                  · rename_i hemp
                    cases h
                    have hd : qHd m = [] := List.isEmpty_iff.mp hemp
                    have htb : c.exceptionTable.toList = [] := by rw [F.2.1, qH_none hm hd]; rfl
                    refine qBackX (qCallX (i := i) (c0 := c0) (z0 := z0) hOK ih F hok hk hr2 hq hcond.1 hcond.2.1 hcond.2.2 hcall hl hR hS (by omega) (by omega)) hS (fun H' locs' ce q9 hR' hS' hce hcv hcl => ?_)
                    exact vx_out (fun x hx => by rw [htb] at hx; cases hx) hlocks hce hcv hcl (fun t ht _ => ⟨rfl, by rw [ht]; exact hR', hS'.F ht⟩) (fun z hz => hS'.2.2 z hz) (by omega) (by omega)
                  · cases h
                · rename_i h0 hhand
                  split at h
                  · cases h
                  · rename_i rr hrr
                    split at h
                    · cases h
                    · rename_i ls2 hls2
                      have m2 := pRun_mono qPT n m _ _ _ _ _ _ h
                      obtain ⟨ho12, hhok⟩ := qHands_of hm hhand
                      obtain ⟨pre, xe, suf, t1, t2, t3, t4, t5, t6, t7⟩ := qHandOk_spec hhok hhand
                      have hrr' : (qRows m)[h0]? = some rr := hrr
                      obtain ⟨pc2, ins2, len2, a1, a2, a3⟩ := rr
                      rw [hrr'] at t6
                      have hpc2 : pc2 = xe.handlerPc := Option.some.inj t6
                      have hok2 := (hOK m hm).1 h0 _ hrr'
                      have hts := qHts (args := args) hctx
                      rw [ho12] at hown
                      refine qBackX (qCallX (i := i) (c0 := c0) (z0 := z0) hOK ih F hok hk hr2 hq hcond.1 hcond.2.1 hcond.2.2 hcall hl hR hS (by omega) (by omega)) hS (fun H' locs' ce q9 hR' hS' hce hcv hcl => ?_)
                      refine vx_catch (own := RL) (name := qEx x) hown pre xe suf (by rw [F.2.1]; exact t1) (fun z hz => ?_) t2 t3 (hts _ (qTs_of t5 rfl)) (hts _ (qTs_of (qExI t4).2 rfl)) hce hcv hcl ?_
                      · rcases t7 z hz with y | ⟨y1, e2, y2, y3, y4⟩
                        · exact Or.inl y
                        · exact Or.inr ⟨y1, qEx e2, hts _ (qTs_of y4 rfl), hctx.2.2.2.2.2.2.2.2 x e2 t4 y2 (fun z => y3 z.symm)⟩
                      · rw [← hpc2, show pC g - c0 + (pC g1 - pC g) = pC g1 - c0 by omega, show pZ g - z0 + (pZ g1 - pZ g) = pZ g1 - z0 by omega]
                        have h9 := fun pc' lsM' hn hl' => go h m1.1 m1.2 pc' lsM' H' locs' hn hl' hR' hS'
                        unfold pCat at hls2
                        unfold qRowOk at hok2
                        dsimp only at hls2 hok2
                        cases ins2 <;> try (cases hls2)
                        case astore_n k9 =>
                          dsimp only at hls2 hok2
                          split at hls2
                          · rename_i hlt9
                            cases hls2
                            simp only [Bool.and_eq_true, decide_eq_true_eq, beq_iff_eq] at hok2
                            obtain ⟨d, g1', g2⟩ := hok2
                            subst g1'
                            exact lv_astore_n hx hb d rfl hl.has (by have := hl.2.1; omega) rfl (fun ls' hl' => h9 _ ls' (qNx_spec g2 rfl) (qLs.st0 hl hl'))
                          · cases hls2
                        case astore k9 =>
                          dsimp only at hls2 hok2
                          split at hls2
                          · rename_i hlt9
                            cases hls2
                            simp only [Bool.and_eq_true, decide_eq_true_eq, beq_iff_eq] at hok2
                            obtain ⟨d, g1', g2⟩ := hok2
                            subst g1'
                            exact lv_astore hx hb d hl.has (by have := hl.2.1; omega) rfl (fun ls' hl' => h9 _ ls' (qNx_spec g2 rfl) (qLs.st0 hl hl'))
                          · cases hls2
              · cases h
          · cases h
      · rename_i hk
        split at h
        · rename_i hcond
          cases h
          exact qThrow hm F hok hk hcond.1 (List.isEmpty_iff.mp hcond.2) hl hR hS hc hz hC hZ
        · cases h
      · rename_i hk
        split at h
        · split at h
          · rename_i hsm
            exact qObjI F hok rfl hk hsm hl hR hS (go h (Nat.le_refl _) (Nat.le_refl _))
          · cases h
        · cases h
      · rename_i hk
        split at h
        · cases h
        · rename_i q hq
          split at h
          · rename_i hsm
            have hg : pC g ≤ pC q.2.2.2 ∧ pZ g ≤ pZ q.2.2.2 := by
              unfold pAcp at hq
              split at hq
              · split at hq
                · cases hq
                  exact ⟨Nat.le_refl _, Nat.le_refl _⟩
                · cases hq
              · cases hq
            exact qArc F hok rfl hk hq hsm hl hR hS (go h hg.1 hg.2)
          · cases h
      · rename_i hk
        split at h
        · cases h
        · rename_i q hq
          split at h
          · cases h
          · rename_i h0 hh0
            exact qSwitch F hok hq hh0 hl hR hS (go h (Nat.le_refl _) (Nat.le_refl _))
      · rename_i hk
        split at h
        · split at h
          · rename_i hsm
            exact qMinMax F hok rfl hk hsm hl hR hS (by omega) (by omega) (go h (Nat.le_refl _) (Nat.le_refl _))
          · cases h
        · cases h
      · cases h
end QMAIN
end
section
/-! THE CLAIM OUT OF ONE WALK OF THE LAW'S BODY. Your part is whole_start (and what it stands on); all else here is the same for every law, but numbers. -/
def R_law : String := "QuorumLogLaw"
def lw_P (b : Addr) (xs : List Int32) (args : Array Value) (s : State) : Prop := args = #[.ref b] ∧ s.IntsAt b xs ∧ xs.length ≤ 260 ∧ (Jvm.Cond.and given_1 narrow_1).before args s = true
def lw_Q (_ : Array Value) (s : State) (o : Outcome) (t : State) : Prop := o = .returned (some (.int 1)) ∧ Framed s o t [] room_1.cells room_1.slots
def lw_Z (below : List Frame) (a : Array Value) (s : State) : State → Prop := fun t => ∃ o, t.status = .running ∧ Ended t below o ∧ lw_Q a s o t
/-- the law's own end, with 1 on the stack, nothing written that was there before, its room as the claim has it -/
theorem lw_ret {p : Program} {l : Launch} {e : Env} {s : State} {m : MethodId} {below : List Frame} {meth : Method} {c : Code} {b : Nat} (hx : p.tables.exec = Jvm.exec) (hb : c.code = code) (hr : meth.sig.returnType = ret) (hlocks : meth.locks = false) {pc : Nat} {H : Heap} {ls : Array Slot} (hdg : decode code pc = .ok (.ireturn, 1)) : W p l e room_1 s m #[Value.ref b] below meth c H [] room_1.cells room_1.slots (lw_Z below #[Value.ref b] s) (F0 m pc ls [.int 1]) := by
  intro T hT X
  obtain ⟨fs, hret, hrun, hended, hW, hframe⟩ := X.leave (v := some (.int 1)) (hlocks := hlocks) (fun h => by rw [hr] at h; cases h)
  have hmeth' : T.vm.method? m = some meth := X.method'
  refine ⟨T.setFrames fs, ?_, .returned (some (.int 1)), hrun, hended, rfl, ⟨_, rfl⟩, hW, hframe⟩
  jvm_step X.here [X.here.top, hx, hb, hdg, hmeth', hr, ret, narrow_b1]
  (try refine ⟨rfl, ?_⟩); (try refine ⟨rfl, ?_⟩)
  first | (intro acts; rw [hret _ acts rfl rfl rfl]) | rw [hret _ _ rfl rfl rfl]
  exact Steps.refl _
/-- what holds at the law's entry: the machine, the code, the tables' words (any of lw_tbl by 'hts w (by decide +kernel)'), the script of L ints xs at the cell b, what the Statement gives of the start (any of its parts by flat_of_before) -/
def lw_At (p : Program) (s : State) (m : MethodId) (meth : Method) (c : Code) (b L : Nat) (xs : Nat → Int32) : Prop :=
  p.tables.exec = Jvm.exec ∧ c.code = code ∧ meth.sig.returnType = ret ∧ c.maxLocals = 12 ∧ s.vm.findClass R_law = some m.cls ∧ (∀ w ∈ lw_tbl, w.before #[Value.ref b] s = true) ∧ va_X b L xs s s.heap ∧ b < s.heap.size ∧ meth.locks = false ∧ (Jvm.Cond.and given_1 narrow_1).before #[Value.ref b] s = true ∧ c.exceptionTable.toList = []
/-- the pure heap at the start: the script alone -/
def qG0 (L : Nat) (xs : Nat → Int32) : PS := (fun x => if x = 0 then 20 else 50, fun x => if x = 0 then L else 0, fun x j => if x = 0 then .int (xs j) else .null, 1, 0, 0)
/-- WHAT IS LEFT TO SHOW, of the pure machine alone -/
def qGoal : Prop := ∀ (L : Nat) (xs : Nat → Int32), L ≤ 260 → ∃ (n : Nat) (g' : PS), pRun qPT n 378 0 (pEntry 12 [.ref 0]) [] (qG0 L xs) = some (.inl (some (.int 1)), g') ∧ pC g' ≤ 600000 ∧ pZ g' ≤ 7000000
def qStrW (t : Nat × Nat × Nat × Nat × Nat × Nat) (w : Cond) : Bool := match w with | .stringRef c k _ => c == RX9 && k == t.2.1 | _ => false
set_option maxRecDepth 100000 in
theorem qStr_ok : qTH.all (fun t => lw_tbl.any (qStrW t)) = true := by decide +kernel
theorem qStr {t : Nat × Nat × Nat × Nat × Nat × Nat} (h : t ∈ qTH) : ∃ tx, Cond.stringRef RX9 t.2.1 tx ∈ lw_tbl := by
  obtain ⟨w, hw, h1⟩ := List.any_eq_true.mp (List.all_eq_true.mp qStr_ok t h)
  unfold qStrW at h1
  split at h1
  · simp only [Bool.and_eq_true, beq_iff_eq] at h1
    rename_i c k tx
    exact ⟨tx, by rw [← h1.1, ← h1.2]; exact hw⟩
  · cases h1
theorem qNcs (args : Array Value) (s : State) (h : (Jvm.Cond.and given_1 narrow_1).before args s = true) : ∀ x y : Nat, x < 3 → y < 3 → x ≠ y → va_Nc (qEx x) (qEx y) s := by
  have hs := flat_of_before _ h
  intro x y hx hy hn
  rcases (show x = 0 ∨ x = 1 ∨ x = 2 by omega) with rfl | rfl | rfl <;> rcases (show y = 0 ∨ y = 1 ∨ y = 2 by omega) with rfl | rfl | rfl <;> first
    | exact absurd rfl hn
    | exact va_Nc.of (hs _ (by decide +kernel))
theorem qArrs (args : Array Value) (s : State) (hts : ∀ w ∈ lw_tbl, w.before args s = true) (kd : Nat) (h1 : 12 ≤ kd) (h2 : kd ≤ 19) : ∃ c : ClassId, s.vm.findClass ("[" ++ (qTy kd).toString) = some c ∧ ∃ (kC : Class) (comp : ClassId), s.vm.classes[c]? = some kC ∧ kC.kind = .array comp (qTy kd) ∧ (15 ≤ kd → s.vm.findClass (qEn kd) = some comp) := by
  rcases (show kd = 12 ∨ kd = 13 ∨ kd = 14 ∨ kd = 15 ∨ kd = 16 ∨ kd = 17 ∨ kd = 18 ∨ kd = 19 by omega) with rfl | rfl | rfl | rfl | rfl | rfl | rfl | rfl
  · obtain ⟨c, k, comp, h3, h4, h5⟩ := Cond.arrayClass_spec (hts (.arrayClass .int) (by decide +kernel))
    exact ⟨c, h3, k, comp, h4, h5, fun z => by omega⟩
  · obtain ⟨c, k, comp, h3, h4, h5⟩ := Cond.arrayClass_spec (hts (.arrayClass .int) (by decide +kernel))
    exact ⟨c, h3, k, comp, h4, h5, fun z => by omega⟩
  · obtain ⟨c, k, comp, h3, h4, h5⟩ := Cond.arrayClass_spec (hts (.arrayClass .int) (by decide +kernel))
    exact ⟨c, h3, k, comp, h4, h5, fun z => by omega⟩
  · obtain ⟨comp, c, k, h3, -, h4, h5, h6⟩ := Cond.arrayOver_spec (hts _ qArrO_15)
    exact ⟨c, h6, k, comp, h4, h5, fun _ => h3⟩
  · obtain ⟨comp, c, k, h3, -, h4, h5, h6⟩ := Cond.arrayOver_spec (hts _ qArrO_16)
    exact ⟨c, h6, k, comp, h4, h5, fun _ => h3⟩
  · obtain ⟨comp, c, k, h3, -, h4, h5, h6⟩ := Cond.arrayOver_spec (hts _ qArrO_17)
    exact ⟨c, h6, k, comp, h4, h5, fun _ => h3⟩
  · obtain ⟨comp, c, k, h3, -, h4, h5, h6⟩ := Cond.arrayOver_spec (hts _ qArrO_18)
    exact ⟨c, h6, k, comp, h4, h5, fun _ => h3⟩
  · obtain ⟨comp, c, k, h3, -, h4, h5, h6⟩ := Cond.arrayOver_spec (hts _ qArrO_15)
    exact ⟨c, h6, k, comp, h4, h5, fun _ => h3⟩
theorem whole_start (hOK : qAllOk) (hG : qGoal) {p : Program} {e : Env} {s : State} {m : MethodId} {below : List Frame} {meth : Method} {c : Code} (l : Launch) (hflags : l.flags = flags0) {b L : Nat} {xs : Nat → Int32} (hL : L ≤ 260) (C0 : lw_At p s m meth c b L xs) :
    W p l e room_1 s m #[Value.ref b] below meth c s.heap [] 0 0 (lw_Z below #[Value.ref b] s) (entryFrame m ([Value.ref b] : List Value).toArray 12) := by
  obtain ⟨hx, hb, hr, hml, hown, hts, hX, hbl, hlocks, hgv, htab⟩ := id C0
  obtain ⟨n, g', hrun, hC, hZ⟩ := hG L xs hL
  have hcl : ∀ ci : Nat, ∃ q : ClassId × (Nat → Nat), ci < 12 → u_Kn s (qOwn ci) (qTf ci) (pF ci) q.1 q.2 := fun ci => by
    by_cases h : ci < 12
    · obtain ⟨cC, iS, h1⟩ := u_known (ws := lw_tbl) (args := #[Value.ref b]) (C := qOwn ci) (T := qTf ci) (N := pF ci) (n := pF ci) hts (fun w hw => (qLay h w hw).1) (hts _ (qIns h).1)
      exact ⟨(cC, iS), fun _ => h1⟩
    · exact ⟨(0, fun _ => 0), fun z => absurd z h⟩
  obtain ⟨scr, hcb, hof, hkn, hsz, hval⟩ := id hX
  have har : ∀ kd : Nat, ∃ c9 : ClassId, (12 ≤ kd → kd ≤ 19 → s.vm.findClass ("[" ++ (qTy kd).toString) = some c9 ∧ ∃ (kC : Class) (comp : ClassId), s.vm.classes[c9]? = some kC ∧ kC.kind = .array comp (qTy kd) ∧ (15 ≤ kd → s.vm.findClass (qEn kd) = some comp)) ∧ (kd = 20 → c9 = scr.cls) := fun kd => by
    by_cases h : 12 ≤ kd ∧ kd ≤ 19
    · obtain ⟨c9, h1⟩ := qArrs #[Value.ref b] s hts kd h.1 h.2
      exact ⟨c9, fun _ _ => h1, fun z => by omega⟩
    · exact ⟨scr.cls, fun z1 z2 => absurd ⟨z1, z2⟩ h, fun _ => rfl⟩
  obtain ⟨D, hD⟩ : ∃ D : va_G, ∀ ci, ci < 12 → u_Kn s (qOwn ci) (qTf ci) (pF ci) (D.1 ci) (D.2 ci) := ⟨(fun ci => (Classical.choose (hcl ci)).1, fun ci => (Classical.choose (hcl ci)).2), fun ci h => Classical.choose_spec (hcl ci) h⟩
  obtain ⟨dA, hA⟩ : ∃ dA : Nat → ClassId, ∀ kd, (12 ≤ kd → kd ≤ 19 → qArr dA kd s) ∧ (kd = 20 → dA kd = scr.cls) := ⟨fun kd => Classical.choose (har kd), fun kd => Classical.choose_spec (har kd)⟩
  have hbase : ∀ a : Nat, a < s.heap.size → ¬ (fun q : Nat => s.heap.size ≤ q) a := fun a h => Nat.not_le.mpr h
  have hflat := flat_of_before _ hgv
  have hctx : qCtx D dA s.heap.size s := by
    refine ⟨fun w hw hk a => qW_warm hk (State.WarmedH.refl s) (hts w hw), hD, fun kd h1 h2 => (hA kd).1 h1 h2, ?_, Nat.le_refl _, ?_, ?_, fun j t ht => ?_, qNcs _ s hgv⟩
    · obtain ⟨-, k, hk, comp, hkind⟩ := hof
      exact ⟨k, comp, by rw [(hA 20).2 rfl]; exact hk, hkind⟩
    · exact vx_Zqof (hts (.laysStatic Bundle.tN "UNASSIGNED_STACK" Bundle.steD) (by decide +kernel)) (hts (.initialized Bundle.tN) (by decide +kernel)) (hflat _ (by decide +kernel)) hbase
    · exact vx_Zqof (hts (.laysStatic Bundle.tN "SUPPRESSED_SENTINEL" Bundle.listD) (by decide +kernel)) (hts (.initialized Bundle.tN) (by decide +kernel)) (hflat _ (by decide +kernel)) hbase
    · obtain ⟨tx, htx⟩ := qStr (List.mem_of_getElem? ht)
      obtain ⟨cur, hcur⟩ : ∃ cur, s.vm.findClass RX9 = some cur := ⟨_, (hD 9 (by omega)).2.1⟩
      have h9 := hts _ htx
      obtain ⟨k, cf, i, a, -, -, -, -, -, h6⟩ := Cond.stringRef_spec hcur h9
      exact ⟨tx, a, h9, h6⟩
  have hR : qRel D dA b s.heap.size (qG0 L xs) s.heap := by
    refine ⟨hbl, Nat.le_refl _, rfl, fun k hk => ?_, fun k hk => ?_, rfl, fun k hk => ?_⟩
    · have e : k = 0 := Nat.lt_one_iff.mp hk
      subst e
      have hk0 : pK (qG0 L xs) 0 = 20 := rfl
      refine ⟨⟨fun z => by rw [hk0] at z; omega, fun _ z => by rw [hk0] at z; omega, fun _ => ?_⟩, ⟨fun z => by rw [hk0] at z; omega, fun z => by rw [hk0] at z; omega⟩⟩
      exact ⟨scr, hcb, ((hA 20).2 rfl).symm, hof.1, hkn, hsz, fun j hj => hval j hj⟩
    · show (if k = 0 then 20 else 50) = 50
      rw [if_neg (by intro z; rw [z] at hk; exact absurd (show 1 ≤ 0 from hk) (by decide))]
    · show (if k = 0 then 20 else 50) ≠ 20
      rw [if_neg hk]; decide
  have hF : qFm D dA b s.heap.size p l room_1 s m meth c 378 := by
    refine ⟨⟨hx, hb, hml, hown, hlocks, ?_, hctx, ?_, ?_, fun z => ?_⟩, htab, hr⟩
    · unfold Launch.stackTraces
      rw [hflags]
      decide +kernel
    · exact Nat.le_of_ble_eq_true rfl
    · exact Nat.le_of_ble_eq_true rfl
    · exact absurd (of_decide_eq_true z) (by decide +kernel)
  have hK := qSim (D := D) (dA := dA) (b := b) (base := s.heap.size) (l := l) hOK n 378 0 _ _ _ _ g' hrun p e room_1 s m #[Value.ref b] below meth c 0 0 (by decide) hF (Nat.le_refl _) (Nat.le_refl _) (Nat.le_trans hC (Nat.le_of_ble_eq_true rfl)) (Nat.le_trans hZ (Nat.le_of_ble_eq_true rfl))
  have hE := qEntry (b := b) (base := s.heap.size) (nL := 12) (av := [.ref 0]) (by decide)
  obtain ⟨r0, hr0, hr1⟩ := (hOK 378 (by decide)).2
  have hW := hK 0 _ s.heap [] (by show ((qRows 378)[0]?).map _ = _; rw [hr0]; exact congrArg some hr1) hE hR va_S.rf
  rw [lg_entry_eq]
  intro T hT X
  obtain ⟨t, h1, o, h2, h3, h4, Lc, h5, h6⟩ := hW T hT X
  refine ⟨t, h1, o, h2, h3, h4.1, ?_⟩
  exact ⟨h5.1, h5.2.1, h5.2.2.weaken (fun y hy hlt => absurd hlt (Nat.not_lt.mpr (h6 y hy))) (Nat.le_trans hC (Nat.le_of_ble_eq_true rfl)) (Nat.le_trans hZ (Nat.le_of_ble_eq_true rfl))⟩
set_option maxHeartbeats 4000000 in
theorem lw_walk (hOK : qAllOk) (hG : qGoal) (l : Launch) (hflags : l.flags = flags0) (b : Addr) (xs : List Int32) : MetFree l x (headSpec (Jvm.Cond.code x code maxLocals ret :: tables_1) room_1) (lw_P b xs) (fun _ _ _ _ _ => True) lw_Q := by
  refine MetFree.of_bodyS (code := code) (maxLocals := maxLocals) (ret := ret) (by decide) ?_ ?_
  · intro args s m h hn
    obtain ⟨meth, c, h1, h2, h3, h4, h5, h6, -, -⟩ := Cond.code_spec hn (atoms_spec (ws := Jvm.Cond.code x code maxLocals ret :: tables_1) h _ List.mem_cons_self)
    exact ⟨meth, c, h1, h2, h3, h4, h5, h6⟩
  · intro p e s m args below meth c s₁ B hml0 hP _
    obtain ⟨rfl, hx, hbd, hgv⟩ := hP
    obtain ⟨scr, harrAt, hlist, hof, hsmall⟩ := hx
    obtain ⟨hcb, hkn, -, -⟩ := State.arrayAt?_spec harrAt
    have hown : s.vm.findClass R_law = some m.cls := findClass_of_methodNamed B.named
    have hts0 : ∀ c ∈ (Jvm.Cond.code x code maxLocals ret :: tables_1), c.before #[Value.ref b] s = true := atoms_spec (ws := Jvm.Cond.code x code maxLocals ret :: tables_1) B.pre
    have hts : ∀ w ∈ lw_tbl, w.before #[Value.ref b] s = true := k2_hts_sels lw_privs (fun w hw => hts0 w (List.mem_cons_of_mem _ hw)) lw_privs_ok
    have hml : c.maxLocals = 12 := B.maxLocals_eq (hts0 _ List.mem_cons_self)
    have X₀ : Stand p l e room_1 s m #[Value.ref b] below meth c s₁ [] 0 0 := Stand.of_body B
    have hh0 : s₁.heap = s.heap := by rw [B.state]; rfl
    have hsz : scr.slots.size = xs.length := by rw [← Array.length_toList, hlist, List.length_map]
    have hval : ∀ j : Nat, j < xs.length → scr.slots[j]? = some (.int (xs.getD j 0)) := fun j hj => by
      rw [← Array.getElem?_toList, hlist]
      simp [hj]
    have hbl : b < s.heap.size := (Array.getElem?_eq_some_iff.mp hcb).1
    have hX : va_X b xs.length (fun j => xs.getD j 0) s s.heap := ⟨scr, hcb, hof, hkn, hsz, hval⟩
    have K : W p l e room_1 s m #[Value.ref b] below meth c s₁.heap [] 0 0 (lw_Z below #[Value.ref b] s) (entryFrame m ([Value.ref b] : List Value).toArray 12) := by
      rw [hh0]
      refine whole_start hOK hG l hflags hbd ⟨B.exec, B.bytes, B.returns, hml, hown, hts, hX, hbl, B.notSynchronized, hgv, ?_⟩
      obtain ⟨meth9, c9, h1, h2, -, -, -, -, h7, -⟩ := Cond.code_spec B.named (hts0 _ List.mem_cons_self)
      cases Option.some.inj (h1.symm.trans B.method)
      cases Option.some.inj (h2.symm.trans (Stand.of_body B).code)
      rw [Array.isEmpty_iff.mp h7]
    obtain ⟨t, a1, o, b1, b2, b3⟩ := K s₁ rfl X₀
    exact ⟨t, o, a1, b1, b2, b3⟩
theorem lw_pre_spec {args : Array Value} {s : State} (h : (Jvm.Cond.and given_1 narrow_1).before args s = true) (hr : rest_1_c.before args s = true) : ∃ (b : Addr) (xs : List Int32), lw_P b xs args s := by
  have hs := flat_of_before _ h
  have hq := flat_of_before _ hr
  have hc : (Cond.count 1).before args s = true := hs _ (by decide +kernel)
  have harr : (Cond.arrayOf (.arg 0) .int).before args s = true := hs _ (by decide +kernel)
  have hle : (Cond.le (.length (.arg 0)) (.int 260)).before args s = true := hs _ (by decide +kernel)
  have hlen : (Cond.isInt (.length (.arg 0))).before args s = true := hq _ (by decide +kernel)
  have hall : (Cond.all (.arg 0) (.isInt (.elem (.arg 0) (.index 0)))).before args s = true := hq _ (by decide +kernel)
  obtain ⟨b, xs, hb, hx⟩ := State.ints_of_pre rfl harr hlen hall
  have hsm : xs.length < 2 ^ 31 := hx.choose_spec.2.2.2
  have hev : (Term.length (.arg 0)).eval args s none [] s = some (.int xs.length.toInt32) := hx.length_eval hb
  have hv := Cond.le_ints hev (show (Term.int 260).eval args s none [] s = some (.int 260) from rfl)
  have hd : xs.length.toInt32 ≤ 260 := by
    simpa [Cond.before, Cond.holds, hv] using hle
  have hN : xs.length ≤ 260 := (Int32.ofNat_le_ofNat hsm (by decide)).mp (show Int32.ofNat xs.length ≤ Int32.ofNat 260 from hd)
  exact ⟨b, xs, Cond.one_arg hc (show args[0]? = some (.ref b) from hb), hx, hN, h⟩
theorem lw_comes (hOK : qAllOk) (hG : qGoal) (l : Launch) (hflags : l.flags = flags0) : Comes l x (Jvm.Cond.code x code maxLocals ret :: tables_1) room_1 (fun tb e args s => Calls_1 tb e args s ∧ rest_1 tb e args s ∧ Pre_1 tb e args s)
    (fun _ _ args s o t => lw_Q args s o t) := by
  intro p e ha hc hk s m args below hf hfit hheap happ hpre
  obtain ⟨b, xs, hP⟩ := lw_pre_spec hpre.2.2 hpre.2.1
  obtain ⟨k, o, h1, h2, h3, hQ⟩ := lw_walk hOK hG l hflags b xs p e ha hc hk s m args below hf ((Spec.applies_iff_loose hf).mp happ).1 hP trivial
  exact ⟨k, o, h1, h2, h3, hQ⟩
theorem lw_frame {s t : State} {o : Outcome} {args : Array Value} (h : Framed s o t [] room_1.cells room_1.slots) :
    Framed s o t (fieldLocs frame_1_writes args s ++ arrayLocs frame_1_arrays args s ++ staticLocs frame_1_statics s) room_1.cells room_1.slots := h
theorem lw_limb (hOK : qAllOk) (hG : qGoal) (L : Cond) (hL : ∀ (args : Array Value) (s t : State), L.after args s (.returned (some (.int 1))) t = true) :
    ArmFor flags0 classFile x code maxLocals ret World_1 tables_1 room_1 Calls_1 rest_1 Pre_1
      (fun tb e a s o t => postC L tb e a s o t ∧ Framed s o t (fieldLocs frame_1_writes a s ++ arrayLocs frame_1_arrays a s ++ staticLocs frame_1_statics s) room_1.cells room_1.slots) := by
  intro l hflags _ _ p e ha hc hk s m args below hf hfit hheap happ hpre
  obtain ⟨k, o, h1, h2, h3, rfl, hF⟩ := lw_comes hOK hG l hflags p e ha hc hk s m args below hf hfit hheap happ hpre
  exact ⟨k, _, h1, h2, h3, hL args s _, lw_frame hF⟩
theorem q_claim (hOK : qAllOk) (hG : qGoal) : Claimed_1_1 ∧ Claimed_1_2 := ⟨lw_limb hOK hG limb_1_1 (fun args s t => by simp [limb_1_1, Cond.after, Cond.holds, Cond.value]), lw_limb hOK hG limb_1_2 (fun args s t => Cond.after_iff.mpr (by
  first | (rw [show limb_1_2 = Cond.eq .result (.int 1) from rfl, Cond.eq_ints (x := 1) (y := 1) rfl rfl]; simp; done) | (simp [limb_1_2, Cond.value, Term.eval]; done)))⟩
end
section
/-! ===== RUNS OF THE PURE MACHINE THAT COME TO SOMETHING ===== -/
/-- more fuel does no harm -/
theorem pRun_succ (PT : Nat → PMet) : ∀ (n m i : Nat) (ls : PV) (st : List Value) (g : PS) (r : PO × PS), pRun PT n m i ls st g = some r → pRun PT (n + 1) m i ls st g = some r
  | 0, _, _, _, _, _, _, h => by cases h
  | n + 1, m, i, ls, st, g, r, h => by
    have ih := pRun_succ PT n
    unfold pRun
    unfold pRun at h
    cases hr : (PT m).1[i]? with
    | none => rw [hr] at h; cases h
    | some rr =>
      rw [hr] at h
      dsimp only at h ⊢
      split at h
      · rename_i hk
        try rw [hk]
        try dsimp only
        split at h
        · cases h
        · rename_i q hq
          try rw [hq]
          exact ih _ _ _ _ _ _ h
      · rename_i hk
        try rw [hk]
        exact h
      · rename_i hk
        try rw [hk]
        try dsimp only
        split at h
        · cases h
        · rename_i q hq
          try rw [hq]
          try dsimp only
          split at h
          · rename_i hc
            try rw [if_pos hc]
            split at h
            · cases h
            · rename_i v g1 h1
              rw [ih _ _ _ _ _ _ h1]
              exact ih _ _ _ _ _ _ h
            · rename_i e g1 h1
              rw [ih _ _ _ _ _ _ h1]
              try dsimp only
              split at h
              · rename_i h2
                try rw [if_pos h2]
                split at h
                · rename_i h3
                  try rw [h3]
                  exact h
                · rename_i h0 h3
                  try rw [h3]
                  try dsimp only
                  split at h
                  · cases h
                  · rename_i r2 h4
                    try rw [h4]
                    try dsimp only
                    split at h
                    · cases h
                    · rename_i ls2 h5
                      try rw [h5]
                      exact ih _ _ _ _ _ _ h
              · cases h
          · cases h
      · rename_i hk
        try rw [hk]
        exact h
      · rename_i hk
        try rw [hk]
        try dsimp only
        split at h
        · split at h
          · rename_i hc
            try dsimp only
            try rw [if_pos hc]
            exact ih _ _ _ _ _ _ h
          · cases h
        · cases h
      · rename_i hk
        try rw [hk]
        try dsimp only
        split at h
        · cases h
        · rename_i q hq
          try rw [hq]
          try dsimp only
          split at h
          · rename_i hc
            try rw [if_pos hc]
            exact ih _ _ _ _ _ _ h
          · cases h
      · rename_i hk
        try rw [hk]
        try dsimp only
        split at h
        · cases h
        · rename_i q hq
          try rw [hq]
          try dsimp only
          split at h
          · cases h
          · rename_i h0 hh
            try rw [hh]
            exact ih _ _ _ _ _ _ h
      · rename_i hk
        try rw [hk]
        try dsimp only
        split at h
        · split at h
          · rename_i hc
            try dsimp only
            try rw [if_pos hc]
            exact ih _ _ _ _ _ _ h
          · cases h
        · cases h
      · cases h
theorem pRun_le (PT : Nat → PMet) {n k m i : Nat} {ls : PV} {st : List Value} {g : PS} {r : PO × PS} (h : pRun PT n m i ls st g = some r) (hk : n ≤ k) : pRun PT k m i ls st g = some r := by
  obtain ⟨d, rfl⟩ := Nat.exists_eq_add_of_le hk
  induction d with
  | zero => exact h
  | succ d ih => exact pRun_succ PT _ _ _ _ _ _ _ (ih (Nat.le_add_right _ _))
/-- from here the pure machine comes to an end at which Q holds -/
def PW (m i : Nat) (ls : PV) (st : List Value) (g : PS) (Q : PO → PS → Prop) : Prop := ∃ (n : Nat) (o : PO) (g' : PS), pRun qPT n m i ls st g = some (o, g') ∧ Q o g'
section PWR
variable {m i pc ln r1 r2 r3 : Nat} {ins : Instr} {ls : PV} {st : List Value} {g : PS} {Q : PO → PS → Prop} {M : PMet}
theorem PW.plain (hM : qPT m = M) (hr : M.1[i]? = some (pc, ins, ln, r1, r2, r3)) {q : PR} (hk : pKind ins r1 = 0) (hs : pStep ins (i + 1) r1 r2 ls st g = some q) (k : PW m q.1 q.2.1 q.2.2.1 q.2.2.2 Q) : PW m i ls st g Q := by
  obtain ⟨n, o, g9, h, hq⟩ := k
  refine ⟨n + 1, o, g9, ?_, hq⟩
  unfold pRun
  rw [hM, hr]
  try dsimp only
  rw [hk]
  try dsimp only
  rw [hs]
  exact h
theorem PW.ret (hM : qPT m = M) (hr : M.1[i]? = some (pc, ins, ln, r1, r2, r3)) {v : Option Value} (hk : pKind ins r1 = 1) (hv : pRet M.2.2.2.2.1 ins st = some v) (k : Q (.inl v) g) : PW m i ls st g Q := by
  refine ⟨1, _, _, ?_, k⟩
  unfold pRun
  rw [hM, hr]
  try dsimp only
  rw [hk]
  try dsimp only
  rw [hv]
  rfl
theorem PW.thr (hM : qPT m = M) (hr : M.1[i]? = some (pc, ins, ln, r1, r2, r3)) (hk : pKind ins r1 = 3) (hs : st.length ≤ 4 ∨ (st.map fun v => v.category).sum ≤ 8) (hh : M.2.2.2.1.isEmpty = true) (k : Q (.inr (r1 - 100)) (pThr g)) : PW m i ls st g Q := by
  refine ⟨1, _, _, ?_, k⟩
  unfold pRun
  rw [hM, hr]
  try dsimp only
  rw [hk]
  try dsimp only
  rw [if_pos ⟨hs, hh⟩]
  rfl
theorem PW.obj (hM : qPT m = M) (hr : M.1[i]? = some (pc, ins, ln, r1, r2, r3)) (hk : pKind ins r1 = 4) {a : Nat} {rest : List Value} (hs : rest.length ≤ 4 ∨ (rest.map fun v => v.category).sum ≤ 8) (k : PW m (i + 1) ls rest g Q) : PW m i ls (.ref a :: rest) g Q := by
  obtain ⟨n, o, g9, h, hq⟩ := k
  refine ⟨n + 1, o, g9, ?_, hq⟩
  unfold pRun
  rw [hM, hr]
  try dsimp only
  rw [hk]
  try dsimp only
  rw [if_pos hs]
  exact h
theorem PW.mm (hM : qPT m = M) (hr : M.1[i]? = some (pc, ins, ln, r1, r2, r3)) (hk : pKind ins r1 = 7) {x y : Int32} {rest : List Value} (hs : rest.length ≤ 4 ∨ (rest.map fun v => v.category).sum ≤ 8)
    (k : PW m (i + 1) ls (.int (if r1 = 2 then (if x < y then y else x) else (if y < x then y else x)) :: rest) g Q) : PW m i ls (.int y :: .int x :: rest) g Q := by
  obtain ⟨n, o, g9, h, hq⟩ := k
  refine ⟨n + 1, o, g9, ?_, hq⟩
  unfold pRun
  rw [hM, hr]
  try dsimp only
  rw [hk]
  try dsimp only
  rw [if_pos hs]
  exact h
theorem PW.acp (hM : qPT m = M) (hr : M.1[i]? = some (pc, ins, ln, r1, r2, r3)) (hk : pKind ins r1 = 5) {q : PR} (hs : pAcp (i + 1) ls st g = some q) (hsm : q.2.2.1.length ≤ 4 ∨ (q.2.2.1.map fun v => v.category).sum ≤ 8) (k : PW m q.1 q.2.1 q.2.2.1 q.2.2.2 Q) : PW m i ls st g Q := by
  obtain ⟨n, o, g9, h, hq⟩ := k
  refine ⟨n + 1, o, g9, ?_, hq⟩
  unfold pRun
  rw [hM, hr]
  try dsimp only
  rw [hk]
  try dsimp only
  rw [hs]
  try dsimp only
  rw [if_pos hsm]
  exact h
theorem PW.sw (hM : qPT m = M) (hr : M.1[i]? = some (pc, ins, ln, r1, r2, r3)) (hk : pKind ins r1 = 6) {q : Nat × List Value} {h0 : Nat} (hs : pSw ins pc st = some q) (hi : pIdx M.1 q.1 0 = some h0) (k : PW m h0 ls q.2 g Q) : PW m i ls st g Q := by
  obtain ⟨n, o, g9, h, hq⟩ := k
  refine ⟨n + 1, o, g9, ?_, hq⟩
  unfold pRun
  rw [hM, hr]
  try dsimp only
  rw [hk]
  try dsimp only
  rw [hs]
  try dsimp only
  rw [hi]
  exact h
/-- a call: q what is popped; what it comes to decides how it goes on -/
theorem PW.call (hM : qPT m = M) (hr : M.1[i]? = some (pc, ins, ln, r1, r2, r3)) (hk : pKind ins r1 = 2) {Mc : PMet} (hMc : qPT (r1 - 10) = Mc) {av rest : List Value} (hp : pPop Mc.2.2.1 st = some (av, rest)) (hs : rest.length ≤ 4 ∨ (rest.map fun v => v.category).sum ≤ 8) (he : (pEnt av).length ≤ Mc.2.1)
    (hv : pRv ins Mc.2.2.2.2.2 av g = true) (k : PW (r1 - 10) 0 (pEntry Mc.2.1 av) [] g (fun o g1 => match o with
      | .inl v => PW m (i + 1) ls (v.toList ++ rest) g1 Q
      | .inr e => r2 = 0 ∧ ((M.2.2.2.1.isEmpty = true ∧ Q (.inr e) g1) ∨ ∃ (h : Nat) (rr : PRow) (ls2 : PV), pHand M.2.2.2.1 pc e = some h ∧ M.1[h]? = some rr ∧ pCat rr.2.1 ls = some ls2 ∧ PW m (h + 1) ls2 [] g1 Q))) : PW m i ls st g Q := by
  obtain ⟨n, o, g1, h, hq⟩ := k
  cases o with
  | inl v =>
    obtain ⟨n2, o2, g2, h2, hq2⟩ := hq
    refine ⟨n + n2 + 1, o2, g2, ?_, hq2⟩
    unfold pRun
    rw [hM, hr]
    try dsimp only
    rw [hk]
    try dsimp only
    rw [hMc, hp]
    try dsimp only
    rw [if_pos ⟨hs, he, hv⟩, pRun_le qPT h (Nat.le_add_right _ _)]
    try dsimp only
    exact pRun_le qPT h2 (Nat.le_add_left _ _)
  | inr e =>
    obtain ⟨hr2, hq⟩ := hq
    rcases hq with ⟨he0, hq⟩ | ⟨hh, rr, ls2, h1, h2, h3, hq⟩
    · refine ⟨n + 1, _, g1, ?_, hq⟩
      unfold pRun
      rw [hM, hr]
      try dsimp only
      rw [hk]
      try dsimp only
      rw [hMc, hp]
      try dsimp only
      rw [if_pos ⟨hs, he, hv⟩, h]
      try dsimp only
      rw [if_pos hr2]
      have hn : pHand M.2.2.2.1 pc e = none := by
        rw [List.isEmpty_iff.mp he0]; rfl
      rw [hn]
      try dsimp only
      rw [if_pos he0]
      rfl
    · obtain ⟨n2, o2, g2, h4, hq2⟩ := hq
      refine ⟨n + n2 + 1, o2, g2, ?_, hq2⟩
      unfold pRun
      rw [hM, hr]
      try dsimp only
      rw [hk]
      try dsimp only
      rw [hMc, hp]
      try dsimp only
      rw [if_pos ⟨hs, he, hv⟩, pRun_le qPT h (Nat.le_add_right _ _)]
      try dsimp only
      rw [if_pos hr2, h1]
      try dsimp only
      rw [h2]
      try dsimp only
      rw [h3]
      exact pRun_le qPT h4 (Nat.le_add_left _ _)
theorem PW.mono {Q' : PO → PS → Prop} (h : PW m i ls st g Q) (hQ : ∀ o g', Q o g' → Q' o g') : PW m i ls st g Q' := by
  obtain ⟨n, o, g1, h1, h2⟩ := h
  exact ⟨n, o, g1, h1, hQ _ _ h2⟩
end PWR
end
section
/-! ===== THE METHODS, AS THE INTERPRETER HAS THEM (printed by wip/whole/gen_mets.py) ===== -/
theorem M_0 : qPT 0 = (rw_0, 1, 1, [], none, 0) := rfl
theorem M_1 : qPT 1 = (rw_1, 1, 1, [], none, 0) := rfl
theorem M_3 : qPT 3 = (rw_3, 1, 1, [], (some FieldType.int), 0) := rfl
theorem M_4 : qPT 4 = (rw_4, 1, 1, [], (some FieldType.boolean), 0) := rfl
theorem M_5 : qPT 5 = (rw_5, 6, 6, [], (some FieldType.int), 0) := rfl
theorem M_6 : qPT 6 = (rw_6, 3, 1, [], none, 1) := rfl
theorem M_7 : qPT 7 = (rw_7, 1, 1, [], (some (FieldType.object "QuorumLog$Snapshot")), 1) := rfl
theorem M_8 : qPT 8 = (rw_8, 7, 2, [], none, 1) := rfl
theorem M_10 : qPT 10 = (rw_10, 6, 1, [], (some FieldType.int), 1) := rfl
theorem M_11 : qPT 11 = (rw_11, 6, 1, [], (some FieldType.int), 1) := rfl
theorem M_12 : qPT 12 = (rw_12, 6, 1, [], (some (FieldType.object "QuorumLog$Server")), 1) := rfl
theorem M_13 : qPT 13 = (rw_13, 9, 4, [], (some FieldType.int), 1) := rfl
theorem M_14 : qPT 14 = (rw_14, 10, 2, [], (some FieldType.boolean), 1) := rfl
theorem M_21 : qPT 21 = (rw_21, 5, 1, [], none, 1) := rfl
theorem M_22 : qPT 22 = (rw_22, 4, 3, [], none, 1) := rfl
theorem M_23 : qPT 23 = (rw_23, 2, 2, [], (some FieldType.int), 1) := rfl
theorem M_24 : qPT 24 = (rw_24, 2, 2, [], (some FieldType.int), 1) := rfl
theorem M_25 : qPT 25 = (rw_25, 6, 4, [], none, 1) := rfl
theorem M_26 : qPT 26 = (rw_26, 4, 2, [], (some FieldType.int), 1) := rfl
theorem M_27 : qPT 27 = (rw_27, 7, 3, [], none, 1) := rfl
theorem M_28 : qPT 28 = (rw_28, 3, 2, [], none, 1) := rfl
theorem M_29 : qPT 29 = (rw_29, 6, 3, [], none, 1) := rfl
theorem M_30 : qPT 30 = (rw_30, 5, 2, [], (some FieldType.boolean), 1) := rfl
theorem M_31 : qPT 31 = (rw_31, 7, 6, [], none, 1) := rfl
theorem M_32 : qPT 32 = (rw_32, 5, 3, [], none, 1) := rfl
theorem M_33 : qPT 33 = (rw_33, 5, 3, [], none, 1) := rfl
theorem M_34 : qPT 34 = (rw_34, 5, 5, [], (some FieldType.boolean), 1) := rfl
theorem M_35 : qPT 35 = (rw_35, 5, 3, [], none, 1) := rfl
theorem M_36 : qPT 36 = (rw_36, 4, 3, [], none, 1) := rfl
theorem M_37 : qPT 37 = (rw_37, 3, 3, [], none, 1) := rfl
theorem M_38 : qPT 38 = (rw_38, 3, 3, [], (some FieldType.boolean), 1) := rfl
theorem M_39 : qPT 39 = (rw_39, 5, 5, [], none, 2) := rfl
theorem M_40 : qPT 40 = (rw_40, 1, 1, [], (some FieldType.int), 2) := rfl
theorem M_41 : qPT 41 = (rw_41, 1, 1, [], (some FieldType.int), 2) := rfl
theorem M_42 : qPT 42 = (rw_42, 1, 1, [], (some FieldType.int), 2) := rfl
theorem M_43 : qPT 43 = (rw_43, 1, 1, [], none, 3) := rfl
theorem M_44 : qPT 44 = (rw_44, 3, 2, [], none, 3) := rfl
theorem M_45 : qPT 45 = (rw_45, 1, 1, [], (some FieldType.int), 3) := rfl
theorem M_46 : qPT 46 = (rw_46, 1, 1, [], (some FieldType.boolean), 3) := rfl
theorem M_47 : qPT 47 = (rw_47, 2, 1, [], none, 4) := rfl
theorem M_48 : qPT 48 = (rw_48, 1, 1, [], none, 4) := rfl
theorem M_50 : qPT 50 = (rw_50, 3, 3, [], (some FieldType.boolean), 4) := rfl
theorem M_51 : qPT 51 = (rw_51, 3, 3, [], (some FieldType.int), 4) := rfl
theorem M_52 : qPT 52 = (rw_52, 6, 5, [], (some (FieldType.object "QuorumLog$Message")), 4) := rfl
theorem M_53 : qPT 53 = (rw_53, 2, 2, [], (some FieldType.int), 4) := rfl
theorem M_54 : qPT 54 = (rw_54, 4, 2, [], (some (FieldType.object "QuorumLog$Message")), 4) := rfl
theorem M_55 : qPT 55 = (rw_55, 7, 7, [], none, 5) := rfl
theorem M_56 : qPT 56 = (rw_56, 3, 3, [], none, 6) := rfl
theorem M_57 : qPT 57 = (rw_57, 2, 2, [], none, 6) := rfl
theorem M_58 : qPT 58 = (rw_58, 1, 1, [], none, 6) := rfl
theorem M_59 : qPT 59 = (rw_59, 1, 1, [], none, 6) := rfl
theorem M_61 : qPT 61 = (rw_61, 1, 1, [], (some FieldType.int), 6) := rfl
theorem M_62 : qPT 62 = (rw_62, 1, 1, [], (some FieldType.int), 6) := rfl
theorem M_63 : qPT 63 = (rw_63, 1, 1, [], (some FieldType.int), 6) := rfl
theorem M_64 : qPT 64 = (rw_64, 2, 2, [], (some (FieldType.object "QuorumLog$Entry")), 6) := rfl
theorem M_65 : qPT 65 = (rw_65, 2, 2, [], (some FieldType.int), 6) := rfl
theorem M_66 : qPT 66 = (rw_66, 2, 2, [], (some FieldType.boolean), 6) := rfl
theorem M_67 : qPT 67 = (rw_67, 1, 1, [], (some FieldType.boolean), 6) := rfl
theorem M_68 : qPT 68 = (rw_68, 1, 1, [], (some FieldType.boolean), 6) := rfl
theorem M_69 : qPT 69 = (rw_69, 5, 2, [], (some FieldType.boolean), 6) := rfl
theorem M_70 : qPT 70 = (rw_70, 1, 1, [], (some FieldType.boolean), 6) := rfl
theorem M_71 : qPT 71 = (rw_71, 1, 1, [], (some FieldType.boolean), 6) := rfl
theorem M_72 : qPT 72 = (rw_72, 4, 3, [], (some FieldType.boolean), 6) := rfl
theorem M_73 : qPT 73 = (rw_73, 4, 2, [], (some FieldType.int), 6) := rfl
theorem M_74 : qPT 74 = (rw_74, 2, 2, [], none, 6) := rfl
theorem M_75 : qPT 75 = (rw_75, 3, 1, [], none, 6) := rfl
theorem M_76 : qPT 76 = (rw_76, 2, 1, [], none, 6) := rfl
theorem M_77 : qPT 77 = (rw_77, 3, 2, [], (some FieldType.int), 6) := rfl
theorem M_78 : qPT 78 = (rw_78, 2, 1, [], (some FieldType.int), 6) := rfl
theorem M_79 : qPT 79 = (rw_79, 3, 2, [], none, 6) := rfl
theorem M_80 : qPT 80 = (rw_80, 4, 3, [], none, 6) := rfl
theorem M_81 : qPT 81 = (rw_81, 4, 3, [], (some FieldType.boolean), 6) := rfl
theorem M_82 : qPT 82 = (rw_82, 3, 3, [], (some FieldType.boolean), 6) := rfl
theorem M_83 : qPT 83 = (rw_83, 4, 2, [], (some FieldType.int), 6) := rfl
theorem M_84 : qPT 84 = (rw_84, 3, 3, [], none, 6) := rfl
theorem M_85 : qPT 85 = (rw_85, 2, 2, [], none, 6) := rfl
theorem M_86 : qPT 86 = (rw_86, 2, 2, [], none, 6) := rfl
theorem M_87 : qPT 87 = (rw_87, 2, 2, [], none, 6) := rfl
theorem M_88 : qPT 88 = (rw_88, 1, 1, [], none, 6) := rfl
theorem M_89 : qPT 89 = (rw_89, 3, 3, [], none, 6) := rfl
theorem M_90 : qPT 90 = (rw_90, 5, 5, [], none, 7) := rfl
theorem M_91 : qPT 91 = (rw_91, 1, 1, [], none, 8) := rfl
theorem M_92 : qPT 92 = (rw_92, 2, 2, [], none, 8) := rfl
theorem M_93 : qPT 93 = (rw_93, 3, 2, [], none, 8) := rfl
theorem M_94 : qPT 94 = (rw_94, 1, 1, [], none, 9) := rfl
theorem M_95 : qPT 95 = (rw_95, 2, 2, [], (some FieldType.int), 9) := rfl
theorem M_96 : qPT 96 = (rw_96, 3, 2, [], (some FieldType.int), 9) := rfl
theorem M_97 : qPT 97 = (rw_97, 3, 2, [], (some FieldType.int), 9) := rfl
theorem M_98 : qPT 98 = (rw_98, 3, 3, [], (some FieldType.int), 9) := rfl
theorem M_99 : qPT 99 = (rw_99, 3, 3, [], (some FieldType.int), 9) := rfl
theorem M_100 : qPT 100 = (rw_100, 4, 2, [], (some FieldType.int), 9) := rfl
theorem M_101 : qPT 101 = (rw_101, 3, 2, [], (some FieldType.int), 9) := rfl
theorem M_102 : qPT 102 = (rw_102, 3, 2, [], (some FieldType.int), 9) := rfl
theorem M_103 : qPT 103 = (rw_103, 3, 2, [], (some FieldType.int), 9) := rfl
theorem M_104 : qPT 104 = (rw_104, 4, 3, [], (some FieldType.int), 9) := rfl
theorem M_105 : qPT 105 = (rw_105, 5, 3, [], (some FieldType.int), 9) := rfl
theorem M_106 : qPT 106 = (rw_106, 6, 3, [], (some FieldType.int), 9) := rfl
theorem M_107 : qPT 107 = (rw_107, 1, 1, [], (some FieldType.int), 9) := rfl
theorem M_108 : qPT 108 = (rw_108, 2, 2, [], (some FieldType.boolean), 9) := rfl
theorem M_109 : qPT 109 = (rw_109, 2, 2, [], (some FieldType.int), 9) := rfl
theorem M_110 : qPT 110 = (rw_110, 2, 2, [], (some FieldType.int), 9) := rfl
theorem M_116 : qPT 116 = (rw_116, 4, 4, [], (some FieldType.int), 9) := rfl
theorem M_117 : qPT 117 = (rw_117, 4, 4, [], (some FieldType.int), 9) := rfl
theorem M_119 : qPT 119 = (rw_119, 6, 3, [], (some FieldType.int), 9) := rfl
theorem M_120 : qPT 120 = (rw_120, 2, 2, [], (some FieldType.int), 9) := rfl
theorem M_123 : qPT 123 = (rw_123, 1, 1, [], (some FieldType.int), 9) := rfl
theorem M_124 : qPT 124 = (rw_124, 1, 1, [], (some FieldType.int), 9) := rfl
theorem M_125 : qPT 125 = (rw_125, 2, 2, [], (some FieldType.boolean), 9) := rfl
theorem M_126 : qPT 126 = (rw_126, 2, 2, [], (some FieldType.int), 9) := rfl
theorem M_127 : qPT 127 = (rw_127, 2, 2, [], (some FieldType.int), 9) := rfl
theorem M_128 : qPT 128 = (rw_128, 2, 2, [], (some FieldType.int), 9) := rfl
theorem M_129 : qPT 129 = (rw_129, 2, 2, [], (some FieldType.int), 9) := rfl
theorem M_130 : qPT 130 = (rw_130, 2, 2, [], (some FieldType.int), 9) := rfl
theorem M_132 : qPT 132 = (rw_132, 2, 2, [], (some FieldType.int), 9) := rfl
theorem M_133 : qPT 133 = (rw_133, 2, 2, [], (some FieldType.int), 9) := rfl
theorem M_134 : qPT 134 = (rw_134, 2, 2, [], (some FieldType.int), 9) := rfl
theorem M_135 : qPT 135 = (rw_135, 2, 2, [], (some FieldType.int), 9) := rfl
theorem M_136 : qPT 136 = (rw_136, 2, 2, [], (some FieldType.int), 9) := rfl
theorem M_138 : qPT 138 = (rw_138, 4, 3, [], (some FieldType.int), 9) := rfl
theorem M_139 : qPT 139 = (rw_139, 3, 3, [], (some FieldType.int), 9) := rfl
theorem M_140 : qPT 140 = (rw_140, 3, 3, [], (some FieldType.int), 9) := rfl
theorem M_141 : qPT 141 = (rw_141, 3, 3, [], (some FieldType.int), 9) := rfl
theorem M_142 : qPT 142 = (rw_142, 3, 3, [], (some FieldType.int), 9) := rfl
theorem M_143 : qPT 143 = (rw_143, 3, 3, [], (some FieldType.int), 9) := rfl
theorem M_144 : qPT 144 = (rw_144, 3, 3, [], (some FieldType.int), 9) := rfl
theorem M_145 : qPT 145 = (rw_145, 3, 3, [], (some FieldType.int), 9) := rfl
theorem M_146 : qPT 146 = (rw_146, 3, 3, [], (some FieldType.int), 9) := rfl
theorem M_147 : qPT 147 = (rw_147, 2, 1, [], (some FieldType.int), 9) := rfl
theorem M_148 : qPT 148 = (rw_148, 1, 1, [], (some FieldType.int), 9) := rfl
theorem M_149 : qPT 149 = (rw_149, 6, 1, [], (some FieldType.int), 9) := rfl
theorem M_150 : qPT 150 = (rw_150, 3, 3, [], (some FieldType.int), 9) := rfl
theorem M_160 : qPT 160 = (rw_160, 7, 1, [], (some FieldType.long), 9) := rfl
theorem M_161 : qPT 161 = (rw_161, 7, 2, [], (some FieldType.long), 9) := rfl
theorem M_162 : qPT 162 = (rw_162, 9, 2, [], (some FieldType.long), 9) := rfl
theorem M_163 : qPT 163 = (rw_163, 6, 3, [], (some FieldType.long), 9) := rfl
theorem M_164 : qPT 164 = (rw_164, 8, 3, [], (some FieldType.long), 9) := rfl
theorem M_165 : qPT 165 = (rw_165, 9, 2, [], (some FieldType.long), 9) := rfl
theorem M_166 : qPT 166 = (rw_166, 10, 3, [], (some FieldType.long), 9) := rfl
theorem M_168 : qPT 168 = (rw_168, 1, 1, [], none, 9) := rfl
theorem M_169 : qPT 169 = (rw_169, 1, 1, [], none, 9) := rfl
theorem M_170 : qPT 170 = (rw_170, 2, 2, [], none, 9) := rfl
theorem M_171 : qPT 171 = (rw_171, 1, 1, [], none, 9) := rfl
theorem M_172 : qPT 172 = (rw_172, 1, 1, [], none, 9) := rfl
theorem M_173 : qPT 173 = (rw_173, 2, 2, [], none, 9) := rfl
theorem M_174 : qPT 174 = (rw_174, 5, 5, [], none, 9) := rfl
theorem M_175 : qPT 175 = (rw_175, 1, 1, [], (some FieldType.boolean), 9) := rfl
theorem M_176 : qPT 176 = (rw_176, 2, 2, [], (some (FieldType.object "QuorumLog$Server")), 9) := rfl
theorem M_178 : qPT 178 = (rw_178, 4, 3, [], (some (FieldType.object "QuorumLog$Entry")), 9) := rfl
theorem M_322 : qPT 322 = (rw_322, 2, 2, [], (some FieldType.int), 12) := rfl
theorem M_323 : qPT 323 = (rw_323, 2, 2, [], (some FieldType.int), 12) := rfl
theorem M_324 : qPT 324 = (rw_324, 6, 2, [(29, 105, 136, 2), (29, 105, 136, 0), (29, 105, 136, 1), (106, 111, 136, 2), (106, 111, 136, 0), (106, 111, 136, 1), (112, 118, 136, 2), (112, 118, 136, 0), (112, 118, 136, 1), (119, 125, 136, 2), (119, 125, 136, 0), (119, 125, 136, 1), (126, 131, 136, 2), (126, 131, 136, 0), (126, 131, 136, 1), (132, 140, 136, 2), (132, 140, 136, 0), (132, 140, 136, 1), (141, 146, 136, 2), (141, 146, 136, 0), (141, 146, 136, 1), (147, 156, 136, 2), (147, 156, 136, 0), (147, 156, 136, 1), (157, 166, 136, 2), (157, 166, 136, 0), (157, 166, 136, 1), (167, 176, 136, 2), (167, 176, 136, 0), (167, 176, 136, 1), (177, 209, 136, 2), (177, 209, 136, 0), (177, 209, 136, 1), (210, 220, 136, 2), (210, 220, 136, 0), (210, 220, 136, 1), (221, 273, 136, 2), (221, 273, 136, 0), (221, 273, 136, 1), (274, 288, 136, 2), (274, 288, 136, 0), (274, 288, 136, 1)], (some FieldType.int), 12) := rfl
theorem M_325 : qPT 325 = (rw_325, 4, 3, [], (some FieldType.boolean), 12) := rfl
theorem M_326 : qPT 326 = (rw_326, 5, 2, [], (some FieldType.boolean), 12) := rfl
theorem M_327 : qPT 327 = (rw_327, 5, 3, [], (some FieldType.boolean), 12) := rfl
theorem M_378 : qPT 378 = (rw_378, 12, 1, [], (some .boolean), 12) := rfl
theorem M_379 : qPT 379 = (rw_379, 1, 1, [], (some FieldType.int), 13) := rfl
theorem M_380 : qPT 380 = (rw_380, 4, 2, [], none, 15) := rfl
end
section
theorem zz_look : (1 : Nat) = 1 := rfl
end
