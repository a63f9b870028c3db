/-! ===== A THROW, with the heap said exactly (the kit's vx_throwS, vx_throwSW, turned: their proofs, one number more) ===== -/
section QTHROW
variable {p : Program} {l : Launch} {e : Env} {R : Room} {s : State} {m : MethodId} {args : Array Value} {below : List Frame} {meth : Method} {c : Code} {H : Heap} {locs : List Loc} {cells slots : Nat} {Q : State → Prop}
variable {mc ms : Nat} {free : Addr → Prop} {A0 A1 : Nat → Prop} {H0 : Heap} {a : Array Value} {ls : Array Slot} {st0 rest : List Value}
variable {Qc : Array Value → State → Outcome → State → Prop} {XC : String → State → State → Prop}
theorem qx_throwS {cc : ByteArray} {pc : Nat} (hexec : p.tables.exec = Jvm.exec) (hb : c.code = cc) (hl : l.stackTraces = false) {own cls text : String} {names : List String} {ik is ic mc ms sa : Nat} {A : Nat → Prop}
    (hown : s.vm.findClass own = some m.cls) (hcls : Bundle.fit cls = true) (hnames : ∀ n ∈ names, Bundle.fit n = true)
    (hk : (Cond.classLink own ik cls).before args s = true) (hini : (Cond.initialized cls).before args s = true) (hstr : vk_R own is text sa s) (hat : ∀ w ∈ vx_atS own ic cls names, w.before args s = true)
    (hgood : ∀ w ∈ Cond.classLink own ik cls :: Cond.initialized cls :: vx_atS own ic cls names, vx_ot w = true)
    (hU : vx_Zq Bundle.tN "UNASSIGNED_STACK" Bundle.steD A s s.heap) (hN : vx_Zq Bundle.tN "SUPPRESSED_SENTINEL" Bundle.listD A s s.heap) (hS : va_S A s.heap H locs) (hsize : ls.size = c.maxLocals)
    (d0 : decode cc pc = .ok (.new ik, 3)) (d3 : decode cc (pc + 3) = .ok (.dup, 1)) (d4 : decode cc (pc + 4) = .ok (.ldc is, 2)) (d6 : decode cc (pc + 6) = .ok (.invokespecial ic, 3)) (d9 : decode cc (pc + 9) = .ok (.athrow, 1))
    (hout : ∀ x ∈ c.exceptionTable.toList, covers x (pc + 9) = false)
    (hRframes : names.length + 3 < R.frames) (hRlocals : (rest.map fun v => v.category).sum + (13 * (names.length + 1) + 43) ≤ R.locals) (hRcells : cells + 1 ≤ R.cells) (hRslots : slots + 6 ≤ R.slots) (hlocks : meth.locks = false)
    (hx : ∀ t : State, s.vm.Alike t.vm → t.heap.size = H.size + 1 → (∀ q : Nat, q < H.size → t.heap[q]? = H[q]?) → XC cls s t)
    (hf : ∀ z ∈ locs, free z.base) (hc : cells + 1 ≤ mc) (hs : slots + 6 ≤ ms) :
    W p l e R s m args below meth c H locs cells slots (vx_MQ below Qc XC args s mc ms free) (F0 m pc ls rest) := by
  intro T hT X
  have htr : e.platform.stackTraces = false := (show e.platform.stackTraces = l.stackTraces by rw [X.admits.platform]).trans hl
  have Y := vx_rebase X (R' := { frames := R.frames, locals := R.locals, cells := 1, slots := 6 }) (Nat.le_refl _) (Nat.le_refl _) hRcells hRslots
  obtain ⟨s', hA⟩ : ∃ z, z = (T.setVm s.vm).setFrames (.invoking m args :: below) := ⟨_, rfl⟩
  rw [← hA] at Y
  have hvm : s'.vm = s.vm := by rw [hA]; rfl
  have hhp : s'.heap = H := by rw [hA]; exact hT
  have hW0 : s.WarmedH s'.vm := by rw [hvm]; exact State.WarmedH.refl s
  have hat' : ∀ w ∈ vx_atS own ic cls names, w.before args s' = true := fun w hw => vx_ot_at hW0 hvm.symm (hgood w (List.mem_cons_of_mem _ (List.mem_cons_of_mem _ hw))) (hat w hw)
  have hk' : (Cond.classLink own ik cls).before args s' = true := vx_ot_at hW0 hvm.symm (hgood _ List.mem_cons_self) hk
  have hini' : (Cond.initialized cls).before args s' = true := vx_ot_at hW0 hvm.symm (hgood _ (List.mem_cons_of_mem _ List.mem_cons_self)) hini
  have hU' : vx_Zq Bundle.tN "UNASSIGNED_STACK" Bundle.steD A s' s'.heap := by rw [hhp]; exact vx_Zq.moved hW0.alike (hU.kept hS.2.1)
  have hN' : vx_Zq Bundle.tN "SUPPRESSED_SENTINEL" Bundle.listD A s' s'.heap := by rw [hhp]; exact vx_Zq.moved hW0.alike (hN.kept hS.2.1)
  have h : ∀ w ∈ Bundle.ownAtoms own ic cls names, w.before args s' = true := vx_own hat' (vx_isRefq hU'.1) (vx_isRefq hN'.1) hU'.2.word hN'.2.word
  have hown' : s'.vm.findClass own = some m.cls := by rw [hvm]; exact hown
  have hins : (Cond.instantiable cls 6).before args s' = true := h _ (by simp [Bundle.ownAtoms])
  obtain ⟨vm₁, cX, kX, hfX, hkX, -, -, X₁, st1⟩ := Y.newCold hexec (own := own) (C := cls) (index := ik) (n := 6) hown' hk' hins hini'
    (g := F0 m pc ls rest) rfl (by rw [hb]; exact d0) (Nat.le_refl _) (Nat.le_refl _)
  generalize hT1 : (T.setVm vm₁).pushCell { cls := cX, slots := kX.instanceTypes.map defaultValue, vm := .none } = T1 at X₁ st1
  have hcat : (Value.ref T.heap.size).category = 1 := rfl
  have hcellA : T1.heap[T.heap.size]? = some (freshCell cX kX) := by rw [← hT1]; exact State.heap_pushCell_size _ _
  have d3' : decode c.code (pc + 3) = .ok (.dup, 1) := by rw [hb]; exact d3
  have d4' : decode c.code (pc + 4) = .ok (.ldc is, 2) := by rw [hb]; exact d4
  have hstr' : vk_R own is text sa s' := vk_R.warm hW0 hstr
  obtain ⟨U, hsteps, hrun, hend, hW, hsame, ce, hce, hO⟩ := X₁.ctorThrowS hexec htr (own := own) (cls := cls) (names := names) (ic := ic) hown' hcls hnames h (fun x hx => nomatch hx) hfX hkX hcellA (by rw [hhp, hT]; exact Nat.le_refl _) (msg := .ref sa) rfl
    (g := { method := m, pc := pc + 6, locals := ls, stack := .ref sa :: .ref T.heap.size :: .ref T.heap.size :: rest, locked := none }) rfl hsize rfl rfl (rest := rest) rfl
    (by rw [hb]; exact d6) (by rw [hb]; exact d9) hout hRframes (by simp only [List.map_cons, List.sum_cons, hcat]; omega) hlocks
  obtain ⟨f1, f2⟩ := vx_frame hsame
  rw [hhp] at f1 f2
  have hsz9 : U.heap.size = H.size + 1 := by
    have g1 : U.heap.size ≤ s'.heap.size + (0 + 1) := hsame.2.2.1
    have g2 : T.heap.size < U.heap.size := (Array.getElem?_eq_some_iff.mp hce).1
    rw [hhp] at g1
    rw [hT] at g2
    omega
  have hWs : s.WarmedH U.vm := State.WarmedH.trans hW0 hW
  have hcl : s.vm.findClass cls = some ce.cls := by
    have h9 := hO.cls
    rw [hvm] at h9
    exact h9
  have hall : s.sameButNew ({ U with vm := s.vm } : State) locs mc ms := by
    subst hA
    obtain ⟨e1, e2⟩ := hsame
    rw [State.setFrames_setFrames] at e1
    have h2 : (T.setVm s.vm).sameButNew ({ U with vm := s.vm } : State) [] (0 + 1) (0 + 6) := ⟨e1, e2⟩
    have h3 := X.same.trans h2
    rw [List.append_nil] at h3
    exact h3.mono hc hs
  refine ⟨U, ?_, .threw T.heap.size, hrun, hend, Or.inr ⟨T.heap.size, rfl, cls, ce, locs, hx U hWs.alike hsz9 (fun q hq => f2 q hq (fun z hz => nomatch hz)), hce, hO.vm, hcl, hWs, hall, hf⟩⟩
  refine st1 _ ?_
  show Steps p.tables e below (T1.setTop { method := m, pc := pc + 3, locals := ls, stack := .ref T.heap.size :: rest, locked := none }) _
  jvm_step X₁.here [X₁.here.top, hexec, d3', Value.category]
  exact X₁.ldcString hexec (own := own) (text := text) (index := is) (a := sa) hown' hstr'.1 hstr'.2
    (g := { method := m, pc := pc + 4, locals := ls, stack := .ref T.heap.size :: .ref T.heap.size :: rest, locked := none }) rfl d4' _ hsteps
theorem qx_throwSW {cc : ByteArray} {pc : Nat} (hexec : p.tables.exec = Jvm.exec) (hb : c.code = cc) (hl : l.stackTraces = false) {own cls text : String} {names : List String} {ik is ic mc ms sa : Nat} {A : Nat → Prop}
    (hown : s.vm.findClass own = some m.cls) (hcls : Bundle.fit cls = true) (hnames : ∀ n ∈ names, Bundle.fit n = true)
    (hk : (Cond.classLink own ik cls).before args s = true) (hini : (Cond.initialized cls).before args s = true) (hstr : vk_R own is text sa s) (hat : ∀ w ∈ vx_atS own ic cls names, w.before args s = true)
    (hgood : ∀ w ∈ Cond.classLink own ik cls :: Cond.initialized cls :: vx_atS own ic cls names, vx_ot w = true)
    (hU : vx_Zq Bundle.tN "UNASSIGNED_STACK" Bundle.steD A s s.heap) (hN : vx_Zq Bundle.tN "SUPPRESSED_SENTINEL" Bundle.listD A s s.heap) (hS : va_S A s.heap H locs) (hsize : ls.size = c.maxLocals)
    (d0 : decode cc pc = .ok (.new ik, 3)) (d3 : decode cc (pc + 3) = .ok (.dup, 1)) (d4 : decode cc (pc + 4) = .ok (.ldc_w is, 3)) (d7 : decode cc (pc + 7) = .ok (.invokespecial ic, 3)) (d10 : decode cc (pc + 10) = .ok (.athrow, 1))
    (hout : ∀ x ∈ c.exceptionTable.toList, covers x (pc + 10) = false)
    (hRframes : names.length + 3 < R.frames) (hRlocals : (rest.map fun v => v.category).sum + (13 * (names.length + 1) + 43) ≤ R.locals) (hRcells : cells + 1 ≤ R.cells) (hRslots : slots + 6 ≤ R.slots) (hlocks : meth.locks = false)
    (hx : ∀ t : State, s.vm.Alike t.vm → t.heap.size = H.size + 1 → (∀ q : Nat, q < H.size → t.heap[q]? = H[q]?) → XC cls s t)
    (hf : ∀ z ∈ locs, free z.base) (hc : cells + 1 ≤ mc) (hs : slots + 6 ≤ ms) :
    W p l e R s m args below meth c H locs cells slots (vx_MQ below Qc XC args s mc ms free) (F0 m pc ls rest) := by
  intro T hT X
  have htr : e.platform.stackTraces = false := (show e.platform.stackTraces = l.stackTraces by rw [X.admits.platform]).trans hl
  have Y := vx_rebase X (R' := { frames := R.frames, locals := R.locals, cells := 1, slots := 6 }) (Nat.le_refl _) (Nat.le_refl _) hRcells hRslots
  obtain ⟨s', hA⟩ : ∃ z, z = (T.setVm s.vm).setFrames (.invoking m args :: below) := ⟨_, rfl⟩
  rw [← hA] at Y
  have hvm : s'.vm = s.vm := by rw [hA]; rfl
  have hhp : s'.heap = H := by rw [hA]; exact hT
  have hW0 : s.WarmedH s'.vm := by rw [hvm]; exact State.WarmedH.refl s
  have hat' : ∀ w ∈ vx_atS own ic cls names, w.before args s' = true := fun w hw => vx_ot_at hW0 hvm.symm (hgood w (List.mem_cons_of_mem _ (List.mem_cons_of_mem _ hw))) (hat w hw)
  have hk' : (Cond.classLink own ik cls).before args s' = true := vx_ot_at hW0 hvm.symm (hgood _ List.mem_cons_self) hk
  have hini' : (Cond.initialized cls).before args s' = true := vx_ot_at hW0 hvm.symm (hgood _ (List.mem_cons_of_mem _ List.mem_cons_self)) hini
  have hU' : vx_Zq Bundle.tN "UNASSIGNED_STACK" Bundle.steD A s' s'.heap := by rw [hhp]; exact vx_Zq.moved hW0.alike (hU.kept hS.2.1)
  have hN' : vx_Zq Bundle.tN "SUPPRESSED_SENTINEL" Bundle.listD A s' s'.heap := by rw [hhp]; exact vx_Zq.moved hW0.alike (hN.kept hS.2.1)
  have h : ∀ w ∈ Bundle.ownAtoms own ic cls names, w.before args s' = true := vx_own hat' (vx_isRefq hU'.1) (vx_isRefq hN'.1) hU'.2.word hN'.2.word
  have hown' : s'.vm.findClass own = some m.cls := by rw [hvm]; exact hown
  have hins : (Cond.instantiable cls 6).before args s' = true := h _ (by simp [Bundle.ownAtoms])
  obtain ⟨vm₁, cX, kX, hfX, hkX, -, -, X₁, st1⟩ := Y.newCold hexec (own := own) (C := cls) (index := ik) (n := 6) hown' hk' hins hini'
    (g := F0 m pc ls rest) rfl (by rw [hb]; exact d0) (Nat.le_refl _) (Nat.le_refl _)
  generalize hT1 : (T.setVm vm₁).pushCell { cls := cX, slots := kX.instanceTypes.map defaultValue, vm := .none } = T1 at X₁ st1
  have hcat : (Value.ref T.heap.size).category = 1 := rfl
  have hcellA : T1.heap[T.heap.size]? = some (freshCell cX kX) := by rw [← hT1]; exact State.heap_pushCell_size _ _
  have d3' : decode c.code (pc + 3) = .ok (.dup, 1) := by rw [hb]; exact d3
  have d4' : decode c.code (pc + 4) = .ok (.ldc_w is, 3) := by rw [hb]; exact d4
  have hstr' : vk_R own is text sa s' := vk_R.warm hW0 hstr
  obtain ⟨U, hsteps, hrun, hend, hW, hsame, ce, hce, hO⟩ := X₁.ctorThrowS hexec htr (own := own) (cls := cls) (names := names) (ic := ic) hown' hcls hnames h (fun x hx => nomatch hx) hfX hkX hcellA (by rw [hhp, hT]; exact Nat.le_refl _) (msg := .ref sa) rfl
    (g := { method := m, pc := pc + 7, locals := ls, stack := .ref sa :: .ref T.heap.size :: .ref T.heap.size :: rest, locked := none }) rfl hsize rfl rfl (rest := rest) rfl
    (by rw [hb]; exact d7) (by rw [hb]; exact d10) hout hRframes (by simp only [List.map_cons, List.sum_cons, hcat]; omega) hlocks
  obtain ⟨f1, f2⟩ := vx_frame hsame
  rw [hhp] at f1 f2
  have hsz9 : U.heap.size = H.size + 1 := by
    have g1 : U.heap.size ≤ s'.heap.size + (0 + 1) := hsame.2.2.1
    have g2 : T.heap.size < U.heap.size := (Array.getElem?_eq_some_iff.mp hce).1
    rw [hhp] at g1
    rw [hT] at g2
    omega
  have hWs : s.WarmedH U.vm := State.WarmedH.trans hW0 hW
  have hcl : s.vm.findClass cls = some ce.cls := by
    have h9 := hO.cls
    rw [hvm] at h9
    exact h9
  have hall : s.sameButNew ({ U with vm := s.vm } : State) locs mc ms := by
    subst hA
    obtain ⟨e1, e2⟩ := hsame
    rw [State.setFrames_setFrames] at e1
    have h2 : (T.setVm s.vm).sameButNew ({ U with vm := s.vm } : State) [] (0 + 1) (0 + 6) := ⟨e1, e2⟩
    have h3 := X.same.trans h2
    rw [List.append_nil] at h3
    exact h3.mono hc hs
  refine ⟨U, ?_, .threw T.heap.size, hrun, hend, Or.inr ⟨T.heap.size, rfl, cls, ce, locs, hx U hWs.alike hsz9 (fun q hq => f2 q hq (fun z hz => nomatch hz)), hce, hO.vm, hcl, hWs, hall, hf⟩⟩
  refine st1 _ ?_
  show Steps p.tables e below (T1.setTop { method := m, pc := pc + 3, locals := ls, stack := .ref T.heap.size :: rest, locked := none }) _
  jvm_step X₁.here [X₁.here.top, hexec, d3', Value.category]
  exact X₁.ldcStringW hexec (own := own) (text := text) (index := is) (a := sa) hown' hstr'.1 hstr'.2
    (g := { method := m, pc := pc + 4, locals := ls, stack := .ref T.heap.size :: .ref T.heap.size :: rest, locked := none }) rfl d4' _ hsteps
end QTHROW
/-! ===== System.arraycopy ===== -/
theorem arrV_congr {cA : ClassId} {n : Nat} {f g : Nat → Value} (h : ∀ j, j < n → f j = g j) : arrV cA n f = arrV cA n g := by
  unfold arrV
  congr 1
  apply Array.ext
  · simp
  · intro j h1 h2
    simp only [Array.getElem_ofFn]
    exact h j (by simpa using h1)
section QACP
variable {p : Program} {l : Launch} {e : Env} {R : Room} {s : State} {m : MethodId} {args : Array Value} {below : List Frame} {meth : Method} {c : Code} {H : Heap} {locs : List Loc} {cells slots : Nat} {Q : State → Prop}
variable {D : va_G} {dA : Nat → ClassId} {b base o nL fr lo : Nat} {init : Bool} {bc : ByteArray} {all tl : List PRow} {i pc : Nat} {lsM : Array Slot} {ls : PV} {st : List Value} {g : PS}
theorem qAcpN : Cond.native arraycopyName ∈ qTs := qTs_of (qGet_mem (x := 1172) (by decide +kernel)) rfl
theorem qAcpS : Cond.static arraycopyName ∈ qTs := qTs_of (qGet_mem (x := 1171) (by decide +kernel)) rfl
theorem qAcpI : Cond.initialized "java/lang/System" ∈ qTs := qTs_of (qGet_mem (x := 1007) (by decide +kernel)) rfl
theorem qSm {r : List Value} (h : r.length ≤ 4 ∨ (r.map fun v => v.category).sum ≤ 8) : ((r.map (qSh b base)).map fun v => v.category).sum ≤ 8 := by
  have e : (r.map (qSh b base)).map (fun v => v.category) = r.map (fun v => v.category) := by
    rw [List.map_map]
    exact List.map_congr_left fun v _ => qSh_cat _ _ v
  rw [e]
  rcases h with h | h
  · have key : ∀ r : List Value, (r.map fun v => v.category).sum ≤ 2 * r.length := by
      intro r
      induction r with
      | nil => exact Nat.le_refl _
      | cons v t ih =>
        have := lv_cat v
        simp only [List.map_cons, List.sum_cons, List.length_cons]
        omega
    have := key r
    omega
  · exact h
def pInt (v : Value) : Int32 := match v with | .int x => x | _ => 0
theorem qTyp.ints {a : Nat} (h : qTyp g a) (hk : pK g a = 12 ∨ pK g a = 14) (b base : Nat) : ∀ j, j < pL g a → qSh b base (pM g a j) = .int (pInt (pM g a j)) := by
  intro j hj
  rcases hk with z | z
  · obtain ⟨x, hx⟩ := h.1 z j hj
    rw [hx]; rfl
  · rcases h.2 z j hj with hx | hx <;> rw [hx] <;> rfl
/-- the pure heap behind a copy -/
theorem qCpy {a d i j n : Nat} {H' : Heap} (hR : qRel D dA b base g H) (ha : pK g a = 12 ∨ pK g a = 14) (hd : pK g d = pK g a) (hi : i + n ≤ pL g a) (hlt : d < pN g)
    (e1 : H'[qAd b base d]? = some (arrV (dA (pK g d)) (pL g d) (fun q => if j ≤ q ∧ q < j + n then qSh b base (pM g a (i + (q - j))) else qSh b base (pM g d q)))) (e2 : H'.size = H.size) (e3 : ∀ q, q ≠ qAd b base d → H'[q]? = H[q]?) : qRel D dA b base (pCpy g a i d j n) H' := by
  obtain ⟨h0, h1, h2, h3, h4, h5, h6⟩ := hR
  have hla : a < pN g := by
    rcases Nat.lt_or_ge a (pN g) with z | z
    · exact z
    · have := h4 a z; omega
  have em : ∀ x q, pM (pCpy g a i d j n) x q = if x = d ∧ j ≤ q ∧ q < j + n then pM g a (i + (q - j)) else pM g x q := fun _ _ => rfl
  refine ⟨h0, h1, by rw [e2]; exact h2, fun x hx => ?_, h4, h5, h6⟩
  by_cases ex : x = d
  · subst ex
    have hta := (h3 a hla).2
    have htd := (h3 x hlt).2
    refine ⟨⟨fun z => ?_, fun _ _ => ?_, fun z => ?_⟩, ⟨fun z q hq => ?_, fun z q hq => ?_⟩⟩
    · have z' : pK g x < 12 := z
      omega
    · show H'[qAd b base x]? = some (arrV (dA (pK g x)) (pL g x) _)
      rw [e1]
      congr 2
      funext q
      rw [em]
      by_cases hq : j ≤ q ∧ q < j + n
      · rw [if_pos hq, if_pos ⟨rfl, hq⟩]
      · rw [if_neg hq, if_neg (fun z => hq z.2)]
    · have z' : pK g x = 20 := z
      omega
    · have z' : pK g x = 12 := z
      rw [em]
      split
      · exact hta.1 (by omega) _ (by omega)
      · exact htd.1 z' q hq
    · have z' : pK g x = 14 := z
      rw [em]
      split
      · exact hta.2 (by omega) _ (by omega)
      · exact htd.2 z' q hq
  · exact ⟨(h3 x hx).1.kept rfl rfl (fun q => by rw [em, if_neg (fun z => ex z.1)]) (e3 _ (fun z => ex (qAd_inj h0 z))), (h3 x hx).2.kept rfl rfl (fun q => by rw [em, if_neg (fun z => ex z.1)])⟩
theorem nn_clamp {z : Int32} (hz : ¬ z < 0) : z.toInt = (z.toNatClampNeg : Int) := by
  have hz0 : (0 : Int) ≤ z.toInt := by
    have := Int32.not_lt.mp hz
    simpa using Int32.le_iff_toInt_le.mp this
  show z.toInt = ((z.toInt.toNat : Nat) : Int)
  omega
theorem q_acp {idx c0 z0 : Nat} {pc' : Nat} {q : PR} (F : qFrm D dA b base p l R s m meth c o init bc nL fr lo) (d : decode bc pc = .ok (.invokestatic idx, 3)) (hlk : Cond.methodLink (qOwn o) idx arraycopyName ∈ lw_tbl) (hn : (all[i + 1]?).map (fun r => r.1) = some (pc + 3)) (hf1 : 1 ≤ fr) (hf2 : 40 ≤ lo)
    (hs : pAcp (i + 1) ls st g = some q) (hsm : q.2.2.1.length ≤ 4 ∨ (q.2.2.1.map fun v => v.category).sum ≤ 8) (hl : qLs b base nL lsM ls) (hR : qRel D dA b base g H) (hS : va_S (qA base) s.heap H locs)
    (k : qK D dA b base nL all p l e R s m args below meth c c0 z0 Q q) : W p l e R s m args below meth c H locs (pC g - c0) (pZ g - z0) Q (F0 m pc lsM (st.map (qSh b base))) := by
  obtain ⟨hx, hb, hml, hown, hlocks, htr, hctx, hfr, hlo, hinit⟩ := id F
  unfold pAcp at hs
  split at hs
  · rename_i n j b0 i0 a0 r
    split at hs
    · rename_i hP
      have hq := Option.some.inj hs
      subst hq
      obtain ⟨hk, hkb, hn0, hi0, hj0, hr1, hr2⟩ := hP
      have hka : 12 ≤ pK g a0 ∧ pK g a0 ≤ 19 := by rcases hk with z | z <;> omega
      have hkb' : pK g b0 = 12 ∨ pK g b0 = 14 := by rw [hkb]; exact hk
      obtain ⟨hla, ha0, hca⟩ := qArrC (a := a0) hR hka.1 hka.2
      obtain ⟨hlb, hb0, hcb⟩ := qArrC (a := b0) hR (by omega) (by omega)
      have hta := (hR.2.2.2.1 a0 hla).2.ints hk b base
      have htb := (hR.2.2.2.1 b0 hlb).2.ints hkb' b base
      rw [arrV_congr hta] at hca
      rw [arrV_congr htb] at hcb
      obtain ⟨-, kA, cmA, hkA, hkkA, -⟩ := hctx.2.2.1 (pK g a0) hka.1 hka.2
      intro T hT X
      have hws := qHts (args := args) hctx
      obtain ⟨vm', X', step⟩ := X.arraycopy hx hown (hws _ (qTs_of hlk rfl)) (hws _ qAcpN) (hws _ qAcpS) (hws _ qAcpI) (src := qAd b base a0) (dst := qAd b base b0) (srcPos := i0) (destPos := j) (n := n) (by rw [hT]; exact hca) (by rw [hT]; exact hcb)
        (fun _ h => by cases h) (fun _ h => by cases h) (fun h => by cases h) (fun h => by cases h) hkA (by rw [hkb]; exact hkA) hkkA hkkA (by rcases hk with z | z <;> rw [z] <;> rfl) hi0 hj0 hn0
        (by rw [nn_clamp hi0, nn_clamp hn0, arrV_size]; omega) (by rw [nn_clamp hj0, nn_clamp hn0, arrV_size]; omega)
        (fun vm₁ _ i9 hi9 => by
          have e9 : (arrV (dA (pK g a0)) (pL g a0) (fun j => Value.int (pInt (pM g a0 j)))).slots.getD (i0.toNatClampNeg + i9) .null = .int (pInt (pM g a0 (i0.toNatClampNeg + i9))) := by
            rw [Array.getD_eq_getD_getElem?, arrV_read _ _ (by omega)]
            rfl
          refine ⟨?_, ?_⟩
          · rw [e9]
            rcases hk with z | z
            · rw [z]; rfl
            · rw [z]
              rcases (hR.2.2.2.1 a0 hla).2.2 z (i0.toNatClampNeg + i9) (by omega) with y | y <;> rw [y] <;> rfl
          · rw [e9]
            exact trivial)
        (g := F0 m pc lsM (.int n :: .int j :: .ref (qAd b base b0) :: .int i0 :: .ref (qAd b base a0) :: r.map (qSh b base))) rfl (by rw [hml]; exact hl.1) (rest := r.map (qSh b base)) rfl (by rw [hb]; exact d) (Nat.le_trans hf1 hfr) (by
          have h9 : ((r.map (qSh b base)).map fun v => v.category).sum ≤ 8 := qSm hsm
          have h10 : nativeFrameWords "java/lang/System" "arraycopy" 5 + 11 ≤ 32 := by decide
          show 2 * 0 + _ + _ ≤ _
          omega)
      have e0 : copied (arrV (dA (pK g a0)) (pL g a0) (fun j => Value.int (pInt (pM g a0 j)))) (arrV (dA (pK g b0)) (pL g b0) (fun j => Value.int (pInt (pM g b0 j)))) i0 j n = arrV (dA (pK g b0)) (pL g b0) (fun j9 => Value.int (va_cpy (fun j => pInt (pM g a0 j)) (fun j => pInt (pM g b0 j)) i0.toNatClampNeg j.toNatClampNeg n.toNatClampNeg j9)) := va_copied (fun z => Value.int z) (dA (pK g a0)) (dA (pK g b0)) (fun j => pInt (pM g a0 j)) (fun j => pInt (pM g b0 j)) hr1
      rw [e0] at X' step
      have hlh : qAd b base b0 < H.size := qAd_lt hR hlb
      have hheap : ((T.setVm vm').setCell (qAd b base b0) (arrV (dA (pK g b0)) (pL g b0) (fun j9 => Value.int (va_cpy (fun j => pInt (pM g a0 j)) (fun j => pInt (pM g b0 j)) i0.toNatClampNeg j.toNatClampNeg n.toNatClampNeg j9)))).heap = H.setIfInBounds (qAd b base b0) (arrV (dA (pK g b0)) (pL g b0) (fun j9 => Value.int (va_cpy (fun j => pInt (pM g a0 j)) (fun j => pInt (pM g b0 j)) i0.toNatClampNeg j.toNatClampNeg n.toNatClampNeg j9))) := by rw [← hT]; rfl
      have oq : ∀ q : Nat, q ≠ qAd b base b0 → (H.setIfInBounds (qAd b base b0) (arrV (dA (pK g b0)) (pL g b0) (fun j9 => Value.int (va_cpy (fun j => pInt (pM g a0 j)) (fun j => pInt (pM g b0 j)) i0.toNatClampNeg j.toNatClampNeg n.toNatClampNeg j9))))[q]? = H[q]? := fun q hq => by simp [Array.getElem?_setIfInBounds, Ne.symm hq]
      have hR' : qRel D dA b base (pCpy g a0 i0.toNatClampNeg b0 j.toNatClampNeg n.toNatClampNeg) (H.setIfInBounds (qAd b base b0) (arrV (dA (pK g b0)) (pL g b0) (fun j9 => Value.int (va_cpy (fun j => pInt (pM g a0 j)) (fun j => pInt (pM g b0 j)) i0.toNatClampNeg j.toNatClampNeg n.toNatClampNeg j9)))) := by
        refine qCpy hR hk hkb hr1 hlb ?_ (by simp) oq
        have e9 : (H.setIfInBounds (qAd b base b0) (arrV (dA (pK g b0)) (pL g b0) (fun j9 => Value.int (va_cpy (fun j => pInt (pM g a0 j)) (fun j => pInt (pM g b0 j)) i0.toNatClampNeg j.toNatClampNeg n.toNatClampNeg j9))))[qAd b base b0]? = some (arrV (dA (pK g b0)) (pL g b0) (fun j9 => Value.int (va_cpy (fun j => pInt (pM g a0 j)) (fun j => pInt (pM g b0 j)) i0.toNatClampNeg j.toNatClampNeg n.toNatClampNeg j9))) := by simp [Array.getElem?_setIfInBounds, hlh]
        rw [e9]
        congr 1
        refine arrV_congr fun q9 hq9 => ?_
        unfold va_cpy
        by_cases hz : j.toNatClampNeg ≤ q9 ∧ q9 < j.toNatClampNeg + n.toNatClampNeg
        · rw [if_pos hz, if_pos hz]
          exact (hta _ (by omega)).symm
        · rw [if_neg hz, if_neg hz]
          exact (htb _ hq9).symm
      obtain ⟨t, a1, b1⟩ := k _ lsM _ (locs ++ _) hn hl hR' ⟨by simp; exact hS.1, fun q g1 g2 => by
          rw [oq q (fun e => g2 (by rw [e]; exact qAd_ge hb0))]
          exact hS.2.1 q g1 g2, fun q hq => by
          rcases List.mem_append.mp hq with h | h
          · exact hS.2.2 q h
          · obtain ⟨z, -, hz⟩ := List.mem_map.mp h
            rw [← hz]
            exact qAd_ge hb0⟩ _ hheap X'
      exact ⟨t, step t a1, b1⟩
    · cases hs
  · cases hs
end QACP
