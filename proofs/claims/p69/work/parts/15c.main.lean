/-! ===== THE SIMULATION, put together ===== -/
section QMAIN
variable {D : va_G} {dA : Nat → ClassId} {b base : Nat} {l : Launch} {n : Nat}
variable {p : Program} {e : Env} {R : Room} {s : State} {m : MethodId} {args : Array Value} {below : List Frame} {meth : Method} {c : Code} {H : Heap} {locs : List Loc} {Q : State → Prop}
theorem pIdx_spec {pc : Nat} : ∀ {L : List PRow} {k h : Nat}, pIdx L pc k = some h → k ≤ h ∧ (L[h - k]?).map (fun r => r.1) = some pc
  | [], k, h, hh => by cases hh
  | r :: t, k, h, hh => by
    unfold pIdx at hh
    split at hh
    · rename_i e
      cases hh
      refine ⟨Nat.le_refl _, ?_⟩
      rw [Nat.sub_self]
      exact congrArg some e
    · obtain ⟨a1, a2⟩ := pIdx_spec hh
      refine ⟨by omega, ?_⟩
      rw [show h - k = (h - (k + 1)) + 1 by omega, List.getElem?_cons_succ]
      exact a2
/-- an answer -/
theorem qRetn {mm pc len r1 r2 r3 c0 z0 : Nat} {ins : Instr} {tl : List PRow} {lsM : Array Slot} {st : List Value} {g : PS} {v : Option Value} (F : qFm D dA b base p l R s m meth c mm)
    (hok : qRowOk (qmO mm) (decide ((qmY mm).name = "<init>")) (qmF mm) (qmG mm) (qmB mm) (qRows mm) tl (pc, ins, len, r1, r2, r3) = true) (hv : pRet (qmR mm) ins st = some v) (hR : qRel D dA b base g H) (hS : va_S (qA base) s.heap H locs) :
    W p l e R s m args below meth c H locs (pC g - c0) (pZ g - z0) (MQ below (qQr D dA b base v g) args s (pC g - c0) (pZ g - z0) (qA base)) (F0 m pc lsM (st.map (qSh b base))) := by
  obtain ⟨⟨hx, hb, hml, hown, hlocks, htr, hctx, hfr, hlo, hinit⟩, htab, hret⟩ := id F
  unfold qRowOk at hok
  have hf : ∀ q ∈ locs, qA base q.base := fun q hq => hS.2.2 q hq
  have hq : ∀ t : State, t.heap = H → s.WarmedH t.vm → qQr D dA b base v g args s (.returned (v.map (qSh b base))) t := fun t ht _ => ⟨rfl, by rw [ht]; exact hR, hS.F ht⟩
  unfold pRet at hv
  split at hv
  · simp only [Bool.and_eq_true, decide_eq_true_eq, beq_iff_eq] at hok
    obtain ⟨d, h1⟩ := hok
    subst h1
    split at hv
    · split at hv
      · rename_i hrt
        cases hv
        exact W.iret hx hb (hret.trans hrt) hq hf d hlocks
      · rename_i x _ hrt
        split at hv
        · rename_i h01
          cases hv
          exact W.zret (ty := .boolean) hx hb (hret.trans hrt) (by rcases h01 with rfl | rfl <;> rfl) hq hf d hlocks
        · cases hv
      · cases hv
    · cases hv
  · simp only [Bool.and_eq_true, decide_eq_true_eq, beq_iff_eq] at hok
    obtain ⟨d, h1⟩ := hok
    subst h1
    split at hv
    · split at hv
      · rename_i hrt
        cases hv
        exact W.lret hx hb (hret.trans hrt) hq hf d hlocks
      · cases hv
    · cases hv
  · simp only [Bool.and_eq_true, decide_eq_true_eq, beq_iff_eq] at hok
    obtain ⟨d, h1⟩ := hok
    subst h1
    split at hv
    · split at hv
      · rename_i hrt
        cases hv
        exact W.dret hx hb (hret.trans hrt) hq hf d hlocks
      · cases hv
    · cases hv
  · simp only [Bool.and_eq_true, decide_eq_true_eq, beq_iff_eq] at hok
    obtain ⟨d, h1⟩ := hok
    subst h1
    split at hv
    · split at hv
      · rename_i hrt
        cases hv
        exact W.aret hx hb (hret.trans hrt) (Or.inl ⟨_, rfl⟩) (Or.inr ⟨_, rfl⟩) hq hf d hlocks
      · cases hv
    · split at hv
      · rename_i hrt
        cases hv
        exact W.aret (v := .null) hx hb (hret.trans hrt) (Or.inl ⟨_, rfl⟩) (Or.inl rfl) hq hf d hlocks
      · cases hv
    · cases hv
  · simp only [Bool.and_eq_true, decide_eq_true_eq, beq_iff_eq] at hok
    obtain ⟨d, h1⟩ := hok
    subst h1
    split at hv
    · split at hv
      · rename_i hrt
        cases hv
        exact W.vret hx hb (hret.trans hrt) hq hf d hlocks
      · cases hv
    · cases hv
  · cases hv
/-- an exception of its own -/
theorem qThrow {mm pc len r1 r2 r3 c0 z0 : Nat} {ins : Instr} {tl : List PRow} {lsM : Array Slot} {ls : PV} {st : List Value} {g : PS} {Qc : Array Value → State → Outcome → State → Prop} (hm : mm < 381) (F : qFm D dA b base p l R s m meth c mm)
    (hok : qRowOk (qmO mm) (decide ((qmY mm).name = "<init>")) (qmF mm) (qmG mm) (qmB mm) (qRows mm) tl (pc, ins, len, r1, r2, r3) = true) (hk : pKind ins r1 = 3) (hsm : st.length ≤ 4 ∨ (st.map fun v => v.category).sum ≤ 8) (hd : qHd mm = []) (hl : qLs b base (qmL mm) lsM ls)
    (hR : qRel D dA b base g H) (hS : va_S (qA base) s.heap H locs) (hc : c0 ≤ pC g) (hz : z0 ≤ pZ g) (hC : pC (pThr g) - c0 ≤ R.cells) (hZ : pZ (pThr g) - z0 ≤ R.slots) :
    W p l e R s m args below meth c H locs (pC g - c0) (pZ g - z0) (vx_MQ below Qc (qXr D dA b base (r1 - 100) (pThr g)) args s (pC (pThr g) - c0) (pZ (pThr g) - z0) (qA base)) (F0 m pc lsM (st.map (qSh b base))) := by
  obtain ⟨⟨hx, hb, hml, hown, hlocks, htr, hctx, hfr, hlo, hinit⟩, htab, hret⟩ := id F
  have hts := qHts (args := args) hctx
  have htb : c.exceptionTable.toList = [] := by rw [htab, qH_none hm hd]; rfl
  have hW8 : ((st.map (qSh b base)).map fun v => v.category).sum ≤ 8 := qSm hsm
  unfold qRowOk at hok
  cases ins <;> try (exact absurd hk (by decide))
  case new idx =>
    have h12 : ¬ r1 < 12 := fun z => by
      unfold pKind at hk
      dsimp only at hk
      rw [if_pos z] at hk
      omega
    dsimp only at hok
    rw [if_neg h12] at hok
    simp only [Bool.and_eq_true, decide_eq_true_eq] at hok
    obtain ⟨-, h100, hth⟩ := hok
    unfold qThok at hth
    split at hth
    · cases hth
    · rename_i t htj
      simp only [Bool.and_eq_true, decide_eq_true_eq, beq_iff_eq] at hth
      obtain ⟨ho, he, ⟨h6, h90⟩, d0, d3, hw⟩ := hth
      have hq := List.all_eq_true.mp qTH_ok t (List.mem_of_getElem? htj)
      simp only [Bool.and_eq_true, decide_eq_true_eq] at hq
      obtain ⟨he3, hic, hwd, hcl⟩ := hq
      obtain ⟨tx, sa, hstr⟩ := hctx.2.2.2.2.2.2.2.1 r3 t htj
      rw [ho] at hown
      rw [he] at he3 hic hcl
      have hown9 : s.vm.findClass RX9 = some m.cls := hown
      have hX := qExI he3
      have hat : ∀ w ∈ vx_atS RX9 t.2.2.1 (qEx (r1 - 100)) qUp, w ∈ qTs ∧ vx_ot w = true := by rw [← hic]; exact qOwnW he3
      have hfit := List.all_eq_true.mp qExFit (r1 - 100) (List.mem_range.mpr he3)
      simp only [Bool.and_eq_true] at hfit
      have hnames : ∀ n ∈ qUp, Bundle.fit n = true := fun n hn => List.all_eq_true.mp hfit.2 n hn
      have hxx : ∀ t : State, s.vm.Alike t.vm → t.heap.size = H.size + 1 → (∀ q : Nat, q < H.size → t.heap[q]? = H[q]?) → qXr D dA b base (r1 - 100) (pThr g) (qEx (r1 - 100)) s t := fun t _ hz1 hq1 =>
        ⟨rfl, hR.thr hz1 hq1, ⟨by have := hS.1; omega, fun q h1 h2 => by rw [hq1 q (Nat.lt_of_lt_of_le h1 hS.1)]; exact hS.2.1 q h1 h2⟩⟩
      have hC1 : pC g - c0 + 1 ≤ pC (pThr g) - c0 := by show pC g - c0 + 1 ≤ pC g + 1 - c0; omega
      have hZ1 : pZ g - z0 + 6 ≤ pZ (pThr g) - z0 := by show pZ g - z0 + 6 ≤ pZ g + 6 - z0; omega
      have hgood : ∀ w ∈ Cond.classLink RX9 t.1 (qEx (r1 - 100)) :: Cond.initialized (qEx (r1 - 100)) :: vx_atS RX9 t.2.2.1 (qEx (r1 - 100)) qUp, vx_ot w = true := by
        intro w hw
        rcases List.mem_cons.mp hw with e1 | hw
        · rw [e1]; rfl
        · rcases List.mem_cons.mp hw with e1 | hw
          · rw [e1]; rfl
          · exact (hat w hw).2
      split at hw
      · simp only [Bool.and_eq_true, decide_eq_true_eq] at hw
        exact qx_throwS hx hb htr hown9 hfit.1 hnames (hts _ (qTs_of (qGet_mem hcl) rfl)) (hts _ (qTs_of hX.1 rfl)) hstr (fun w hw => hts w (hat w hw).1) hgood hctx.2.2.2.2.2.1 hctx.2.2.2.2.2.2.1 hS (by rw [hml]; exact hl.1)
          d0 d3 hw.1 hw.2.1 hw.2.2 (fun x hx => by rw [htb] at hx; cases hx) (by show 2 + 3 < R.frames; omega) (by show _ + (13 * (2 + 1) + 43) ≤ R.locals; omega) (by omega) (by omega) hlocks hxx (fun z hz => hS.2.2 z hz) hC1 hZ1
      · simp only [Bool.and_eq_true, decide_eq_true_eq] at hw
        exact qx_throwSW hx hb htr hown9 hfit.1 hnames (hts _ (qTs_of (qGet_mem hcl) rfl)) (hts _ (qTs_of hX.1 rfl)) hstr (fun w hw => hts w (hat w hw).1) hgood hctx.2.2.2.2.2.1 hctx.2.2.2.2.2.2.1 hS (by rw [hml]; exact hl.1)
          d0 d3 hw.1 hw.2.1 hw.2.2 (fun x hx => by rw [htb] at hx; cases hx) (by show 2 + 3 < R.frames; omega) (by show _ + (13 * (2 + 1) + 43) ≤ R.locals; omega) (by omega) (by omega) hlocks hxx (fun z hz => hS.2.2 z hz) hC1 hZ1
  all_goals (unfold pKind at hk; dsimp only at hk; first | omega | (split at hk <;> first | omega | (split at hk <;> omega)))
/-- Object.<init> -/
theorem qObjI {mm i pc len r1 r2 r3 c0 z0 a : Nat} {ins : Instr} {tl : List PRow} {ls : PV} {lsM : Array Slot} {rest : List Value} {g : PS} (F : qFm D dA b base p l R s m meth c mm)
    (hok : qRowOk (qmO mm) (decide ((qmY mm).name = "<init>")) (qmF mm) (qmG mm) (qmB mm) (qRows mm) tl (pc, ins, len, r1, r2, r3) = true) (ht : (qRows mm).drop (i + 1) = tl) (hk : pKind ins r1 = 4) (hsm : rest.length ≤ 4 ∨ (rest.map fun v => v.category).sum ≤ 8) (hl : qLs b base (qmL mm) lsM ls)
    (hR : qRel D dA b base g H) (hS : va_S (qA base) s.heap H locs) (k : qK D dA b base (qmL mm) (qRows mm) p l e R s m args below meth c c0 z0 Q (i + 1, ls, rest, g)) :
    W p l e R s m args below meth c H locs (pC g - c0) (pZ g - z0) Q (F0 m pc lsM ((.ref a :: rest).map (qSh b base))) := by
  obtain ⟨⟨hx, hb, hml, hown, hlocks, htr, hctx, hfr, hlo, hinit⟩, htab, hret⟩ := id F
  have hts := qHts (args := args) hctx
  have hW8 : ((rest.map (qSh b base)).map fun v => v.category).sum ≤ 8 := qSm hsm
  unfold qRowOk at hok
  cases ins <;> try (exact absurd hk (by decide))
  case invokespecial idx =>
    have h0 : r1 = 0 := by
      unfold pKind at hk
      dsimp only at hk
      split at hk
      · assumption
      · split at hk <;> omega
    simp only [Bool.and_eq_true, decide_eq_true_eq, beq_iff_eq, Bool.or_eq_true] at hok
    obtain ⟨d, h1, h2, h3⟩ := hok
    subst h1
    subst h0
    obtain ⟨nest, hn, hlw, f0, f1, f2, f3, f4⟩ := qMok_spec (h3.resolve_left (by omega))
    rw [if_neg (by have := (f3 (by omega)).1; omega)] at hlw
    have f0' := f0 rfl
    exact W.objInit hx hb hown (hts _ (qTs_of hlw rfl)) (hts _ (qTs_of (qGet_mem (x := 1027) rfl) rfl)) (hts _ (qTs_of (qGet_mem (x := 1028) rfl) rfl)) rfl (by rw [hml]; exact hl.1) (rest := rest.map (qSh b base)) rfl d (by omega) (by show 2 * 0 + _ + 12 ≤ _; omega)
      (k _ _ _ _ (qNx_spec h2 ht) hl hR hS)
  all_goals (unfold pKind at hk; dsimp only at hk; first | omega | (split at hk <;> first | omega | (split at hk <;> omega)))
/-- Math.max, Math.min -/
theorem qMinMax {mm i pc len r1 r2 r3 c0 z0 : Nat} {x y : Int32} {ins : Instr} {tl : List PRow} {ls : PV} {lsM : Array Slot} {rest : List Value} {g : PS} (F : qFm D dA b base p l R s m meth c mm)
    (hok : qRowOk (qmO mm) (decide ((qmY mm).name = "<init>")) (qmF mm) (qmG mm) (qmB mm) (qRows mm) tl (pc, ins, len, r1, r2, r3) = true) (ht : (qRows mm).drop (i + 1) = tl) (hk : pKind ins r1 = 7) (hsm : rest.length ≤ 4 ∨ (rest.map fun v => v.category).sum ≤ 8) (hl : qLs b base (qmL mm) lsM ls)
    (hR : qRel D dA b base g H) (hS : va_S (qA base) s.heap H locs) (hC : pC g - c0 ≤ R.cells) (hZ : pZ g - z0 ≤ R.slots)
    (k : qK D dA b base (qmL mm) (qRows mm) p l e R s m args below meth c c0 z0 Q (i + 1, ls, .int (if r1 = 2 then (if x < y then y else x) else (if y < x then y else x)) :: rest, g)) :
    W p l e R s m args below meth c H locs (pC g - c0) (pZ g - z0) Q (F0 m pc lsM ((.int y :: .int x :: rest).map (qSh b base))) := by
  obtain ⟨⟨hx, hb, hml, hown, hlocks, htr, hctx, hfr, hlo, hinit⟩, htab, hret⟩ := id F
  have hts := qHts (args := args) hctx
  have hW8 : ((rest.map (qSh b base)).map fun v => v.category).sum ≤ 8 := qSm hsm
  have hmls : c.maxLocals = lsM.size := by rw [hml]; exact hl.1.symm
  unfold qRowOk at hok
  cases ins <;> try (exact absurd hk (by decide))
  case invokestatic idx =>
    simp only [Bool.and_eq_true, decide_eq_true_eq, beq_iff_eq, Bool.or_eq_true] at hok
    obtain ⟨d, h1, h2, h3⟩ := hok
    subst h1
    obtain ⟨nest, hn, hlw, f0, f1, f2, f3, f4⟩ := qMok_spec h3
    have h4 : r1 = 2 ∨ r1 = 3 := by
      unfold pKind at hk
      dsimp only at hk
      split at hk
      · omega
      · split at hk
        · have z1 := (f3 (by omega)).2
          split at z1 <;> omega
        · omega
    rw [if_neg (by have := (f3 (by omega)).1; omega)] at hlw
    have f1' := f1 (by omega)
    have f2' := f2 (by omega) (by omega)
    have hini : (Cond.initialized "java/lang/Math").before args s = true := hts _ (qTs_of (qGet_mem (x := 1017) rfl) rfl)
    rcases h4 with z | z
    · subst z
      exact va_mmax hx hb hmls hown (hts _ (qTs_of hlw rfl)) (hts _ (qTs_of (qGet_mem (x := 3153) rfl) rfl)) hini (hts _ (qTs_of (qGet_mem (x := 3154) rfl) rfl)) (by omega) (by omega) hC hZ d (k _ _ _ _ (qNx_spec h2 ht) hl hR hS)
    · subst z
      exact va_mmin hx hb hmls hown (hts _ (qTs_of hlw rfl)) (hts _ (qTs_of (qGet_mem (x := 3160) rfl) rfl)) hini (hts _ (qTs_of (qGet_mem (x := 3161) rfl) rfl)) (by omega) (by omega) hC hZ d (k _ _ _ _ (qNx_spec h2 ht) hl hR hS)
  all_goals (unfold pKind at hk; dsimp only at hk; first | omega | (split at hk <;> first | omega | (split at hk <;> omega)))
/-- System.arraycopy -/
theorem qArc {mm i pc len r1 r2 r3 c0 z0 : Nat} {ins : Instr} {tl : List PRow} {ls : PV} {lsM : Array Slot} {st : List Value} {g : PS} {q : PR} (F : qFm D dA b base p l R s m meth c mm)
    (hok : qRowOk (qmO mm) (decide ((qmY mm).name = "<init>")) (qmF mm) (qmG mm) (qmB mm) (qRows mm) tl (pc, ins, len, r1, r2, r3) = true) (ht : (qRows mm).drop (i + 1) = tl) (hk : pKind ins r1 = 5) (hq : pAcp (i + 1) ls st g = some q) (hsm : q.2.2.1.length ≤ 4 ∨ (q.2.2.1.map fun v => v.category).sum ≤ 8) (hl : qLs b base (qmL mm) lsM ls)
    (hR : qRel D dA b base g H) (hS : va_S (qA base) s.heap H locs) (k : qK D dA b base (qmL mm) (qRows mm) p l e R s m args below meth c c0 z0 Q q) :
    W p l e R s m args below meth c H locs (pC g - c0) (pZ g - z0) Q (F0 m pc lsM (st.map (qSh b base))) := by
  obtain ⟨⟨hx, hb, hml, hown, hlocks, htr, hctx, hfr, hlo, hinit⟩, htab, hret⟩ := id F
  unfold qRowOk at hok
  cases ins <;> try (exact absurd hk (by decide))
  case invokestatic idx =>
    have h1' : r1 = 1 := by
      unfold pKind at hk
      dsimp only at hk
      split at hk
      · assumption
      · split at hk <;> omega
    subst h1'
    simp only [Bool.and_eq_true, decide_eq_true_eq, beq_iff_eq, Bool.or_eq_true] at hok
    obtain ⟨d, h1, h2, h3⟩ := hok
    subst h1
    obtain ⟨nest, hn, hlw, f0, f1, f2, f3, f4⟩ := qMok_spec h3
    rw [if_neg (by have := (f3 (by omega)).1; omega)] at hlw
    exact q_acp (pc' := 0) F.1 d hlw (qNx_spec h2 ht) (f1 (by omega)) (f2 (by omega) (by omega)) hq hsm hl hR hS k
  all_goals (unfold pKind at hk; dsimp only at hk; first | omega | (split at hk <;> first | omega | (split at hk <;> omega)))
/-- a table switch -/
theorem qSwitch {mm pc len r1 r2 r3 c0 z0 h0 : Nat} {ins : Instr} {tl : List PRow} {ls : PV} {lsM : Array Slot} {st : List Value} {q : Nat × List Value} {g : PS} (F : qFm D dA b base p l R s m meth c mm)
    (hok : qRowOk (qmO mm) (decide ((qmY mm).name = "<init>")) (qmF mm) (qmG mm) (qmB mm) (qRows mm) tl (pc, ins, len, r1, r2, r3) = true) (hq : pSw ins pc st = some q) (hi : pIdx (qRows mm) q.1 0 = some h0) (hl : qLs b base (qmL mm) lsM ls)
    (hR : qRel D dA b base g H) (hS : va_S (qA base) s.heap H locs) (k : qK D dA b base (qmL mm) (qRows mm) p l e R s m args below meth c c0 z0 Q (h0, ls, q.2, g)) :
    W p l e R s m args below meth c H locs (pC g - c0) (pZ g - z0) Q (F0 m pc lsM (st.map (qSh b base))) := by
  obtain ⟨⟨hx, hb, hml, hown, hlocks, htr, hctx, hfr, hlo, hinit⟩, htab, hret⟩ := id F
  have hrow := (pIdx_spec hi).2
  rw [Nat.sub_zero] at hrow
  unfold qRowOk at hok
  unfold pSw at hq
  split at hq
  · simp only [Bool.and_eq_true, decide_eq_true_eq, beq_iff_eq] at hok
    obtain ⟨d, -⟩ := hok
    split at hq
    · split at hq
      · rename_i hout
        split at hq
        · cases hq
        · rename_i hneg
          cases hq
          exact lv_tableOut hx hb d hout (tgt := _) (by dsimp only; omega) (k _ _ _ _ hrow hl hR hS)
      · rename_i hin
        have h1 : ¬ _ := fun z => hin (Or.inl z)
        have h2 : ¬ _ := fun z => hin (Or.inr z)
        split at hq
        · rename_i off hoff
          split at hq
          · cases hq
          · rename_i hneg
            cases hq
            exact lv_tableIn hx hb d h1 h2 hoff (tgt := _) (by dsimp only; omega) (k _ _ _ _ hrow hl hR hS)
        · cases hq
    · cases hq
  · cases hq
/-- THE SIMULATION -/
theorem qSim (hOK : qAllOk) : ∀ n : Nat, qSimAt D dA b base l n
  | 0 => fun m i ls st g o g' h => by cases h
  | n + 1 => by
    have ih : qSimAt D dA b base l n := qSim hOK n
    intro m i ls st g o g' h p e R s mid args below meth c c0 z0 hm F hc hz hC hZ pc lsM H locs hpc hl hR hS
    replace hl : qLs b base (qmL m) lsM ls := hl
    replace hR : qRel D dA b base g H := hR
    replace hpc : ((qRows m)[i]?).map (fun r => r.1) = some pc := hpc
    show W p l e R s mid args below meth c H locs (pC g - c0) (pZ g - z0) (qEnd D dA b base below args s c0 z0 o g') (F0 mid pc lsM (st.map (qSh b base)))
    have go : ∀ {i' : Nat} {ls' : PV} {st' : List Value} {g1 : PS}, pRun qPT n m i' ls' st' g1 = some (o, g') → pC g ≤ pC g1 → pZ g ≤ pZ g1 → qK D dA b base (qmL m) (qRows m) p l e R s mid args below meth c c0 z0 (qEnd D dA b base below args s c0 z0 o g') (i', ls', st', g1) :=
      fun h1 h2 h3 => ih m _ _ _ _ o g' h1 p e R s mid args below meth c c0 z0 hm F (Nat.le_trans hc h2) (Nat.le_trans hz h3) hC hZ
    obtain ⟨hx, hb, hml, hown, hlocks, htr, hctx, hfr, hlo, hinit⟩ := id F.1
    have mono := pRun_mono qPT (n + 1) m i ls st g o g' h
    unfold pRun at h
    split at h
    · cases h
    · rename_i r hr
      have hr' : (qRows m)[i]? = some r := hr
      rw [hr'] at hpc
      obtain ⟨pc0, ins, len, r1, r2, r3⟩ := r
      have hpc0 : pc0 = pc := Option.some.inj hpc
      subst hpc0
      have hok := (hOK m hm).1 i _ hr'
      dsimp only at h
      split at h
      · rename_i hk
        split at h
        · cases h
        · rename_i q hq
          have m1 := pStep_mono hq
          have m2 := pRun_mono qPT n m _ _ _ _ _ _ h
          exact qStep F.1 hok rfl hk hq hl hR hS hc hz (by omega) (by omega) (go h m1.1 m1.2)
      · rename_i hk
        split at h
        · cases h
        · rename_i v hv
          cases h
          exact qRetn F hok hv hR hS
      · rename_i hk
        split at h
        · cases h
        · rename_i q hq
          split at h
          · rename_i hcond
            split at h
            · cases h
            · rename_i v g1 hcall
              have m1 := pRun_mono qPT n (r1 - 10) _ _ _ _ _ _ hcall
              have m2 := pRun_mono qPT n m _ _ _ _ _ _ h
              obtain ⟨hrun, hnext⟩ := qCallR (c0 := c0) (z0 := z0) hOK ih F hok rfl hk hq hcond.1 hcond.2.1 hcond.2.2 hcall hl hR hS (by omega) (by omega)
              refine qBack hrun hS (fun H' locs' hR' hS' => ?_)
              have h9 := go h m1.1 m1.2 (pc0 + 3) lsM H' locs' hnext hl hR' hS'
              rw [show pC g - c0 + (pC g1 - pC g) = pC g1 - c0 by omega, show pZ g - z0 + (pZ g1 - pZ g) = pZ g1 - z0 by omega]
              have e9 : (v.map (qSh b base)).toList ++ q.2.map (qSh b base) = (v.toList ++ q.2).map (qSh b base) := by cases v <;> simp
              rw [e9]
              exact h9
            · rename_i x g1 hcall
              have m1 := pRun_mono qPT n (r1 - 10) _ _ _ _ _ _ hcall
              split at h
              · rename_i hr2
                split at h
                · rename_i hhand
                  split at h
                  · rename_i hemp
                    cases h
                    have hd : qHd m = [] := List.isEmpty_iff.mp hemp
                    have htb : c.exceptionTable.toList = [] := by rw [F.2.1, qH_none hm hd]; rfl
                    refine qBackX (qCallX (i := i) (c0 := c0) (z0 := z0) hOK ih F hok hk hr2 hq hcond.1 hcond.2.1 hcond.2.2 hcall hl hR hS (by omega) (by omega)) hS (fun H' locs' ce q9 hR' hS' hce hcv hcl => ?_)
                    exact vx_out (fun x hx => by rw [htb] at hx; cases hx) hlocks hce hcv hcl (fun t ht _ => ⟨rfl, by rw [ht]; exact hR', hS'.F ht⟩) (fun z hz => hS'.2.2 z hz) (by omega) (by omega)
                  · cases h
                · rename_i h0 hhand
                  split at h
                  · cases h
                  · rename_i rr hrr
                    split at h
                    · cases h
                    · rename_i ls2 hls2
                      have m2 := pRun_mono qPT n m _ _ _ _ _ _ h
                      obtain ⟨ho12, hhok⟩ := qHands_of hm hhand
                      obtain ⟨pre, xe, suf, t1, t2, t3, t4, t5, t6, t7⟩ := qHandOk_spec hhok hhand
                      have hrr' : (qRows m)[h0]? = some rr := hrr
                      obtain ⟨pc2, ins2, len2, a1, a2, a3⟩ := rr
                      rw [hrr'] at t6
                      have hpc2 : pc2 = xe.handlerPc := Option.some.inj t6
                      have hok2 := (hOK m hm).1 h0 _ hrr'
                      have hts := qHts (args := args) hctx
                      rw [ho12] at hown
                      refine qBackX (qCallX (i := i) (c0 := c0) (z0 := z0) hOK ih F hok hk hr2 hq hcond.1 hcond.2.1 hcond.2.2 hcall hl hR hS (by omega) (by omega)) hS (fun H' locs' ce q9 hR' hS' hce hcv hcl => ?_)
                      refine vx_catch (own := RL) (name := qEx x) hown pre xe suf (by rw [F.2.1]; exact t1) (fun z hz => ?_) t2 t3 (hts _ (qTs_of t5 rfl)) (hts _ (qTs_of (qExI t4).2 rfl)) hce hcv hcl ?_
                      · rcases t7 z hz with y | ⟨y1, e2, y2, y3, y4⟩
                        · exact Or.inl y
                        · exact Or.inr ⟨y1, qEx e2, hts _ (qTs_of y4 rfl), hctx.2.2.2.2.2.2.2.2 x e2 t4 y2 (fun z => y3 z.symm)⟩
                      · rw [← hpc2, show pC g - c0 + (pC g1 - pC g) = pC g1 - c0 by omega, show pZ g - z0 + (pZ g1 - pZ g) = pZ g1 - z0 by omega]
                        have h9 := fun pc' lsM' hn hl' => go h m1.1 m1.2 pc' lsM' H' locs' hn hl' hR' hS'
                        unfold pCat at hls2
                        unfold qRowOk at hok2
                        dsimp only at hls2 hok2
                        cases ins2 <;> try (cases hls2)
                        case astore_n k9 =>
                          dsimp only at hls2 hok2
                          split at hls2
                          · rename_i hlt9
                            cases hls2
                            simp only [Bool.and_eq_true, decide_eq_true_eq, beq_iff_eq] at hok2
                            obtain ⟨d, g1', g2⟩ := hok2
                            subst g1'
                            exact lv_astore_n hx hb d rfl hl.has (by have := hl.2.1; omega) rfl (fun ls' hl' => h9 _ ls' (qNx_spec g2 rfl) (qLs.st0 hl hl'))
                          · cases hls2
                        case astore k9 =>
                          dsimp only at hls2 hok2
                          split at hls2
                          · rename_i hlt9
                            cases hls2
                            simp only [Bool.and_eq_true, decide_eq_true_eq, beq_iff_eq] at hok2
                            obtain ⟨d, g1', g2⟩ := hok2
                            subst g1'
                            exact lv_astore hx hb d hl.has (by have := hl.2.1; omega) rfl (fun ls' hl' => h9 _ ls' (qNx_spec g2 rfl) (qLs.st0 hl hl'))
                          · cases hls2
              · cases h
          · cases h
      · rename_i hk
        split at h
        · rename_i hcond
          cases h
          exact qThrow hm F hok hk hcond.1 (List.isEmpty_iff.mp hcond.2) hl hR hS hc hz hC hZ
        · cases h
      · rename_i hk
        split at h
        · split at h
          · rename_i hsm
            exact qObjI F hok rfl hk hsm hl hR hS (go h (Nat.le_refl _) (Nat.le_refl _))
          · cases h
        · cases h
      · rename_i hk
        split at h
        · cases h
        · rename_i q hq
          split at h
          · rename_i hsm
            have hg : pC g ≤ pC q.2.2.2 ∧ pZ g ≤ pZ q.2.2.2 := by
              unfold pAcp at hq
              split at hq
              · split at hq
                · cases hq
                  exact ⟨Nat.le_refl _, Nat.le_refl _⟩
                · cases hq
              · cases hq
            exact qArc F hok rfl hk hq hsm hl hR hS (go h hg.1 hg.2)
          · cases h
      · rename_i hk
        split at h
        · cases h
        · rename_i q hq
          split at h
          · cases h
          · rename_i h0 hh0
            exact qSwitch F hok hq hh0 hl hR hS (go h (Nat.le_refl _) (Nat.le_refl _))
      · rename_i hk
        split at h
        · split at h
          · rename_i hsm
            exact qMinMax F hok rfl hk hsm hl hR hS (by omega) (by omega) (go h (Nat.le_refl _) (Nat.le_refl _))
          · cases h
        · cases h
      · cases h
end QMAIN
