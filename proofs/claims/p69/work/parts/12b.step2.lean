section QSTEPB
variable {p : Program} {l : Launch} {e : Env} {R : Room} {s : State} {m : MethodId} {args : Array Value} {below : List Frame} {meth : Method} {c : Code} {H : Heap} {locs : List Loc} {cells slots : Nat} {Q : State → Prop}
variable {D : va_G} {dA : Nat → ClassId} {b base o nL fr lo : Nat} {init : Bool} {bc : ByteArray} {all tl : List PRow} {i pc : Nat} {lsM : Array Slot} {ls : PV} {st : List Value} {g : PS}

theorem qAsgRefl (vm : Vm) (cC : ClassId) : vm.assignable cC cC = true := by
  show (cC == cC || _) = true
  rw [beq_self_eq_true, Bool.true_or]

/-- where a reference's cell lies, and its class -/
theorem qAasg {a v : Nat} (hctx : qCtx D dA base s) (hR : qRel D dA b base g H) (h1 : 15 ≤ pK g a) (h2 : pK g a ≤ 19) (hv : pK g v = pE (pK g a)) : ∃ (k kv kcomp : Class) (comp : ClassId) (cv : Cell), s.vm.classes[dA (pK g a)]? = some k ∧ k.kind = .array comp (qTy (pK g a)) ∧ s.vm.classes[comp]? = some kcomp ∧
    H[qAd b base v]? = some cv ∧ (∀ q, cv.vm ≠ .statics q) ∧ s.vm.classes[cv.cls]? = some kv ∧ s.vm.assignable cv.cls comp = true := by
  obtain ⟨h3, kC, comp, h4, h5, h6⟩ := hctx.2.2.1 (pK g a) (by omega) (by omega)
  have h7 := h6 h1
  · have hci : pK g v < 12 ∧ qEn (pK g a) = qOwn (pK g v) := by
      rw [hv]
      have h8 : pK g a = 15 ∨ pK g a = 16 ∨ pK g a = 17 ∨ pK g a = 18 ∨ pK g a = 19 := by omega
      rcases h8 with h8 | h8 | h8 | h8 | h8 <;> rw [h8] <;> exact ⟨by decide, rfl⟩
    have hlt : v < pN g := hR.lt (by omega)
    obtain ⟨cell, q1, q2, q3, -⟩ := (hR.2.2.2.1 v hlt).1.1 hci.1
    obtain ⟨-, hfc, kv, hkv, hkind⟩ := hctx.2.1 (pK g v) hci.1
    rw [hci.2] at h7
    have hcomp : D.1 (pK g v) = comp := Option.some.inj (hfc.symm.trans h7)
    refine ⟨kC, kv, kv, comp, cell, h4, h5, by rw [← hcomp]; exact hkv, q1, fun q z => (by rw [q3] at z; cases z), by rw [q2]; exact hkv, ?_⟩
    rw [q2, hcomp]
    exact qAsgRefl _ _

theorem q_aastore {len r1 r2 r3 c0 z0 : Nat} {q : PR} (F : qFrm D dA b base p l R s m meth c o init bc nL fr lo) (hok : qRowOk o init fr lo bc all tl (pc, .aastore, len, r1, r2, r3) = true) (ht : all.drop (i + 1) = tl) (hk : pKind (.aastore) r1 = 0)
    (hs : pStep (.aastore) (i + 1) r1 r2 ls st g = some q) (hl : qLs b base nL lsM ls) (hR : qRel D dA b base g H) (hS : va_S (qA base) s.heap H locs) (hA : ∀ q : Nat, s.heap.size ≤ q → qA base q) (hc : c0 ≤ pC g) (hz : z0 ≤ pZ g) (hC : pC q.2.2.2 - c0 ≤ R.cells) (hZ : pZ q.2.2.2 - z0 ≤ R.slots)
    (k : qK D dA b base nL all p l e R s m args below meth c c0 z0 Q q) : W p l e R s m args below meth c H locs (pC g - c0) (pZ g - z0) Q (F0 m pc lsM (st.map (qSh b base))) := by
  obtain ⟨hx, hb, hml, hown, hlocks, htr, hctx, hfr, hlo, hinit⟩ := id F
  unfold qRowOk at hok
  simp only [Bool.and_eq_true, decide_eq_true_eq, beq_iff_eq] at hok
  obtain ⟨d, h1, h2⟩ := hok
  subst h1
  unfold pStep at hs
  dsimp only at hs
  split at hs
  · rename_i v y a r
    split at hs
    · rename_i hP
      have hq := Option.some.inj hs
      subst hq
      obtain ⟨hlt, h0, hcell⟩ := qArrC (a := a) hR (by omega) (by omega)
      obtain ⟨kA, kv, kcomp, comp, cv, g1, g2, g3, g4, g5, g6, g7⟩ := qAasg hctx hR hP.1 hP.2.1 hP.2.2.1
      refine W.aast hx hb hcell (fun q z => by cases z) (fun z => by cases z) g1 g2 (qTy_ref hP.1 hP.2.1) g3 ?_ g4 g5 g6 g7 rfl rfl d (fun H' e1 e2 e3 => k _ _ _ _ (qNx_spec h2 ht) hl (qPutA (v := .ref v) hR (by omega) (by omega) (fun z => absurd z (by omega)) (fun z => absurd z (by omega)) (by rw [e1]; rfl) e2 e3) (hS.put e2 e3 (qAd_ge h0)))
      have h9 := qIn (cA := dA (pK g a)) (f := fun j => qSh b base (pM g a j)) hP.2.2.2
      exact ⟨fun z => h9 (Or.inl z), Nat.not_le.mp (fun z => h9 (Or.inr z))⟩
    · cases hs
  · rename_i y a r
    split at hs
    · rename_i hP
      have hq := Option.some.inj hs
      subst hq
      obtain ⟨hlt, h0, hcell⟩ := qArrC (a := a) hR (by omega) (by omega)
      have hty := (hctx.2.2.1 (pK g a) (by omega) (by omega)).of (pL g a) (fun j => qSh b base (pM g a j))
      obtain ⟨C9, ety⟩ : ∃ C9, qTy (pK g a) = .object C9 := by
        have h8 : pK g a = 15 ∨ pK g a = 16 ∨ pK g a = 17 ∨ pK g a = 18 := by omega
        rcases h8 with h8 | h8 | h8 | h8 <;> rw [h8] <;> exact ⟨_, rfl⟩
      rw [ety] at hty
      exact va_WaastN hx hb hcell hty (fun z => by cases z) (qIn hP.2.2) rfl rfl d (fun H' e1 e2 e3 => k _ _ _ _ (qNx_spec h2 ht) hl (qPutA (v := .null) hR (by omega) (by omega) (fun z => absurd z (by omega)) (fun z => absurd z (by omega)) (by rw [e1]; rfl) e2 e3) (hS.put e2 e3 (qAd_ge h0)))
    · cases hs
  · cases hs

theorem qCok_spec {idx ci j : Nat} (h : qCok o idx ci j = true) : Cond.classLink (qOwn o) idx (qCn ci) ∈ lw_tbl := by
  unfold qCok at h
  split at h
  · cases h
  · rename_i f hf
    simp only [Bool.and_eq_true, beq_iff_eq] at h
    have h1 := qGet_mem (of_decide_eq_true (List.all_eq_true.mp qCL_ok f (List.mem_of_getElem? hf)))
    rw [h.1, h.2.1, h.2.2] at h1
    exact h1
theorem qIns {ci : Nat} (h : ci < 12) : Cond.instantiable (qOwn ci) (pF ci) ∈ lw_tbl ∧ Cond.initialized (qOwn ci) ∈ lw_tbl := by
  have h1 := List.all_eq_true.mp qIns_ok ci (List.mem_range.mpr h)
  split at h1
  · cases h1
  · simp only [Bool.and_eq_true, decide_eq_true_eq] at h1
    exact ⟨qGet_mem h1.1, qGet_mem h1.2⟩
theorem va_S.push {A : Nat → Prop} {H0 H H1 : Heap} {locs : List Loc} (h : va_S A H0 H locs) (z : H.size ≤ H1.size) (oq : ∀ q : Nat, q < H.size → H1[q]? = H[q]?) : va_S A H0 H1 locs :=
  ⟨Nat.le_trans h.1 z, fun q h1 h2 => by rw [oq q (Nat.lt_of_lt_of_le h1 h.1)]; exact h.2.1 q h1 h2, h.2.2⟩
theorem sub_add_one {a c : Nat} (h : c ≤ a) : a - c + 1 = a + 1 - c := by omega
theorem sub_add_n {a c n : Nat} (h : c ≤ a) : a - c + n = a + n - c := by omega
/-- the pure heap behind a new array -/
theorem qNewA {H' : Heap} {kd n : Nat} {v : Value} (hR : qRel D dA b base g H) (h1 : 12 ≤ kd) (h2 : kd ≤ 18) (hv : kd = 12 → v = .int 0) (hv2 : kd = 14 → v = .int 0) (hsh : qSh b base v = v)
    (e1 : H'[H.size]? = some (arrV (dA kd) n (fun _ => v))) (e2 : H'.size = H.size + 1) (e3 : ∀ q, q < H.size → H'[q]? = H[q]?) : qRel D dA b base (pNew g kd n n (fun _ => v)) H' := by
  refine hR.new e2 e3 (by omega) ⟨fun z => ?_, fun _ _ => ?_, fun z => ?_⟩ ⟨fun z q hq => ?_, fun z q hq => ?_⟩
  · rw [pK_new, if_pos rfl] at z; omega
  · have e4 : (fun j => qSh b base (pM (pNew g kd n n (fun _ => v)) (pN g) j)) = fun _ => v := funext fun j => by rw [pM_new, if_pos rfl]; exact hsh
    rw [qAd_new hR, e1, e4, pK_new, if_pos rfl, pL_new, if_pos rfl]
  · rw [pK_new, if_pos rfl] at z; omega
  · rw [pK_new, if_pos rfl] at z
    rw [pM_new, if_pos rfl]
    exact ⟨0, hv z⟩
  · rw [pK_new, if_pos rfl] at z
    rw [pM_new, if_pos rfl]
    exact Or.inl (hv2 z)

theorem q_new {len r1 r2 r3 c0 z0 : Nat} {idx : Nat} {q : PR} (F : qFrm D dA b base p l R s m meth c o init bc nL fr lo) (hok : qRowOk o init fr lo bc all tl (pc, .new idx, len, r1, r2, r3) = true) (ht : all.drop (i + 1) = tl) (hk : pKind (.new idx) r1 = 0)
    (hs : pStep (.new idx) (i + 1) r1 r2 ls st g = some q) (hl : qLs b base nL lsM ls) (hR : qRel D dA b base g H) (hS : va_S (qA base) s.heap H locs) (hA : ∀ q : Nat, s.heap.size ≤ q → qA base q) (hc : c0 ≤ pC g) (hz : z0 ≤ pZ g) (hC : pC q.2.2.2 - c0 ≤ R.cells) (hZ : pZ q.2.2.2 - z0 ≤ R.slots)
    (k : qK D dA b base nL all p l e R s m args below meth c c0 z0 Q q) : W p l e R s m args below meth c H locs (pC g - c0) (pZ g - z0) Q (F0 m pc lsM (st.map (qSh b base))) := by
  obtain ⟨hx, hb, hml, hown, hlocks, htr, hctx, hfr, hlo, hinit⟩ := id F
  unfold qRowOk at hok
  simp only [Bool.and_eq_true, decide_eq_true_eq, beq_iff_eq] at hok
  unfold pStep at hs
  dsimp only at hs
  split at hs
  · rename_i hP
    have hq := Option.some.inj hs
    subst hq
    obtain ⟨d, h1⟩ := hok
    rw [if_pos hP] at h1
    simp only [Bool.and_eq_true, beq_iff_eq] at h1
    obtain ⟨h1, h2, h3⟩ := h1
    subst h1
    have hlk := qCok_spec h3
    have hcn : qCn r1 = qOwn r1 := by unfold qCn; rw [if_pos hP]
    rw [hcn] at hlk
    obtain ⟨hSl, hfc, kC, hkC, hkind⟩ := hctx.2.1 r1 hP
    have hin := qIns hP
    have hC' : pC g - c0 + 1 ≤ R.cells := by rw [sub_add_one hc]; exact hC
    have hZ' : pZ g - z0 + pF r1 ≤ R.slots := by rw [sub_add_n hz]; exact hZ
    refine W.newcK hx hb hown (qHts (args := args) hctx _ (qTs_of hlk rfl)) (qHts (args := args) hctx _ (qTs_of hin.1 rfl)) (qHts (args := args) hctx _ (qTs_of hin.2 rfl)) rfl d hC' hZ' hfc rfl fun H' kC' g1 g2 g3 g4 => ?_
    have hborn := u_born (pT r1) (qHts (args := args) hctx) (qLayTs hP) (hctx.2.1 r1 hP) g1 g2 (qTf_ok r1 hP)
    refine W.cs (sub_add_one hc) (sub_add_n hz) ?_
    have hR' : qRel D dA b base (pNew g r1 0 (pF r1) (fun k => defaultValue (pT r1 k))) H' := by
      refine hR.new g3 g4 (by omega) ⟨fun z => ?_, fun z => ?_, fun z => ?_⟩ ⟨fun z => ?_, fun z => ?_⟩
      · rw [pK_new, if_pos rfl, qAd_new hR]
        refine hborn.to fun j hj => ?_
        rw [pM_new, if_pos rfl]
        exact (qSh_default _ _ _).symm
      · rw [pK_new, if_pos rfl] at z; omega
      · rw [pK_new, if_pos rfl] at z; omega
      · rw [pK_new, if_pos rfl] at z; omega
      · rw [pK_new, if_pos rfl] at z; omega
    have k1 := k _ _ _ _ (qNx_spec h2 ht) hl hR' (hS.push (by omega) g4)
    have e5 : qSh b base (.ref (pN g)) = .ref H.size := by show Value.ref (qAd b base (pN g)) = _; rw [qAd_new hR]
    simp only [List.map_cons, e5] at k1
    exact k1
  · cases hs

theorem qArrW_int : Cond.arrayClass .int ∈ lw_tbl := qGet_mem (x := 1113) (by decide +kernel)
theorem qArrO_15 : Cond.arrayOver (.object RX0) ∈ lw_tbl := qGet_mem (x := 1038) (by decide +kernel)
theorem qArrO_16 : Cond.arrayOver (.object RX2) ∈ lw_tbl := qGet_mem (x := 1053) (by decide +kernel)
theorem qArrO_17 : Cond.arrayOver (.object RX3) ∈ lw_tbl := qGet_mem (x := 1046) (by decide +kernel)
theorem qArrO_18 : Cond.arrayOver (.object RX6) ∈ lw_tbl := qGet_mem (x := 1036) (by decide +kernel)
theorem qArrO {kd : Nat} (h1 : 15 ≤ kd) (h2 : kd ≤ 18) : ∃ C, qTy kd = .object C ∧ qCn kd = C ∧ Cond.arrayOver (.object C) ∈ lw_tbl := by
  have h8 : kd = 15 ∨ kd = 16 ∨ kd = 17 ∨ kd = 18 := by omega
  rcases h8 with h8 | h8 | h8 | h8 <;> subst h8
  · exact ⟨_, rfl, rfl, qArrO_15⟩
  · exact ⟨_, rfl, rfl, qArrO_16⟩
  · exact ⟨_, rfl, rfl, qArrO_17⟩
  · exact ⟨_, rfl, rfl, qArrO_18⟩

theorem q_newarray {len r1 r2 r3 c0 z0 : Nat} {at_ : ArrayType} {q : PR} (F : qFrm D dA b base p l R s m meth c o init bc nL fr lo) (hok : qRowOk o init fr lo bc all tl (pc, .newarray at_, len, r1, r2, r3) = true) (ht : all.drop (i + 1) = tl) (hk : pKind (.newarray at_) r1 = 0)
    (hs : pStep (.newarray at_) (i + 1) r1 r2 ls st g = some q) (hl : qLs b base nL lsM ls) (hR : qRel D dA b base g H) (hS : va_S (qA base) s.heap H locs) (hA : ∀ q : Nat, s.heap.size ≤ q → qA base q) (hc : c0 ≤ pC g) (hz : z0 ≤ pZ g) (hC : pC q.2.2.2 - c0 ≤ R.cells) (hZ : pZ q.2.2.2 - z0 ≤ R.slots)
    (k : qK D dA b base nL all p l e R s m args below meth c c0 z0 Q q) : W p l e R s m args below meth c H locs (pC g - c0) (pZ g - z0) Q (F0 m pc lsM (st.map (qSh b base))) := by
  obtain ⟨hx, hb, hml, hown, hlocks, htr, hctx, hfr, hlo, hinit⟩ := id F
  unfold qRowOk at hok
  simp only [Bool.and_eq_true, decide_eq_true_eq, beq_iff_eq] at hok
  obtain ⟨d, h1, h2⟩ := hok
  subst h1
  unfold pStep at hs
  dsimp only at hs
  split at hs
  · obtain ⟨n, r, rfl, h⟩ := pI_inv hs
    split at h
    · cases h
    · rename_i hP
      have hq := Option.some.inj h
      subst hq
      have hC' : pC g - c0 + 1 ≤ R.cells := by rw [sub_add_one hc]; exact hC
      have hZ' : pZ g - z0 + n.toNatClampNeg ≤ R.slots := by rw [sub_add_n hz]; exact hZ
      have hn9 := Nat.not_lt.mp (fun z => hP (Or.inr z))
      refine W.newa (atype := .int) hx hb (qHts (args := args) hctx _ (qTs_of (qArrW_int) rfl)) rfl d rfl (fun z => hP (Or.inl z)) (by show n.toNatClampNeg * 4 ≤ 536870912; omega) hC' hZ' fun cA kA comp g1 g2 g3 => ?_
      obtain ⟨kd, hkd⟩ : ∃ kd, kd = pKd r1 := ⟨_, rfl⟩
      have hkd2 : kd = 12 ∨ kd = 13 := by rw [hkd]; exact pKd_or r1
      rw [← hkd] at k
      have hcA : cA = dA kd := by
        rcases hkd2 with z | z <;> rw [z]
        · exact Option.some.inj (g1.symm.trans (hctx.2.2.1 12 (by omega) (by omega)).1)
        · exact Option.some.inj (g1.symm.trans (hctx.2.2.1 13 (by omega) (by omega)).1)
      clear hkd
      subst hcA
      refine W.cs (sub_add_one hc) (sub_add_n hz) ?_
      have hR' : qRel D dA b base (pNew g kd n.toNatClampNeg n.toNatClampNeg (fun _ => .int 0)) (H.push { cls := dA kd, slots := Array.replicate n.toNatClampNeg (.int 0), vm := .none }) := by
        refine qNewA hR (by omega) (by omega) (fun z => rfl) (fun z => rfl) rfl ?_ (by simp) (fun q hq => by rw [Array.getElem?_push, if_neg (Nat.ne_of_lt hq)])
        rw [← arrV_new]; simp
      have k1 := k _ _ _ _ (qNx_spec h2 ht) hl hR' (hS.push (by simp) (fun q hq => by rw [Array.getElem?_push, if_neg (Nat.ne_of_lt hq)]))
      have e5 : qSh b base (.ref (pN g)) = .ref H.size := by show Value.ref (qAd b base (pN g)) = _; rw [qAd_new hR]
      simp only [List.map_cons, e5] at k1
      exact k1
  · cases hs

theorem q_anewarray {len r1 r2 r3 c0 z0 : Nat} {idx : Nat} {q : PR} (F : qFrm D dA b base p l R s m meth c o init bc nL fr lo) (hok : qRowOk o init fr lo bc all tl (pc, .anewarray idx, len, r1, r2, r3) = true) (ht : all.drop (i + 1) = tl) (hk : pKind (.anewarray idx) r1 = 0)
    (hs : pStep (.anewarray idx) (i + 1) r1 r2 ls st g = some q) (hl : qLs b base nL lsM ls) (hR : qRel D dA b base g H) (hS : va_S (qA base) s.heap H locs) (hA : ∀ q : Nat, s.heap.size ≤ q → qA base q) (hc : c0 ≤ pC g) (hz : z0 ≤ pZ g) (hC : pC q.2.2.2 - c0 ≤ R.cells) (hZ : pZ q.2.2.2 - z0 ≤ R.slots)
    (k : qK D dA b base nL all p l e R s m args below meth c c0 z0 Q q) : W p l e R s m args below meth c H locs (pC g - c0) (pZ g - z0) Q (F0 m pc lsM (st.map (qSh b base))) := by
  obtain ⟨hx, hb, hml, hown, hlocks, htr, hctx, hfr, hlo, hinit⟩ := id F
  unfold qRowOk at hok
  simp only [Bool.and_eq_true, decide_eq_true_eq, beq_iff_eq] at hok
  obtain ⟨d, h1, h2, h3, h4⟩ := hok
  subst h1
  obtain ⟨n, r, rfl, h⟩ := pI_inv hs
  split at h
  · cases h
  · rename_i hP
    have hq := Option.some.inj h
    subst hq
    have hP1 : ¬ n < 0 := fun z => hP (Or.inl z)
    have hn9 := Nat.not_lt.mp (fun z => hP (Or.inr (Or.inl z)))
    have hP3 : 15 ≤ r1 ∧ r1 ≤ 18 := Classical.byContradiction fun z => hP (Or.inr (Or.inr z))
    obtain ⟨C, t1, t2, t3⟩ := qArrO hP3.1 hP3.2
    have hlk := qCok_spec h3
    rw [t2] at hlk
    have hC' : pC g - c0 + 1 ≤ R.cells := by rw [sub_add_one hc]; exact hC
    have hZ' : pZ g - z0 + n.toNatClampNeg ≤ R.slots := by rw [sub_add_n hz]; exact hZ
    refine W.anew hx hb hown (qHts (args := args) hctx _ (qTs_of hlk rfl)) (qHts (args := args) hctx _ (qTs_of t3 rfl)) rfl d rfl hP1 (by omega) hC' hZ' fun cA kA comp g1 g2 g3 g4 => ?_
    have ha := (hctx.2.2.1 r1 (by omega) (by omega)).1
    rw [t1] at ha
    have hcA : cA = dA r1 := Option.some.inj (g1.symm.trans ha)
    subst hcA
    refine W.cs (sub_add_one hc) (sub_add_n hz) ?_
    have hR' : qRel D dA b base (pNew g r1 n.toNatClampNeg n.toNatClampNeg (fun _ => .null)) (H.push { cls := dA r1, slots := Array.replicate n.toNatClampNeg .null, vm := .none }) := by
      refine qNewA hR (by omega) (by omega) (fun z => absurd z (by omega)) (fun z => absurd z (by omega)) rfl ?_ (by simp) (fun q hq => by rw [Array.getElem?_push, if_neg (Nat.ne_of_lt hq)])
      rw [← arrV_new]; simp
    have k1 := k _ _ _ _ (qNx_spec h2 ht) hl hR' (hS.push (by simp) (fun q hq => by rw [Array.getElem?_push, if_neg (Nat.ne_of_lt hq)]))
    have e5 : qSh b base (.ref (pN g)) = .ref H.size := by show Value.ref (qAd b base (pN g)) = _; rw [qAd_new hR]
    simp only [List.map_cons, e5] at k1
    exact k1

theorem qKok_spec {idx v lg j : Nat} (h : qKok o idx v lg j = true) : (if lg = 1 then Cond.constantLong (qOwn o) idx (Int64.ofNat v) else Cond.constant (qOwn o) idx (Int32.ofNat v)) ∈ lw_tbl := by
  unfold qKok at h
  split at h
  · cases h
  · rename_i f hf
    simp only [Bool.and_eq_true, beq_iff_eq] at h
    have h1 := qGet_mem (of_decide_eq_true (List.all_eq_true.mp qKL_ok f (List.mem_of_getElem? hf)))
    rw [h.1, h.2.1, h.2.2.1, h.2.2.2] at h1
    exact h1

theorem q_ldc {len r1 r2 r3 c0 z0 : Nat} {idx : Nat} {q : PR} (F : qFrm D dA b base p l R s m meth c o init bc nL fr lo) (hok : qRowOk o init fr lo bc all tl (pc, .ldc idx, len, r1, r2, r3) = true) (ht : all.drop (i + 1) = tl) (hk : pKind (.ldc idx) r1 = 0)
    (hs : pStep (.ldc idx) (i + 1) r1 r2 ls st g = some q) (hl : qLs b base nL lsM ls) (hR : qRel D dA b base g H) (hS : va_S (qA base) s.heap H locs) (hA : ∀ q : Nat, s.heap.size ≤ q → qA base q) (hc : c0 ≤ pC g) (hz : z0 ≤ pZ g) (hC : pC q.2.2.2 - c0 ≤ R.cells) (hZ : pZ q.2.2.2 - z0 ≤ R.slots)
    (k : qK D dA b base nL all p l e R s m args below meth c c0 z0 Q q) : W p l e R s m args below meth c H locs (pC g - c0) (pZ g - z0) Q (F0 m pc lsM (st.map (qSh b base))) := by
  obtain ⟨hx, hb, hml, hown, hlocks, htr, hctx, hfr, hlo, hinit⟩ := id F
  unfold qRowOk at hok
  simp only [Bool.and_eq_true, decide_eq_true_eq, beq_iff_eq] at hok
  obtain ⟨d, h1, h2, h3⟩ := hok
  subst h1
  have h0 : ¬ r1 = 0 := fun z => by rw [z] at hk; exact absurd hk (by simp [pKind])
  have hq := Option.some.inj hs
  subst hq
  simp only [Bool.or_eq_true, beq_iff_eq] at h3
  have hw := qKok_spec (h3.resolve_left h0)
  rw [if_neg (by decide)] at hw
  exact lv_ldc hx hb hown (qHts (args := args) hctx _ (qTs_of hw rfl)) d (k _ _ _ _ (qNx_spec h2 ht) hl hR hS)

theorem q_ldc_w {len r1 r2 r3 c0 z0 : Nat} {idx : Nat} {q : PR} (F : qFrm D dA b base p l R s m meth c o init bc nL fr lo) (hok : qRowOk o init fr lo bc all tl (pc, .ldc_w idx, len, r1, r2, r3) = true) (ht : all.drop (i + 1) = tl) (hk : pKind (.ldc_w idx) r1 = 0)
    (hs : pStep (.ldc_w idx) (i + 1) r1 r2 ls st g = some q) (hl : qLs b base nL lsM ls) (hR : qRel D dA b base g H) (hS : va_S (qA base) s.heap H locs) (hA : ∀ q : Nat, s.heap.size ≤ q → qA base q) (hc : c0 ≤ pC g) (hz : z0 ≤ pZ g) (hC : pC q.2.2.2 - c0 ≤ R.cells) (hZ : pZ q.2.2.2 - z0 ≤ R.slots)
    (k : qK D dA b base nL all p l e R s m args below meth c c0 z0 Q q) : W p l e R s m args below meth c H locs (pC g - c0) (pZ g - z0) Q (F0 m pc lsM (st.map (qSh b base))) := by
  obtain ⟨hx, hb, hml, hown, hlocks, htr, hctx, hfr, hlo, hinit⟩ := id F
  unfold qRowOk at hok
  simp only [Bool.and_eq_true, decide_eq_true_eq, beq_iff_eq] at hok
  obtain ⟨d, h1, h2, h3⟩ := hok
  subst h1
  have h0 : ¬ r1 = 0 := fun z => by rw [z] at hk; exact absurd hk (by simp [pKind])
  have hq := Option.some.inj hs
  subst hq
  simp only [Bool.or_eq_true, beq_iff_eq] at h3
  have hw := qKok_spec (h3.resolve_left h0)
  rw [if_neg (by decide)] at hw
  exact lv_ldcw hx hb hown (qHts (args := args) hctx _ (qTs_of hw rfl)) d (k _ _ _ _ (qNx_spec h2 ht) hl hR hS)

theorem q_ldc2_w {len r1 r2 r3 c0 z0 : Nat} {idx : Nat} {q : PR} (F : qFrm D dA b base p l R s m meth c o init bc nL fr lo) (hok : qRowOk o init fr lo bc all tl (pc, .ldc2_w idx, len, r1, r2, r3) = true) (ht : all.drop (i + 1) = tl) (hk : pKind (.ldc2_w idx) r1 = 0)
    (hs : pStep (.ldc2_w idx) (i + 1) r1 r2 ls st g = some q) (hl : qLs b base nL lsM ls) (hR : qRel D dA b base g H) (hS : va_S (qA base) s.heap H locs) (hA : ∀ q : Nat, s.heap.size ≤ q → qA base q) (hc : c0 ≤ pC g) (hz : z0 ≤ pZ g) (hC : pC q.2.2.2 - c0 ≤ R.cells) (hZ : pZ q.2.2.2 - z0 ≤ R.slots)
    (k : qK D dA b base nL all p l e R s m args below meth c c0 z0 Q q) : W p l e R s m args below meth c H locs (pC g - c0) (pZ g - z0) Q (F0 m pc lsM (st.map (qSh b base))) := by
  obtain ⟨hx, hb, hml, hown, hlocks, htr, hctx, hfr, hlo, hinit⟩ := id F
  unfold qRowOk at hok
  simp only [Bool.and_eq_true, decide_eq_true_eq, beq_iff_eq] at hok
  obtain ⟨d, h1, h2, h3⟩ := hok
  subst h1
  have h0 : ¬ r1 = 0 := fun z => by rw [z] at hk; exact absurd hk (by simp [pKind])
  have hq := Option.some.inj hs
  subst hq
  simp only [Bool.or_eq_true, beq_iff_eq] at h3
  have hw := qKok_spec (h3.resolve_left h0)
  rw [if_pos rfl] at hw
  exact lv_ldc2 hx hb hown (qHts (args := args) hctx _ (qTs_of hw rfl)) d (k _ _ _ _ (qNx_spec h2 ht) hl hR hS)

end QSTEPB
