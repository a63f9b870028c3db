section QSTEPC
variable {p : Program} {l : Launch} {e : Env} {R : Room} {s : State} {m : MethodId} {args : Array Value} {below : List Frame} {meth : Method} {c : Code} {H : Heap} {locs : List Loc} {cells slots : Nat} {Q : State → Prop}
variable {D : va_G} {dA : Nat → ClassId} {b base o nL fr lo : Nat} {init : Bool} {bc : ByteArray} {all tl : List PRow} {i pc : Nat} {lsM : Array Slot} {ls : PV} {st : List Value} {g : PS}
theorem q_multianewarray {len r1 r2 r3 c0 z0 : Nat} {idx dm : Nat} {q : PR} (F : qFrm D dA b base p l R s m meth c o init bc nL fr lo) (hok : qRowOk o init fr lo bc all tl (pc, .multianewarray idx dm, len, r1, r2, r3) = true) (ht : all.drop (i + 1) = tl) (hk : pKind (.multianewarray idx dm) r1 = 0)
    (hs : pStep (.multianewarray idx dm) (i + 1) r1 r2 ls st g = some q) (hl : qLs b base nL lsM ls) (hR : qRel D dA b base g H) (hS : va_S (qA base) s.heap H locs) (hA : ∀ q : Nat, s.heap.size ≤ q → qA base q) (hc : c0 ≤ pC g) (hz : z0 ≤ pZ g) (hC : pC q.2.2.2 - c0 ≤ R.cells) (hZ : pZ q.2.2.2 - z0 ≤ R.slots)
    (k : qK D dA b base nL all p l e R s m args below meth c c0 z0 Q q) : W p l e R s m args below meth c H locs (pC g - c0) (pZ g - z0) Q (F0 m pc lsM (st.map (qSh b base))) := by
  cases hs

set_option maxHeartbeats 40000000 in
set_option maxRecDepth 100000 in
/-- ONE STEP: what the pure machine does in one plain step the machine does -/
theorem qStep {len r1 r2 r3 c0 z0 : Nat} {ins : Instr} {q : PR} (F : qFrm D dA b base p l R s m meth c o init bc nL fr lo) (hok : qRowOk o init fr lo bc all tl (pc, ins, len, r1, r2, r3) = true) (ht : all.drop (i + 1) = tl) (hk : pKind ins r1 = 0)
    (hs : pStep ins (i + 1) r1 r2 ls st g = some q) (hl : qLs b base nL lsM ls) (hR : qRel D dA b base g H) (hS : va_S (qA base) s.heap H locs) (hc : c0 ≤ pC g) (hz : z0 ≤ pZ g) (hC : pC q.2.2.2 - c0 ≤ R.cells) (hZ : pZ q.2.2.2 - z0 ≤ R.slots)
    (k : qK D dA b base nL all p l e R s m args below meth c c0 z0 Q q) : W p l e R s m args below meth c H locs (pC g - c0) (pZ g - z0) Q (F0 m pc lsM (st.map (qSh b base))) := by
  obtain ⟨hx, hb, hml, hown, hlocks, htr, hctx, hfr, hlo, hinit⟩ := id F
  have hA : ∀ q : Nat, s.heap.size ≤ q → qA base q := fun q h => Nat.le_trans hctx.2.2.2.2.1 h
  unfold qRowOk at hok
  cases ins
  case iconst n =>
    simp only [Bool.and_eq_true, decide_eq_true_eq, beq_iff_eq] at hok
    obtain ⟨d, h1, h2⟩ := hok
    subst h1
    have hq := Option.some.inj hs
    subst hq
    exact lv_iconst hx hb d rfl (k _ _ _ _ (qNx_spec h2 ht) hl hR hS)
  case bipush n =>
    simp only [Bool.and_eq_true, decide_eq_true_eq, beq_iff_eq] at hok
    obtain ⟨d, h1, h2⟩ := hok
    subst h1
    have hq := Option.some.inj hs
    subst hq
    exact lv_bipush hx hb d rfl (k _ _ _ _ (qNx_spec h2 ht) hl hR hS)
  case sipush n =>
    simp only [Bool.and_eq_true, decide_eq_true_eq, beq_iff_eq] at hok
    obtain ⟨d, h1, h2⟩ := hok
    subst h1
    have hq := Option.some.inj hs
    subst hq
    exact lv_sipush hx hb d rfl (k _ _ _ _ (qNx_spec h2 ht) hl hR hS)
  case lconst n =>
    simp only [Bool.and_eq_true, decide_eq_true_eq, beq_iff_eq] at hok
    obtain ⟨d, h1, h2⟩ := hok
    subst h1
    have hq := Option.some.inj hs
    subst hq
    exact lv_lconst hx hb d rfl (k _ _ _ _ (qNx_spec h2 ht) hl hR hS)
  case aconst_null =>
    simp only [Bool.and_eq_true, decide_eq_true_eq, beq_iff_eq] at hok
    obtain ⟨d, h1, h2⟩ := hok
    subst h1
    have hq := Option.some.inj hs
    subst hq
    exact lv_null hx hb d (k _ _ _ _ (qNx_spec h2 ht) hl hR hS)
  case dconst n =>
    simp only [Bool.and_eq_true, decide_eq_true_eq, beq_iff_eq] at hok
    obtain ⟨d, h1, h2⟩ := hok
    subst h1
    unfold pStep at hs
    dsimp only at hs
    split at hs
    · rename_i hn
      have hq := Option.some.inj hs
      subst hq
      have hn0 : n = 0 := Fin.ext hn
      subst hn0
      exact lv_dconst0 hx hb d (k _ _ _ _ (qNx_spec h2 ht) hl hR hS)
    · cases hs
  case iload_n n =>
    simp only [Bool.and_eq_true, decide_eq_true_eq, beq_iff_eq] at hok
    obtain ⟨d, h1, h2⟩ := hok
    subst h1
    obtain ⟨x, hx1, hq⟩ := pLdI_inv hs
    subst hq
    exact lv_iload_n hx hb d rfl (hl.2.2.2 _ _ hx1) (k _ _ _ _ (qNx_spec h2 ht) hl hR hS)
  case iload n =>
    simp only [Bool.and_eq_true, decide_eq_true_eq, beq_iff_eq] at hok
    obtain ⟨d, h1, h2⟩ := hok
    subst h1
    obtain ⟨x, hx1, hq⟩ := pLdI_inv hs
    subst hq
    exact lv_iload hx hb d (hl.2.2.2 _ _ hx1) (k _ _ _ _ (qNx_spec h2 ht) hl hR hS)
  case lload_n n =>
    simp only [Bool.and_eq_true, decide_eq_true_eq, beq_iff_eq] at hok
    obtain ⟨d, h1, h2⟩ := hok
    subst h1
    obtain ⟨x, hx1, hq⟩ := pLdL_inv hs
    subst hq
    exact lv_lload_n hx hb d rfl (hl.2.2.2 _ _ hx1) (k _ _ _ _ (qNx_spec h2 ht) hl hR hS)
  case lload n =>
    simp only [Bool.and_eq_true, decide_eq_true_eq, beq_iff_eq] at hok
    obtain ⟨d, h1, h2⟩ := hok
    subst h1
    obtain ⟨x, hx1, hq⟩ := pLdL_inv hs
    subst hq
    exact lv_lload hx hb d (hl.2.2.2 _ _ hx1) (k _ _ _ _ (qNx_spec h2 ht) hl hR hS)
  case dload_n n =>
    simp only [Bool.and_eq_true, decide_eq_true_eq, beq_iff_eq] at hok
    obtain ⟨d, h1, h2⟩ := hok
    subst h1
    obtain ⟨x, hx1, hq⟩ := pLdD_inv hs
    subst hq
    exact lv_dload_n hx hb d rfl (hl.2.2.2 _ _ hx1) (k _ _ _ _ (qNx_spec h2 ht) hl hR hS)
  case dload n =>
    simp only [Bool.and_eq_true, decide_eq_true_eq, beq_iff_eq] at hok
    obtain ⟨d, h1, h2⟩ := hok
    subst h1
    obtain ⟨x, hx1, hq⟩ := pLdD_inv hs
    subst hq
    exact lv_dload hx hb d (hl.2.2.2 _ _ hx1) (k _ _ _ _ (qNx_spec h2 ht) hl hR hS)
  case aload_n n =>
    simp only [Bool.and_eq_true, decide_eq_true_eq, beq_iff_eq] at hok
    obtain ⟨d, h1, h2⟩ := hok
    subst h1
    rcases pLdA_inv hs with ⟨x, hx1, hq⟩ | ⟨hx1, hq⟩
    · subst hq
      exact lv_aload_n hx hb d rfl (hl.2.2.2 _ _ hx1) (k _ _ _ _ (qNx_spec h2 ht) hl hR hS)
    · subst hq
      exact lv_aload_nN hx hb d rfl (hl.2.2.2 _ _ hx1) (k _ _ _ _ (qNx_spec h2 ht) hl hR hS)
  case aload n =>
    simp only [Bool.and_eq_true, decide_eq_true_eq, beq_iff_eq] at hok
    obtain ⟨d, h1, h2⟩ := hok
    subst h1
    rcases pLdA_inv hs with ⟨x, hx1, hq⟩ | ⟨hx1, hq⟩
    · subst hq
      exact lv_aload hx hb d (hl.2.2.2 _ _ hx1) (k _ _ _ _ (qNx_spec h2 ht) hl hR hS)
    · subst hq
      exact lv_aloadN hx hb d (hl.2.2.2 _ _ hx1) (k _ _ _ _ (qNx_spec h2 ht) hl hR hS)
  case istore_n n =>
    simp only [Bool.and_eq_true, decide_eq_true_eq, beq_iff_eq] at hok
    obtain ⟨d, h1, h2⟩ := hok
    subst h1
    unfold pStep at hs
    dsimp only at hs
    split at hs
    · obtain ⟨hi, hq⟩ := pSt1_inv hs
      subst hq
      exact lv_istore_n hx hb d rfl hl.has (by have := hl.2.1; omega) rfl (fun ls' hl' => k _ _ _ _ (qNx_spec h2 ht) (qLs.st1 hl hl') hR hS)
    · cases hs
  case istore n =>
    simp only [Bool.and_eq_true, decide_eq_true_eq, beq_iff_eq] at hok
    obtain ⟨d, h1, h2⟩ := hok
    subst h1
    unfold pStep at hs
    dsimp only at hs
    split at hs
    · obtain ⟨hi, hq⟩ := pSt1_inv hs
      subst hq
      exact lv_istore hx hb d hl.has (by have := hl.2.1; omega) rfl (fun ls' hl' => k _ _ _ _ (qNx_spec h2 ht) (qLs.st1 hl hl') hR hS)
    · cases hs
  case lstore_n n =>
    simp only [Bool.and_eq_true, decide_eq_true_eq, beq_iff_eq] at hok
    obtain ⟨d, h1, h2⟩ := hok
    subst h1
    unfold pStep at hs
    dsimp only at hs
    split at hs
    · obtain ⟨hi, hq⟩ := pSt2_inv hs
      subst hq
      exact lv_lstore_n hx hb d rfl hl.has (by have := hl.2.1; omega) rfl (fun ls' hl' => k _ _ _ _ (qNx_spec h2 ht) (qLs.st2 hl hl') hR hS)
    · cases hs
  case lstore n =>
    simp only [Bool.and_eq_true, decide_eq_true_eq, beq_iff_eq] at hok
    obtain ⟨d, h1, h2⟩ := hok
    subst h1
    unfold pStep at hs
    dsimp only at hs
    split at hs
    · obtain ⟨hi, hq⟩ := pSt2_inv hs
      subst hq
      exact lv_lstore hx hb d hl.has (by have := hl.2.1; omega) rfl (fun ls' hl' => k _ _ _ _ (qNx_spec h2 ht) (qLs.st2 hl hl') hR hS)
    · cases hs
  case dstore_n n =>
    simp only [Bool.and_eq_true, decide_eq_true_eq, beq_iff_eq] at hok
    obtain ⟨d, h1, h2⟩ := hok
    subst h1
    unfold pStep at hs
    dsimp only at hs
    split at hs
    · obtain ⟨hi, hq⟩ := pSt2_inv hs
      subst hq
      exact lv_dstore_n hx hb d rfl hl.has (by have := hl.2.1; omega) rfl (fun ls' hl' => k _ _ _ _ (qNx_spec h2 ht) (qLs.st2 hl hl') hR hS)
    · cases hs
  case dstore n =>
    simp only [Bool.and_eq_true, decide_eq_true_eq, beq_iff_eq] at hok
    obtain ⟨d, h1, h2⟩ := hok
    subst h1
    unfold pStep at hs
    dsimp only at hs
    split at hs
    · obtain ⟨hi, hq⟩ := pSt2_inv hs
      subst hq
      exact lv_dstore hx hb d hl.has (by have := hl.2.1; omega) rfl (fun ls' hl' => k _ _ _ _ (qNx_spec h2 ht) (qLs.st2 hl hl') hR hS)
    · cases hs
  case astore_n n =>
    simp only [Bool.and_eq_true, decide_eq_true_eq, beq_iff_eq] at hok
    obtain ⟨d, h1, h2⟩ := hok
    subst h1
    unfold pStep at hs
    dsimp only at hs
    split at hs
    · obtain ⟨hi, hq⟩ := pSt1_inv hs
      subst hq
      exact lv_astore_n hx hb d rfl hl.has (by have := hl.2.1; omega) rfl (fun ls' hl' => k _ _ _ _ (qNx_spec h2 ht) (qLs.st1 hl hl') hR hS)
    · obtain ⟨hi, hq⟩ := pSt1_inv hs
      subst hq
      exact lv_astore_nN hx hb d rfl hl.has (by have := hl.2.1; omega) rfl (fun ls' hl' => k _ _ _ _ (qNx_spec h2 ht) (qLs.st1 (v := .null) hl hl') hR hS)
    · cases hs
  case astore n =>
    simp only [Bool.and_eq_true, decide_eq_true_eq, beq_iff_eq] at hok
    obtain ⟨d, h1, h2⟩ := hok
    subst h1
    unfold pStep at hs
    dsimp only at hs
    split at hs
    · obtain ⟨hi, hq⟩ := pSt1_inv hs
      subst hq
      exact lv_astore hx hb d hl.has (by have := hl.2.1; omega) rfl (fun ls' hl' => k _ _ _ _ (qNx_spec h2 ht) (qLs.st1 hl hl') hR hS)
    · obtain ⟨hi, hq⟩ := pSt1_inv hs
      subst hq
      exact lv_astoreN hx hb d hl.has (by have := hl.2.1; omega) rfl (fun ls' hl' => k _ _ _ _ (qNx_spec h2 ht) (qLs.st1 (v := .null) hl hl') hR hS)
    · cases hs
  case iinc n cst =>
    simp only [Bool.and_eq_true, decide_eq_true_eq, beq_iff_eq] at hok
    obtain ⟨d, h1, h2⟩ := hok
    subst h1
    unfold pStep at hs
    dsimp only at hs
    split at hs
    · rename_i x hx1
      obtain ⟨hi, hq⟩ := pSt1_inv hs
      subst hq
      obtain ⟨j, hj⟩ := List.getElem?_of_mem (qAs_mem (b := b) (base := base) hx1)
      exact lv_iinc hx hb d hl.has (k := j) hj rfl (by have := hl.2.1; omega) rfl (fun ls' hl' => k _ _ _ _ (qNx_spec h2 ht) (qLs.st1 (v := .int _) hl hl') hR hS)
    · cases hs
  case iadd =>
    simp only [Bool.and_eq_true, decide_eq_true_eq, beq_iff_eq] at hok
    obtain ⟨d, h1, h2⟩ := hok
    subst h1
    obtain ⟨x, y, r, rfl, h⟩ := pII_inv hs
    have hq := Option.some.inj h
    subst hq
    exact lv_iadd hx hb d (k _ _ _ _ (qNx_spec h2 ht) hl hR hS)
  case isub =>
    simp only [Bool.and_eq_true, decide_eq_true_eq, beq_iff_eq] at hok
    obtain ⟨d, h1, h2⟩ := hok
    subst h1
    obtain ⟨x, y, r, rfl, h⟩ := pII_inv hs
    have hq := Option.some.inj h
    subst hq
    exact lv_isub hx hb d (k _ _ _ _ (qNx_spec h2 ht) hl hR hS)
  case imul =>
    simp only [Bool.and_eq_true, decide_eq_true_eq, beq_iff_eq] at hok
    obtain ⟨d, h1, h2⟩ := hok
    subst h1
    obtain ⟨x, y, r, rfl, h⟩ := pII_inv hs
    have hq := Option.some.inj h
    subst hq
    exact lv_imul hx hb d (k _ _ _ _ (qNx_spec h2 ht) hl hR hS)
  case iand =>
    simp only [Bool.and_eq_true, decide_eq_true_eq, beq_iff_eq] at hok
    obtain ⟨d, h1, h2⟩ := hok
    subst h1
    obtain ⟨x, y, r, rfl, h⟩ := pII_inv hs
    have hq := Option.some.inj h
    subst hq
    exact lv_iand hx hb d (k _ _ _ _ (qNx_spec h2 ht) hl hR hS)
  case ior =>
    simp only [Bool.and_eq_true, decide_eq_true_eq, beq_iff_eq] at hok
    obtain ⟨d, h1, h2⟩ := hok
    subst h1
    obtain ⟨x, y, r, rfl, h⟩ := pII_inv hs
    have hq := Option.some.inj h
    subst hq
    exact lv_ior hx hb d (k _ _ _ _ (qNx_spec h2 ht) hl hR hS)
  case ixor =>
    simp only [Bool.and_eq_true, decide_eq_true_eq, beq_iff_eq] at hok
    obtain ⟨d, h1, h2⟩ := hok
    subst h1
    obtain ⟨x, y, r, rfl, h⟩ := pII_inv hs
    have hq := Option.some.inj h
    subst hq
    exact lv_ixor hx hb d (k _ _ _ _ (qNx_spec h2 ht) hl hR hS)
  case ishl =>
    simp only [Bool.and_eq_true, decide_eq_true_eq, beq_iff_eq] at hok
    obtain ⟨d, h1, h2⟩ := hok
    subst h1
    obtain ⟨x, y, r, rfl, h⟩ := pII_inv hs
    have hq := Option.some.inj h
    subst hq
    exact lv_ishl hx hb d (k _ _ _ _ (qNx_spec h2 ht) hl hR hS)
  case ishr =>
    simp only [Bool.and_eq_true, decide_eq_true_eq, beq_iff_eq] at hok
    obtain ⟨d, h1, h2⟩ := hok
    subst h1
    obtain ⟨x, y, r, rfl, h⟩ := pII_inv hs
    have hq := Option.some.inj h
    subst hq
    exact lv_ishr hx hb d (k _ _ _ _ (qNx_spec h2 ht) hl hR hS)
  case iushr =>
    simp only [Bool.and_eq_true, decide_eq_true_eq, beq_iff_eq] at hok
    obtain ⟨d, h1, h2⟩ := hok
    subst h1
    obtain ⟨x, y, r, rfl, h⟩ := pII_inv hs
    have hq := Option.some.inj h
    subst hq
    exact lv_iushr hx hb d rfl (k _ _ _ _ (qNx_spec h2 ht) hl hR hS)
  case idiv =>
    simp only [Bool.and_eq_true, decide_eq_true_eq, beq_iff_eq] at hok
    obtain ⟨d, h1, h2⟩ := hok
    subst h1
    obtain ⟨x, y, r, rfl, h⟩ := pII_inv hs
    split at h
    · cases h
    · rename_i hne
      have hq := Option.some.inj h
      subst hq
      exact lv_idiv hx hb d hne (k _ _ _ _ (qNx_spec h2 ht) hl hR hS)
  case irem =>
    simp only [Bool.and_eq_true, decide_eq_true_eq, beq_iff_eq] at hok
    obtain ⟨d, h1, h2⟩ := hok
    subst h1
    obtain ⟨x, y, r, rfl, h⟩ := pII_inv hs
    split at h
    · cases h
    · rename_i hne
      have hq := Option.some.inj h
      subst hq
      exact lv_irem hx hb d hne (k _ _ _ _ (qNx_spec h2 ht) hl hR hS)
  case ladd =>
    simp only [Bool.and_eq_true, decide_eq_true_eq, beq_iff_eq] at hok
    obtain ⟨d, h1, h2⟩ := hok
    subst h1
    obtain ⟨x, y, r, rfl, h⟩ := pLL_inv hs
    have hq := Option.some.inj h
    subst hq
    exact lv_ladd hx hb d (k _ _ _ _ (qNx_spec h2 ht) hl hR hS)
  case lmul =>
    simp only [Bool.and_eq_true, decide_eq_true_eq, beq_iff_eq] at hok
    obtain ⟨d, h1, h2⟩ := hok
    subst h1
    obtain ⟨x, y, r, rfl, h⟩ := pLL_inv hs
    have hq := Option.some.inj h
    subst hq
    exact lv_lmul hx hb d (k _ _ _ _ (qNx_spec h2 ht) hl hR hS)
  case lcmp =>
    simp only [Bool.and_eq_true, decide_eq_true_eq, beq_iff_eq] at hok
    obtain ⟨d, h1, h2⟩ := hok
    subst h1
    obtain ⟨x, y, r, rfl, h⟩ := pLL_inv hs
    have hq := Option.some.inj h
    subst hq
    exact W.lcmp hx hb d (k _ _ _ _ (qNx_spec h2 ht) hl hR hS)
  case i2l =>
    simp only [Bool.and_eq_true, decide_eq_true_eq, beq_iff_eq] at hok
    obtain ⟨d, h1, h2⟩ := hok
    subst h1
    obtain ⟨x, r, rfl, h⟩ := pI_inv hs
    have hq := Option.some.inj h
    subst hq
    exact lv_i2l hx hb d rfl (k _ _ _ _ (qNx_spec h2 ht) hl hR hS)
  case i2d =>
    simp only [Bool.and_eq_true, decide_eq_true_eq, beq_iff_eq] at hok
    obtain ⟨d, h1, h2⟩ := hok
    subst h1
    obtain ⟨x, r, rfl, h⟩ := pI_inv hs
    have hq := Option.some.inj h
    subst hq
    exact lv_i2d hx hb d (k _ _ _ _ (qNx_spec h2 ht) hl hR hS)
  case dadd =>
    simp only [Bool.and_eq_true, decide_eq_true_eq, beq_iff_eq] at hok
    obtain ⟨d, h1, h2⟩ := hok
    subst h1
    obtain ⟨x, y, r, rfl, h⟩ := pDD_inv hs
    split at h
    · rename_i hne
      have hq := Option.some.inj h
      subst hq
      exact lv_dadd hx hb d hne (k _ _ _ _ (qNx_spec h2 ht) hl hR hS)
    · cases h
  case ddiv =>
    simp only [Bool.and_eq_true, decide_eq_true_eq, beq_iff_eq] at hok
    obtain ⟨d, h1, h2⟩ := hok
    subst h1
    obtain ⟨x, y, r, rfl, h⟩ := pDD_inv hs
    split at h
    · rename_i hne
      have hq := Option.some.inj h
      subst hq
      exact lv_ddiv hx hb d hne (k _ _ _ _ (qNx_spec h2 ht) hl hR hS)
    · cases h
  case dcmp op =>
    simp only [Bool.and_eq_true, decide_eq_true_eq, beq_iff_eq] at hok
    obtain ⟨d, h1, h2⟩ := hok
    subst h1
    obtain ⟨x, y, r, rfl, h⟩ := pDD_inv hs
    have hq := Option.some.inj h
    subst hq
    exact lv_dcmp hx hb d (k _ _ _ _ (qNx_spec h2 ht) hl hR hS)
  case dup =>
    simp only [Bool.and_eq_true, decide_eq_true_eq, beq_iff_eq] at hok
    obtain ⟨d, h1, h2⟩ := hok
    subst h1
    unfold pStep at hs
    dsimp only at hs
    split at hs
    · split at hs
      · rename_i hv
        have hq := Option.some.inj hs
        subst hq
        exact lv_dup hx hb d (by rw [qSh_cat]; exact hv) (k _ _ _ _ (qNx_spec h2 ht) hl hR hS)
      · cases hs
    · cases hs
  case pop =>
    simp only [Bool.and_eq_true, decide_eq_true_eq, beq_iff_eq] at hok
    obtain ⟨d, h1, h2⟩ := hok
    subst h1
    unfold pStep at hs
    dsimp only at hs
    split at hs
    · split at hs
      · rename_i hv
        have hq := Option.some.inj hs
        subst hq
        exact lv_pop hx hb d (by rw [qSh_cat]; exact hv) (k _ _ _ _ (qNx_spec h2 ht) hl hR hS)
      · cases hs
    · cases hs
  case dup2 =>
    simp only [Bool.and_eq_true, decide_eq_true_eq, beq_iff_eq] at hok
    obtain ⟨d, h1, h2⟩ := hok
    subst h1
    unfold pStep at hs
    dsimp only at hs
    split at hs
    · split at hs
      · rename_i hv
        have hq := Option.some.inj hs
        subst hq
        exact lv_dup2_11 hx hb d (by rw [qSh_cat]; exact hv.1) (by rw [qSh_cat]; exact hv.2) (k _ _ _ _ (qNx_spec h2 ht) hl hR hS)
      · cases hs
    · cases hs
  case goto off =>
    simp only [Bool.and_eq_true, decide_eq_true_eq, beq_iff_eq] at hok
    obtain ⟨d, h1, h2⟩ := hok
    subst h1
    have hq := Option.some.inj hs
    subst hq
    obtain ⟨tgt, g1, g2⟩ := qJp_spec h2
    exact lv_goto hx hb d g1 (k _ _ _ _ g2 hl hR hS)
  case ifCond cond off =>
    simp only [Bool.and_eq_true, decide_eq_true_eq, beq_iff_eq] at hok
    obtain ⟨d, h1, h2, h3⟩ := hok
    subst h1
    obtain ⟨tgt, g1, g2⟩ := qJp_spec h2
    obtain ⟨x, r, rfl, h⟩ := pI_inv hs
    cases cond
    case eq =>
      obtain ⟨kt, kf⟩ := qIf h k hl hR hS g2 (qNx_spec h3 ht)
      exact lv_if_eq hx hb d g1 kt kf
    case ne =>
      obtain ⟨kt, kf⟩ := qIf h k hl hR hS g2 (qNx_spec h3 ht)
      exact lv_if_ne hx hb d g1 kt (fun z => kf (fun y => y z))
    case lt =>
      obtain ⟨kt, kf⟩ := qIf h k hl hR hS g2 (qNx_spec h3 ht)
      exact lv_if_lt hx hb d g1 kt kf
    case ge =>
      obtain ⟨kt, kf⟩ := qIf h k hl hR hS g2 (qNx_spec h3 ht)
      exact lv_if_ge hx hb d g1 kt kf
    case gt =>
      obtain ⟨kt, kf⟩ := qIf h k hl hR hS g2 (qNx_spec h3 ht)
      exact lv_if_gt hx hb d g1 kt kf
    case le =>
      obtain ⟨kt, kf⟩ := qIf h k hl hR hS g2 (qNx_spec h3 ht)
      exact lv_if_le hx hb d g1 kt kf
  case if_icmp cond off =>
    simp only [Bool.and_eq_true, decide_eq_true_eq, beq_iff_eq] at hok
    obtain ⟨d, h1, h2, h3⟩ := hok
    subst h1
    obtain ⟨tgt, g1, g2⟩ := qJp_spec h2
    obtain ⟨x, y, r, rfl, h⟩ := pII_inv hs
    cases cond
    case eq =>
      obtain ⟨kt, kf⟩ := qIf h k hl hR hS g2 (qNx_spec h3 ht)
      exact lv_icmp_eq hx hb d g1 kt kf
    case ne =>
      obtain ⟨kt, kf⟩ := qIf h k hl hR hS g2 (qNx_spec h3 ht)
      exact lv_icmp_ne hx hb d g1 kt (fun z => kf (fun y => y z))
    case lt =>
      obtain ⟨kt, kf⟩ := qIf h k hl hR hS g2 (qNx_spec h3 ht)
      exact lv_icmp_lt hx hb d g1 kt kf
    case ge =>
      obtain ⟨kt, kf⟩ := qIf h k hl hR hS g2 (qNx_spec h3 ht)
      exact lv_icmp_ge hx hb d g1 kt kf
    case gt =>
      obtain ⟨kt, kf⟩ := qIf h k hl hR hS g2 (qNx_spec h3 ht)
      exact lv_icmp_gt hx hb d g1 kt kf
    case le =>
      obtain ⟨kt, kf⟩ := qIf h k hl hR hS g2 (qNx_spec h3 ht)
      exact lv_icmp_le hx hb d g1 kt kf
  case if_acmp cond off =>
    simp only [Bool.and_eq_true, decide_eq_true_eq, beq_iff_eq] at hok
    obtain ⟨d, h1, h2, h3⟩ := hok
    subst h1
    obtain ⟨tgt, g1, g2⟩ := qJp_spec h2
    unfold pStep at hs
    dsimp only at hs
    split at hs
    · rename_i y x r
      cases cond
      case eq =>
        obtain ⟨kt, kf⟩ := qIf hs k hl hR hS g2 (qNx_spec h3 ht)
        exact lv_acmp_eq (rx := some (qAd b base x)) (ry := some (qAd b base y)) hx hb d g1 (fun z => kt (qAd_inj hR.1 (Option.some.inj z))) (fun z => kf (fun w => z (by rw [w])))
      case ne =>
        obtain ⟨kt, kf⟩ := qIf hs k hl hR hS g2 (qNx_spec h3 ht)
        exact lv_acmp_ne (rx := some (qAd b base x)) (ry := some (qAd b base y)) hx hb d g1 (fun z => kt (fun w => z (by rw [w]))) (fun z => kf (fun w => w (qAd_inj hR.1 (Option.some.inj z))))
    · cases hs
  case ifnull off =>
    simp only [Bool.and_eq_true, decide_eq_true_eq, beq_iff_eq] at hok
    obtain ⟨d, h1, h2, h3⟩ := hok
    subst h1
    obtain ⟨tgt, g1, g2⟩ := qJp_spec h2
    unfold pStep at hs
    dsimp only at hs
    split at hs
    · have hq := Option.some.inj hs
      subst hq
      exact lv_ifnull hx hb d (k _ _ _ _ (qNx_spec h3 ht) hl hR hS)
    · have hq := Option.some.inj hs
      subst hq
      exact lv_ifnullN hx hb d g1 (k _ _ _ _ g2 hl hR hS)
    · cases hs
  case ifnonnull off =>
    simp only [Bool.and_eq_true, decide_eq_true_eq, beq_iff_eq] at hok
    obtain ⟨d, h1, h2, h3⟩ := hok
    subst h1
    obtain ⟨tgt, g1, g2⟩ := qJp_spec h2
    unfold pStep at hs
    dsimp only at hs
    split at hs
    · have hq := Option.some.inj hs
      subst hq
      exact lv_ifnonnull hx hb d g1 (k _ _ _ _ g2 hl hR hS)
    · have hq := Option.some.inj hs
      subst hq
      exact lv_ifnonnullN hx hb d (k _ _ _ _ (qNx_spec h3 ht) hl hR hS)
    · cases hs
  case getfield idx =>
    exact q_getfield F hok ht hk hs hl hR hS hA hc hz hC hZ k
  case putfield idx =>
    exact q_putfield F hok ht hk hs hl hR hS hA hc hz hC hZ k
  case arraylength =>
    exact q_arraylength F hok ht hk hs hl hR hS hA hc hz hC hZ k
  case iaload =>
    exact q_iaload F hok ht hk hs hl hR hS hA hc hz hC hZ k
  case laload =>
    exact q_laload F hok ht hk hs hl hR hS hA hc hz hC hZ k
  case baload =>
    exact q_baload F hok ht hk hs hl hR hS hA hc hz hC hZ k
  case aaload =>
    exact q_aaload F hok ht hk hs hl hR hS hA hc hz hC hZ k
  case iastore =>
    exact q_iastore F hok ht hk hs hl hR hS hA hc hz hC hZ k
  case lastore =>
    exact q_lastore F hok ht hk hs hl hR hS hA hc hz hC hZ k
  case bastore =>
    exact q_bastore F hok ht hk hs hl hR hS hA hc hz hC hZ k
  case aastore =>
    exact q_aastore F hok ht hk hs hl hR hS hA hc hz hC hZ k
  case new idx =>
    exact q_new F hok ht hk hs hl hR hS hA hc hz hC hZ k
  case newarray at_ =>
    exact q_newarray F hok ht hk hs hl hR hS hA hc hz hC hZ k
  case anewarray idx =>
    exact q_anewarray F hok ht hk hs hl hR hS hA hc hz hC hZ k
  case multianewarray idx dm =>
    exact q_multianewarray F hok ht hk hs hl hR hS hA hc hz hC hZ k
  case ldc idx =>
    exact q_ldc F hok ht hk hs hl hR hS hA hc hz hC hZ k
  case ldc_w idx =>
    exact q_ldc_w F hok ht hk hs hl hR hS hA hc hz hC hZ k
  case ldc2_w idx =>
    exact q_ldc2_w F hok ht hk hs hl hR hS hA hc hz hC hZ k
  all_goals (first | (exact absurd hs (by simp [pStep])) | (exact absurd hk (by simp [pKind])))

end QSTEPC
