/-! ===== THE PURE HEAP AGAINST THE MACHINE'S ===== -/
/-- where a cell lies: cell 0 (the script) at b, cell k at base + k - 1 -/
def qAd (b base k : Nat) : Nat := if k = 0 then b else base + (k - 1)
def qSh (b base : Nat) (v : Value) : Value := match v with
  | .ref a => .ref (qAd b base a)
  | v => v
theorem qSh_cat (b base : Nat) (v : Value) : (qSh b base v).category = v.category := by cases v <;> rfl
theorem qAd_inj {b base i j : Nat} (hb : b < base) (h : qAd b base i = qAd b base j) : i = j := by
  unfold qAd at h
  by_cases hi : i = 0 <;> by_cases hj : j = 0
  · omega
  · rw [if_pos hi, if_neg hj] at h; omega
  · rw [if_neg hi, if_pos hj] at h; omega
  · rw [if_neg hi, if_neg hj] at h; omega
theorem qAd_ge {b base k : Nat} (h : k ≠ 0) : base ≤ qAd b base k := by
  unfold qAd; rw [if_neg h]; omega
theorem qSh_fits {b base : Nat} {ty : FieldType} {v : Value} (h : fits ty v = true) : fits ty (qSh b base v) = true := by
  cases v <;> first | exact h | (cases ty <;> first | exact h | rfl)
theorem qSh_default (b base : Nat) (ty : FieldType) : qSh b base (defaultValue ty) = defaultValue ty := by
  cases ty <;> rfl
/-- the types of the arrays, by kinds; the class of what an array of references holds -/
def qTy (kd : Nat) : FieldType := match kd with
  | 15 => .object RX0 | 16 => .object RX2 | 17 => .object RX3 | 18 => .object RX6 | 19 => .object RX0 | _ => .int
def qEn (kd : Nat) : String := match kd with
  | 16 => RX2 | 17 => RX3 | 18 => RX6 | _ => RX0
/-- what the tables say of the class of a kind of arrays -/
def qArr (dA : Nat → ClassId) (kd : Nat) (U : State) : Prop :=
  U.vm.findClass ("[" ++ (qTy kd).toString) = some (dA kd) ∧ ∃ (kC : Class) (comp : ClassId), U.vm.classes[dA kd]? = some kC ∧ kC.kind = .array comp (qTy kd) ∧ (15 ≤ kd → U.vm.findClass (qEn kd) = some comp)
theorem qArr.moved {dA : Nat → ClassId} {kd : Nat} {u U : State} (hvm : u.vm.Alike U.vm) (h : qArr dA kd u) : qArr dA kd U := by
  obtain ⟨h1, kC, comp, h2, h3, h4⟩ := h
  obtain ⟨k', hk', he⟩ := hvm.2.2 _ _ h2
  exact ⟨by rw [hvm.findClass]; exact h1, k', comp, hk', by rw [he]; exact h3, fun z => by rw [hvm.findClass]; exact h4 z⟩
/-- .. and of the script's -/
def qScr (dA : Nat → ClassId) (U : State) : Prop := ∃ (kC : Class) (comp : ClassId), U.vm.classes[dA 20]? = some kC ∧ kC.kind = .array comp .int
theorem qScr.moved {dA : Nat → ClassId} {u U : State} (hvm : u.vm.Alike U.vm) (h : qScr dA u) : qScr dA U := by
  obtain ⟨kC, comp, h2, h3⟩ := h
  obtain ⟨k', hk', he⟩ := hvm.2.2 _ _ h2
  exact ⟨k', comp, hk', by rw [he]; exact h3⟩
/-- a cell of the pure heap in the machine's -/
def qCell (D : va_G) (dA : Nat → ClassId) (b base : Nat) (g : PS) (k : Nat) (H : Heap) : Prop :=
  (pK g k < 12 → t_OB (qAd b base k) (D.1 (pK g k)) (pF (pK g k)) (D.2 (pK g k)) H (fun j => qSh b base (pM g k j))) ∧
  (12 ≤ pK g k → pK g k ≤ 19 → H[qAd b base k]? = some (arrV (dA (pK g k)) (pL g k) (fun j => qSh b base (pM g k j)))) ∧
  (pK g k = 20 → ∃ scr : Cell, H[qAd b base k]? = some scr ∧ scr.cls = dA 20 ∧ (∀ q, scr.vm ≠ .statics q) ∧ scr.vm ≠ .unknown ∧ scr.slots.size = pL g k ∧ ∀ j, j < pL g k → scr.slots[j]? = some (qSh b base (pM g k j)))
/-- the arrays of numbers hold numbers -/
def qTyp (g : PS) (k : Nat) : Prop :=
  (pK g k = 12 → ∀ j, j < pL g k → ∃ x : Int32, pM g k j = .int x) ∧ (pK g k = 14 → ∀ j, j < pL g k → pM g k j = .int 0 ∨ pM g k j = .int 1)
/-- THE RELATION -/
def qRel (D : va_G) (dA : Nat → ClassId) (b base : Nat) (g : PS) (H : Heap) : Prop :=
  b < base ∧ 1 ≤ pN g ∧ H.size + 1 = base + pN g ∧ (∀ k, k < pN g → qCell D dA b base g k H ∧ qTyp g k) ∧ (∀ k, pN g ≤ k → pK g k = 50) ∧ pK g 0 = 20 ∧ ∀ k, k ≠ 0 → pK g k ≠ 20
theorem qRel.lt {D : va_G} {dA : Nat → ClassId} {b base : Nat} {g : PS} {H : Heap} (h : qRel D dA b base g H) {a : Nat} (ha : pK g a ≠ 50) : a < pN g := by
  rcases Nat.lt_or_ge a (pN g) with z | z
  · exact z
  · exact absurd (h.2.2.2.2.1 a z) ha
theorem qRel.ne0 {D : va_G} {dA : Nat → ClassId} {b base : Nat} {g : PS} {H : Heap} (h : qRel D dA b base g H) {a : Nat} (ha : pK g a ≠ 20) : a ≠ 0 := fun e => ha (by rw [e]; exact h.2.2.2.2.2.1)
theorem qAd_new {D : va_G} {dA : Nat → ClassId} {b base : Nat} {g : PS} {H : Heap} (h : qRel D dA b base g H) : qAd b base (pN g) = H.size := by
  have h1 := h.2.1
  have h2 := h.2.2.1
  unfold qAd
  rw [if_neg (by omega)]
  omega
theorem qAd_lt {D : va_G} {dA : Nat → ClassId} {b base : Nat} {g : PS} {H : Heap} (h : qRel D dA b base g H) {k : Nat} (hk : k < pN g) : qAd b base k < H.size := by
  have h0 := h.1
  have h1 := h.2.1
  have h2 := h.2.2.1
  unfold qAd
  split <;> omega
theorem qCell.kept {D : va_G} {dA : Nat → ClassId} {b base : Nat} {g g' : PS} {k : Nat} {H H' : Heap} (h : qCell D dA b base g k H) (e1 : pK g' k = pK g k) (e2 : pL g' k = pL g k) (e3 : ∀ j, pM g' k j = pM g k j) (hq : H'[qAd b base k]? = H[qAd b base k]?) : qCell D dA b base g' k H' := by
  have e4 : (fun j => qSh b base (pM g' k j)) = (fun j => qSh b base (pM g k j)) := funext fun j => by rw [e3 j]
  obtain ⟨h1, h2, h3⟩ := h
  refine ⟨fun z => ?_, fun z1 z2 => ?_, fun z => ?_⟩
  · rw [e1] at z ⊢
    rw [e4]
    exact (h1 z).kept hq
  · rw [e1] at z1 z2 ⊢
    rw [e2, e4, hq]
    exact h2 z1 z2
  · rw [e1] at z
    obtain ⟨scr, q1, q2⟩ := h3 z
    refine ⟨scr, by rw [hq]; exact q1, ?_⟩
    rw [e2]
    refine ⟨q2.1, q2.2.1, q2.2.2.1, q2.2.2.2.1, fun j hj => ?_⟩
    rw [e3 j]
    exact q2.2.2.2.2 j hj
theorem qTyp.kept {g g' : PS} {k : Nat} (h : qTyp g k) (e1 : pK g' k = pK g k) (e2 : pL g' k = pL g k) (e3 : ∀ j, pM g' k j = pM g k j) : qTyp g' k := by
  refine ⟨fun z j hj => ?_, fun z j hj => ?_⟩
  · rw [e3]; rw [e1] at z; rw [e2] at hj; exact h.1 z j hj
  · rw [e3]; rw [e1] at z; rw [e2] at hj; exact h.2 z j hj
/-! the pure operations, read -/
theorem pK_put (g : PS) (a k : Nat) (v : Value) : pK (pPut g a k v) = pK g := rfl
theorem pL_put (g : PS) (a k : Nat) (v : Value) : pL (pPut g a k v) = pL g := rfl
theorem pN_put (g : PS) (a k : Nat) (v : Value) : pN (pPut g a k v) = pN g := rfl
theorem pC_put (g : PS) (a k : Nat) (v : Value) : pC (pPut g a k v) = pC g := rfl
theorem pZ_put (g : PS) (a k : Nat) (v : Value) : pZ (pPut g a k v) = pZ g := rfl
theorem pM_put (g : PS) (a k : Nat) (v : Value) (x j : Nat) : pM (pPut g a k v) x j = if x = a ∧ j = k then v else pM g x j := rfl
theorem pM_put_ne {g : PS} {a k : Nat} {v : Value} {x : Nat} (h : x ≠ a) (j : Nat) : pM (pPut g a k v) x j = pM g x j := by
  rw [pM_put, if_neg (fun z => h z.1)]
/-- a field or an element is written -/
theorem qRel.put {D : va_G} {dA : Nat → ClassId} {b base : Nat} {g : PS} {H H' : Heap} {a k : Nat} {v : Value} (h : qRel D dA b base g H) (ha : a < pN g) (hz : H'.size = H.size) (hq : ∀ q, q ≠ qAd b base a → H'[q]? = H[q]?)
    (hc : qCell D dA b base (pPut g a k v) a H') (ht : qTyp (pPut g a k v) a) : qRel D dA b base (pPut g a k v) H' := by
  obtain ⟨h0, h1, h2, h3, h4, h5, h6⟩ := h
  refine ⟨h0, h1, by rw [hz]; exact h2, fun x hx => ?_, h4, h5, h6⟩
  by_cases e : x = a
  · rw [e]; exact ⟨hc, ht⟩
  · exact ⟨(h3 x hx).1.kept rfl rfl (pM_put_ne e) (hq _ (fun z => e (qAd_inj h0 z))), (h3 x hx).2.kept rfl rfl (pM_put_ne e)⟩
theorem pK_new (g : PS) (kd ln z : Nat) (row : Nat → Value) (x : Nat) : pK (pNew g kd ln z row) x = if x = pN g then kd else pK g x := rfl
theorem pL_new (g : PS) (kd ln z : Nat) (row : Nat → Value) (x : Nat) : pL (pNew g kd ln z row) x = if x = pN g then ln else pL g x := rfl
theorem pM_new (g : PS) (kd ln z : Nat) (row : Nat → Value) (x j : Nat) : pM (pNew g kd ln z row) x j = if x = pN g then row j else pM g x j := rfl
theorem pN_new (g : PS) (kd ln z : Nat) (row : Nat → Value) : pN (pNew g kd ln z row) = pN g + 1 := rfl
theorem pC_new (g : PS) (kd ln z : Nat) (row : Nat → Value) : pC (pNew g kd ln z row) = pC g + 1 := rfl
theorem pZ_new (g : PS) (kd ln z : Nat) (row : Nat → Value) : pZ (pNew g kd ln z row) = pZ g + z := rfl
/-- a cell is made -/
theorem qRel.new {D : va_G} {dA : Nat → ClassId} {b base : Nat} {g : PS} {H H' : Heap} {kd ln z : Nat} {row : Nat → Value} (h : qRel D dA b base g H) (hz : H'.size = H.size + 1) (hq : ∀ q, q < H.size → H'[q]? = H[q]?) (hk : kd ≠ 20)
    (hc : qCell D dA b base (pNew g kd ln z row) (pN g) H') (ht : qTyp (pNew g kd ln z row) (pN g)) : qRel D dA b base (pNew g kd ln z row) H' := by
  have hlt := fun k hk => qAd_lt (k := k) h hk
  obtain ⟨h0, h1, h2, h3, h4, h5, h6⟩ := h
  refine ⟨h0, by rw [pN_new]; omega, by rw [hz, pN_new]; omega, fun x hx => ?_, fun x hx => ?_, ?_, fun x hx => ?_⟩
  · rw [pN_new] at hx
    by_cases e : x = pN g
    · rw [e]; exact ⟨hc, ht⟩
    · have hx' : x < pN g := by omega
      exact ⟨(h3 x hx').1.kept (by rw [pK_new, if_neg e]) (by rw [pL_new, if_neg e]) (fun j => by rw [pM_new, if_neg e]) (hq _ (hlt x hx')), (h3 x hx').2.kept (by rw [pK_new, if_neg e]) (by rw [pL_new, if_neg e]) (fun j => by rw [pM_new, if_neg e])⟩
  · rw [pN_new] at hx
    rw [pK_new, if_neg (by omega)]
    exact h4 x (by omega)
  · rw [pK_new, if_neg (by omega)]
    exact h5
  · rw [pK_new]
    split
    · exact hk
    · exact h6 x hx
/-- an exception is made -/
theorem qRel.thr {D : va_G} {dA : Nat → ClassId} {b base : Nat} {g : PS} {H H' : Heap} (h : qRel D dA b base g H) (hz : H'.size = H.size + 1) (hq : ∀ q, q < H.size → H'[q]? = H[q]?) : qRel D dA b base (pThr g) H' := by
  have hlt := fun k hk => qAd_lt (k := k) h hk
  have ek : ∀ x, pK (pThr g) x = if x = pN g then 99 else pK g x := fun _ => rfl
  have en : pN (pThr g) = pN g + 1 := rfl
  obtain ⟨h0, h1, h2, h3, h4, h5, h6⟩ := h
  refine ⟨h0, by rw [en]; omega, by rw [hz, en]; omega, fun x hx => ?_, fun x hx => ?_, ?_, fun x hx => ?_⟩
  · rw [en] at hx
    by_cases e : x = pN g
    · refine ⟨⟨fun z => ?_, fun _ z => ?_, fun z => ?_⟩, ⟨fun z => ?_, fun z => ?_⟩⟩ <;> (rw [ek, if_pos e] at z; omega)
    · have hx' : x < pN g := by omega
      exact ⟨(h3 x hx').1.kept (by rw [ek, if_neg e]) rfl (fun j => rfl) (hq _ (hlt x hx')), (h3 x hx').2.kept (by rw [ek, if_neg e]) rfl (fun j => rfl)⟩
  · rw [en] at hx
    rw [ek, if_neg (by omega)]
    exact h4 x (by omega)
  · rw [ek, if_neg (by omega)]
    exact h5
  · rw [ek]
    split
    · omega
    · exact h6 x hx
/-! the locals -/
def qLs (b base nL : Nat) (lsM : Array Slot) (ls : PV) : Prop := lsM.size = nL ∧ ls.length = nL ∧ lv_wf lsM ∧ ∀ (i : Nat) (v : Value), ls[i]? = some (some v) → lsM[i]? = some (.val (qSh b base v))
def qAs (b base : Nat) (ls : PV) : List (Nat × Value) := (List.range ls.length).filterMap (fun i => match ls[i]? with | some (some v) => some (i, qSh b base v) | _ => none)
theorem qAs_mem {b base : Nat} {ls : PV} {i : Nat} {v : Value} (h : ls[i]? = some (some v)) : (i, qSh b base v) ∈ qAs b base ls := by
  have hi : i < ls.length := (List.getElem?_eq_some_iff.mp h).1
  refine List.mem_filterMap.mpr ⟨i, List.mem_range.mpr hi, ?_⟩
  simp only [h]
theorem qAs_of {b base : Nat} {ls : PV} {q : Nat × Value} (h : q ∈ qAs b base ls) : ∃ v, ls[q.1]? = some (some v) ∧ q.2 = qSh b base v := by
  obtain ⟨i, -, hi⟩ := List.mem_filterMap.mp h
  cases hl : ls[i]? with
  | none => rw [hl] at hi; cases hi
  | some o =>
    cases o with
    | none => rw [hl] at hi; cases hi
    | some v =>
      rw [hl] at hi
      cases hi
      exact ⟨v, hl, rfl⟩
theorem qLs.has {b base nL : Nat} {lsM : Array Slot} {ls : PV} (h : qLs b base nL lsM ls) : lv_has lsM nL (qAs b base ls) := by
  obtain ⟨h1, h2, h3, h4⟩ := h
  refine ⟨h1, h3, fun q hq => ?_⟩
  obtain ⟨v, e1, e2⟩ := qAs_of hq
  rw [e2]
  exact h4 _ _ e1
theorem pClr_len (ls : PV) (i : Nat) : (pClr ls i).length = ls.length := by
  unfold pClr
  cases i with
  | zero => rfl
  | succ j => dsimp only; split <;> simp
theorem pClr_get {ls : PV} {i j : Nat} {w : Value} (h : (pClr ls i)[j]? = some (some w)) : ls[j]? = some (some w) ∧ ¬ (j + 1 = i ∧ w.category = 2) := by
  unfold pClr at h
  cases i with
  | zero => exact ⟨h, fun z => by omega⟩
  | succ n =>
    dsimp only at h
    split at h
    · rename_i hc
      by_cases e : j = n
      · subst e
        rw [List.getElem?_set_self'] at h
        cases hl : ls[j]? <;> rw [hl] at h <;> simp at h
      · rw [List.getElem?_set_ne (Ne.symm e)] at h
        exact ⟨h, fun z => e (by omega)⟩
    · rename_i hc
      refine ⟨h, fun z => ?_⟩
      obtain ⟨z1, z2⟩ := z
      have e : j = n := by omega
      subst e
      rw [h] at hc
      cases w <;> first | exact hc rfl | (simp [Value.category] at z2)
/-- behind a store of one slot -/
theorem qLs.st1 {b base nL i : Nat} {lsM ls' : Array Slot} {ls : PV} {v : Value} (h : qLs b base nL lsM ls)
    (h' : lv_has ls' nL ((i, qSh b base v) :: (qAs b base ls).filter (fun q => !(q.1 == i) && !(q.1 + 1 == i && q.2.category == 2)))) : qLs b base nL ls' (pSet1 ls i v) := by
  refine ⟨h'.1, by unfold pSet1; rw [List.length_set, pClr_len]; exact h.2.1, h'.2.1, fun j w hj => ?_⟩
  unfold pSet1 at hj
  by_cases e : j = i
  · subst e
    rw [List.getElem?_set_self'] at hj
    have hw : w = v := by
      cases hl : (pClr ls j)[j]? with
      | none => rw [hl] at hj; simp at hj
      | some o => rw [hl] at hj; simp at hj; exact hj.symm
    rw [hw]
    exact h'.2.2 (j, qSh b base v) List.mem_cons_self
  · rw [List.getElem?_set_ne (Ne.symm e)] at hj
    obtain ⟨g1, g2⟩ := pClr_get hj
    refine h'.2.2 (j, qSh b base w) (List.mem_cons_of_mem _ (List.mem_filter.mpr ⟨qAs_mem g1, ?_⟩))
    have hn : ¬ (j + 1 = i ∧ (qSh b base w).category = 2) := by rw [qSh_cat]; exact g2
    simp only [Bool.and_eq_true, Bool.not_eq_true', Bool.and_eq_false_iff, beq_eq_false_iff_ne]
    refine ⟨e, ?_⟩
    by_cases e1 : j + 1 = i
    · exact Or.inr (fun z => hn ⟨e1, z⟩)
    · exact Or.inl e1
/-- behind a store whose value nobody looks at -/
theorem qLs.st0 {b base nL i : Nat} {lsM ls' : Array Slot} {ls : PV} {w0 : Value} (h : qLs b base nL lsM ls)
    (h' : lv_has ls' nL ((i, w0) :: (qAs b base ls).filter (fun q => !(q.1 == i) && !(q.1 + 1 == i && q.2.category == 2)))) : qLs b base nL ls' ((pClr ls i).set i none) := by
  refine ⟨h'.1, by rw [List.length_set, pClr_len]; exact h.2.1, h'.2.1, fun j w hj => ?_⟩
  by_cases e : j = i
  · subst e
    rw [List.getElem?_set_self'] at hj
    cases hl : (pClr ls j)[j]? with
    | none => rw [hl] at hj; simp at hj
    | some o => rw [hl] at hj; simp at hj
  · rw [List.getElem?_set_ne (Ne.symm e)] at hj
    obtain ⟨g1, g2⟩ := pClr_get hj
    refine h'.2.2 (j, qSh b base w) (List.mem_cons_of_mem _ (List.mem_filter.mpr ⟨qAs_mem g1, ?_⟩))
    have hn : ¬ (j + 1 = i ∧ (qSh b base w).category = 2) := by rw [qSh_cat]; exact g2
    simp only [Bool.and_eq_true, Bool.not_eq_true', Bool.and_eq_false_iff, beq_eq_false_iff_ne]
    refine ⟨e, ?_⟩
    by_cases e1 : j + 1 = i
    · exact Or.inr (fun z => hn ⟨e1, z⟩)
    · exact Or.inl e1
/-- behind a store of two slots -/
theorem qLs.st2 {b base nL i : Nat} {lsM ls' : Array Slot} {ls : PV} {v : Value} (h : qLs b base nL lsM ls)
    (h' : lv_has ls' nL ((i, qSh b base v) :: (qAs b base ls).filter (fun q => !(q.1 == i) && (!(q.1 == i + 1) && !(q.1 + 1 == i && q.2.category == 2))))) : qLs b base nL ls' (pSet2 ls i v) := by
  refine ⟨h'.1, by unfold pSet2; rw [List.length_set, List.length_set, pClr_len]; exact h.2.1, h'.2.1, fun j w hj => ?_⟩
  unfold pSet2 at hj
  by_cases e0 : j = i + 1
  · subst e0
    rw [List.getElem?_set_self'] at hj
    cases hl : ((pClr ls i).set i (some v))[i + 1]? with
    | none => rw [hl] at hj; simp at hj
    | some o => rw [hl] at hj; simp at hj
  · rw [List.getElem?_set_ne (Ne.symm e0)] at hj
    by_cases e : j = i
    · subst e
      rw [List.getElem?_set_self'] at hj
      have hw : w = v := by
        cases hl : (pClr ls j)[j]? with
        | none => rw [hl] at hj; simp at hj
        | some o => rw [hl] at hj; simp at hj; exact hj.symm
      rw [hw]
      exact h'.2.2 (j, qSh b base v) List.mem_cons_self
    · rw [List.getElem?_set_ne (Ne.symm e)] at hj
      obtain ⟨g1, g2⟩ := pClr_get hj
      refine h'.2.2 (j, qSh b base w) (List.mem_cons_of_mem _ (List.mem_filter.mpr ⟨qAs_mem g1, ?_⟩))
      have hn : ¬ (j + 1 = i ∧ (qSh b base w).category = 2) := by rw [qSh_cat]; exact g2
      simp only [Bool.and_eq_true, Bool.not_eq_true', Bool.and_eq_false_iff, beq_eq_false_iff_ne]
      refine ⟨e, e0, ?_⟩
      by_cases e1 : j + 1 = i
      · exact Or.inr (fun z => hn ⟨e1, z⟩)
      · exact Or.inl e1
/-! the words -/
/-- words that go over to a callee's start -/
def qW (w : Cond) : Bool := match w with
  | .castable .. => true
  | .declares _ => true
  | .fieldLinkNest .. => true
  | .methodLinkNest .. => true
  | .arrayOver _ => true
  | w => goodWord w
theorem qW_warm {w : Cond} (hq : qW w = true) {s U : State} {a a' : Array Value} (hW : s.WarmedH U.vm) (h : w.before a s = true) : w.before a' U = true := by
  by_cases hg : goodWord w = true
  · exact word_at hW (good_of_word hg) h
  · cases w <;> first
      | exact absurd hq hg
      | exact va_tabs rfl (rfl : (s.setVm U.vm).vm = U.vm) (by rw [Cond.castable_setVm hW.alike]; exact h)
      | exact va_tabs rfl (rfl : (s.setVm U.vm).vm = U.vm) (by rw [Cond.declares_setVm hW.alike]; exact h)
      | exact va_tabs rfl (rfl : (s.setVm U.vm).vm = U.vm) (Cond.fieldLinkNest_warmed hW h)
      | exact va_tabs rfl (rfl : (s.setVm U.vm).vm = U.vm) (Cond.methodLinkNest_warmed hW h)
      | exact (Cond.arrayOver_setVmC (args := a) hW.alike _).trans h
/-- WHAT HOLDS OF THE TABLES at a frame's start -/
def qCtx (D : va_G) (dA : Nat → ClassId) (base : Nat) (s : State) : Prop :=
  (∀ w ∈ lw_tbl, qW w = true → ∀ a : Array Value, w.before a s = true) ∧
  (∀ ci, ci < 12 → u_Kn s (qOwn ci) (qTf ci) (pF ci) (D.1 ci) (D.2 ci)) ∧
  (∀ kd, 12 ≤ kd → kd ≤ 19 → qArr dA kd s) ∧ qScr dA s ∧ base ≤ s.heap.size ∧
  vx_Zq Bundle.tN "UNASSIGNED_STACK" Bundle.steD (fun q => base ≤ q) s s.heap ∧ vx_Zq Bundle.tN "SUPPRESSED_SENTINEL" Bundle.listD (fun q => base ≤ q) s s.heap ∧
  (∀ (j : Nat) (t : Nat × Nat × Nat × Nat × Nat × Nat), qTH[j]? = some t → ∃ (tx : String) (sa : Nat), vk_R RX9 t.2.1 tx sa s) ∧
  (∀ x y : Nat, x < 3 → y < 3 → x ≠ y → va_Nc (qEx x) (qEx y) s)
/-- it goes over to a callee's start -/
theorem qCtx.moved {D : va_G} {dA : Nat → ClassId} {base : Nat} {s U : State} (h : qCtx D dA base s) (hW : s.WarmedH U.vm) (hz : base ≤ U.heap.size) (hq : ∀ q : Nat, q < s.heap.size → ¬ base ≤ q → U.heap[q]? = s.heap[q]?) : qCtx D dA base U := by
  obtain ⟨h1, h2, h3, h4, h5, h6, h7, h8, h9⟩ := h
  exact ⟨fun w hw hk a => qW_warm hk hW (h1 w hw hk a), fun ci hc => u_Kn_moved hW.alike (h2 ci hc), fun kd z1 z2 => (h3 kd z1 z2).moved hW.alike, h4.moved hW.alike, hz,
    vx_Zq.moved hW.alike (h6.kept hq), vx_Zq.moved hW.alike (h7.kept hq), fun j t ht => by obtain ⟨tx, sa, hv⟩ := h8 j t ht; exact ⟨tx, sa, vk_R.warm hW hv⟩, fun x y hx hy hn => va_Nc.moved hW.alike (h9 x y hx hy hn)⟩
