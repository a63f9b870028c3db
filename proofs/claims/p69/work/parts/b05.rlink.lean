/-! ===== THE SERVERS AGREE: what a state K says of it ===== -/
/-- an entry that can be -/
def eG (e : ENT) : Prop := e 0 = Int32.ofNat (tm e) ∧ eOk e ∧ (¬ (1 ≤ e 1 ∧ e 1 ≤ 3) → e 1 = 4 ∨ e 5 = 0)
/-- the term of the entry with an index; 0 ahead of all -/
def tAt (L : List ENT) : Nat → Int32
  | 0 => 0
  | j + 1 => match L[j]? with | some e => e 0 | none => 0
theorem tAt_s (L : List ENT) (j : Nat) : tAt L (j + 1) = (match L[j]? with | some e => e 0 | none => 0) := rfl
theorem tAt_ag {L M : List ENT} {i x : Nat} (h : ag L M i) (hx : x ≤ i) : tAt L x = tAt M x := by
  cases x with
  | zero => rfl
  | succ j => rw [tAt_s, tAt_s, h.get (j := j) (by omega)]
theorem tAt_some {L : List ENT} {j : Nat} {e : ENT} (h : L[j]? = some e) : tAt L (j + 1) = e 0 := by
  rw [tAt_s, h]
section VIEW
variable {K : KK} {s a : Nat} {F : List ENT}
theorem kA_of (h : K.1 18 s 0 = Int32.ofNat a) (ha : a < 2147483648) : kA K s = a := by
  unfold kA; rw [h]; exact (i32_ix ha).1
theorem kC_of {c : Nat} (h : K.1 15 s 0 = Int32.ofNat c) (hc : c < 2147483648) : kC K s = c := by
  unfold kC; rw [h]; exact (i32_ix hc).1
theorem fu_len (hl : K.2.1 s = F.drop a) : (K.2.1 s).length = F.length - a := by rw [hl, List.length_drop]
theorem fu_last (h : K.1 18 s 0 = Int32.ofNat a) (hl : K.2.1 s = F.drop a) (ha : a ≤ F.length) : sLast K s = Int32.ofNat F.length := by
  rw [sLast_of h, fu_len hl]
  congr 1; omega
theorem fu_ent (h : K.1 18 s 0 = Int32.ofNat a) (hl : K.2.1 s = F.drop a) (ha : a ≤ F.length) (hb : F.length < 16777216) {p : Nat} (hp : p < 16777216) : sEnt K s (Int32.ofNat (p + 1)) = if a ≤ p then F[p]? else none := by
  unfold sEnt
  by_cases c : a ≤ p
  · rw [if_neg (show ¬ Int32.ofNat (p + 1) ≤ K.1 18 s 0 from by rw [h, i32_le (by omega) (by omega)]; omega), if_pos c]
    by_cases c2 : p + 1 ≤ F.length
    · rw [if_pos (show Int32.ofNat (p + 1) ≤ sLast K s from by rw [fu_last h hl ha, i32_le (by omega) (by omega)]; omega), h, show (Int32.ofNat (p + 1) - Int32.ofNat a - 1 : Int32) = Int32.ofNat (p - a) from by
        rw [i32_sub0 (by omega), show (1 : Int32) = Int32.ofNat 1 from rfl, i32_sub0 (by omega)]; congr 1; omega, (i32_ix (by omega)).1, hl, List.getElem?_drop]
      congr 1; omega
    · rw [if_neg (show ¬ Int32.ofNat (p + 1) ≤ sLast K s from by rw [fu_last h hl ha, i32_le (by omega) (by omega)]; omega), List.getElem?_eq_none (by omega)]
  · rw [if_pos (show Int32.ofNat (p + 1) ≤ K.1 18 s 0 from by rw [h, i32_le (by omega) (by omega)]; omega), if_neg c]
theorem fu_tix (h : K.1 18 s 0 = Int32.ofNat a) (hl : K.2.1 s = F.drop a) (ht : K.1 18 s 1 = tAt F a) (hb : F.length < 16777216) {x : Nat} (h1 : a ≤ x) (h2 : x ≤ F.length) : sTix K s (Int32.ofNat x) = tAt F x := by
  unfold sTix
  by_cases c : x = a
  · rw [if_pos (by rw [h, c]), c, ht]
  · rw [if_neg (fun z => c ((i32_eq (by omega) (by omega)).mp (z.trans h)))]
    obtain ⟨j, rfl⟩ : ∃ j, x = j + 1 := ⟨x - 1, by omega⟩
    rw [fu_ent h hl (by omega) hb (by omega), if_pos (by omega)]
    have hj : j < F.length := by omega
    rw [List.getElem?_eq_getElem hj]
    exact (tAt_some (List.getElem?_eq_getElem hj)).symm
theorem fu_lt (hl : K.2.1 s = F.drop a) (ha : a ≤ F.length) (ht : K.1 18 s 1 = tAt F a) (hE : ∀ e, e ∈ F → eG e) : sLastT K s = Int32.ofNat (ltm F) := by
  unfold sLastT
  rw [hl, List.getLast?_eq_getElem?, List.getElem?_drop, List.length_drop]
  by_cases c : a = F.length
  · rw [show (F[a + (F.length - a - 1)]? : Option ENT) = none from List.getElem?_eq_none (by omega)]
    show K.1 18 s 1 = _
    rw [ht, c]
    unfold ltm
    rw [List.getLast?_eq_getElem?]
    cases hn : F.length with
    | zero => rw [List.getElem?_eq_none (by omega)]; rfl
    | succ n =>
      have hj : n < F.length := by omega
      rw [tAt_some (List.getElem?_eq_getElem hj), show n + 1 - 1 = n from rfl, List.getElem?_eq_getElem hj]
      exact (hE _ (List.getElem_mem hj)).1
  · have hj : F.length - 1 < F.length := by omega
    rw [show a + (F.length - a - 1) = F.length - 1 by omega, List.getElem?_eq_getElem hj]
    unfold ltm
    rw [List.getLast?_eq_getElem?, List.getElem?_eq_getElem hj]
    exact (hE _ (List.getElem_mem hj)).1
theorem fu_mem {m0 : Int32} (hl : K.2.1 s = F.drop a) (hm : K.1 18 s 2 = sMemL (F.take a) m0) : sMem K s = sMemL F m0 := by
  have app : ∀ (l m : List ENT) (d : Int32), sMemL (l ++ m) d = sMemL m (sMemL l d) := fun l => by
    induction l with
    | nil => intro m d; rfl
    | cons x l ih => intro m d; exact ih m _
  unfold sMem
  rw [hl, hm, ← app, List.take_append_drop]
end VIEW
/-! the numbers of a server -/
def kT (K : KK) (s : Nat) : Nat := (K.1 5 s 0).toNatClampNeg
def kR (K : KK) (s : Nat) : Nat := (K.1 12 s 0).toNatClampNeg
def kP (K : KK) (s : Nat) : Option Nat := if K.1 6 s 0 = -1 then none else some (K.1 6 s 0).toNatClampNeg
def kY (K : KK) (s v : Nat) : Bool := sBit (K.1 16 s 0) v
/-- its log, its snapshot, what it has committed -/
def nA (m0 : Int32) (A B : Nat) (K : KK) (G : GG) (s : Nat) : Prop := (∃ a c : Nat, K.1 18 s 0 = Int32.ofNat a ∧ K.1 15 s 0 = Int32.ofNat c ∧ a ≤ c ∧ c ≤ (gF G s).length ∧ K.2.1 s = (gF G s).drop a ∧ K.1 18 s 1 = tAt (gF G s) a ∧ K.1 18 s 2 = sMemL ((gF G s).take a) m0 ∧ cov G (gF G s) (kT K s) c ∧ a ≤ A) ∧ (gF G s).length ≤ B ∧ ∀ e, e ∈ gF G s → eG e
/-- its term, role, vote, yeses; k: what the term can grow -/
def nB (k : Nat) (K : KK) (s : Nat) : Prop := K.1 5 s 0 = Int32.ofNat (kT K s) ∧ kT K s + k ≤ 1000000000 ∧ K.1 12 s 0 = Int32.ofNat (kR K s) ∧ kR K s ≤ 3 ∧ (K.1 6 s 0 = -1 ∨ ∃ c, c < 7 ∧ K.1 6 s 0 = Int32.ofNat c) ∧ ∃ y, y < 128 ∧ K.1 16 s 0 = Int32.ofNat y
/-- next and matched of a leader; a log of one that sounds or stands -/
def nC (K : KK) (G : GG) (s : Nat) : Prop := (kR K s = 3 → (gF G s).length ≤ gA G (kT K s) s ∧ ∀ q, q < 7 → ∃ nx mt : Nat, K.1 2 s q = Int32.ofNat nx ∧ 1 ≤ nx ∧ nx ≤ (gF G s).length + 1 ∧ K.1 3 s q = Int32.ofNat mt ∧ mt ≤ (gF G s).length ∧ (¬ q = s → mt ≤ gA G (kT K s) q)) ∧ (kR K s = 1 ∨ kR K s = 2 → (K.2.1 s).length < 48)
def mT (u : MSG) : Nat := (u.1 4).toNatClampNeg
/-- a message -/
def uOk (m0 : Int32) (A k : Nat) (G : GG) (u : MSG) : Prop :=
  mWf u ∧ ¬ mF u = mS u ∧ u.1 4 = Int32.ofNat (mT u) ∧ (mT u + k ≤ 1000000001 ∧ (sBears u = true → mT u + k ≤ 1000000000)) ∧ (u.1 5 = 0 ∨ u.1 5 = 1) ∧ (u.1 1 = 2 ∨ u.1 1 = 4 → u.1 9 = 0) ∧
  (u.1 1 = 3 → ∃ CL, gV G (mT u) (mF u) = some (mF u, CL) ∧ u.1 6 = Int32.ofNat CL.length ∧ u.1 7 = Int32.ofNat (ltm CL) ∧ CL.length ≤ 12400) ∧
  (u.1 1 = 4 → ¬ u.1 5 = 0 → ∃ VL, gV G (mT u) (mF u) = some (mS u, VL)) ∧
  (u.1 1 = 5 → ∃ x c8 : Nat, gD G (mT u) = some (mF u) ∧ u.1 6 = Int32.ofNat x ∧ u.1 7 = tAt (gL G (mT u)) x ∧ x + u.2.2.length ≤ (gL G (mT u)).length ∧ u.2.2 = ((gL G (mT u)).drop x).take u.2.2.length ∧ u.2.2.length ≤ 4 ∧ u.1 9 = Int32.ofNat u.2.2.length ∧ u.1 8 = Int32.ofNat c8 ∧ c8 ≤ (gL G (mT u)).length ∧ cov G (gL G (mT u)) (mT u) c8) ∧
  (u.1 1 = 6 → (¬ u.1 5 = 0 → ∃ y : Nat, u.1 6 = Int32.ofNat y ∧ y ≤ gA G (mT u) (mF u)) ∧ (u.1 5 = 0 → ∃ y : Nat, u.1 6 = Int32.ofNat y ∧ (y = 0 ∨ gD G (mT u) = some (mS u) ∧ y ≤ (gL G (mT u)).length))) ∧
  (u.1 1 = 7 → ∃ (r : ENT) (y : Nat), u.2.1 = some r ∧ gD G (mT u) = some (mF u) ∧ r 0 = Int32.ofNat y ∧ u.1 6 = Int32.ofNat y ∧ y ≤ (gL G (mT u)).length ∧ y ≤ A ∧ r 1 = tAt (gL G (mT u)) y ∧ r 2 = sMemL ((gL G (mT u)).take y) m0 ∧ cov G (gL G (mT u)) (mT u) y)
def gAll (m0 : Int32) (A B : Nat) (G : GG) : Prop := (∃ n : Nat, n < 128 ∧ m0 = Int32.ofNat n) ∧ (∀ t, ¬ gD G t = none → (gL G t).length ≤ B ∧ ∀ e, e ∈ gL G t → eG e) ∧ A + 48 ≤ B ∧ B ≤ 12400
def kAll (m0 : Int32) (A B k : Nat) (K : KK) (G : GG) : Prop := cI m0 (kT K) (kR K) (kP K) (kY K) G ∧ (∀ s, s < 7 → nA m0 A B K G s ∧ nB k K s ∧ nC K G s) ∧ (∀ u, u ∈ K.2.2 → uOk m0 A k G u) ∧ gAll m0 A B G
/-- a ghost that says more -/
def gLe (G G' : GG) : Prop := (∀ t c, gD G t = some c → gD G' t = some c) ∧ (∀ t, ¬ gD G t = none → ∃ N, gL G' t = gL G t ++ N) ∧ (∀ t v x, gV G t v = some x → gV G' t v = some x) ∧ (∀ t v, v < 7 → gA G t v ≤ gA G' t v) ∧ ∀ t i n, gC G t i n → gC G' t i n
theorem gLe.rf (G : GG) : gLe G G := ⟨fun _ _ h => h, fun _ _ => ⟨[], (List.append_nil _).symm⟩, fun _ _ _ h => h, fun _ _ _ => Nat.le_refl _, fun _ _ _ h => h⟩
theorem gLe.agx {G G' : GG} (h : gLe G G') {t i : Nat} {L : List ENT} (hd : ¬ gD G t = none) (ha : ag L (gL G t) i) : ag L (gL G' t) i := by
  obtain ⟨N, hN⟩ := h.2.1 t hd
  rw [hN]; exact ha.ap N
theorem gLe.sm {G G' : GG} (h : gLe G G') {t i : Nat} (hd : ¬ gD G t = none) (hi : i ≤ (gL G t).length) : ag (gL G' t) (gL G t) i := (h.agx hd (ag.rf hi)).sy
theorem gLe.cv {G G' : GG} {m0 : Int32} (h : gLe G G') (hC : iC m0 G) {L : List ENT} {t k : Nat} (hc : cov G L t k) : cov G' L t k := by
  rcases hc with z | ⟨t1, i1, n1, z1, z2, z3, z4⟩
  · exact Or.inl z
  · exact Or.inr ⟨t1, i1, n1, h.2.2.2.2 _ _ _ z1, z2, z3, h.agx (hC _ _ _ z1).1 z4⟩
theorem uOk.ex {G G' : GG} {m0 : Int32} {A k : Nat} {u : MSG} (h : gLe G G') (hC : iC m0 G) (ho : uOk m0 A k G u) (hF7 : mF u < 7) : uOk m0 A k G' u := by
  obtain ⟨o1, o2, o3, o4, o5, o6, o7, o8, o9, o10, o11⟩ := ho
  have nn : ∀ {t c : Nat}, gD G t = some c → ¬ gD G t = none := fun z y => by rw [z] at y; cases y
  refine ⟨o1, o2, o3, o4, o5, o6, fun z => ?_, fun z y => ?_, fun z => ?_, fun z => ?_, fun z => ?_⟩
  · obtain ⟨CL, q1, q2⟩ := o7 z
    exact ⟨CL, h.2.2.1 _ _ _ q1, q2⟩
  · obtain ⟨VL, q1⟩ := o8 z y
    exact ⟨VL, h.2.2.1 _ _ _ q1⟩
  · obtain ⟨x, c8, q1, q2, q3, q4, q5, q6, q7, q8, q9, q10⟩ := o9 z
    have hd := nn q1
    obtain ⟨N, hN⟩ := h.2.1 _ hd
    have hs : ∀ i, i ≤ (gL G (mT u)).length → ag (gL G' (mT u)) (gL G (mT u)) i := fun i hi => h.sm hd hi
    refine ⟨x, c8, h.1 _ _ q1, q2, q3.trans (tAt_ag (hs x (by omega)).sy (Nat.le_refl _)), by rw [hN, List.length_append]; omega, ?_, q6, q7, q8, by rw [hN, List.length_append]; omega, (h.cv hC q10).mv (hs c8 q9)⟩
    rw [hN, List.drop_append_of_le_length (by omega), List.take_append_of_le_length (by rw [List.length_drop]; omega)]
    exact q5
  · refine ⟨fun y => ?_, fun y => ?_⟩
    · obtain ⟨i, q1, q2⟩ := (o10 z).1 y
      exact ⟨i, q1, Nat.le_trans q2 (h.2.2.2.1 _ _ hF7)⟩
    · obtain ⟨i, q1, q2⟩ := (o10 z).2 y
      refine ⟨i, q1, ?_⟩
      rcases q2 with q | ⟨q, q'⟩
      · exact Or.inl q
      · obtain ⟨N, hN⟩ := h.2.1 _ (nn q)
        exact Or.inr ⟨h.1 _ _ q, by rw [hN, List.length_append]; omega⟩
  · obtain ⟨r, y, q1, q2, q3, q4, q5, q6, q7, q8, q9⟩ := o11 z
    have hd := nn q2
    obtain ⟨N, hN⟩ := h.2.1 _ hd
    have hs := h.sm hd q5
    exact ⟨r, y, q1, h.1 _ _ q2, q3, q4, by rw [hN, List.length_append]; omega, q6, q7.trans (tAt_ag hs.sy (Nat.le_refl _)), q8.trans (by rw [hs.2.2]), (h.cv hC q9).mv hs⟩
/-! frames -/
def relF (f : Nat) : Prop := f = 2 ∨ f = 3 ∨ f = 5 ∨ f = 6 ∨ f = 12 ∨ f = 15 ∨ f = 16 ∨ f = 18
/-- a server's numbers that count are the same -/
def sEq (K K' : KK) (i : Nat) : Prop := (∀ f j, relF f → K'.1 f i j = K.1 f i j) ∧ K'.2.1 i = K.2.1 i
theorem sEq.t {K K' : KK} {i : Nat} (h : sEq K K' i) : kT K' i = kT K i := by unfold kT; rw [h.1 5 0 (by unfold relF; omega)]
