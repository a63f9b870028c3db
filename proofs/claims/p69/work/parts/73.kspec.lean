/-! ===== STEPS OF A STATE, as the document says them ===== -/
/-- a message goes into the network, or is lost -/
def kSend (K : KK) (u : MSG) : KK := if K.2.2.length < 60 then kNet K (K.2.2 ++ [u]) else kSet K 32 0 0 (K.1 32 0 0 + 1)
theorem xK_send (X : XS) (o : Nat) (u : MSG) : xK (xSend X o u) o = kSend (xK X o) u := by
  unfold xSend kSend
  split <;> exact xK_same _ _ _
/-- at most four entries from an index on -/
def eFrom (K : KK) (s : Nat) (x : Int32) : List ENT := ((K.2.1 s).drop (x - K.1 18 s 0 - 1).toNatClampNeg).take 4
/-- the message of entries of server s to q, with k of the entries -/
def mEnts (K : KK) (s q k : Nat) : MSG :=
  ((mSet (mSet (mSet (mSet (mNew0 5 (Int32.ofNat s) (Int32.ofNat q) (K.1 5 s 0)) 6 (K.1 2 s q - 1)) 7 (sTix K s (K.1 2 s q - 1))) 8 (K.1 15 s 0)) 9 (Int32.ofNat k)).1, none, (eFrom K s (K.1 2 s q)).take k)
/-- what server s sends of its log to server q -/
def mLog (K : KK) (s q : Nat) : MSG :=
  if K.1 18 s 0 < K.1 2 s q then mEnts K s q (eFrom K s (K.1 2 s q)).length
  else ((mSet (mNew0 7 (Int32.ofNat s) (Int32.ofNat q) (K.1 5 s 0)) 6 (K.1 18 s 0)).1, some (K.1 18 s), [])
/-- the next index is behind the snapshot, and behind the log by one at most -/
def kNx (K : KK) (s q : Nat) : Prop := K.1 18 s 0 < K.1 2 s q → ∃ a j : Nat, K.1 18 s 0 = Int32.ofNat a ∧ K.1 2 s q = Int32.ofNat (a + 1 + j) ∧ j ≤ (K.2.1 s).length ∧ a + (K.2.1 s).length < 16777216
theorem xPlace_1 (X : XS) (o : Nat) (u : MSG) : (xK (xPlace X o u) o).1 = (xK X o).1 := by
  obtain ⟨l, h⟩ := xPlace_K X o u
  rw [h]; rfl
theorem xPlace_l (X : XS) (o : Nat) (u : MSG) : (xK (xPlace X o u) o).2.1 = (xK X o).2.1 := by
  obtain ⟨l, h⟩ := xPlace_K X o u
  rw [h]; rfl
theorem kWf_congr {K K' : KK} {i : Nat} (h : kWf K i) (h1 : K'.1 18 i 0 = K.1 18 i 0) (h2 : K'.2.1 i = K.2.1 i) : kWf K' i := by
  obtain ⟨a, h3, h4⟩ := h
  exact ⟨a, h1.trans h3, by rw [h2]; exact h4⟩
theorem sEnt_congr {K K' : KK} {i : Nat} (h1 : K'.1 18 i 0 = K.1 18 i 0) (h2 : K'.2.1 i = K.2.1 i) (x : Int32) : sEnt K' i x = sEnt K i x := by
  unfold sEnt sLast
  rw [h1, h2]
theorem sTix_congr {K K' : KK} {i : Nat} (h1 : K'.1 18 i 0 = K.1 18 i 0) (h3 : K'.1 18 i 1 = K.1 18 i 1) (h2 : K'.2.1 i = K.2.1 i) (x : Int32) : sTix K' i x = sTix K i x := by
  unfold sTix
  rw [h1, h3, sEnt_congr h1 h2]
theorem xPlace_wf {X : XS} {o s : Nat} (u : MSG) (h : kWf (xK X o) s) : kWf (xK (xPlace X o u) o) s := kWf_congr h (by rw [xPlace_1]) (by rw [xPlace_l])
theorem xPlace_ent (X : XS) (o s : Nat) (u : MSG) (x : Int32) : sEnt (xK (xPlace X o u) o) s x = sEnt (xK X o) s x := sEnt_congr (by rw [xPlace_1]) (by rw [xPlace_l]) x
theorem xPlace_tix (X : XS) (o s : Nat) (u : MSG) (x : Int32) : sTix (xK (xPlace X o u) o) s x = sTix (xK X o) s x := sTix_congr (by rw [xPlace_1]) (by rw [xPlace_1]) (by rw [xPlace_l]) x
theorem xMs.plc {X : XS} {o : Nat} {u : MSG} (ho : o < 2) (hq : qNext X o < 61) : xMs (xPlace X o u) (aM o (qNext X o)) u := by
  have h := xMs.cell (X := xPlace X o u) ho hq
  rw [dH_place] at h
  exact h
theorem mEnts_0 (K : KK) (s q : Nat) : mSet (mSet (mSet (mNew0 5 (Int32.ofNat s) (Int32.ofNat q) (K.1 5 s 0)) 6 (K.1 2 s q - 1)) 7 (sTix K s (K.1 2 s q - 1))) 8 (K.1 15 s 0) = mEnts K s q 0 := by
  unfold mEnts
  refine Prod.ext (funext fun j => ?_) rfl
  by_cases h : j = 9
  · subst h; rfl
  · exact (if_neg h).symm
theorem mEnts_9 (K : KK) (s q k : Nat) : (mEnts K s q k).1 9 = Int32.ofNat k := by
  unfold mEnts
  rfl
theorem mEnts_up {K : KK} {s q k : Nat} {e : ENT} (he : (eFrom K s (K.1 2 s q))[k]? = some e) (v : Int32) (hv : v = Int32.ofNat (k + 1)) :
    mSet ((mEnts K s q k).1, (mEnts K s q k).2.1, (mEnts K s q k).2.2.take k ++ [e]) 9 v = mEnts K s q (k + 1) := by
  subst hv
  unfold mEnts
  refine Prod.ext (funext fun j => ?_) (Prod.ext rfl ?_)
  · show (if j = 9 then _ else if j = 9 then _ else _) = if j = 9 then _ else _
    by_cases h : j = 9
    · rw [if_pos h, if_pos h]
    · rw [if_neg h, if_neg h, if_neg h]
  · show List.take k (List.take k (eFrom K s (K.1 2 s q))) ++ [e] = List.take (k + 1) (eFrom K s (K.1 2 s q))
    rw [List.take_take, Nat.min_self, List.take_add_one, he]
    rfl
/-- the entries from an index on, one by one -/
theorem eFrom_ix {K : KK} {s a j : Nat} (ha : K.1 18 s 0 = Int32.ofNat a) (hl : a + (K.2.1 s).length < 16777216) (hj : j ≤ (K.2.1 s).length) (k : Nat) (hk : k < 4) :
    (eFrom K s (Int32.ofNat (a + 1 + j)))[k]? = (K.2.1 s)[j + k]? ∧ (Int32.ofNat (a + 1 + j + k) ≤ sLast K s ↔ j + k < (K.2.1 s).length) ∧ (j + k < (K.2.1 s).length → sEnt K s (Int32.ofNat (a + 1 + j + k)) = (K.2.1 s)[j + k]?) := by
  have e1 : ∀ i : Nat, i < 16777216 → (Int32.ofNat (a + 1 + i) - Int32.ofNat a - 1).toNatClampNeg = i := fun i hi => by
    rw [Int32.ofNat_add, Int32.ofNat_add, show (Int32.ofNat a + Int32.ofNat 1 + Int32.ofNat i - Int32.ofNat a - 1 : Int32) = Int32.ofNat i from i32_sub3 _ _]
    exact (i32_ix (by omega)).1
  have e2 : sLast K s = Int32.ofNat (a + (K.2.1 s).length) := by unfold sLast; rw [ha, Int32.ofNat_add]
  refine ⟨?_, ?_, fun h => ?_⟩
  · unfold eFrom
    rw [ha, e1 j (by omega), List.getElem?_take, if_pos hk, List.getElem?_drop]
  · rw [e2, i32_le (by omega) (by omega)]; omega
  · unfold sEnt
    rw [e2, ha, if_neg (by rw [i32_le (by omega) (by omega)]; omega), if_pos (by rw [i32_le (by omega) (by omega)]; omega)]
    rw [show a + 1 + j + k = a + 1 + (j + k) by omega, e1 (j + k) (by omega)]
theorem i32_suc1 (k : Nat) : Int32.ofNat k + 1 = Int32.ofNat (k + 1) := by rw [Int32.ofNat_add]; rfl
