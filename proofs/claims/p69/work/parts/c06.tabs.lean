/-! ===== TABLES: what is committed, applied ===== -/
def apR (t : Nat → Int32) (c ky : Nat) (r : ENT) : Nat → Int32 :=
  if r 3 ≤ t (8 + c) then t
  else if r 1 = 1 then fUp (fUp (fUp t (8 + c) (r 3)) ky (r 5)) (12 + c) (fUp t (8 + c) (r 3) ky)
  else if r 1 = 2 then fUp (fUp (fUp t (8 + c) (r 3)) ky (fUp t (8 + c) (r 3) ky + r 5)) (12 + c) (fUp (fUp t (8 + c) (r 3)) ky (fUp t (8 + c) (r 3) ky + r 5) ky)
  else if fUp t (8 + c) (r 3) ky = r 6 then fUp (fUp (fUp t (8 + c) (r 3)) ky (r 5)) (12 + c) 1
  else fUp (fUp (fUp t (8 + c) (r 3)) ky (fUp t (8 + c) (r 3) ky)) (12 + c) 0
def tbS (t : Nat → Int32) (e : ENT) : Nat → Int32 := if 1 ≤ e 1 ∧ e 1 ≤ 3 then apR t (e 2).toNatClampNeg (e 4).toNatClampNeg e else t
def tb (L : List ENT) : Nat → Int32 := L.foldl tbS (fun _ => 0)
theorem kSet_row (K : KK) (s k : Nat) (v : Int32) : (kSet K 19 s k v).1 19 s = fUp (K.1 19 s) k v := funext fun j => by
  rw [kSet_1]
  unfold fUp
  by_cases e : j = k
  · rw [if_pos ⟨rfl, rfl, e⟩, if_pos e]
  · rw [if_neg (fun z => e z.2.2), if_neg e]
theorem kApply_row (K : KK) (s c ky : Nat) (r : ENT) : (kApply K s c ky r).1 19 s = apR (K.1 19 s) c ky r := by
  have e1 : (kAp1 K s c r).1 19 s = fUp (K.1 19 s) (8 + c) (r 3) := kSet_row _ _ _ _
  unfold kApply apR
  split
  · rfl
  · split
    · rw [kSet_row, kSet_row, e1]
    · split
      · rw [kSet_row, kSet_row, e1]
      · rw [e1]
        split
        · rw [kSet_row, kSet_row, e1]
        · rw [kSet_row, kSet_row, e1]
theorem kAnsE_row (K : KK) (s : Nat) (e : ENT) : (kAnsE K s e).1 19 s = tbS (K.1 19 s) e := by
  unfold kAnsE tbS
  split
  · rw [← kApply_row]
    exact funext fun j => kAns2_1 (by omega)
  · rfl
/-- of a request: its client, its key are some -/
def okE (e : ENT) : Prop := 1 ≤ e 1 ∧ e 1 ≤ 3 → (e 2).toNatClampNeg < 4 ∧ (e 4).toNatClampNeg < 8
theorem okE.of {e : ENT} (h : eOk e) : okE e := fun z => by
  obtain ⟨⟨c, hc, h2⟩, k, hk, h4⟩ := h.2 z
  rw [h2, h4, (i32_ix (by omega)).1, (i32_ix (by omega)).1]
  exact ⟨hc, hk⟩
theorem fUp_cg {t t' : Nat → Int32} {k : Nat} {v v' : Int32} (h : ∀ j, j < 16 → t j = t' j) (hv : v = v') : ∀ j, j < 16 → fUp t k v j = fUp t' k v' j := fun j hj => by
  unfold fUp
  split
  · exact hv
  · exact h j hj
theorem apR_cg {t t' : Nat → Int32} {c ky : Nat} {r : ENT} (h : ∀ j, j < 16 → t j = t' j) (hc : c < 4) (hk : ky < 8) : ∀ j, j < 16 → apR t c ky r j = apR t' c ky r j := by
  have h1 := fUp_cg (k := 8 + c) (v := r 3) h rfl
  have hky := h1 ky (by omega)
  unfold apR
  rw [h (8 + c) (by omega), hky]
  split
  · exact h
  · split
    · exact fUp_cg (fUp_cg h1 rfl) rfl
    · split
      · refine fUp_cg (fUp_cg h1 rfl) (fUp_cg h1 rfl ky (by omega))
      · split
        · exact fUp_cg (fUp_cg h1 rfl) rfl
        · exact fUp_cg (fUp_cg h1 rfl) rfl
theorem tbS_cg {t t' : Nat → Int32} {e : ENT} (h : ∀ j, j < 16 → t j = t' j) (he : okE e) : ∀ j, j < 16 → tbS t e j = tbS t' e j := by
  unfold tbS
  by_cases c : 1 ≤ e 1 ∧ e 1 ≤ 3
  · rw [if_pos c, if_pos c]; exact apR_cg h (he c).1 (he c).2
  · rw [if_neg c, if_neg c]; exact h
theorem tb_app (L : List ENT) (e : ENT) : tb (L ++ [e]) = tbS (tb L) e := by
  unfold tb; rw [List.foldl_append]; rfl
/-- r is the table of what is committed up to c -/
def hst (G : GG) (c : Nat) (r : Nat → Int32) : Prop := (c = 0 ∧ ∀ j, j < 16 → r j = 0) ∨ ∃ t i n, gC G t i n ∧ c ≤ i ∧ ∀ j, j < 16 → r j = tb ((gL G t).take c) j
section HST
variable {m0 : Int32} {A B k s : Nat} {K K' : KK} {G G' : GG}
theorem hst.cg {c : Nat} {r r' : Nat → Int32} (h : hst G c r) (hr : ∀ j, j < 16 → r' j = r j) : hst G c r' := by
  rcases h with ⟨h1, h2⟩ | ⟨t, i, n, h1, h2, h3⟩
  · exact Or.inl ⟨h1, fun j hj => (hr j hj).trans (h2 j hj)⟩
  · exact Or.inr ⟨t, i, n, h1, h2, fun j hj => (hr j hj).trans (h3 j hj)⟩
theorem hst.up {c : Nat} {r : Nat → Int32} (h : hst G c r) (hG : gLe G G') (hC : iC m0 G) : hst G' c r := by
  rcases h with ⟨h1, h2⟩ | ⟨t, i, n, h1, h2, h3⟩
  · exact Or.inl ⟨h1, h2⟩
  · refine Or.inr ⟨t, i, n, hG.2.2.2.2 _ _ _ h1, h2, fun j hj => (h3 j hj).trans ?_⟩
    obtain ⟨hd, q1, q2, q3, -⟩ := hC _ _ _ h1
    obtain ⟨N, hN⟩ := hG.2.1 t hd
    rw [hN, List.take_append_of_le_length (by omega)]
theorem kAll.cEq (h : kAll m0 A B k K G) {t1 i1 n1 t2 i2 n2 c : Nat} (h1 : gC G t1 i1 n1) (h2 : gC G t2 i2 n2) (c1 : c ≤ i1) (c2 : c ≤ i2) : (gL G t1).take c = (gL G t2).take c := by
  obtain ⟨d, f, r, w, p, a, s6, s7, cc, m⟩ := h.1
  have key : ∀ {t1 i1 n1 t2 i2 n2 : Nat}, gC G t1 i1 n1 → gC G t2 i2 n2 → c ≤ i1 → t1 < t2 → (gL G t1).take c = (gL G t2).take c := fun {t1 i1 n1 t2 i2 n2} h1 h2 c1 hlt => by
    have q := lcAll d w s7 cc m t2 t1 n1 i1 h1 hlt (cc _ _ _ h2).1
    exact (q.sy.ut.le c1).2.2
  rcases Nat.lt_trichotomy t1 t2 with z | z | z
  · exact key h1 h2 c1 z
  · rw [z]
  · exact (key h2 h1 c2 z).symm
theorem hst.eq (h : kAll m0 A B k K G) {c : Nat} {r r' : Nat → Int32} (h1 : hst G c r) (h2 : hst G c r') : ∀ j, j < 16 → r j = r' j := by
  rcases h1 with ⟨a1, a2⟩ | ⟨t, i, n, a1, a2, a3⟩ <;> rcases h2 with ⟨b1, b2⟩ | ⟨t', i', n', b1, b2, b3⟩
  · exact fun j hj => (a2 j hj).trans (b2 j hj).symm
  · intro j hj; rw [a2 j hj, b3 j hj, a1]; rfl
  · intro j hj; rw [b2 j hj, a3 j hj, b1]; rfl
  · intro j hj; rw [a3 j hj, b3 j hj, h.cEq a1 b1 a2 b2]
theorem cov.lower {L : List ENT} {t c c' : Nat} (h : cov G L t c) (hc : c' ≤ c) : cov G L t c' := h.le hc
/-- one entry more is applied -/
theorem hst.step (h : kAll m0 A B k K G) {c T : Nat} {F : List ENT} {e : ENT} {r : Nat → Int32} (hr : hst G c r) (hc : cov G F T (c + 1)) (hF : F[c]? = some e) (he : okE e) : hst G (c + 1) (tbS r e) := by
  rcases hc with z | ⟨t1, i1, n1, z1, -, z3, z4⟩
  · omega
  · refine Or.inr ⟨t1, i1, n1, z1, z3, ?_⟩
    have hget : (gL G t1)[c]? = some e := by rw [← z4.get (j := c) (by omega)]; exact hF
    have et : (gL G t1).take (c + 1) = (gL G t1).take c ++ [e] := by rw [List.take_add_one, hget]; rfl
    rw [et, tb_app]
    refine tbS_cg ?_ he
    exact hst.eq h hr (Or.inr ⟨t1, i1, n1, z1, by omega, fun _ _ => rfl⟩)
/-- what is committed is applied -/
theorem hst.appl {K1 : KK} (h' : kAll m0 A B k K' G) (hs : s < 7) (h18 : K1.1 18 s 0 = K'.1 18 s 0) (hl : K1.2.1 s = K'.2.1 s) {c : Nat} (hac : kA K' s ≤ c) (hr : hst G c (K1.1 19 s)) : ∀ n, c + n ≤ kC K' s → hst G (c + n) ((kAppl K1 s c n).1 19 s)
  | 0, _ => hr
  | n + 1, hn => by
    have ih := hst.appl h' hs h18 hl hac hr n (by omega)
    obtain ⟨⟨⟨a, c0, a1, a2, a3, a4, a5, a6, a7, a8, a9⟩, aB, aE⟩, -⟩ := h'.2.1 s hs
    have hB := h'.2.2.2.2.2.2
    have ec : kC K' s = c0 := kC_of a2 (by omega)
    have ea : kA K' s = a := kA_of a1 (by omega)
    rw [ec] at hn
    rw [ea] at hac
    have hj : c + n < (gF G s).length := by omega
    have he : sEnt K1 s (Int32.ofNat (c + (n + 1))) = some (gF G s)[c + n] := by
      have := fu_ent (K := K1) (s := s) (a := a) (F := gF G s) (h18.trans a1) (hl.trans a5) (by omega) (by omega) (p := c + n) (by omega)
      rw [show c + (n + 1) = c + n + 1 by omega, this, if_pos (by omega), List.getElem?_eq_getElem hj]
    unfold kAppl
    rw [he]
    show hst G (c + (n + 1)) ((kAnsE (kAppl K1 s c n) s (gF G s)[c + n]).1 19 s)
    rw [kAnsE_row, show c + (n + 1) = c + n + 1 by omega]
    exact hst.step h' ih (a8.le (by omega)) (List.getElem?_eq_getElem hj) (okE.of (aE _ (List.getElem_mem hj)).2.1)
end HST
def snT (r : ENT) : Nat → Int32 := fun j => r (3 + j)
def tU (G : GG) (u : MSG) : Prop := ∀ r, u.2.1 = some r → hst G (r 0).toNatClampNeg (snT r)
def TB (K : KK) (G : GG) : Prop := (∀ i, i < 7 → hst G (kC K i) (K.1 19 i) ∧ hst G (kA K i) (snT (K.1 18 i))) ∧ ∀ u, u ∈ K.2.2 → tU G u
section TBS
variable {m0 : Int32} {A B k s : Nat} {K K' : KK} {G G' : GG}
theorem tU.up {u : MSG} (h : tU G u) (hG : gLe G G') (hC : iC m0 G) : tU G' u := fun r hr => (h r hr).up hG hC
theorem TB.up (h : TB K G) (hG : gLe G G') (hC : iC m0 G) : TB K G' := ⟨fun i hi => ⟨(h.1 i hi).1.up hG hC, (h.1 i hi).2.up hG hC⟩, fun u hu => (h.2 u hu).up hG hC⟩
theorem TB.fr (h : TB K G) (hn : ∀ f i j, f = 15 ∨ f = 18 ∨ f = 19 → K'.1 f i j = K.1 f i j) (hu : ∀ u, u ∈ K'.2.2 → u ∈ K.2.2 ∨ tU G u) : TB K' G := by
  refine ⟨fun i hi => ⟨?_, ?_⟩, fun u hu' => ?_⟩
  · have e : kC K' i = kC K i := by unfold kC; rw [hn 15 i 0 (by omega)]
    rw [e]
    exact (h.1 i hi).1.cg (fun j _ => hn 19 i j (by omega))
  · have e : kA K' i = kA K i := by unfold kA; rw [hn 18 i 0 (by omega)]
    rw [e]
    exact (h.1 i hi).2.cg (fun j _ => hn 18 i (3 + j) (by omega))
  · rcases hu u hu' with z | z
    · exact h.2 u z
    · exact z
theorem TB.num (h : TB K G) (h2 : K'.2.2 = K.2.2) (hn : ∀ f i j, f = 15 ∨ f = 18 ∨ f = 19 → K'.1 f i j = K.1 f i j) : TB K' G := h.fr hn (fun u hu => Or.inl (by rw [← h2]; exact hu))
theorem TB.send {u : MSG} (h : TB K G) (hu : tU G u) : TB (kSend K u) G := h.fr (fun f i j hf => kSend_1 K u (by omega)) (fun w hw => by
  rcases kSend_net hw with z | z
  · exact Or.inl z
  · rw [z]; exact Or.inr hu)
theorem tU.z {u : MSG} (h : u.2 = (none, [])) : tU G u := fun r hr => by rw [h] at hr; cases hr
theorem TB.mlog (h : TB K G) (hs : s < 7) (q : Nat) : tU G (mLog K s q) := by
  unfold mLog
  split
  · intro r hr; cases hr
  · intro r hr
    have e : K.1 18 s = r := Option.some.inj hr
    rw [← e]
    exact (h.1 s hs).2
/-- one server's table goes on -/
theorem TB.one (h : TB K G) (hn : ∀ f i j, ¬ i = s → f = 15 ∨ f = 18 ∨ f = 19 → K'.1 f i j = K.1 f i j) (h1 : hst G (kC K' s) (K'.1 19 s)) (h2 : hst G (kA K' s) (snT (K'.1 18 s))) (hu : ∀ u, u ∈ K'.2.2 → u ∈ K.2.2 ∨ tU G u) : TB K' G := by
  refine ⟨fun i hi => ?_, fun u hu' => ?_⟩
  · by_cases e : i = s
    · rw [e]; exact ⟨h1, h2⟩
    · have e1 : kC K' i = kC K i := by unfold kC; rw [hn 15 i 0 e (by omega)]
      have e2 : kA K' i = kA K i := by unfold kA; rw [hn 18 i 0 e (by omega)]
      rw [e1, e2]
      exact ⟨(h.1 i hi).1.cg (fun j _ => hn 19 i j e (by omega)), (h.1 i hi).2.cg (fun j _ => hn 18 i (3 + j) e (by omega))⟩
  · rcases hu u hu' with z | z
    · exact h.2 u z
    · exact z
theorem kLk_2' (K : KK) (s : Nat) : (kLk K s).2 = K.2 := by
  unfold kLk kLook
  obtain ⟨n, hn⟩ : ∃ n, n = sLkN (fun k => sLkP K s (sMem K s) (Int32.ofNat (kC K s + k))) (kA K s + (K.2.1 s).length - kC K s) := ⟨_, rfl⟩
  rw [← hn]
  rcases kStep_cs (kComm K s (kC K s) n) s (sMem K s) (sMix K s) with e | e <;> rw [e]
  · exact kComm_2 _ _ _ _
  · exact kComm_2 _ _ _ _
theorem TB.lk (h : kAll m0 A B k K G) (h' : kAll m0 A B k (kLk K s) G') (hG : gLe G G') (hs : s < 7) (z : TB K G) : TB (kLk K s) G' := by
  have z1 := z.up hG h.1.2.2.2.2.2.2.2.2.1
  have hk := h.ok hs
  obtain ⟨k1, k2, k3, k4, k5, -⟩ := hk.1
  obtain ⟨n, hn⟩ : ∃ n, n = sLkN (fun k => sLkP K s (sMem K s) (Int32.ofNat (kC K s + k))) (kA K s + (K.2.1 s).length - kC K s) := ⟨_, rfl⟩
  have hle : n ≤ kA K s + (K.2.1 s).length - kC K s := by rw [hn]; exact sLkN_le _ _
  have e15 : (kLk K s).1 15 s 0 = Int32.ofNat (kC K s + n) := by
    unfold kLk kLook
    rw [← hn, kStep_1 (by omega)]
    exact kSet_at _ _ _ _ _
  have eC : kC (kLk K s) s = kC K s + n := kC_of e15 (by omega)
  have e18 : ∀ i j, (kLk K s).1 18 i j = K.1 18 i j := fun i j => kLk_1 (by omega)
  have eA : kA (kLk K s) s = kA K s := by unfold kA; rw [e18]
  have e19 : (kLk K s).1 19 s = (kAppl K s (kC K s) n).1 19 s := funext fun j => by
    unfold kLk kLook
    rw [← hn, kStep_1 (by omega)]
    exact kSet_ne (by omega)
  have h2 := kLk_2' K s
  refine z1.one (s := s) (fun f i j hi hf => ?_) ?_ ?_ (fun u hu => Or.inl (by rw [h2] at hu; exact hu))
  · unfold kLk kLook
    rw [← hn, kStep_1 (by omega)]
    exact kComm_1 (by omega) (by omega) (by omega)
  · rw [eC, e19]
    exact hst.appl h' hs (e18 s 0).symm (by rw [h2]) (by rw [eA]; exact k3) (z1.1 s hs).1 n (by rw [eC]; exact Nat.le_refl _)
  · rw [eA]
    exact (z1.1 s hs).2.cg (fun j _ => e18 s (3 + j))
theorem TB.ents {w : MSG} {m : Int32} {u : MSG} (hu : u.2 = (none, [])) (h : kAll m0 A B k K G) (h' : kAll m0 A B k (kSend (kCommTo (kAccs s K (w.1 6 + 1) w.2.2) s m) u) G') (hG : gLe G G') (hs : s < 7) (z : TB K G) : TB (kSend (kCommTo (kAccs s K (w.1 6 + 1) w.2.2) s m) u) G' := by
  have z1 := z.up hG h.1.2.2.2.2.2.2.2.2.1
  have hk := h.ok hs
  obtain ⟨k1, k2, k3, k4, k5, -⟩ := hk.1
  obtain ⟨r1, r2, -⟩ := kAccs_1' s w.2.2 K (w.1 6 + 1)
  obtain ⟨K1, hK1⟩ : ∃ K1, K1 = kAccs s K (w.1 6 + 1) w.2.2 := ⟨_, rfl⟩
  rw [← hK1] at h' r1 r2 ⊢
  have hc1 : kC K1 s = kC K s := by unfold kC; rw [r1]
  obtain ⟨n, hn⟩ : ∃ n, n = m.toNatClampNeg - kC K s := ⟨_, rfl⟩
  have hm : m.toNatClampNeg < 2147483648 := by
    have := m.toInt_lt
    show m.toInt.toNat < _
    omega
  have hK' : kCommTo K1 s m = kComm K1 s (kC K s) n := by unfold kCommTo; rw [hc1, ← hn]
  rw [hK'] at h' ⊢
  refine TB.send ?_ (tU.z hu)
  have e15 : (kComm K1 s (kC K s) n).1 15 s 0 = Int32.ofNat (kC K s + n) := kSet_at _ _ _ _ _
  have eC : kC (kComm K1 s (kC K s) n) s = kC K s + n := kC_of e15 (by omega)
  have e18 : ∀ i j, (kComm K1 s (kC K s) n).1 18 i j = K.1 18 i j := fun i j => by rw [kComm_1 (by omega) (by omega) (by omega), r1]
  have eA : kA (kComm K1 s (kC K s) n) s = kA K s := by unfold kA; rw [e18]
  have e19 : (kComm K1 s (kC K s) n).1 19 s = (kAppl K1 s (kC K s) n).1 19 s := funext fun j => kSet_ne (by omega)
  have eS : ∀ f i j, ¬ f = 32 → (kSend (kComm K1 s (kC K s) n) u).1 f i j = (kComm K1 s (kC K s) n).1 f i j := fun f i j hf => kSend_1 _ _ hf
  refine z1.one (s := s) (fun f i j hi hf => ?_) ?_ ?_ (fun v hv => Or.inl ?_)
  · rw [kComm_1 (by omega) (by omega) (by omega), r1]
  · rw [eC, e19]
    refine hst.appl h' hs ?_ ?_ ?_ (by rw [r1]; exact (z1.1 s hs).1) n ?_
    · rw [eS 18 s 0 (by omega), e18, r1]
    · rw [kSend_l, kComm_2]
    · have : kA (kSend (kComm K1 s (kC K s) n) u) s = kA K s := by unfold kA; rw [eS 18 s 0 (by omega), e18]
      rw [this]; exact k3
    · have : kC (kSend (kComm K1 s (kC K s) n) u) s = kC K s + n := kC_of ((eS 15 s 0 (by omega)).trans e15) (by omega)
      rw [this]; exact Nat.le_refl _
  · rw [eA]
    exact (z1.1 s hs).2.cg (fun j _ => e18 s (3 + j))
  · rw [kComm_2, r2] at hv; exact hv
theorem TB.inst {r : ENT} (hr : hst G (r 0).toNatClampNeg (snT r)) (z : TB K G) : TB (kInst K s (some r)) G := by
  show TB (if K.1 15 s 0 < r 0 then kTab (kSet (kCut K s (sCutN K s r) r) 15 s 0 (r 0)) s r else K) G
  split
  · have e18 : ∀ j, (kTab (kSet (kCut K s (sCutN K s r) r) 15 s 0 (r 0)) s r).1 18 s j = r j := fun j => by
      rw [kTab_1 (by omega), kSet_ne (by omega)]; exact if_pos ⟨rfl, rfl⟩
    have e15 : (kTab (kSet (kCut K s (sCutN K s r) r) 15 s 0 (r 0)) s r).1 15 s 0 = r 0 := by rw [kTab_1 (by omega), kSet_at]
    refine z.one (s := s) (fun f i j hi hf => ?_) ?_ ?_ (fun u hu => Or.inl hu)
    · rw [kTab_1 (by omega), kSet_ne (by omega), kCut_1 (by omega)]
    · unfold kC
      rw [e15]
      refine hr.cg (fun j hj => ?_)
      show (if 19 = 19 ∧ s = s then (if j < 16 then r (3 + j) else _) else _) = _
      rw [if_pos ⟨rfl, rfl⟩, if_pos hj]; rfl
    · unfold kA
      rw [e18]
      exact hr.cg (fun j _ => e18 (3 + j))
  · exact z
end TBS
theorem TB.cl (m0 : Int32) (A B : Nat) {s : Nat} (w : MSG) (hs : s < 7) : CLo m0 A B s w (fun K G K' G' => tU G w → TB K G → tU G' w ∧ TB K' G') := by
  refine ⟨fun _ _ => fun a b => ⟨a, b⟩, fun _ _ _ _ _ _ h k hw z => k (h hw z).1 (h hw z).2, fun k K G K' G' h h' hG hp hw z => ⟨hw.up hG h.1.2.2.2.2.2.2.2.2.1, ?_⟩⟩
  have z1 := z.up hG h.1.2.2.2.2.2.2.2.2.1
  rcases hp with ⟨v, h1, rfl⟩ | ⟨x, rfl⟩ | rfl | rfl | ⟨h2, rfl⟩ | ⟨u, hu, rfl⟩ | ⟨q, -, rfl⟩ | rfl | rfl | rfl | ⟨f, x, hf, hr, rfl⟩ | ⟨f, x, hf, hr, rfl⟩ | ⟨f, v, hf, rfl⟩ | ⟨m, u, hu, rfl⟩ | ⟨r, u, hr, hu, rfl⟩
  · exact z1.num rfl (fun f i j hf => kTerm_1 (by omega))
  · exact z1.num rfl (fun f i j hf => kObey_1 (by omega))
  · exact z1.num rfl (fun f i j hf => kStart_1 (by omega))
  · exact z1.num rfl (fun f i j hf => kStand_1 (by omega))
  · exact z1.num rfl (fun f i j hf => kLead_1 (by omega))
  · exact z1.send (tU.z hu)
  · exact z1.send (z1.mlog hs q)
  · exact TB.lk h h' hG hs z
  · refine z1.num ?_ (fun f i j hf => ?_)
    · unfold kGrant; split <;> rfl
    · unfold kGrant; split
      · rw [kSet_ne (by omega), kSet_ne (by omega)]
      · rfl
  · exact z1.num rfl (fun f i j hf => by unfold kYes; rw [kSet_ne (by omega)])
  · refine z1.num ?_ (fun f i j hf => kLearn_1 (by omega))
    unfold kLearn; split <;> rfl
  · exact z1.num rfl (fun f i j hf => kSet_ne (by omega))
  · exact z1.num rfl (fun f' i j hf' => kSet_ne (by omega))
  · exact TB.ents hu h h' hG hs z
  · exact (z1.inst ((hw.up hG h.1.2.2.2.2.2.2.2.2.1) r hr)).send (tU.z hu)
