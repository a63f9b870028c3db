/-! ===== WHAT A LONGER STEP LEAVES BEHIND ===== -/
theorem AT.rep {m i : Nat} {ls : PV} {st : List Value} {X : XS} {Q : PO → XS → Prop} (h : (∃ g, Rep X g) → AT m i ls st X Q) : AT m i ls st X Q := fun g hg => h ⟨g, hg⟩ g hg
def kC (K : KK) (s : Nat) : Nat := (K.1 15 s 0).toNatClampNeg
def kA (K : KK) (s : Nat) : Nat := (K.1 18 s 0).toNatClampNeg
/-- a server's numbers are in their bounds -/
def sOk (K : KK) (s : Nat) : Prop := K.1 18 s 0 = Int32.ofNat (kA K s) ∧ K.1 15 s 0 = Int32.ofNat (kC K s) ∧ kA K s ≤ kC K s ∧ kC K s ≤ kA K s + (K.2.1 s).length ∧ kA K s + (K.2.1 s).length < 400000 ∧ (∀ e, e ∈ K.2.1 s → eOk e) ∧ ∃ n : Nat, n < 128 ∧ K.1 18 s 2 = Int32.ofNat n
theorem sOk.wf {K : KK} {s : Nat} (h : sOk K s) : kWf K s := ⟨_, h.1, by have := h.2.2.2.2.1; omega⟩
theorem sMemL_128 : ∀ (l : List ENT) (d : Int32), (∀ e, e ∈ l → eOk e) → (∃ n : Nat, n < 128 ∧ d = Int32.ofNat n) → ∃ n : Nat, n < 128 ∧ sMemL l d = Int32.ofNat n
  | [], d, _, h => h
  | e :: t, d, he, h => by
    unfold sMemL
    refine sMemL_128 t _ (fun x hx => he x (List.mem_cons_of_mem _ hx)) ?_
    split
    · rename_i z; exact (he e List.mem_cons_self).1 z
    · exact h
theorem sOk.m128 {K : KK} {s : Nat} (h : sOk K s) : ∃ n : Nat, n < 128 ∧ sMem K s = Int32.ofNat n := sMemL_128 _ _ h.2.2.2.2.2.1 h.2.2.2.2.2.2
/-- only what the bounds speak of is the same -/
def sSame (K K' : KK) (s : Nat) : Prop := K'.2.1 s = K.2.1 s ∧ (∀ j, j < 3 → K'.1 18 s j = K.1 18 s j)
theorem sSame.rf (K : KK) (s : Nat) : sSame K K s := ⟨rfl, fun _ _ => rfl⟩
theorem sSame.tr {K K' K2 : KK} {s : Nat} (h : sSame K K' s) (k : sSame K' K2 s) : sSame K K2 s := ⟨k.1.trans h.1, fun j hj => (k.2 j hj).trans (h.2 j hj)⟩
theorem sSame.mem {K K' : KK} {s : Nat} (h : sSame K K' s) : sMem K' s = sMem K s := by unfold sMem; rw [h.1, h.2 2 (by omega)]
theorem sSame.mix {K K' : KK} {s : Nat} (h : sSame K K' s) : sMix K' s = sMix K s := by unfold sMix; rw [h.1, h.2 0 (by omega)]
theorem sSame.ka {K K' : KK} {s : Nat} (h : sSame K K' s) : kA K' s = kA K s := by unfold kA; rw [h.2 0 (by omega)]
theorem sSame.last {K K' : KK} {s : Nat} (h : sSame K K' s) : sLast K' s = sLast K s := by unfold sLast; rw [h.1, h.2 0 (by omega)]
theorem sSame.ok {K K' : KK} {s : Nat} (h : sSame K K' s) (h15 : K'.1 15 s 0 = K.1 15 s 0) (k : sOk K s) : sOk K' s := by
  have ea := h.ka
  have ec : kC K' s = kC K s := by unfold kC; rw [h15]
  obtain ⟨h1, h2, h3, h4, h5, h6, h7⟩ := k
  unfold sOk
  rw [ea, ec, h.1, h.2 0 (by omega), h.2 2 (by omega), h15]
  exact ⟨h1, h2, h3, h4, h5, h6, h7⟩
theorem sSame.set {K : KK} {f i j : Nat} {v : Int32} (h : ¬ f = 18) (s : Nat) : sSame K (kSet K f i j v) s := ⟨rfl, fun _ _ => kSet_ne (fun z => h z.1.symm)⟩
theorem sSame.send (K : KK) (u : MSG) (s : Nat) : sSame K (kSend K u) s := ⟨by rw [kSend_l], fun _ _ => kSend_1 K u (by decide)⟩
theorem sSame.comm (K : KK) (t c n s : Nat) : sSame K (kComm K t c n) s := ⟨by rw [kComm_2], fun _ _ => kComm_1 (by decide) (by omega) (by omega)⟩
theorem sSame.step (K : KK) (t : Nat) (mm mx : Int32) (s : Nat) : sSame K (kStep K t mm mx) s := by
  unfold kStep
  split
  · exact (sSame.set (by decide) s).tr (sSame.set (by decide) s)
  · exact sSame.rf _ _
/-- what is looked at to know what is committed -/
def kLk (K : KK) (s : Nat) : KK := kLook K s (sMem K s) (sMix K s) (kC K s) (kA K s + (K.2.1 s).length - kC K s)
theorem sSame.lk (K : KK) (t s : Nat) : sSame K (kLk K t) s := (sSame.comm _ _ _ _ _).tr (sSame.step _ _ _ _ _)
/-- a leader sends to all -/
def kSnd (K : KK) (s : Nat) : KK := kAllF s (sMem K s) 7 0 K
theorem kAllF_all {P : KK → KK → Prop} (h0 : ∀ K, P K K) (ht : ∀ K K' K2, P K K' → P K' K2 → P K K2) (hs : ∀ K u, P K (kSend K u)) (s : Nat) (mm : Int32) : ∀ (n q : Nat) (K : KK), P K (kAllF s mm n q K)
  | 0, _, K => h0 K
  | n + 1, q, K => by
    unfold kAllF
    split
    · exact ht _ _ _ (hs _ _) (kAllF_all h0 ht hs s mm n (q + 1) _)
    · exact kAllF_all h0 ht hs s mm n (q + 1) _
theorem sSame.snd (K : KK) (t s : Nat) : sSame K (kSnd K t) s := kAllF_all (P := fun K K' => sSame K K' s) (fun K => sSame.rf K s) (fun _ _ _ h k => h.tr k) (fun K u => sSame.send K u s) t _ 7 0 K
theorem kSnd_1 (K : KK) (t : Nat) {f i j : Nat} (h : ¬ f = 32) : (kSnd K t).1 f i j = K.1 f i j :=
  kAllF_all (P := fun K K' => K'.1 f i j = K.1 f i j) (fun _ => rfl) (fun _ _ _ h k => k.trans h) (fun K u => kSend_1 K u h) t _ 7 0 K
/-- calls to the others -/
def kAskF (s : Nat) (mm kd tm : Int32) : Nat → Nat → KK → KK
  | 0, _, K => K
  | n + 1, q, K => kAskF s mm kd tm n (q + 1) (if ¬ q = s ∧ sBit mm q = true then kSend K (mAsk K s q kd tm) else K)
theorem xK_ask (o s : Nat) (mm kd tm : Int32) : ∀ (n q : Nat) (X : XS), xK (xAskF o s mm kd tm n q X) o = kAskF s mm kd tm n q (xK X o)
  | 0, _, _ => rfl
  | n + 1, q, X => by
    unfold xAskF kAskF
    rw [xK_ask o s mm kd tm n (q + 1)]
    split
    · rw [xK_send]
    · rfl
def kLd (K : KK) (s : Nat) : KK := kLog (kLead K s) s (K.2.1 s ++ [eNil (K.1 5 s 0) 0 0])
def kLeadA (K : KK) (s : Nat) : KK := kLk (kSnd (kLd K s) s) s
def kStandA (K : KK) (s : Nat) : KK := if sMost (sMem K s) ((kStand K s).1 16 s 0) = true then kLeadA (kStand K s) s else kAskF s (sMem K s) 3 ((kStand K s).1 5 s 0) 7 0 (kStand K s)
def kSoundA (K : KK) (s : Nat) : KK := if Int32.ofNat (K.2.1 s).length < 48 then (if sMost (sMem K s) ((kStart K s 1).1 16 s 0) = true then kStandA (kStart K s 1) s else kAskF s (sMem K s) 1 ((kStart K s 1).1 5 s 0 + 1) 7 0 (kStart K s 1)) else kSet K 14 s 0 0
/-- the steps from sounding to leading -/
def kRise (K : KK) (s : Nat) (f : Int32) : KK := if f = 1 then kSoundA K s else if f = 2 then kStandA K s else if f = 3 then kLeadA K s else K
/-! what goes beside -/
def rTot (D : XD) (o : Nat) : Nat := dR D o 0 + dR D o 1 + dR D o 2 + dR D o 3 + dR D o 4 + dR D o 5 + dR D o 6
def dRel (o n c z : Nat) (D D' : XD) : Prop :=
  (∀ a b, ¬ a = o → dR D' a b = dR D a b) ∧ (∀ a f i j, ¬ (a = o ∧ (f = 10 ∨ f = 11)) → dV D' a f i j = dV D a f i j) ∧
  dZ D' + 2 * rTot D o ≤ dZ D + 2 * rTot D' o + z ∧ 64 * dC D' + rTot D o ≤ 64 * dC D + rTot D' o + 64 * c ∧ (∀ b, b < 7 → dR D o b ≤ dR D' o b ∧ (dR D' o b ≤ dR D o b ∨ dR D' o b ≤ 2 * n))
theorem dRel.rf (o n : Nat) (D : XD) : dRel o n 0 0 D D := ⟨fun _ _ _ => rfl, fun _ _ _ _ _ => rfl, Nat.le_refl _, Nat.le_refl _, fun _ _ => ⟨Nat.le_refl _, Or.inl (Nat.le_refl _)⟩⟩
theorem dRel.tr {o n c z c' z' : Nat} {D D1 D2 : XD} (h : dRel o n c z D D1) (k : dRel o n c' z' D1 D2) : dRel o n (c + c') (z + z') D D2 := by
  obtain ⟨a1, a2, a3, a4, a5⟩ := h
  obtain ⟨b1, b2, b3, b4, b5⟩ := k
  refine ⟨fun a b z => (b1 a b z).trans (a1 a b z), fun a f i j z => (b2 a f i j z).trans (a2 a f i j z), by omega, by omega, fun b hb => ?_⟩
  have := a5 b hb
  have := b5 b hb
  omega
theorem dRel.up {o n c z c' z' : Nat} {D D1 : XD} (h : dRel o n c z D D1) (hc : c ≤ c') (hz : z ≤ z') : dRel o n c' z' D D1 := by
  obtain ⟨a1, a2, a3, a4, a5⟩ := h
  exact ⟨a1, a2, by omega, by omega, a5⟩
theorem rTot_grow {D D' : XD} {o s : Nat} (hs : s < 7) (h : ∀ b, ¬ b = s → dR D' o b = dR D o b) : rTot D' o + dR D o s = rTot D o + dR D' o s := by
  unfold rTot
  rcases (by omega : s = 0 ∨ s = 1 ∨ s = 2 ∨ s = 3 ∨ s = 4 ∨ s = 5 ∨ s = 6) with rfl | rfl | rfl | rfl | rfl | rfl | rfl
  · rw [h 1 (by decide), h 2 (by decide), h 3 (by decide), h 4 (by decide), h 5 (by decide), h 6 (by decide)]; omega
  · rw [h 0 (by decide), h 2 (by decide), h 3 (by decide), h 4 (by decide), h 5 (by decide), h 6 (by decide)]; omega
  · rw [h 0 (by decide), h 1 (by decide), h 3 (by decide), h 4 (by decide), h 5 (by decide), h 6 (by decide)]; omega
  · rw [h 0 (by decide), h 1 (by decide), h 2 (by decide), h 4 (by decide), h 5 (by decide), h 6 (by decide)]; omega
  · rw [h 0 (by decide), h 1 (by decide), h 2 (by decide), h 3 (by decide), h 5 (by decide), h 6 (by decide)]; omega
  · rw [h 0 (by decide), h 1 (by decide), h 2 (by decide), h 3 (by decide), h 4 (by decide), h 6 (by decide)]; omega
  · rw [h 0 (by decide), h 1 (by decide), h 2 (by decide), h 3 (by decide), h 4 (by decide), h 5 (by decide)]; omega
theorem dGrow.rel {D D' : XD} {o s n : Nat} (hs : s < 7) (h : dGrow D D' o s n) : dRel o n 0 0 D D' := by
  obtain ⟨h1, h2, h3, h4, h5, h6, h7, h8, h9⟩ := h
  have e := rTot_grow (D := D) (D' := D') (o := o) hs (fun b hb => h4 o b (fun z => hb z.2))
  refine ⟨fun a b z => h4 a b (fun y => z y.1), fun a f i j z => h5 a f i j (fun y => z ⟨y.1, y.2.2⟩), by omega, by omega, fun b hb => ?_⟩
  by_cases hbs : b = s
  · subst hbs; exact ⟨h8, h9⟩
  · rw [h4 o b (fun z => hbs z.2)]
    exact ⟨Nat.le_refl _, Or.inl (Nat.le_refl _)⟩
/-- the order of the messages' cells, the message in hand -/
def dInj (D : XD) (o : Nat) : Prop := ∀ j j', j < 61 → j' < 61 → dP D o j = dP D o j' → j = j'
def dHnd (o : Nat) (D D' : XD) : Prop := dP D' = dP D ∧ (dInj D o → dH D' o (dP D o 60) = dH D o (dP D o 60))
theorem dHnd.rf (o : Nat) (D : XD) : dHnd o D D := ⟨rfl, fun _ => rfl⟩
theorem dHnd.of {o : Nat} {D D' : XD} (h1 : dP D' = dP D) (h2 : dH D' = dH D) : dHnd o D D' := ⟨h1, fun _ => by rw [h2]⟩
theorem dHnd.inj {o : Nat} {D D1 : XD} (h : dHnd o D D1) (k : dInj D o) : dInj D1 o := by unfold dInj; rw [h.1]; exact k
theorem dHnd.tr {o : Nat} {D D1 D2 : XD} (h : dHnd o D D1) (k : dHnd o D1 D2) : dHnd o D D2 := ⟨k.1.trans h.1, fun hi => by
  have := k.2 (h.inj hi)
  rw [h.1] at this
  exact this.trans (h.2 hi)⟩
theorem Rep.inj {X : XS} {g : PS} (h : Rep X g) {o : Nat} (ho : o < 2) : dInj (xD X) o := (h.2.2.2.2.2.2.2.2.2.2.2.2.1 o ho).2.2.2.1
theorem Rep.d64 {X : XS} {g : PS} (h : Rep X g) {o i : Nat} (ho : o < 2) (hi : i < 7) : 64 ≤ dR (xD X) o i := (h.2.2.2.2.2.2.2.1 o i ho hi).2.2.2.2.2.1
theorem Rep.n60 {X : XS} {g : PS} (h : Rep X g) {o : Nat} (ho : o < 2) : (xK X o).2.2.length ≤ 60 := (h.2.2.2.2.2.2.1 o ho).1
def xF (X : XS) : Int32 × Int64 × Int64 × (Nat × (Nat → Int32)) := (X.2.1, X.2.2.1, X.2.2.2.1, X.2.2.2.2.1)
def mPr (X : XS) (o : Nat) : Prop := ∀ i, i < 7 → dV (xD X) o 10 i 0 = sMem (xK X o) i ∧ dV (xD X) o 11 i 0 = sMix (xK X o) i
/-- from X to Y the state o became K; c cells and z slots were made beside the logs, n bounds the logs -/
def cRel0 (o n c z : Nat) (X Y : XS) (K : KK) : Prop := xF Y = xF X ∧ (∀ a, xK Y a = if a = o then K else xK X a) ∧ dRel o n c z (xD X) (xD Y) ∧ mPr Y o
def cRel (o n c z : Nat) (X Y : XS) (K : KK) : Prop := cRel0 o n c z X Y K ∧ dHnd o (xD X) (xD Y)
theorem cRel0.k {o n c z : Nat} {X Y : XS} {K : KK} (h : cRel0 o n c z X Y K) : xK Y o = K := by rw [h.2.1, if_pos rfl]
theorem cRel.k {o n c z : Nat} {X Y : XS} {K : KK} (h : cRel o n c z X Y K) : xK Y o = K := h.1.k
theorem cRel.pr {o n c z : Nat} {X Y : XS} {K : KK} (h : cRel o n c z X Y K) : mPr Y o := h.1.2.2.2
theorem cRel.rf {X : XS} {o : Nat} (n : Nat) (h : mPr X o) : cRel o n 0 0 X X (xK X o) := ⟨⟨rfl, fun a => by by_cases e : a = o; (rw [if_pos e, e]); (rw [if_neg e]), dRel.rf _ _ _, h⟩, dHnd.rf _ _⟩
theorem cRel0.tr {o n c z c' z' : Nat} {X Y Z : XS} {K K' : KK} (h : cRel0 o n c z X Y K) (k : cRel0 o n c' z' Y Z K') : cRel0 o n (c + c') (z + z') X Z K' :=
  ⟨k.1.trans h.1, fun a => by
    rw [k.2.1 a]
    split
    · rfl
    · rename_i z
      rw [h.2.1 a, if_neg z], h.2.2.1.tr k.2.2.1, k.2.2.2⟩
theorem cRel.tr {o n c z c' z' : Nat} {X Y Z : XS} {K K' : KK} (h : cRel o n c z X Y K) (k : cRel o n c' z' Y Z K') : cRel o n (c + c') (z + z') X Z K' := ⟨h.1.tr k.1, h.2.tr k.2⟩
theorem cRel.up {o n c z c' z' : Nat} {X Y : XS} {K : KK} (h : cRel o n c z X Y K) (hc : c ≤ c') (hz : z ≤ z') : cRel o n c' z' X Y K := ⟨⟨h.1.1, h.1.2.1, h.1.2.2.1.up hc hz, h.1.2.2.2⟩, h.2⟩
/-- only numbers of the state change -/
theorem cRel.set {o n : Nat} {X : XS} {K : KK} (h : mPr X o) (hK : ∀ i, i < 7 → sSame (xK X o) K i) : cRel o n 0 0 X (xSetK X o K) K :=
  ⟨⟨rfl, fun a => rfl, dRel.rf _ _ _, fun i hi => by
    rw [xK_same]
    exact ⟨(h i hi).1.trans (hK i hi).mem.symm, (h i hi).2.trans (hK i hi).mix.symm⟩⟩, dHnd.rf _ _⟩
theorem cRel.send {o n : Nat} {X : XS} (u : MSG) (h : mPr X o) : cRel o n 0 0 X (xSend X o u) (kSend (xK X o) u) := by
  have hK : ∀ i, i < 7 → sSame (xK X o) (kSend (xK X o) u) i := fun i _ => sSame.send _ _ _
  refine ⟨⟨?_, fun a => ?_, ?_, fun i hi => ?_⟩, ?_⟩
  · unfold xSend; split <;> rfl
  · by_cases e : a = o
    · rw [if_pos e, e]; exact xK_send X o u
    · rw [if_neg e]; unfold xSend
      split
      · exact if_neg e
      · exact if_neg e
  · unfold xSend; split <;> exact dRel.rf _ _ _
  · rw [dV_send, xK_send]
    exact ⟨(h i hi).1.trans (hK i hi).mem.symm, (h i hi).2.trans (hK i hi).mix.symm⟩
  · unfold xSend
    split
    · rename_i hn
      refine ⟨rfl, fun hi => ?_⟩
      refine if_neg (fun z => ?_)
      have := hi 60 (xK X o).2.2.length (by omega) (by omega) z.2
      omega
    · exact dHnd.rf _ _
theorem cRel.all {o n s : Nat} {mm : Int32} : ∀ (k q : Nat) {X : XS}, mPr X o → cRel o n 0 0 X (xAllF o s mm k q X) (kAllF s mm k q (xK X o))
  | 0, _, X, h => cRel.rf n h
  | k + 1, q, X, h => by
    unfold xAllF kAllF
    by_cases e : ¬ q = s ∧ sBit mm q = true
    · rw [if_pos e, if_pos e]
      have h1 := cRel.send (n := n) (mLog (xK X o) s q) h
      have h2 := cRel.all (n := n) (s := s) (mm := mm) k (q + 1) h1.pr
      rw [xK_send] at h2
      exact h1.tr h2
    · rw [if_neg e, if_neg e]
      exact cRel.all k (q + 1) h
theorem cRel.ask {o n s : Nat} {mm kd tm : Int32} : ∀ (k q : Nat) {X : XS}, mPr X o → cRel o n 0 0 X (xAskF o s mm kd tm k q X) (kAskF s mm kd tm k q (xK X o))
  | 0, _, X, h => cRel.rf n h
  | k + 1, q, X, h => by
    unfold xAskF kAskF
    by_cases e : ¬ q = s ∧ sBit mm q = true
    · rw [if_pos e, if_pos e]
      have h1 := cRel.send (n := n) (mAsk (xK X o) s q kd tm) h
      have h2 := cRel.ask (n := n) (s := s) (mm := mm) (kd := kd) (tm := tm) k (q + 1) h1.pr
      rw [xK_send] at h2
      exact h1.tr h2
    · rw [if_neg e, if_neg e]
      exact cRel.ask k (q + 1) h
/-- an entry is appended to the log of server s; K its state but for that -/
theorem cRel.app {o n s c z : Nat} {X Y : XS} {D : XD} {K : KK} {e : ENT} {q : Nat} (hs : s < 7) (h : mPr X o) (hK : ∀ i, i < 7 → sSame (xK X o) K i) (h64 : 64 ≤ dR (xD X) o s) (hn : (K.2.1 s).length ≤ n)
    (hD : dRel o n c z (xD X) D) (hH : dHnd o (xD X) D) (hV : dV D = dV (xD X)) (hR : rApp X D o s K e q Y) : cRel o n c z X Y (kLog K s (K.2.1 s ++ [e])) := by
  obtain ⟨D', h1, rfl⟩ := hR
  have hd64 : 64 ≤ dR D o s := Nat.le_trans h64 (hD.2.2.2.2 s hs).1
  have g1 : dGrow D D' o s (K.2.1 s).length := h1.grow hd64
  have g2 := g1.trans (dApp.grow D' o s (K.2.1 s).length (K.2.1 s).length (K.1 18 s 0) e q) hn hn
  have r := hD.tr (g2.rel hs)
  have hV' : dV D' = dV (xD X) := by
    rcases h1 with ⟨-, rfl⟩ | ⟨-, p, rfl⟩ <;> exact hV
  refine ⟨⟨rfl, fun a => rfl, r, fun i hi => ?_⟩, hH.tr (dHnd.of g2.2.1 g2.2.2.1)⟩
  unfold xApp
  rw [xK_same, xD_setK, xD_setD]
  have hm := (hK i hi).mem
  have hx := (hK i hi).mix
  by_cases hi2 : i = s
  · subst hi2
    unfold sMem at hm ⊢
    unfold sMix at hx ⊢
    rw [kLog_l, if_pos rfl, kLog_1, sMemL_app, sMixL_app]
    unfold dApp
    by_cases h4 : e 1 = 4
    · rw [if_pos h4, if_pos h4, if_pos h4]
      refine ⟨?_, ?_⟩
      · show (if _ then _ else if _ then _ else _) = _
        rw [if_neg (by omega), if_pos ⟨rfl, rfl, rfl, rfl⟩]
      · show (if _ then _ else _) = _
        rw [if_pos ⟨rfl, rfl, rfl, rfl⟩, Nat.zero_add, Int32.ofNat_add, show Int32.ofNat 1 = 1 from rfl, ← Int32.add_assoc, Int32.add_assoc (K.1 18 i 0) 1, Int32.add_comm 1, ← Int32.add_assoc]
    · rw [if_neg h4, if_neg h4, if_neg h4]
      have hi3 := h i hi
      unfold sMem sMix at hi3
      rw [hm, hx, ← hi3.1, ← hi3.2, show dV (dSetQ D' o i (K.2.1 i).length q) = dV (xD X) from hV']
      exact ⟨rfl, rfl⟩
  · have e1 : sMem (kLog K s (K.2.1 s ++ [e])) i = sMem K i := by unfold sMem; rw [kLog_l, if_neg hi2, kLog_1]
    have e2 : sMix (kLog K s (K.2.1 s ++ [e])) i = sMix K i := by unfold sMix; rw [kLog_l, if_neg hi2, kLog_1]
    rw [e1, e2, hm, hx, ← (h i hi).1, ← (h i hi).2]
    unfold dApp
    split
    · refine ⟨?_, ?_⟩
      · show (if _ then _ else if _ then _ else _) = _
        rw [if_neg (fun z => hi2 z.2.2.1), if_neg (fun z => hi2 z.2.2.1)]
        show dV D' _ _ _ _ = _
        rw [hV']
      · show (if _ then _ else if _ then _ else _) = _
        rw [if_neg (fun z => hi2 z.2.2.1), if_neg (fun z => hi2 z.2.2.1)]
        show dV D' _ _ _ _ = _
        rw [hV']
    · show dV D' _ _ _ _ = _ ∧ dV D' _ _ _ _ = _
      rw [hV']
      exact ⟨rfl, rfl⟩
