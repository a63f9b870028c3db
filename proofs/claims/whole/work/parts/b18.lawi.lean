/-! ===== THE LAW'S INVARIANT ===== -/
theorem RU.m {m : Nat} {en : PV} {X : XS} {v : Option Value} {R R' : XS → Prop} (h : RU m en X v R) (hR : ∀ Y, R Y → R' Y) : RU m en X v R' := AT.mono h (fun o Y z => ⟨z.1, hR Y z.2⟩)
theorem RT.m {m : Nat} {en : PV} {X X' : XS} {v : Option Value} {R' : XS → Prop} (h : RT m en X v X') (hR : R' X') : RU m en X v R' := AT.mono h (fun o Y z => ⟨z.1, by rw [z.2]; exact hR⟩)
theorem RT.u {m : Nat} {en : PV} {X X' : XS} {v : Option Value} (h : RT m en X v X') : RU m en X v (fun Y => Y = X') := AT.mono h (fun o Y z => ⟨z.1, z.2⟩)
theorem qPair.rep {w m : Nat} {ew em : PV} {X : XS} {R : XS → Prop} (h : (∃ g, Rep X g) → qPair w m ew em X R) : qPair w m ew em X R := by
  by_cases c : ∃ g, Rep X g
  · exact h c
  · exact ⟨0, fun g hg => absurd ⟨g, hg⟩ c⟩
theorem qPairB.rep {w m : Nat} {ew em : PV} {X : XS} {R : XS → Prop} (h : (∃ g, Rep X g) → qPairB w m ew em X R) : qPairB w m ew em X R := by
  by_cases c : ∃ g, Rep X g
  · exact h c
  · exact ⟨0, fun g hg => absurd ⟨g, hg⟩ c⟩
/-- numbers beside the servers' agreement: links, clients -/
def kNum (c : Nat) (v : Int32) (K : KK) : Prop :=
  (∀ s f, s < 7 → f < 7 → sBit (K.1 30 s 0) f = sBit (K.1 30 f 0) s) ∧ (∀ i, i < 7 → ∃ n : Nat, n < 128 ∧ K.1 30 i 0 = Int32.ofNat n) ∧ (∃ k : Nat, k ≤ 24 ∧ v = Int32.ofNat k ∧ sSum (fun i => sCnt (K.1 30 i 0)) 7 = Int32.ofNat (2 * k)) ∧
  ∀ q, q < 4 → (K.1 34 q 3 = 0 ∧ ∀ j, j < 7 → K.1 34 q j = 0) ∨ ∃ n : Nat, 1 ≤ n ∧ n ≤ c ∧ K.1 34 q 3 = Int32.ofNat n ∧ (1 ≤ K.1 34 q 1 ∧ K.1 34 q 1 ≤ 3) ∧ K.1 34 q 2 = Int32.ofNat q ∧ ∃ k : Nat, k < 8 ∧ K.1 34 q 4 = Int32.ofNat k
theorem kNum.up {c : Nat} {v : Int32} {K : KK} (h : kNum c v K) : kNum (c + 1) v K := ⟨h.1, h.2.1, h.2.2.1, fun q hq => (h.2.2.2 q hq).imp id (fun ⟨n, n1, n2, n3⟩ => ⟨n, n1, by omega, n3⟩)⟩
theorem kNum.cg {c : Nat} {v : Int32} {K K' : KK} (h : kNum c v K) (h30 : ∀ i, K'.1 30 i 0 = K.1 30 i 0) (h34 : ∀ q j, K'.1 34 q j = K.1 34 q j) : kNum c v K' := by
  obtain ⟨a, b, d, e⟩ := h
  refine ⟨fun s f hs hf => by rw [h30, h30]; exact a s f hs hf, fun i hi => by rw [h30]; exact b i hi, ?_, fun q hq => ?_⟩
  · rw [show (fun i => sCnt (K'.1 30 i 0)) = fun i => sCnt (K.1 30 i 0) from funext fun i => by rw [h30]]
    exact d
  · rw [h34, h34, h34, h34, show (∀ j, j < 7 → K'.1 34 q j = 0) ↔ ∀ j, j < 7 → K.1 34 q j = 0 from by constructor <;> (intro z j hj; have := z j hj; rw [h34] at *; exact this)]
    exact e q hq
/-- the servers agree; A bounds the snapshots, L the logs; S calls that shorten, P others, K steps to come -/
def kGh (k S P A : Nat) (K : KK) : Prop := ∃ m0 G L, kAll m0 A (A + 48) k K G ∧ (∀ i, i < 7 → (gF G i).length ≤ L) ∧ (∀ t, ¬ gD G t = none → (gL G t).length ≤ L) ∧ A ≤ L ∧ A ≤ 48 * S ∧ L ≤ 48 * P
theorem kAll.mono {K : KK} {G : GG} {m0 : Int32} {A B k k' : Nat} (h : kAll m0 A B k K G) (hk : k' ≤ k) : kAll m0 A B k' K G := by
  obtain ⟨h1, h2, h3, h4⟩ := h
  refine ⟨h1, fun s hs => ?_, fun u hu => ?_, h4⟩
  · obtain ⟨a, ⟨b1, b2, b3⟩, c⟩ := h2 s hs
    exact ⟨a, ⟨b1, by omega, b3⟩, c⟩
  · obtain ⟨o1, o2, o3, o4, o5⟩ := h3 u hu
    exact ⟨o1, o2, o3, ⟨by omega, fun z => by have := o4.2 z; omega⟩, o5⟩
/-- any call but one that shortens -/
theorem kGh.next {k k' S P A : Nat} {K K' : KK} (h : kGh k S P A K) (h' : ∀ m0 G, kAll m0 A (A + 48) k K G → ∃ G', kAll m0 A (A + 48) k' K' G') : kGh k' S (P + 1) A K' := by
  obtain ⟨m0, G, L, h1, h2, h3, h4, h5, h6⟩ := h
  obtain ⟨G', g⟩ := h' m0 G h1
  exact ⟨m0, G', A + 48, g, fun i hi => (g.2.1 i hi).1.2.1, fun t ht => (g.2.2.2.2.1 t ht).1, by omega, h5, by omega⟩
theorem kGh.mono {k k' S P A : Nat} {K : KK} (h : kGh k S P A K) (hk : k' ≤ k) : kGh k' S P A K := by
  obtain ⟨m0, G, L, h1, h2⟩ := h
  exact ⟨m0, G, L, h1.mono hk, h2⟩
theorem kGh.same {k S P A : Nat} {K : KK} (h : kGh k S P A K) : kGh k S (P + 1) A K := by
  obtain ⟨m0, G, L, h1, h2, h3, h4, h5, h6⟩ := h
  exact ⟨m0, G, L, h1, h2, h3, h4, h5, by omega⟩
/-- what has been made -/
def dOk (S P A : Nat) (D : XD) : Prop := (∀ o i, o < 2 → i < 7 → dR D o i ≤ 2 * (A + 48)) ∧ (∀ o i, 2 ≤ o → o < 4 → i < 7 → 112 ≤ dR D o i ∧ dR D o i ≤ 14 * (A + 49)) ∧
  dZ D ≤ 10705 + 40 * S + 4000 * P + 2 * (rTot D 0 + rTot D 1 + rTot D 2 + rTot D 3) ∧ 64 * dC D ≤ 64 * 512 + (rTot D 0 + rTot D 1 + rTot D 2 + rTot D 3) + 64 * (10 * S + 600 * P)
/-- what holds ahead of every call -/
def LI (n0 : Nat) (sc : Nat → Int32) (c : Nat) (X : XS) : Prop := xC X = (n0, sc) ∧ xK X 0 = xK X 2 ∧ mPr X 0 ∧ mPr X 1 ∧ aPr X 2 ∧ kNum c (dV (xD X) 0 31 0 0) (xK X 0) ∧
  ∃ S P A, S + P ≤ c ∧ kGh (5000 * (600 - c)) S P A (xK X 0) ∧ dOk S P A (xD X)
theorem LI.rok {n0 : Nat} {sc : Nat → Int32} {c : Nat} {X : XS} (h : LI n0 sc c X) (hc : c ≤ 512) : rOkR X 2 ∧ rOkR X 3 := by
  obtain ⟨-, -, -, -, -, -, S, P, A, h1, h2, h3⟩ := h
  obtain ⟨m0, G, L, g1, g2, g3, g4, g5, g6⟩ := h2
  have hA := g1.2.2.2.2.2.2
  refine ⟨fun i hi => ?_, fun i hi => ?_⟩
  · have := h3.2.1 2 i (by omega) (by omega) hi
    omega
  · have := h3.2.1 3 i (by omega) (by omega) hi
    omega
theorem LI.step {n0 : Nat} {sc : Nat → Int32} {c : Nat} {X : XS} (h : LI n0 sc c X) : LI n0 sc (c + 1) X := by
  obtain ⟨a1, a2, a3, a4, a5, a6, S, P, A, a7, a8, a9⟩ := h
  exact ⟨a1, a2, a3, a4, a5, a6.up, S, P, A, by omega, a8.mono (by omega), a9⟩
theorem rTot_cg {D D' : XD} {o : Nat} (h : ∀ b, dR D' o b = dR D o b) : rTot D' o = rTot D o := by
  unfold rTot
  rw [h, h, h, h, h, h, h]
/-- nothing became another but what is said beside -/
theorem LI.same {n0 : Nat} {sc : Nat → Int32} {c : Nat} {X Z : XS} (h : LI n0 sc c X) (hC : xC Z = xC X) (hK : ∀ a, a < 4 → xK Z a = xK X a) (hV : ∀ a f i j, dV (xD Z) a f i j = dV (xD X) a f i j) (hR : ∀ a b, dR (xD Z) a b = dR (xD X) a b) (hc : dC (xD Z) ≤ dC (xD X) + 1) (hz : dZ (xD Z) ≤ dZ (xD X) + 6) : LI n0 sc (c + 1) Z := by
  obtain ⟨a1, a2, a3, a4, a5, a6, S, P, A, a7, a8, a9⟩ := h
  have mp : ∀ o, o < 4 → mPr X o → mPr Z o := fun o ho hm i hi => by
    rw [hV, hV, hK o ho]; exact hm i hi
  refine ⟨hC.trans a1, by rw [hK 0 (by omega), hK 2 (by omega)]; exact a2, mp 0 (by omega) a3, mp 1 (by omega) a4, fun i hi => by rw [hV, hK 2 (by omega)]; exact a5 i hi, by rw [hV, hK 0 (by omega)]; exact a6.up, S, P + 1, A, by omega, by rw [hK 0 (by omega)]; exact (a8.same).mono (by omega), ?_⟩
  obtain ⟨b1, b2, b3, b4⟩ := a9
  refine ⟨fun o i h1 h2 => by rw [hR]; exact b1 o i h1 h2, fun o i h1 h2 h3 => by rw [hR]; exact b2 o i h1 h2 h3, ?_, ?_⟩
  · rw [rTot_cg (fun b => hR 0 b), rTot_cg (fun b => hR 1 b), rTot_cg (fun b => hR 2 b), rTot_cg (fun b => hR 3 b)]; omega
  · rw [rTot_cg (fun b => hR 0 b), rTot_cg (fun b => hR 1 b), rTot_cg (fun b => hR 2 b), rTot_cg (fun b => hR 3 b)]; omega
/-- the class's state o1 and the reference's state o2 became others -/
theorem dOk.mv {S P S' P' A A' o1 o2 c1 z1 c2 z2 : Nat} {X X2 Y Z : XS} {K : KK} (h : dOk S P A (xD X)) (h1 : o1 < 2) (h2 : 2 ≤ o2) (h3 : o2 < 4) (hA : A ≤ A') (r1 : lRel o1 (A + 48) c1 z1 X Y) (hD : xD X2 = xD Y) (r2 : rRel0 o2 (A + 49) c2 z2 X2 Z K)
    (hz : 40 * S + 4000 * P + z1 + z2 ≤ 40 * S' + 4000 * P') (hc : 10 * S + 600 * P + c1 + c2 ≤ 10 * S' + 600 * P') : dOk S' P' A' (xD Z) := by
  obtain ⟨b1, b2, b3, b4⟩ := h
  obtain ⟨-, -, e3, -, e5, e6, e7, -⟩ := r1
  obtain ⟨-, -, f3, -, f5, f6, f7⟩ := r2
  rw [hD] at f3 f5 f6 f7
  have t1 : ∀ a, ¬ a = o1 → rTot (xD Y) a = rTot (xD X) a := fun a ha => rTot_cg (fun b => e3 a b ha)
  have t2 : ∀ a, ¬ a = o2 → rTot (xD Z) a = rTot (xD Y) a := fun a ha => rTot_cg (fun b => f3 a b ha)
  refine ⟨fun o i ho hi => ?_, fun o i ho2 ho4 hi => ?_, ?_, ?_⟩
  · rw [f3 o i (by omega)]
    have q := b1 o i ho hi
    by_cases e : o = o1
    · subst e; have := e7 i hi; omega
    · rw [e3 o i e]; omega
  · have q := b2 o i ho2 ho4 hi
    by_cases e : o = o2
    · subst e
      have := f7 i hi
      rw [e3 o i (by omega)] at this
      omega
    · rw [f3 o i e, e3 o i (by omega)]; omega
  · rcases (by omega : o1 = 0 ∨ o1 = 1) with rfl | rfl <;> rcases (by omega : o2 = 2 ∨ o2 = 3) with rfl | rfl
    · rw [t2 0 (by omega), t2 1 (by omega), t2 3 (by omega), t1 1 (by omega), t1 3 (by omega)]; rw [t1 2 (by omega)] at f5; omega
    · rw [t2 0 (by omega), t2 1 (by omega), t2 2 (by omega), t1 1 (by omega), t1 2 (by omega)]; rw [t1 3 (by omega)] at f5; omega
    · rw [t2 0 (by omega), t2 1 (by omega), t2 3 (by omega), t1 0 (by omega), t1 3 (by omega)]; rw [t1 2 (by omega)] at f5; omega
    · rw [t2 0 (by omega), t2 1 (by omega), t2 2 (by omega), t1 0 (by omega), t1 2 (by omega)]; rw [t1 3 (by omega)] at f5; omega
  · rcases (by omega : o1 = 0 ∨ o1 = 1) with rfl | rfl <;> rcases (by omega : o2 = 2 ∨ o2 = 3) with rfl | rfl
    · rw [t2 0 (by omega), t2 1 (by omega), t2 3 (by omega), t1 1 (by omega), t1 3 (by omega)]; rw [t1 2 (by omega)] at f6; omega
    · rw [t2 0 (by omega), t2 1 (by omega), t2 2 (by omega), t1 1 (by omega), t1 2 (by omega)]; rw [t1 3 (by omega)] at f6; omega
    · rw [t2 0 (by omega), t2 1 (by omega), t2 3 (by omega), t1 0 (by omega), t1 3 (by omega)]; rw [t1 2 (by omega)] at f6; omega
    · rw [t2 0 (by omega), t2 1 (by omega), t2 2 (by omega), t1 0 (by omega), t1 2 (by omega)]; rw [t1 3 (by omega)] at f6; omega
/-- the states of now became K -/
theorem LI.mv {n0 : Nat} {sc : Nat → Int32} {c S P A S' P' A' c1 z1 c2 z2 : Nat} {X X2 Y Z : XS} {K : KK} (h : LI n0 sc c X) (hd : dOk S P A (xD X)) (hA : A ≤ A') (r1 : lRel 0 (A + 48) c1 z1 X Y) (hY : xK Y 0 = K) (hD : xD X2 = xD Y) (hX2 : ∀ a, xK X2 a = xK Y a) (hC2 : xC X2 = xC Y) (r2 : rRel0 2 (A + 49) c2 z2 X2 Z K) (hap : aPr Z 2)
    (hn : kNum (c + 1) (dV (xD Y) 0 31 0 0) K) (hg : kGh (5000 * (600 - (c + 1))) S' P' A' K) (hSP : S' + P' ≤ c + 1) (hz : 40 * S + 4000 * P + z1 + z2 ≤ 40 * S' + 4000 * P') (hc : 10 * S + 600 * P + c1 + c2 ≤ 10 * S' + 600 * P') : LI n0 sc (c + 1) Z := by
  have hdo := hd.mv (by omega) (by omega) (by omega) hA r1 hD r2 hz hc
  obtain ⟨a1, a2, a3, a4, a5, a6, -⟩ := h
  have e0 : xK Z 0 = K := by rw [r2.2.1 0, if_neg (by omega), hX2, hY]
  have eV : ∀ a f i j, ¬ a = 2 → dV (xD Z) a f i j = dV (xD Y) a f i j := fun a f i j ha => by rw [r2.2.2.2.1 a f i j ha, hD]
  have eC : xC Z = xC X := (congrArg (fun z => z.2.2.2) r2.1).trans (hC2.trans (congrArg (fun z => z.2.2.2) r1.1))
  refine ⟨eC.trans a1, by rw [e0, r2.k], fun i hi => ?_, fun i hi => ?_, hap, by rw [eV 0 31 0 0 (by omega), e0]; exact hn, S', P', A', hSP, by rw [e0]; exact hg, hdo⟩
  · rw [eV 0 10 i 0 (by omega), eV 0 11 i 0 (by omega), e0, ← hY]
    exact r1.2.2.2.2.2.2.2 i hi
  · rw [eV 1 10 i 0 (by omega), eV 1 11 i 0 (by omega), r2.2.1 1, if_neg (by omega), hX2, r1.2.1 1 (by omega), r1.2.2.2.1 1 10 i 0 (by omega), r1.2.2.2.1 1 11 i 0 (by omega)]
    exact a4 i hi
/-- the states of what would be became others -/
theorem LI.ah {n0 : Nat} {sc : Nat → Int32} {c S P A c1 z1 c2 z2 : Nat} {X X2 Y Z : XS} {K : KK} (h : LI n0 sc c X) (hd : dOk S P A (xD X)) (hgh : kGh (5000 * (600 - c)) S P A (xK X 0)) (r1 : lRel 1 (A + 48) c1 z1 X Y) (hD : xD X2 = xD Y) (hX2 : ∀ a, xK X2 a = xK Y a) (hC2 : xC X2 = xC Y) (r2 : rRel0 3 (A + 49) c2 z2 X2 Z K)
    (hSP : S + P ≤ c) (hz : z1 + z2 ≤ 4000) (hc : c1 + c2 ≤ 600) : LI n0 sc (c + 1) Z := by
  have hdo : dOk S (P + 1) A (xD Z) := hd.mv (by omega) (by omega) (by omega) (Nat.le_refl _) r1 hD r2 (by omega) (by omega)
  obtain ⟨a1, a2, a3, a4, a5, a6, -⟩ := h
  have eK : ∀ a, ¬ a = 3 → ¬ a = 1 → xK Z a = xK X a := fun a h3 h1 => by rw [r2.2.1 a, if_neg h3, hX2, r1.2.1 a h1]
  have eV : ∀ a f i j, ¬ a = 3 → ¬ a = 1 → dV (xD Z) a f i j = dV (xD X) a f i j := fun a f i j h3 h1 => by rw [r2.2.2.2.1 a f i j h3, hD, r1.2.2.2.1 a f i j h1]
  have eC : xC Z = xC X := (congrArg (fun z => z.2.2.2) r2.1).trans (hC2.trans (congrArg (fun z => z.2.2.2) r1.1))
  refine ⟨eC.trans a1, by rw [eK 0 (by omega) (by omega), eK 2 (by omega) (by omega)]; exact a2, fun i hi => ?_, fun i hi => ?_, fun i hi => ?_, by rw [eV 0 31 0 0 (by omega) (by omega), eK 0 (by omega) (by omega)]; exact a6.up, S, P + 1, A, by omega, by rw [eK 0 (by omega) (by omega)]; exact (hgh.same).mono (by omega), hdo⟩
  · rw [eV 0 10 i 0 (by omega) (by omega), eV 0 11 i 0 (by omega) (by omega), eK 0 (by omega) (by omega)]
    exact a3 i hi
  · rw [r2.2.2.2.1 1 10 i 0 (by omega), r2.2.2.2.1 1 11 i 0 (by omega), hD, r2.2.1 1, if_neg (by omega), hX2]
    exact r1.2.2.2.2.2.2.2 i hi
  · rw [eV 2 20 i 0 (by omega) (by omega), eK 2 (by omega) (by omega)]
    exact a5 i hi
