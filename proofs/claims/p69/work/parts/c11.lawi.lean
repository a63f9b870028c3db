/-! ===== WHAT HOLDS AHEAD OF EVERY CALL OF THE LAW ===== -/
theorem RU.m {m : Nat} {en : PV} {X : XS} {v : Option Value} {R R' : XS → Prop} (h : RU m en X v R) (hR : ∀ Y, R Y → R' Y) : RU m en X v R' := AT.mono h (fun o Y z => ⟨z.1, hR Y z.2⟩)
theorem RT.m {m : Nat} {en : PV} {X X' : XS} {v : Option Value} {R' : XS → Prop} (h : RT m en X v X') (hR : R' X') : RU m en X v R' := AT.mono h (fun o Y z => ⟨z.1, by rw [z.2]; exact hR⟩)
theorem rTot_cg {D D' : XD} {o : Nat} (h : ∀ b, dR D' o b = dR D o b) : rTot D' o = rTot D o := by
  unfold rTot
  rw [h, h, h, h, h, h, h]
theorem kAll.mono {K : KK} {G : GG} {m0 : Int32} {A B k k' : Nat} (h : kAll m0 A B k K G) (hk : k' ≤ k) : kAll m0 A B k' K G := by
  obtain ⟨h1, h2, h3, h4⟩ := h
  refine ⟨h1, fun s hs => ?_, fun u hu => ?_, h4⟩
  · obtain ⟨a, ⟨b1, b2, b3⟩, c⟩ := h2 s hs
    exact ⟨a, ⟨b1, by omega, b3⟩, c⟩
  · obtain ⟨o1, o2, o3, o4, o5⟩ := h3 u hu
    exact ⟨o1, o2, o3, ⟨by omega, fun z => by have := o4.2 z; omega⟩, o5⟩
/-- the serials of the clients -/
def sR (K : KK) : Nat → Int32 := fun q => K.1 34 q 3
/-- the clients' requests -/
def kCl (c : Nat) (K : KK) : Prop := ∀ q, q < 4 → (K.1 34 q 3 = 0 ∧ ∀ j, j < 7 → K.1 34 q j = 0) ∨ ∃ n : Nat, 1 ≤ n ∧ n ≤ c ∧ K.1 34 q 3 = Int32.ofNat n ∧ (1 ≤ K.1 34 q 1 ∧ K.1 34 q 1 ≤ 3) ∧ K.1 34 q 2 = Int32.ofNat q ∧ ∃ k : Nat, k < 8 ∧ K.1 34 q 4 = Int32.ofNat k
theorem kCl.up {c : Nat} {K : KK} (h : kCl c K) : kCl (c + 1) K := fun q hq => (h q hq).imp id (fun ⟨n, n1, n2, n3⟩ => ⟨n, n1, by omega, n3⟩)
theorem kCl.cg {c : Nat} {K K' : KK} (h : kCl c K) (h34 : ∀ q j, K'.1 34 q j = K.1 34 q j) : kCl (c + 1) K' := fun q hq => by
  rw [h34, h34, h34, h34, show (∀ j, j < 7 → K'.1 34 q j = 0) ↔ ∀ j, j < 7 → K.1 34 q j = 0 from by constructor <;> (intro z j hj; have := z j hj; rw [h34] at *; exact this)]
  exact h.up q hq
/-- the servers agree, and all that is kept beside; A bounds the snapshots, L the logs; S calls that shorten, P others, k steps to come -/
def gh (k S P A : Nat) (tl cl led : Nat → Nat) (K : KK) : Prop := ∃ m0 G L, kAll m0 A (A + 48) k K G ∧ NN tl cl led (sR K) K G ∧ (∀ i, i < 7 → (gF G i).length ≤ L) ∧ (∀ t, ¬ gD G t = none → (gL G t).length ≤ L) ∧ A ≤ L ∧ A ≤ 48 * S ∧ L ≤ 48 * P
section GH
variable {k k' S P A : Nat} {tl cl led tl' cl' led' : Nat → Nat} {K K' : KK}
theorem gh.next (h : gh k S P A tl cl led K) (h' : ∀ m0 G, kAll m0 A (A + 48) k K G → NN tl cl led (sR K) K G → ∃ G', kAll m0 A (A + 48) k' K' G' ∧ NN tl' cl' led' (sR K') K' G') : gh k' S (P + 1) A tl' cl' led' K' := by
  obtain ⟨m0, G, L, h1, h0, h2, h3, h4, h5, h6⟩ := h
  obtain ⟨G', g, z⟩ := h' m0 G h1 h0
  exact ⟨m0, G', A + 48, g, z, fun i hi => (g.2.1 i hi).1.2.1, fun t ht => (g.2.2.2.2.1 t ht).1, by omega, h5, by omega⟩
theorem gh.mono (h : gh k S P A tl cl led K) (hk : k' ≤ k) : gh k' S P A tl cl led K := by
  obtain ⟨m0, G, L, h1, h2⟩ := h
  exact ⟨m0, G, L, h1.mono hk, h2⟩
theorem gh.same (h : gh k S P A tl cl led K) : gh k S (P + 1) A tl cl led K := by
  obtain ⟨m0, G, L, h1, h0, h2, h3, h4, h5, h6⟩ := h
  exact ⟨m0, G, L, h1, h0, h2, h3, h4, h5, by omega⟩
/-- other bounds, the state as it is -/
theorem gh.bnd (h : gh k S P A tl cl led K) (h' : ∀ m0 G, kAll m0 A (A + 48) k K G → NN tl cl led (sR K) K G → NN tl' cl' led' (sR K) K G) : gh k S P A tl' cl' led' K := by
  obtain ⟨m0, G, L, h1, h0, h2⟩ := h
  exact ⟨m0, G, L, h1, h' m0 G h1 h0, h2⟩
theorem gh.cut {s : Nat} (h : gh k S P A tl cl led K) (hs : s < 7) (hup : ¬ K.1 4 s 0 = 0) (hk : k' ≤ k) (hSP : S + P ≤ 250) : ∃ A', A ≤ A' ∧ gh k' (S + 1) P A' tl cl led (kCut K s (kC K s - kA K s) (sSnap K s (kC K s - kA K s))) := by
  obtain ⟨m0, G, L, h1, h0, h2, h3, h4, h5, h6⟩ := h
  have l1 : ∀ i, i < 7 → (gF G i).length ≤ min L (A + 48) := fun i hi => by have := h2 i hi; have := (h1.2.1 i hi).1.2.1; omega
  have l2 : ∀ t, ¬ gD G t = none → (gL G t).length ≤ min L (A + 48) := fun t ht => by have := h3 t ht; have := (h1.2.2.2.2.1 t ht).1; omega
  refine ⟨min L (A + 48), by omega, m0, G, min L (A + 48), (h1.mono hk).cut hs (by omega) (Nat.le_refl _) (by omega) l1 l2, ?_, l1, l2, Nat.le_refl _, by omega, by omega⟩
  have e : sR (kCut K s (kC K s - kA K s) (sSnap K s (kC K s - kA K s))) = sR K := funext fun q => kCut_1 (by omega)
  rw [e]
  exact h0.cut hs hup
theorem gh.begin {m : Int32} (h : gh k S P A tl cl led K) (hm : (1 : Int32) ≤ m ∧ m ≤ 7) (hk : k' ≤ 1000000000) : gh k' S (P + 1) A (fun _ => 0) (fun _ => 0) (fun _ => 0) (kBegin K (sFirst m)) := by
  obtain ⟨m0, G, L, h1, h0, h2, h3, h4, h5, h6⟩ := h
  have hA := h1.2.2.2.2.2.2
  obtain ⟨b1, b2, b3, b4⟩ := kAll_begin (k := k') K hm hk (fun i hi => (h1.2.1 i hi).2.1.2.2.2.2.2)
  have hz := NN.begin K hm
  refine ⟨sFirst m 2, gZ, A, ⟨b1, fun s hs => ?_, fun u hu => ?_, b4.1, fun t ht => absurd rfl ht, Nat.le_refl _, hA⟩, ?_, fun i _ => Nat.zero_le _, fun t ht => absurd rfl ht, Nat.le_refl _, h5, by omega⟩
  · obtain ⟨⟨⟨a, cc, a1, a2, a3, a4, a5, a6, a7, a8, a9⟩, aB, aE⟩, b, c⟩ := b2 s hs
    exact ⟨⟨⟨a, cc, a1, a2, a3, a4, a5, a6, a7, a8, by omega⟩, Nat.zero_le _, aE⟩, b, c⟩
  · rw [(kBegin_v K (sFirst m)).2.2] at hu
    exact absurd hu (by simp)
  · refine ⟨hz.1, hz.2.1.up (fun c hc => ?_), hz.2.2⟩
    show (0 : Int32) ≤ (kBegin K (sFirst m)).1 34 c 3
    rw [(kBegin_v K (sFirst m)).2.1 c hc 3 (by omega)]
    exact Int32.le_refl _
end GH
/-- what has been made -/
def dOk1 (S P A : Nat) (D : XD) : Prop := (∀ i, i < 7 → dR D 0 i ≤ 2 * (A + 48)) ∧ dZ D ≤ 6000 + 40 * S + 4000 * P + 2 * rTot D 0 ∧ 64 * dC D ≤ 64 * 400 + rTot D 0 + 64 * (10 * S + 600 * P)
/-- what holds ahead of every call -/
def LJ (n0 : Nat) (sc : Nat → Int32) (c : Nat) (tl cl led : Nat → Nat) (X : XS) : Prop := xC X = (n0, sc) ∧ mPr X 0 ∧ kCl c (xK X 0) ∧
  ∃ S P A, S + P ≤ c ∧ gh (5000 * (600 - c)) S P A tl cl led (xK X 0) ∧ dOk1 S P A (xD X)
section LJS
variable {n0 : Nat} {sc : Nat → Int32} {c : Nat} {tl cl led tl' cl' led' : Nat → Nat} {X Y Z : XS}
theorem LJ.step (h : LJ n0 sc c tl cl led X) : LJ n0 sc (c + 1) tl cl led X := by
  obtain ⟨a1, a2, a3, S, P, A, a4, a5, a6⟩ := h
  exact ⟨a1, a2, a3.up, S, P, A, by omega, a5.mono (by omega), a6⟩
theorem LJ.bnd (h : LJ n0 sc c tl cl led X) (h' : ∀ m0 A G k, kAll m0 A (A + 48) k (xK X 0) G → NN tl cl led (sR (xK X 0)) (xK X 0) G → NN tl' cl' led' (sR (xK X 0)) (xK X 0) G) : LJ n0 sc c tl' cl' led' X := by
  obtain ⟨a1, a2, a3, S, P, A, a4, a5, a6⟩ := h
  exact ⟨a1, a2, a3, S, P, A, a4, a5.bnd (fun m0 G => h' m0 A G _), a6⟩
/-- a refusal -/
theorem LJ.thr (h : LJ n0 sc c tl cl led X) : LJ n0 sc (c + 1) tl cl led (xThr X) := by
  obtain ⟨a1, a2, a3, S, P, A, a4, a5, b1, b2, b3⟩ := h
  refine ⟨a1, a2, a3.up, S, P + 1, A, by omega, (a5.same).mono (by omega), b1, ?_, ?_⟩
  · show dZ (xD X) + 6 ≤ 6000 + 40 * S + 4000 * (P + 1) + 2 * rTot (xD X) 0; omega
  · show 64 * (dC (xD X) + 1) ≤ 64 * 400 + rTot (xD X) 0 + 64 * (10 * S + 600 * (P + 1)); omega
/-- the state became K -/
theorem LJ.mv {S P A S' P' A' c1 z1 : Nat} {K : KK} (h : LJ n0 sc c tl cl led X) (hd : dOk1 S P A (xD X)) (hA : A ≤ A') (r1 : lRel 0 (A + 48) c1 z1 X Y) (hY : xK Y 0 = K) (hn : kCl (c + 1) K) (hg : gh (5000 * (600 - (c + 1))) S' P' A' tl' cl' led' K) (hSP : S' + P' ≤ c + 1) (hz : 40 * S + 4000 * P + z1 ≤ 40 * S' + 4000 * P') (hc : 10 * S + 600 * P + c1 ≤ 10 * S' + 600 * P') : LJ n0 sc (c + 1) tl' cl' led' Y := by
  obtain ⟨b1, b2, b3⟩ := hd
  obtain ⟨e1, -, e3, -, e5, e6, e7, e8⟩ := r1
  refine ⟨(congrArg (fun z => z.2.2.2) e1).trans h.1, e8, by rw [hY]; exact hn, S', P', A', hSP, by rw [hY]; exact hg, fun i hi => ?_, ?_, ?_⟩
  · have := e7 i hi
    have := b1 i hi
    omega
  · omega
  · omega
/-- what is known of the state -/
theorem LJ.g (h : LJ n0 sc c tl cl led X) : ∃ S P A, S + P ≤ c ∧ gh (5000 * (600 - c)) S P A tl cl led (xK X 0) ∧ dOk1 S P A (xD X) := h.2.2.2
theorem LJ.k (h : LJ n0 sc c tl cl led X) : ∃ m0 G A, kAll m0 A (A + 48) (5000 * (600 - c)) (xK X 0) G ∧ NN tl cl led (sR (xK X 0)) (xK X 0) G := by
  obtain ⟨S, P, A, -, ⟨m0, G, L, g1, g2, -⟩, -⟩ := h.g
  exact ⟨m0, G, A, g1, g2⟩
theorem LJ.lsnd (h : LJ n0 sc c tl cl led X) {s : Nat} (hs : s < 7) : lSnd (xK X 0) s := by
  obtain ⟨m0, G, A, g1, g2⟩ := h.k
  exact g2.lsnd g1 hs
end LJS
theorem gh.ok {k S P A : Nat} {tl cl led : Nat → Nat} {K : KK} (h : gh k S P A tl cl led K) {s : Nat} (hs : s < 7) : sOk K s ∧ kA K s + (K.2.1 s).length + 1 < 400000 ∧ (K.2.1 s).length ≤ A + 48 ∧ (K.1 12 s 0 = 3 → ∀ q, q < 7 → kNx K s q) ∧ A + 48 ≤ 12400 ∧ kFit (A + 48) K := by
  obtain ⟨m0, G, L, g, -⟩ := h
  have q := g.ok hs
  exact ⟨q.1, q.2.1, q.2.2.1, fun hr x hx => g.nx hs hr hx, g.2.2.2.2.2.2, g.fit⟩
