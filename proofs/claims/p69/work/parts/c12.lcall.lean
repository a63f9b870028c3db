/-! ===== WHAT BECOMES OF EVERY CALL THAT MOVES ===== -/
theorem lRel.put {o n c z : Nat} {X : XS} {D : XD} {K' : KK} (h : mPr X o) (hK : ∀ i, i < 7 → sSame (xK X o) K' i) (hR : ∀ a b, dR D a b = dR (xD X) a b) (hV : ∀ a f i j, ¬ (a = o ∧ f = 31) → dV D a f i j = dV (xD X) a f i j) (hZ : dZ D ≤ dZ (xD X) + z) (hC : dC D ≤ dC (xD X) + c) : lRel o n c z X (xSetK (xSetD X D) o K') ∧ xK (xSetK (xSetD X D) o K') o = K' := by
  refine ⟨⟨rfl, fun a ha => if_neg ha, fun a b _ => hR a b, fun a f i j ha => hV a f i j (fun z => ha z.1), ?_, ?_, fun b _ => ⟨Nat.le_of_eq (hR o b).symm, Or.inl (Nat.le_of_eq (hR o b))⟩, fun i hi => ?_⟩, xK_same _ _ _⟩
  · show dZ D + 2 * rTot (xD X) o ≤ dZ (xD X) + 2 * rTot D o + z
    rw [rTot_cg (fun b => hR o b)]; omega
  · show 64 * dC D + rTot (xD X) o ≤ 64 * dC (xD X) + rTot D o + 64 * c
    rw [rTot_cg (fun b => hR o b)]; omega
  · rw [xK_same]
    show dV D o 10 i 0 = _ ∧ dV D o 11 i 0 = _
    rw [hV o 10 i 0 (by omega), hV o 11 i 0 (by omega), (hK i hi).mem, (hK i hi).mix]
    exact h i hi
theorem lRel.setK {o n c z : Nat} {X Y : XS} {K' : KK} (h : lRel o n c z X Y) (hK : ∀ i, i < 7 → sSame (xK Y o) K' i) : lRel o n c z X (xSetK Y o K') ∧ xK (xSetK Y o K') o = K' := by
  obtain ⟨a1, a2, a3, a4, a5, a6, a7, a8⟩ := h
  refine ⟨⟨a1, fun a ha => (if_neg ha).trans (a2 a ha), a3, a4, a5, a6, a7, fun i hi => ?_⟩, xK_same _ _ _⟩
  rw [xK_same, (hK i hi).mem, (hK i hi).mix]
  exact a8 i hi
theorem kInv.sh {n : Nat} {J : Nat → KK → Prop} (h : kInv n J) (k0 : Nat) : kInv n (fun k => J (k + k0)) := by
  obtain ⟨a, b, c, d, e⟩ := h
  have r : ∀ k, k + 1 + k0 = k + k0 + 1 := fun k => by omega
  refine ⟨fun k K h => a _ K h, fun k K i hi h => b _ K i hi (by rw [← r]; exact h), fun k K h => c _ K (by rw [← r]; exact h), fun k K h => d _ K (by rw [← r]; exact h), fun k K h => e _ K (by rw [← r]; exact h)⟩
/-- what no round changes of clients -/
def PF (K : KK) (f : Nat → Nat → Nat → Int32) : Prop := ∀ q j, f 34 q j = K.1 34 q j
theorem PF.fr (K : KK) : PFr (PF K) := fun K1 K2 h hp q j => (h 34 q j (by unfold frF; omega)).trans (hp q j)
theorem range30 {m : Int32} (h : (1 : Int32) ≤ m ∧ m ≤ 30) : ∃ N : Nat, N ≤ 30 ∧ m = Int32.ofNat N := by
  rcases i32_srv 31 (by omega) m with ⟨s, hs, rfl⟩ | z | z
  · exact ⟨s, by omega, rfl⟩
  · exact absurd (Int32.lt_of_le_of_lt h.1 z) (by decide)
  · exact absurd (Int32.le_trans (Int32.not_lt.mp z) h.2) (by decide)
/-- the call returns v with V, and the state is one with R; or it throws, and nothing else -/
def aOut (m : Nat) (en : PV) (X : XS) (V : Int32 → Prop) (R : XS → Prop) : Prop := (∃ v, V v ∧ RU m en X (some (.int v)) R) ∨ ∃ e, e < 3 ∧ RX m en X e (xThr X)
theorem aOut.rep {m : Nat} {en : PV} {X : XS} {V : Int32 → Prop} {R : XS → Prop} (hV : V 0) (h : (∃ g, Rep X g) → aOut m en X V R) : aOut m en X V R := by
  by_cases c : ∃ g, Rep X g
  · exact h c
  · exact Or.inl ⟨0, hV, fun g hg => absurd ⟨g, hg⟩ c⟩
theorem RUe.rep {m : Nat} {en : PV} {X : XS} {R : XS → Prop} (h : (∃ g, Rep X g) → ∃ v, RU m en X (some (.int v)) R) : ∃ v, RU m en X (some (.int v)) R := by
  by_cases c : ∃ g, Rep X g
  · exact h c
  · exact ⟨0, fun g hg => absurd ⟨g, hg⟩ c⟩
abbrev tr1 : Int32 → Prop := fun _ => True
theorem sCntF_n (p : Nat → Bool) : ∀ n, ∃ j, j ≤ n ∧ sCntF p n = Int32.ofNat j
  | 0 => ⟨0, Nat.le_refl _, rfl⟩
  | n + 1 => by
    obtain ⟨j, h1, h2⟩ := sCntF_n p n
    cases hp : p n with
    | true => exact ⟨j + 1, by omega, by show sCntF p n + bI (p n) = _; rw [h2, hp]; exact i32_suc1 j⟩
    | false => exact ⟨j, by omega, by show sCntF p n + bI (p n) = _; rw [h2, hp]; show Int32.ofNat j + 0 = _; rw [Int32.add_zero]⟩
theorem sUp_v (K : KK) : ¬ sUp K = -99 := by
  obtain ⟨j, h1, h2⟩ := sCntF_n (fun i => decide (¬ K.1 4 i 0 = 0)) 7
  unfold sUp
  rw [h2]
  have : ∀ j, j ≤ 7 → ¬ Int32.ofNat j = -99 := by decide
  exact this j h1
theorem flip_nz : ∀ n, n < 128 → ∀ j, j < 7 → sBit (Int32.ofNat n) j = false → ¬ sFlip (Int32.ofNat n) j = 0 := by decide +kernel
theorem kTurn_f {K : KK} {i j f x y : Nat} (h : ¬ f = 30) : (kTurn K i j).1 f x y = K.1 f x y := by
  unfold kTurn
  rw [kSet_ne (by omega), kSet_ne (by omega)]
section LC
variable {n0 : Nat} {sc : Nat → Int32} {c : Nat} {tl cl led tl' cl' led' : Nat → Nat} {X Y : XS}
theorem gh.nxt {k k' S P A : Nat} {K K' : KK} (h : gh k S P A tl cl led K) (e : ∀ q j, K'.1 34 q j = K.1 34 q j) (h' : ∀ m0 G, kAll m0 A (A + 48) k K G → NN tl cl led (sR K) K G → ∃ G', kAll m0 A (A + 48) k' K' G' ∧ NN tl' cl' led' (sR K) K' G') : gh k' S (P + 1) A tl' cl' led' K' := h.next (fun m0 G a b => by rw [show sR K' = sR K from funext fun q => e q 3]; exact h' m0 G a b)
theorem LJ.mv1 {S P A c1 z1 : Nat} {K : KK} (h : LJ n0 sc c tl cl led X) (hc : c ≤ 200) (hd : dOk1 S P A (xD X)) (hSP : S + P ≤ c) (hg : gh (5000 * (600 - c)) S P A tl cl led (xK X 0)) (r1 : lRel 0 (A + 48) c1 z1 X Y) (hY : xK Y 0 = K) (e34 : ∀ q j, K.1 34 q j = (xK X 0).1 34 q j) (hz : z1 ≤ 4000) (hc1 : c1 ≤ 600)
    (h' : ∀ m0 G, kAll m0 A (A + 48) (5000 * (600 - (c + 1)) + 1) (xK X 0) G → NN tl cl led (sR (xK X 0)) (xK X 0) G → ∃ G', kAll m0 A (A + 48) (5000 * (600 - (c + 1))) K G' ∧ NN tl' cl' led' (sR (xK X 0)) K G') : LJ n0 sc (c + 1) tl' cl' led' Y :=
  h.mv (S' := S) (P' := P + 1) hd (Nat.le_refl _) r1 hY (h.2.2.1.cg e34) (hg.nxt e34 (fun m0 G g z => h' m0 G (g.mono (by omega)) z)) (by omega) (by omega) (by omega)
theorem k_96 (hL : LJ n0 sc c tl cl led X) (hc : c ≤ 200) {s : Nat} (hs : s < 7) : aOut 96 [some (.ref 1), some (.int (Int32.ofNat s)), none] X (fun v => ¬ v = -99) (fun Y => (xK Y 0).1 4 s 0 = 0 ∧ LJ n0 sc (c + 1) tl (fun i => if i = s then 0 else cl i) led Y) := by
  by_cases hup : (xK X 0).1 4 s 0 = 0
  · exact Or.inr ⟨_, by decide, c_96x2 hs hup⟩
  · obtain ⟨S, P, A, hSP, hg, hd⟩ := hL.g
    refine Or.inl ⟨_, sUp_v _, RT.m (c_96 hs hup) ⟨?_, ?_⟩⟩
    · rw [xK_same]
      exact (kRest_1 (by omega)).trans (kSet_at _ _ _ _ _)
    · have r1 := cRel.set (n := A + 48) (K := kDown (xK X 0) s) hL.2.1 (fun i _ => (sSame.set (by decide) i).tr (sSame.rest _ s i))
      exact hL.mv1 hc hd hSP hg r1.1.l r1.1.k (fun q j => (kRest_1 (by omega)).trans (kSet_ne (by omega))) (by omega) (by omega) (fun m0 G g z => ⟨G, g.dn.down hs, z.down hs⟩)
theorem k_97 (hL : LJ n0 sc c tl cl led X) (hc : c ≤ 200) {s : Nat} (hs : s < 7) : aOut 97 [some (.ref 1), some (.int (Int32.ofNat s)), none] X tr1 (LJ n0 sc (c + 1) tl cl led) := by
  refine aOut.rep trivial (fun hr => ?_)
  have h4 := (hr.choose_spec.2.2.2.2.2.2.1 0 (by omega)).2.1 s hs
  by_cases hup : (xK X 0).1 4 s 0 = 0
  · obtain ⟨S, P, A, hSP, hg, hd⟩ := hL.g
    have r1 := cRel.set (n := A + 48) (K := kSet (xK X 0) 4 s 0 1) hL.2.1 (fun i _ => sSame.set (by decide) i)
    exact Or.inl ⟨_, trivial, RT.m (c_97 hs hup) (hL.mv1 hc hd hSP hg r1.1.l r1.1.k (fun q j => kSet_ne (by omega)) (by omega) (by omega) (fun m0 G g z => ⟨G, g.dn.set (by unfold relF; omega), z.recov⟩))⟩
  · exact Or.inr ⟨_, by decide, c_97x2 hs (h4.resolve_left hup)⟩
theorem lRel_turn (hL : LJ n0 sc c tl cl led X) {s j n : Nat} {v : Int32} : lRel 0 n 0 0 X (xSetK (xSetD X (dSetV (xD X) 0 31 0 0 v)) 0 (kTurn (xK X 0) s j)) ∧ xK (xSetK (xSetD X (dSetV (xD X) 0 31 0 0 v)) 0 (kTurn (xK X 0) s j)) 0 = kTurn (xK X 0) s j :=
  lRel.put (o := 0) (n := n) (c := 0) (z := 0) (X := X) (D := dSetV (xD X) 0 31 0 0 v) (K' := kTurn (xK X 0) s j) hL.2.1 (fun i _ => by unfold kTurn; exact (sSame.set (by decide) i).tr (sSame.set (by decide) i)) (fun _ _ => rfl) (fun a f i j h => by
    show (if _ then _ else _) = _
    rw [if_neg (fun z => h ⟨z.1, z.2.1⟩)]; rfl) (Nat.le_refl _) (Nat.le_refl _)
theorem k_98 (hL : LJ n0 sc c tl cl led X) (hc : c ≤ 200) {s j : Nat} (hs : s < 7) (hj : j < 7) : aOut 98 [some (.ref 1), some (.int (Int32.ofNat s)), some (.int (Int32.ofNat j))] X tr1 (LJ n0 sc (c + 1) tl cl led) := by
  by_cases hne : s = j
  · subst hne
    exact Or.inr ⟨_, by decide, c_98x3 hs⟩
  · cases hb : sBit ((xK X 0).1 30 s 0) j with
    | true => exact Or.inr ⟨_, by decide, c_98x4 hs hj hne hb⟩
    | false =>
      obtain ⟨S, P, A, hSP, hg, hd⟩ := hL.g
      obtain ⟨l1, l2⟩ := lRel_turn hL (s := s) (j := j) (n := A + 48)
      exact Or.inl ⟨_, trivial, RT.m (c_98 hs hj hne hb) (hL.mv1 hc hd hSP hg l1 l2 (fun q j => kTurn_f (by omega)) (by omega) (by omega) (fun m0 G g z => ⟨G, g.dn.link s j, z.link s j⟩))⟩
theorem k_99 (hL : LJ n0 sc c tl cl led X) (hc : c ≤ 200) {s j : Nat} (hs : s < 7) (hj : j < 7) : aOut 99 [some (.ref 1), some (.int (Int32.ofNat s)), some (.int (Int32.ofNat j))] X tr1 (LJ n0 sc (c + 1) tl cl led) := by
  by_cases hne : s = j
  · subst hne
    exact Or.inr ⟨_, by decide, c_99x3 hs⟩
  · cases hb : sBit ((xK X 0).1 30 s 0) j with
    | false => exact Or.inr ⟨_, by decide, c_99x4 hs hj hne hb⟩
    | true =>
      obtain ⟨S, P, A, hSP, hg, hd⟩ := hL.g
      obtain ⟨l1, l2⟩ := lRel_turn hL (s := s) (j := j) (n := A + 48)
      exact Or.inl ⟨_, trivial, RT.m (c_99 hs hj hne hb) (hL.mv1 hc hd hSP hg l1 l2 (fun q j => kTurn_f (by omega)) (by omega) (by omega) (fun m0 G g z => ⟨G, g.dn.link s j, z.link s j⟩))⟩
theorem k_101 (hL : LJ n0 sc c tl cl led X) (hc : c ≤ 200) {s : Nat} (hs : s < 7) : aOut 101 [some (.ref 1), some (.int (Int32.ofNat s)), none] X tr1 (LJ n0 sc (c + 1) tl cl led) := by
  obtain ⟨S, P, A, hSP, hg, hd⟩ := hL.g
  obtain ⟨k1, k2, k3, k4, k5, -⟩ := hg.ok hs
  cases hb : sMayS (xK X 0) s with
  | false => exact Or.inr ⟨_, by decide, c_101x2 hs hL.2.1 hb⟩
  | true =>
    have hN := (kSoundA_p (xK X 0) s).2.2
    have hW := wt_le (xK X 0) s
    have hup : ¬ (xK X 0).1 4 s 0 = 0 := by
      unfold sMayS at hb
      rw [Bool.and_eq_true] at hb
      exact of_decide_eq_true hb.1
    exact Or.inl ⟨_, trivial, (c_101 (n := A + 48) hs hL.2.1 k1 k2 k3 hb).m (fun Y hY => hL.mv1 hc hd hSP hg hY.1.l hY.1.k (fun q j => kSoundA_f (by unfold frF; omega)) (by show _ * 4 ≤ _; omega) (by omega) (fun m0 G g z => z.sound g hs hup))⟩
theorem k_102 (hL : LJ n0 sc c tl cl led X) (hc : c ≤ 200) (a1 : Int32) : aOut 102 [some (.ref 1), some (.int a1), none] X tr1 (LJ n0 sc (c + 1) tl cl led) := by
  obtain ⟨S, P, A, hSP, hg, hd⟩ := hL.g
  rcases i32_srv 7 (by omega) a1 with ⟨s, hs, rfl⟩ | e
  · obtain ⟨k1, k2, k3, k4, k5, -⟩ := hg.ok hs
    by_cases hr : (xK X 0).1 12 s 0 = 3
    · exact Or.inl ⟨_, trivial, (c_102 (n := A + 48) hs hL.2.1 k1 hr (k4 hr)).m (fun Y hY => hL.mv1 hc hd hSP hg hY.1.l hY.1.k (fun q j => kSnd_1 _ _ (by omega)) (by omega) (by omega) (fun m0 G g z => ⟨G, g.dn.snd hs (kR_of (r := 3) (by omega) hr), z.beat g.dn hs hr⟩))⟩
    · exact Or.inr ⟨_, by decide, c_102x2 hs hr⟩
  · exact Or.inr ⟨_, by decide, c_102x1 e⟩
theorem k_103 (hL : LJ n0 sc c tl cl led X) (hc : c ≤ 200) {s : Nat} (hs : s < 7) : aOut 103 [some (.ref 1), some (.int (Int32.ofNat s)), none] X tr1 (LJ n0 sc (c + 1) tl cl led) := by
  obtain ⟨S, P, A, hSP, hg, hd⟩ := hL.g
  obtain ⟨k1, k2, k3, k4, k5, -⟩ := hg.ok hs
  by_cases hup : (xK X 0).1 4 s 0 = 0
  · exact Or.inr ⟨_, by decide, c_103x2 hs hup⟩
  · by_cases hcc : (xK X 0).1 18 s 0 < (xK X 0).1 15 s 0
    · obtain ⟨A', hA, hg'⟩ := hg.cut (k' := 5000 * (600 - (c + 1))) hs hup (by omega) (by omega)
      exact Or.inl ⟨_, trivial, (c_103 (n := A + 48) hs hL.2.1 k1 hup hcc).m (fun Y hY => hL.mv (S' := S + 1) (P' := P) hd hA hY.1.l hY.1.k (hL.2.2.1.cg (fun q j => kCut_1 (by omega))) hg' (by omega) (by show _ + (4 + 3 + 16) ≤ _; omega) (by omega))⟩
    · exact Or.inr ⟨_, by decide, c_103x3 hs hup hcc⟩
theorem k_104 (hL : LJ n0 sc c tl cl led X) (hc : c ≤ 200) (a1 : Int32) {j : Nat} (hj : j < 7) : aOut 104 [some (.ref 1), some (.int a1), some (.int (Int32.ofNat j)), none] X tr1 (LJ n0 sc (c + 1) tl cl led) := by
  obtain ⟨S, P, A, hSP, hg, hd⟩ := hL.g
  rcases i32_srv 7 (by omega) a1 with ⟨s, hs, rfl⟩ | e
  · by_cases hne : s = j
    · subst hne
      exact Or.inr ⟨_, by decide, c_104x3 hs⟩
    · by_cases hr : (xK X 0).1 12 s 0 = 3
      · cases hb : sBit (sMem (xK X 0) s) j with
        | false => exact Or.inr ⟨_, by decide, c_104x5 hs hj hne hL.2.1 hr hb⟩
        | true =>
          by_cases hl : sLast (xK X 0) s ≤ (xK X 0).1 3 s j
          · exact Or.inl ⟨_, trivial, (c_104 (n := A + 48) hs hj hne hL.2.1 ⟨hr, hb, hl⟩).m (fun Y hY => hL.mv1 hc hd hSP hg hY.1.l hY.1.k (fun q j => kSend_1 _ _ (by omega)) (by omega) (by omega) (fun m0 G g z => ⟨G, g.dn.hur hs hj hne, z.send (uV.z rfl) (tU.z rfl)⟩))⟩
          · exact Or.inr ⟨_, by decide, c_104x6 hs hj hne hL.2.1 hr hb hl⟩
      · exact Or.inr ⟨_, by decide, c_104x4 hs hj hne hL.2.1 hr⟩
  · exact Or.inr ⟨_, by decide, c_104x1 e⟩
theorem k_105 (hL : LJ n0 sc c tl cl led X) (hc : c ≤ 200) (a1 : Int32) {j : Nat} (hj : j < 7) : aOut 105 [some (.ref 1), some (.int a1), some (.int (Int32.ofNat j)), none, none] X tr1 (LJ n0 sc (c + 1) tl cl led) := by
  obtain ⟨S, P, A, hSP, hg, hd⟩ := hL.g
  rcases i32_srv 7 (by omega) a1 with ⟨s, hs, rfl⟩ | e
  · obtain ⟨k1, k2, k3, k4, k5, -⟩ := hg.ok hs
    cases hb : sMayC (xK X 0) s with
    | false => exact Or.inr ⟨_, by decide, c_105x3 hs hj hL.2.1 k1 hb⟩
    | true =>
      cases hb2 : sBit (sMem (xK X 0) s) j with
      | true => exact Or.inr ⟨_, by decide, c_105x4 hs hj hL.2.1 k1 hb hb2⟩
      | false =>
        have h0 : ¬ sFlip (sMem (xK X 0) s) j = 0 := by
          obtain ⟨n, n1, n2⟩ := (hL.lsnd hs).2.2.2.2.2.1
          rw [n2] at hb2 ⊢
          exact flip_nz n n1 j hj hb2
        refine Or.inl ⟨_, trivial, (c_105 (n := A + 48) hs hj hL.2.1 k1 k2 k3 hb hb2).m (fun Y hY => hL.mv1 hc hd hSP hg hY.1.l hY.1.k (fun q j' => ?_) (by show 4 ≤ _; omega) (by omega) (fun m0 G g z => NN.join z g.dn hs hj hb h0))⟩
        unfold kJoin
        rw [kLk_1 (by omega), kSet_ne (by omega), kSet_ne (by omega)]; rfl
  · exact Or.inr ⟨_, by decide, c_105x1 e⟩
theorem k_106 (hL : LJ n0 sc c tl cl led X) (hc : c ≤ 200) (a1 : Int32) {j : Nat} (hj : j < 7) : aOut 106 [some (.ref 1), some (.int a1), some (.int (Int32.ofNat j)), none, none, none] X tr1 (LJ n0 sc (c + 1) tl cl led) := by
  obtain ⟨S, P, A, hSP, hg, hd⟩ := hL.g
  rcases i32_srv 7 (by omega) a1 with ⟨s, hs, rfl⟩ | e
  · obtain ⟨k1, k2, k3, k4, k5, -⟩ := hg.ok hs
    cases hb : sMayC (xK X 0) s with
    | false => exact Or.inr ⟨_, by decide, c_106x3 hs hj hL.2.1 k1 hb⟩
    | true =>
      cases hb2 : sBit (sMem (xK X 0) s) j with
      | false => exact Or.inr ⟨_, by decide, c_106x4 hs hj hL.2.1 k1 hb hb2⟩
      | true =>
        by_cases h0 : sFlip (sMem (xK X 0) s) j = 0
        · exact Or.inr ⟨_, by decide, c_106x5 hs hj hL.2.1 k1 hb hb2 h0⟩
        · exact Or.inl ⟨_, trivial, (c_106 (n := A + 48) hs hj hL.2.1 k1 k2 k3 hb hb2 h0).m (fun Y hY => hL.mv1 hc hd hSP hg hY.1.l hY.1.k (fun q j' => kLk_1 (by omega)) (by show 4 ≤ _; omega) (by omega) (fun m0 G g z => NN.leave z g.dn hs hj hb h0))⟩
  · exact Or.inr ⟨_, by decide, c_106x1 e⟩
theorem k_108 (hL : LJ n0 sc c tl cl led X) (hc : c ≤ 200) (a1 : Int32) : aOut 108 [some (.ref 1), some (.int a1)] X tr1 (LJ n0 sc (c + 1) tl cl led) := by
  refine aOut.rep trivial (fun hr => ?_)
  have h60 := (hr.choose_spec.2.2.2.2.2.2.1 0 (by omega)).1
  obtain ⟨S, P, A, hSP, hg, hd⟩ := hL.g
  rcases i32_srv (xK X 0).2.2.length (by omega) a1 with ⟨j, hj, rfl⟩ | e
  · have hu := List.getElem?_eq_getElem hj
    obtain ⟨u, hu0⟩ : ∃ u, u = (xK X 0).2.2[j] := ⟨_, rfl⟩
    rw [← hu0] at hu
    obtain ⟨m0, G, L, g, -⟩ := id hg
    have hm : u ∈ (xK X 0).2.2 := List.mem_of_getElem? hu
    have ho := g.2.2.1 u hm
    obtain ⟨k1, k2, k3, k4, k5, k6⟩ := hg.ok ho.1.2.1
    have hp := kHand_p hu ho.1
    have hφ := phi_le h60
    exact Or.inl ⟨_, trivial, (c_108 (n := A + 48) hu hL.2.1 ho.1 k1 k2 k3 (k6.2 j u hu).2).m (fun Y hY => hL.mv1 hc hd hSP hg hY.l hY.k (fun q j => kHand_f (by unfold frF; omega)) (by show _ * 4 ≤ _; omega) (by omega) (fun m0 G g z => z.hand g hu))⟩
  · exact Or.inr ⟨_, by decide, c_108x1 e⟩
theorem k_109 (hL : LJ n0 sc c tl cl led X) (hc : c ≤ 200) (a1 : Int32) : aOut 109 [some (.ref 1), some (.int a1)] X tr1 (LJ n0 sc (c + 1) tl cl led) := by
  refine aOut.rep trivial (fun hr => ?_)
  have h60 := (hr.choose_spec.2.2.2.2.2.2.1 0 (by omega)).1
  obtain ⟨S, P, A, hSP, hg, hd⟩ := hL.g
  rcases i32_srv (xK X 0).2.2.length (by omega) a1 with ⟨j, hj, rfl⟩ | e
  · exact Or.inl ⟨_, trivial, (c_109 (n := A + 48) hj hL.2.1).m (fun Y hY => hL.mv1 hc hd hSP hg hY.l hY.k (fun q j => kSet_ne (by omega)) (by omega) (by omega) (fun m0 G g z => ⟨G, g.dn.losem j, (z.drop j).lose⟩))⟩
  · exact Or.inr ⟨_, by decide, c_109x1 e⟩
theorem k_110 (hL : LJ n0 sc c tl cl led X) (hc : c ≤ 200) (a1 : Int32) : aOut 110 [some (.ref 1), some (.int a1)] X tr1 (LJ n0 sc (c + 1) tl cl led) := by
  refine aOut.rep trivial (fun hr => ?_)
  have h60 := (hr.choose_spec.2.2.2.2.2.2.1 0 (by omega)).1
  obtain ⟨S, P, A, hSP, hg, hd⟩ := hL.g
  rcases i32_srv (xK X 0).2.2.length (by omega) a1 with ⟨j, hj, rfl⟩ | e
  · have hu := List.getElem?_eq_getElem hj
    by_cases h6 : (xK X 0).2.2.length < 60
    · exact Or.inl ⟨_, trivial, (c_110 (n := A + 48) hu hL.2.1 h6).m (fun Y hY => hL.mv1 hc hd hSP hg hY.1.l hY.1.k (fun q j => kSend_1 _ _ (by omega)) (by omega) (by omega) (fun m0 G g z => ⟨G, g.dn.twice hu, z.twice (List.mem_of_getElem? hu)⟩))⟩
    · exact Or.inr ⟨_, by decide, c_110x2 hj h6⟩
  · exact Or.inr ⟨_, by decide, c_110x1 e⟩
theorem k_100r (hL : LJ n0 sc c tl cl led X) (hc : c ≤ 200) {N : Nat} (h1 : 1 ≤ N) (hN : N ≤ 30) : ∃ v, RU 100 [some (.ref 1), some (.int (Int32.ofNat N)), none, none] X (some (.int v)) (LJ n0 sc (c + 1) tl cl led) := by
  refine RUe.rep (fun hr => ?_)
  have h60 := (hr.choose_spec.2.2.2.2.2.2.1 0 (by omega)).1
  obtain ⟨S, P, A, hSP, hg, hd⟩ := hL.g
  have hm : (1 : Int32) ≤ Int32.ofNat N ∧ Int32.ofNat N ≤ 30 := ⟨(i32_le (a := 1) (by omega) (by omega)).mpr h1, (i32_le (b := 30) (by omega) (by omega)).mpr hN⟩
  obtain ⟨m0, G, L, g, z, -⟩ := id hg
  have hJ := (JN.inv m0 A (A + 48) tl cl led (sR (xK X 0)) (PF.fr (xK X 0))).sh (5000 * (600 - (c + 1)))
  have hX : JN m0 A (A + 48) tl cl led (sR (xK X 0)) (PF (xK X 0)) (2040 + 5000 * (600 - (c + 1))) (xK X 0) := ⟨⟨G, g.mono (by omega), z⟩, fun _ _ => rfl⟩
  obtain ⟨q1, q2, q3⟩ := kRnds_p hJ (k := 2040 - 68 * N) N (xK X 0) (by
    show JN m0 A (A + 48) tl cl led (sR (xK X 0)) (PF (xK X 0)) (2040 - 68 * N + 68 * N + 5000 * (600 - (c + 1))) (xK X 0)
    rw [show 2040 - 68 * N + 68 * N = 2040 by omega]; exact hX) h60
  have hφ := phi_le h60
  have f34 := q3.2
  refine ⟨_, (c_100 hJ hL.2.1 hX rfl (by omega) hm).m (fun Y hY => hL.mv (S' := S) (P' := P + 1) hd (Nat.le_refl _) hY.l hY.k (hL.2.2.1.cg f34) (hg.nxt f34 (fun m0' G0 g0 z0 => ?_)) (by omega) (by show _ + _ * 4 ≤ _; omega) (by omega))⟩
  have hJ0 := (JN.inv m0' A (A + 48) tl cl led (sR (xK X 0)) (PF.fr (xK X 0))).sh (5000 * (600 - (c + 1)))
  obtain ⟨-, -, ⟨G1, g1, z1⟩, -⟩ := kRnds_p hJ0 (k := 2040 - 68 * N) N (xK X 0) (by
    show JN m0' A (A + 48) tl cl led (sR (xK X 0)) (PF (xK X 0)) (2040 - 68 * N + 68 * N + 5000 * (600 - (c + 1))) (xK X 0)
    exact ⟨⟨G0, g0.mono (by omega), z0⟩, fun _ _ => rfl⟩) h60
  exact ⟨G1, g1.mono (by omega), z1⟩
theorem k_100 (hL : LJ n0 sc c tl cl led X) (hc : c ≤ 200) {N : Nat} (h1 : 1 ≤ N) (hN : N ≤ 30) : aOut 100 [some (.ref 1), some (.int (Int32.ofNat N)), none, none] X tr1 (LJ n0 sc (c + 1) tl cl led) := by
  obtain ⟨v, h⟩ := k_100r hL hc h1 hN
  exact Or.inl ⟨v, trivial, h⟩
/-- a client's request -/
theorem LJ.rq (hL : LJ n0 sc c tl cl led X) {q : Nat} (hq : q < 4) : ((xK X 0).1 34 q 3 = 0 ∧ (xK X 0).1 34 q 3 + 1 = Int32.ofNat 1) ∨ (∃ n : Nat, 1 ≤ n ∧ n ≤ c ∧ (xK X 0).1 34 q 3 = Int32.ofNat n ∧ (xK X 0).1 34 q 3 + 1 = Int32.ofNat (n + 1)) := by
  rcases hL.2.2.1 q hq with ⟨z, -⟩ | ⟨n, n1, n2, n3, -⟩
  · exact Or.inl ⟨z, by rw [z]; rfl⟩
  · exact Or.inr ⟨n, n1, n2, n3, by rw [n3]; exact i32_suc1 n⟩
theorem ask_n {K : KK} {q k n : Nat} {kd ex vl : Int32} (h : kCl c K) (hk : k < 8) (hkd : 1 ≤ kd ∧ kd ≤ 3) (hn1 : 1 ≤ n) (hn2 : n ≤ c + 1) (hs : K.1 34 q 3 + 1 = Int32.ofNat n) : kCl (c + 1) (kAsk K q kd (Int32.ofNat k) ex vl) := by
  have e34 : ∀ x, ¬ x = q → ∀ j, (kAsk K q kd (Int32.ofNat k) ex vl).1 34 x j = K.1 34 x j := fun x hx j => by
    unfold kAsk
    rw [kSet_ne (by omega), kRow_ne (by omega)]
  have eq : ∀ j, (kAsk K q kd (Int32.ofNat k) ex vl).1 34 q j = rAsk (Int32.ofNat q) (K.1 34 q 3 + 1) kd (Int32.ofNat k) ex vl j := fun j => by
    unfold kAsk
    rw [kSet_ne (by omega)]
    exact if_pos ⟨rfl, rfl⟩
  intro x hx
  by_cases e : x = q
  · subst e
    refine Or.inr ⟨n, hn1, hn2, ?_, ?_, ?_, k, hk, ?_⟩
    · rw [eq]; exact hs
    · rw [eq]; exact hkd
    · rw [eq]; rfl
    · rw [eq]; rfl
  · rw [e34 x e, e34 x e, e34 x e, e34 x e]
    rcases h x hx with ⟨z1, z2⟩ | ⟨n', z1, z2, z3⟩
    · exact Or.inl ⟨z1, fun j hj => by rw [e34 x e]; exact z2 j hj⟩
    · exact Or.inr ⟨n', z1, by omega, z3⟩
theorem lRel_ask (hL : LJ n0 sc c tl cl led X) {q n : Nat} {kd ky ex vl : Int32} {r : ENT} : lRel 0 n 1 6 X (xSetK (xSetD X (dReq1 (xD X) r)) 0 (kAsk (xK X 0) q kd ky ex vl)) ∧ xK (xSetK (xSetD X (dReq1 (xD X) r)) 0 (kAsk (xK X 0) q kd ky ex vl)) 0 = kAsk (xK X 0) q kd ky ex vl :=
  lRel.put hL.2.1 (fun i _ => by
    refine ⟨rfl, fun j _ => ?_⟩
    unfold kAsk
    rw [kSet_ne (by omega), kRow_ne (by omega)]) (fun _ _ => rfl) (fun _ _ _ _ _ => rfl) (Nat.le_refl _) (Nat.le_refl _)
theorem LJ.ask (hL : LJ n0 sc c tl cl led X) (hc : c ≤ 200) {q k : Nat} {kd ex vl : Int32} {r : ENT} (hq : q < 4) (hk : k < 8) (hkd : 1 ≤ kd ∧ kd ≤ 3) : LJ n0 sc (c + 1) tl cl led (xSetK (xSetD X (dReq1 (xD X) r)) 0 (kAsk (xK X 0) q kd (Int32.ofNat k) ex vl)) := by
  obtain ⟨S, P, A, hSP, hg, hd⟩ := hL.g
  obtain ⟨l1, l2⟩ := lRel_ask hL (q := q) (n := A + 48) (kd := kd) (ky := Int32.ofNat k) (ex := ex) (vl := vl) (r := r)
  obtain ⟨n, n1, n2, n3, n4⟩ : ∃ n : Nat, 1 ≤ n ∧ n ≤ c + 1 ∧ (xK X 0).1 34 q 3 + 1 = Int32.ofNat n ∧ (xK X 0).1 34 q 3 ≤ Int32.ofNat n := by
    rcases hL.rq hq with ⟨z, z2⟩ | ⟨n, n1, n2, n3, n4⟩
    · exact ⟨1, Nat.le_refl _, by omega, z2, by rw [z]; decide⟩
    · exact ⟨n + 1, by omega, by omega, n4, by rw [n3, i32_le (by omega) (by omega)]; omega⟩
  refine hL.mv (S' := S) (P' := P + 1) hd (Nat.le_refl _) l1 l2 (ask_n hL.2.2.1 hk hkd n1 n2 n3) (hg.next (fun m0 G g z => ⟨G, (g.mono (by omega)).ask q _ _ _ _, z.ask (fun x hx => ?_)⟩)) (by omega) (by omega) (by omega)
  show (xK X 0).1 34 x 3 ≤ (kAsk (xK X 0) q kd (Int32.ofNat k) ex vl).1 34 x 3
  unfold kAsk
  rw [kSet_ne (by omega)]
  by_cases e : x = q
  · subst e
    show _ ≤ (if 34 = 34 ∧ x = x then rAsk (Int32.ofNat x) ((xK X 0).1 34 x 3 + 1) kd (Int32.ofNat k) ex vl 3 else (xK X 0).1 34 x 3)
    rw [if_pos ⟨rfl, rfl⟩]
    show _ ≤ (xK X 0).1 34 x 3 + 1
    rw [n3]; exact n4
  · rw [kRow_ne (by omega)]
    exact Int32.le_refl _
theorem LJ.nz (hL : LJ n0 sc c tl cl led X) (hc : c ≤ 200) {q : Nat} (hq : q < 4) : ¬ (xK X 0).1 34 q 3 + 1 = 0 := by
  rcases hL.rq hq with ⟨-, z⟩ | ⟨n, n1, n2, n3, n4⟩
  · rw [z]; decide
  · rw [n4, show (0 : Int32) = Int32.ofNat 0 from rfl, i32_eq (by omega) (by omega)]; omega
theorem k_116 (hL : LJ n0 sc c tl cl led X) (hc : c ≤ 200) {q k : Nat} (hq : q < 4) (hk : k < 8) (vl : Int32) : aOut 116 [some (.ref 1), some (.int (Int32.ofNat q)), some (.int (Int32.ofNat k)), some (.int vl)] X tr1 (LJ n0 sc (c + 1) tl cl led) := by
  by_cases hv : (-9999 : Int32) ≤ vl ∧ vl ≤ 9999
  · by_cases hw : (xK X 0).1 34 q 3 = 0 ∨ ¬ (xK X 0).1 35 q 0 = 0
    · exact Or.inl ⟨_, trivial, RT.m (c_116 hq hk hv hw (hL.nz hc hq)) (hL.ask hc hq hk (by decide))⟩
    · have hw' := not_or.mp hw
      exact Or.inr ⟨_, by decide, c_116x5 hq hk hv ⟨hw'.1, Classical.not_not.mp hw'.2⟩⟩
  · exact Or.inr ⟨_, by decide, c_116x4 hq hk hv⟩
theorem k_117 (hL : LJ n0 sc c tl cl led X) (hc : c ≤ 200) {q k : Nat} (hq : q < 4) (hk : k < 8) (vl : Int32) : aOut 117 [some (.ref 1), some (.int (Int32.ofNat q)), some (.int (Int32.ofNat k)), some (.int vl)] X tr1 (LJ n0 sc (c + 1) tl cl led) := by
  by_cases hv : (-9999 : Int32) ≤ vl ∧ vl ≤ 9999
  · by_cases hw : (xK X 0).1 34 q 3 = 0 ∨ ¬ (xK X 0).1 35 q 0 = 0
    · exact Or.inl ⟨_, trivial, RT.m (c_117 hq hk hv hw (hL.nz hc hq)) (hL.ask hc hq hk (by decide))⟩
    · have hw' := not_or.mp hw
      exact Or.inr ⟨_, by decide, c_117x5 hq hk hv ⟨hw'.1, Classical.not_not.mp hw'.2⟩⟩
  · exact Or.inr ⟨_, by decide, c_117x4 hq hk hv⟩
theorem k_119 (hL : LJ n0 sc c tl cl led X) (hc : c ≤ 200) {q : Nat} (hq : q < 4) (a2 : Int32) : aOut 119 [some (.ref 1), some (.int (Int32.ofNat q)), some (.int a2), none, none, none] X tr1 (LJ n0 sc (c + 1) tl cl led) := by
  obtain ⟨S, P, A, hSP, hg, hd⟩ := hL.g
  rcases i32_srv 7 (by omega) a2 with ⟨s, hs, rfl⟩ | e2
  · obtain ⟨k1, k2, k3, k4, k5, -⟩ := hg.ok hs
    rcases hL.2.2.1 q hq with ⟨z, -⟩ | ⟨n, n1, n2, n3, n4, n5, y, n6, n7⟩
    · exact Or.inr ⟨_, by decide, c_119x3 hs hq z⟩
    · have h3 : ¬ (xK X 0).1 34 q 3 = 0 := by rw [n3, show (0 : Int32) = Int32.ofNat 0 from rfl, i32_eq (by omega) (by omega)]; omega
      by_cases h35 : (xK X 0).1 35 q 0 = 0
      · by_cases hr : (xK X 0).1 12 s 0 = 3
        · by_cases hl : ((xK X 0).2.1 s).length < 40
          · have n4' : ¬ (eReq (xK X 0) s q) 1 = 4 := fun z => by
              have z' : (xK X 0).1 34 q 1 = 4 := z
              rw [z'] at n4
              exact absurd n4.2 (by decide)
            have hE : eOk (eReq (xK X 0) s q) := ⟨fun z => absurd z n4', fun _ => ⟨⟨q, hq, n5⟩, y, n6, n7⟩⟩
            have hV : eV (sR (xK X 0)) (eReq (xK X 0) s q) := by
              refine ⟨fun z => absurd z n4', fun _ => ?_⟩
              show ((xK X 0).1 34 q 2).toNatClampNeg < 4 ∧ ((xK X 0).1 34 q 4).toNatClampNeg < 8 ∧ (xK X 0).1 34 q 3 ≤ (xK X 0).1 34 ((xK X 0).1 34 q 2).toNatClampNeg 3
              rw [n5, n7, toN (by omega), toN (by omega)]
              exact ⟨hq, n6, Int32.le_refl _⟩
            exact Or.inl ⟨_, trivial, (c_119 (n := A + 48) hs hq hL.2.1 k1 k2 k3 h3 h35 hr hl n4 hE).m (fun Y hY => hL.mv1 hc hd hSP hg hY.1.l hY.1.k (fun q j' => kLk_1 (by omega)) (by show 4 ≤ _; omega) (by omega) (fun m0 G g z => NN.req z g.dn hs hr hl n4 hE hV))⟩
          · exact Or.inr ⟨_, by decide, c_119x6 hs hq h3 h35 hr hl (by omega)⟩
        · exact Or.inr ⟨_, by decide, c_119x5 hs hq h3 h35 hr⟩
      · exact Or.inr ⟨_, by decide, c_119x4 hs hq h3 h35⟩
  · exact Or.inr ⟨_, by decide, c_119x2 hq e2⟩
/-- the beginning -/
theorem k_95 (hL : LJ n0 sc c tl cl led X) (hc : c ≤ 200) {N : Nat} (h1 : 1 ≤ N) (hN : N ≤ 7) : ∃ v, RU 95 [some (.ref 1), some (.int (Int32.ofNat N))] X (some (.int v)) (LJ n0 sc (c + 1) (fun _ => 0) (fun _ => 0) (fun _ => 0)) := by
  obtain ⟨S, P, A, hSP, hg, hd⟩ := hL.g
  have hm : (1 : Int32) ≤ Int32.ofNat N ∧ Int32.ofNat N ≤ 7 := ⟨(i32_le (a := 1) (by omega) (by omega)).mpr h1, (i32_le (b := 7) (by omega) (by omega)).mpr hN⟩
  obtain ⟨v, vc, vn⟩ := kBegin_v (xK X 0) (sFirst (Int32.ofNat N))
  refine ⟨_, (c_95 (n := A + 48) hL.2.1 hm).m (fun Y hY => ?_)⟩
  obtain ⟨Z, hZ, rfl⟩ := hY
  obtain ⟨l1, l2⟩ := lRel.cut hZ 0
  have eZ : xK Z 0 = kBegC 4 0 (kBegS (sFirst (Int32.ofNat N)) 7 0 (xK X 0)) := hZ.k
  rw [eZ]
  obtain ⟨q1, q2⟩ := l1.setK (K' := kSet (kClr (kBegC 4 0 (kBegS (sFirst (Int32.ofNat N)) 7 0 (xK X 0)))) 33 0 0 0) (fun i _ => by
    rw [l2]
    refine ⟨rfl, fun j _ => ?_⟩
    rw [kSet_ne (by omega)]
    unfold kClr
    rw [kSet_ne (by omega)]
    show (if 18 = 30 ∧ i < 7 ∧ j = 0 then (0 : Int32) else (kBegC 4 0 (kBegS (sFirst (Int32.ofNat N)) 7 0 (xK X 0))).1 18 i j) = _
    rw [if_neg (by omega)])
  exact hL.mv (S' := S) (P' := P + 1) (K := kBegin (xK X 0) (sFirst (Int32.ofNat N))) hd (Nat.le_refl _) q1 q2 (fun q hq => Or.inl ⟨vc q hq 3 (by omega), vc q hq⟩) (hg.begin hm (by omega)) (by omega) (by show _ + (4 + 3 + 16) ≤ _; omega) (by omega)
end LC
