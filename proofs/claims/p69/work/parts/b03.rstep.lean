/-! ===== THE SERVERS AGREE: steps ===== -/
def up1 {α : Type} (f : Nat → α) (s : Nat) (v : α) : Nat → α := fun x => if x = s then v else f x
def up2 {α : Type} (f : Nat → Nat → α) (a b : Nat) (v : α) : Nat → Nat → α := fun x y => if x = a ∧ y = b then v else f x y
theorem up1_s {α : Type} (f : Nat → α) (s : Nat) (v : α) : up1 f s v s = v := if_pos rfl
theorem up1_n {α : Type} {f : Nat → α} {s x : Nat} {v : α} (h : ¬ x = s) : up1 f s v x = f x := if_neg h
theorem up2_s {α : Type} (f : Nat → Nat → α) (a b : Nat) (v : α) : up2 f a b v a b = v := if_pos ⟨rfl, rfl⟩
theorem up2_n {α : Type} {f : Nat → Nat → α} {a b x y : Nat} {v : α} (h : ¬ (x = a ∧ y = b)) : up2 f a b v x y = f x y := if_neg h
theorem up1_le {T : Nat → Nat} {s t : Nat} (h : T s ≤ t) (x : Nat) : T x ≤ up1 T s t x := by
  by_cases e : x = s
  · rw [e, up1_s]; exact h
  · rw [up1_n e]; exact Nat.le_refl _
section STP
variable {m0 : Int32} {T R : Nat → Nat} {P : Nat → Option Nat} {Y : Nat → Nat → Bool} {G : GG}
/-- only the seven servers count -/
theorem cI.cg {T' R' : Nat → Nat} {P' : Nat → Option Nat} {Y' : Nat → Nat → Bool} (h : cI m0 T R P Y G) (hT : ∀ x, x < 7 → T' x = T x) (hR : ∀ x, x < 7 → R' x = R x) (hP : ∀ x, x < 7 → P' x = P x)
    (hY : ∀ x, x < 7 → R x = 2 → ∀ v, v < 7 → Y' x v = true → Y x v = true ∨ ∃ VL, gV G (T x) v = some (x, VL)) : cI m0 T' R' P' Y' G := by
  obtain ⟨d, f, r, v, p, a, s6, s7, c, m⟩ := h
  refine ⟨fun t c hc => ?_, fun s hs => ?_, fun s hs => ?_, fun t u c VL hv => ?_, fun u hu => ?_, fun t u hu => ?_, fun u t i hu hi hx => ?_, s7, c, m⟩
  · have h1 := d t c hc
    rw [hT c h1.1]; exact h1
  · rw [hT s hs]; exact f s hs
  · rw [hT s hs, hR s hs]
    refine ⟨(r s hs).1, fun z => ?_⟩
    obtain ⟨a1, a2, a3, a4, a5⟩ := (r s hs).2 z
    refine ⟨a1, a2, a3, a4, fun v hv hy => ?_⟩
    rcases hY s hs z v hv hy with q | q
    · exact a5 v hv q
    · exact q
  · have h1 := v t u c VL hv
    rw [hT u h1.1, hT c h1.2.1]; exact h1
  · rw [hT u hu, hP u hu]; exact p u hu
  · rw [hT u hu]; exact a t u hu
  · exact s6 u t i hu hi (fun t' h1 h2 => hx t' h1 (by rw [hT u hu]; exact h2))
/-- a server is a follower, or a sounder -/
theorem cI.role {s r : Nat} (h : cI m0 T R P Y G) (h2 : ¬ r = 2) (h3 : ¬ r = 3) : cI m0 T (up1 R s r) P Y G := by
  obtain ⟨d, f, r0, v, p, a, s6, s7, c, m⟩ := h
  refine ⟨d, f, fun x hx => ?_, v, p, a, s6, s7, c, m⟩
  by_cases e : x = s
  · rw [e, up1_s]; exact ⟨fun z => absurd z h3, fun z => absurd z h2⟩
  · rw [up1_n e]; exact r0 x hx
/-- a greater term -/
theorem cI.bump {s t : Nat} (h : cI m0 T R P Y G) (ht : T s < t) : cI m0 (up1 T s t) (up1 R s 0) (up1 P s none) Y G := by
  obtain ⟨d, f, r, v, p, a, s6, s7, c, m⟩ := h
  have hle : ∀ x, T x ≤ up1 T s t x := up1_le (Nat.le_of_lt ht)
  refine ⟨fun t' c hc => ?_, fun x hx => ?_, fun x hx => ?_, fun t' u c VL hv => ?_, fun u hu => ?_, fun t' u hu h0 => ?_, fun u t' i hu hi hx => ?_, s7, c, m⟩
  · obtain ⟨d1, d2, d3, d4⟩ := d t' c hc
    exact ⟨d1, d2, Nat.le_trans d3 (hle c), d4⟩
  · exact ⟨(f x hx).1, fun e he => Nat.le_trans ((f x hx).2 e he) (hle x)⟩
  · by_cases e : x = s
    · rw [e, up1_s, up1_s]; exact ⟨fun z => absurd z (by decide), fun z => absurd z (by decide)⟩
    · rw [up1_n e, up1_n e]; exact r x hx
  · obtain ⟨v1, v2, v3, v4, v5⟩ := v t' u c VL hv
    exact ⟨v1, v2, Nat.le_trans v3 (hle u), Nat.le_trans v4 (hle c), v5⟩
  · by_cases e : u = s
    · subst e
      rw [up1_s, up1_s]
      refine ⟨fun _ => ?_, fun c hc => by cases hc⟩
      cases hv : gV G t u with
      | none => rfl
      | some x => have := (v t u x.1 x.2 hv).2.2.1; omega
    · rw [up1_n e, up1_n e]; exact p u hu
  · obtain ⟨a1, a2⟩ := a t' u hu h0
    exact ⟨Nat.le_trans a1 (hle u), a2⟩
  · exact s6 u t' i hu hi (fun t2 h1 h2 => hx t2 h1 (Nat.le_trans h2 (hle u)))
/-- a vote is given, for a log that is as good -/
def gVote (G : GG) (t v c : Nat) : GG := (gF G, gL G, gE G, gD G, gW G, up2 (gV G) t v (some (c, gF G v)), gA G, gC G)
theorem cI.vote {v c : Nat} (h : cI m0 T R P Y G) (hv : v < 7) (hc : c < 7) (hP : P v = none) (hTc : T v ≤ T c) (hev : c = v ∨ ∃ CL, gV G (T v) c = some (c, CL) ∧ gd CL (gF G v)) : cI m0 T R (up1 P v (some c)) Y (gVote G (T v) v c) := by
  obtain ⟨d, f, r, w, p, a, s6, s7, cc, m⟩ := h
  have hnone : gV G (T v) v = none := (p v hv).1 hP
  have hmono : ∀ t u x, gV G t u = some x → gV (gVote G (T v) v c) t u = some x := fun t u x hx => by
    show up2 (gV G) (T v) v _ t u = _
    rw [up2_n (fun z => by rw [z.1, z.2, hnone] at hx; cases hx)]; exact hx
  refine ⟨fun t' c' hc' => ?_, f, fun x hx => ?_, fun t' u c' VL hu => ?_, fun u hu => ?_, a, s6, fun t t' u c' VL i hu h1 h2 h3 h4 => ?_, cc, m⟩
  · obtain ⟨d1, d2, d3, d4, d5, d6, d7, d8, d9⟩ := d t' c' hc'
    exact ⟨d1, d2, d3, d4, hmono _ _ _ d5, d6, fun u hu hw => by obtain ⟨VL, z⟩ := d7 u hu hw; exact ⟨VL, hmono _ _ _ z⟩, d8, d9⟩
  · refine ⟨(r x hx).1, fun z => ?_⟩
    obtain ⟨a1, a2, a3, a4, a5⟩ := (r x hx).2 z
    exact ⟨a1, a2, hmono _ _ _ a3, a4, fun u hu hy => by obtain ⟨VL, q⟩ := a5 u hu hy; exact ⟨VL, hmono _ _ _ q⟩⟩
  · by_cases e : t' = T v ∧ u = v
    · obtain ⟨e1, e2⟩ := e
      subst e2
      rw [e1] at hu ⊢
      have hu2 : (some (c, gF G u) : Option (Nat × List ENT)) = some (c', VL) := (up2_s _ _ _ _).symm.trans hu
      obtain ⟨e3, e4⟩ := Prod.mk.inj (Option.some.inj hu2)
      subst e3; subst e4
      refine ⟨hv, hc, Nat.le_refl _, hTc, (f u hv).1, ?_⟩
      rcases hev with z | ⟨CL, z1, z2⟩
      · subst z
        exact ⟨gF G c, up2_s _ _ _ _, Or.inr ⟨rfl, Nat.le_refl _⟩⟩
      · exact ⟨CL, hmono _ _ _ z1, z2⟩
    · have hu2 : gV G t' u = some (c', VL) := (up2_n e).symm.trans hu
      obtain ⟨v1, v2, v3, v4, v5, CL, v6, v7⟩ := w t' u c' VL hu2
      exact ⟨v1, v2, v3, v4, v5, CL, hmono _ _ _ v6, v7⟩
  · by_cases e : u = v
    · subst e
      rw [up1_s]
      exact ⟨fun z => (by cases z), fun c' hc' => ⟨gF G u, by rw [← Option.some.inj hc']; exact up2_s _ _ _ _⟩⟩
    · rw [up1_n e]
      have e9 : gV (gVote G (T v) v c) (T u) u = gV G (T u) u := up2_n (fun z => e z.2)
      rw [e9]
      exact p u hu
  · by_cases e : t' = T v ∧ u = v
    · obtain ⟨e1, e2⟩ := e
      subst e2
      rw [e1] at hu h1 h3 h4
      have hu2 : (some (c, gF G u) : Option (Nat × List ENT)) = some (c', VL) := (up2_s _ _ _ _).symm.trans hu
      obtain ⟨e3, e4⟩ := Prod.mk.inj (Option.some.inj hu2)
      subst e4
      refine s6 u t i hv h2 (fun t2 q1 q2 q3 => ?_)
      by_cases e5 : t2 = T u
      · rw [e5] at q3 ⊢
        rcases h4 with z | z | z
        · exact absurd z q3
        · cases hd : gD G (T u) with
          | none => exact absurd hd q3
          | some c2 =>
            obtain ⟨VL, y⟩ := (d (T u) c2 hd).2.2.2.2.2.2.1 u hv z
            rw [hnone] at y; cases y
        · exact z
      · exact h3 t2 q1 (by omega) q3
    · exact s7 t t' u c' VL i ((up2_n e).symm.trans hu) h1 h2 h3 h4
/-- a candidate -/
theorem cI.cand {s : Nat} {Y' : Nat → Nat → Bool} (h : cI m0 T R P Y G) (h1 : 1 ≤ T s) (hd : ¬ gD G (T s) = some s) (hv : gV G (T s) s = some (s, gF G s)) (hl : ∀ e, e ∈ gF G s → tm e < T s) (hY : ∀ v, v < 7 → Y' s v = true → v = s) (hY2 : ∀ x v, ¬ x = s → Y' x v = Y x v) : cI m0 T (up1 R s 2) P Y' G := by
  obtain ⟨d, f, r, v, p, a, s6, s7, c, m⟩ := h
  refine ⟨d, f, fun x hx => ?_, v, p, a, s6, s7, c, m⟩
  by_cases e : x = s
  · subst e
    rw [up1_s]
    exact ⟨fun z => absurd z (by decide), fun _ => ⟨h1, hd, hv, hl, fun u hu hy => by rw [hY u hu hy]; exact ⟨_, hv⟩⟩⟩
  · rw [up1_n e]
    refine ⟨(r x hx).1, fun z => ?_⟩
    obtain ⟨a1, a2, a3, a4, a5⟩ := (r x hx).2 z
    exact ⟨a1, a2, a3, a4, fun u hu hy => a5 u hu (by rw [← hY2 x u e]; exact hy)⟩
/-- a log that could win: the candidate's own -/
theorem cI.win {s : Nat} (h : cI m0 T R P Y G) (hs : s < 7) (h2 : R s = 2) (hq : qMost (cf m0 (gF G s)) (Y s)) : wn m0 G (T s) s (gF G s) (Y s) := by
  obtain ⟨d, f, r, v, p, a, s6, s7, c, m⟩ := h
  obtain ⟨a1, a2, a3, a4, a5⟩ := (r s hs).2 h2
  exact ⟨a3, hq, a5, a4, (f s hs).1⟩
theorem cI.free {s : Nat} (h : cI m0 T R P Y G) (hs : s < 7) (h2 : R s = 2) (hq : qMost (cf m0 (gF G s)) (Y s)) : gD G (T s) = none := by
  have hw := h.win hs h2 hq
  obtain ⟨d, f, r, v, p, a, s6, s7, c, m⟩ := h
  cases hd : gD G (T s) with
  | none => rfl
  | some c2 =>
    have e := esAll d v s7 c m hw hd
    rw [← e] at hd
    exact absurd hd ((r s hs).2 h2).2.1
/-- to lead -/
def gLead (G : GG) (t s : Nat) (Ys : Nat → Bool) (e : ENT) : GG := (up1 (gF G) s (gF G s ++ [e]), up1 (gL G) t (gF G s ++ [e]), up1 (gE G) t (gF G s).length, up1 (gD G) t (some s), up1 (gW G) t Ys, gV G, up2 (gA G) t s ((gF G s).length + 1), gC G)
theorem ag.al {L M : List ENT} {i : Nat} (h : ag L M i) (N : List ENT) : ag (L ++ N) M i := (h.sy.ap N).sy
theorem get_snoc {L : List ENT} {e x : ENT} {j : Nat} (h : (L ++ [e])[j]? = some x) : (j < L.length ∧ L[j]? = some x) ∨ (j = L.length ∧ x = e) := by
  rcases Nat.lt_trichotomy j L.length with z | z | z
  · rw [List.getElem?_append_left z] at h; exact Or.inl ⟨z, h⟩
  · refine Or.inr ⟨z, ?_⟩
    rw [z, List.getElem?_append_right (Nat.le_refl _), Nat.sub_self] at h
    exact (Option.some.inj h).symm
  · rw [List.getElem?_eq_none (by rw [List.length_append, List.length_singleton]; omega)] at h; cases h
theorem cI.lead {s : Nat} {e : ENT} (h : cI m0 T R P Y G) (hs : s < 7) (h2 : R s = 2) (hq : qMost (cf m0 (gF G s)) (Y s)) (he : tm e = T s) (h4 : ¬ e 1 = 4) : cI m0 T (up1 R s 3) P Y (gLead G (T s) s (Y s) e) := by
  have hfr := h.free hs h2 hq
  obtain ⟨d, f, r, v, p, a, s6, s7, c, m⟩ := h
  obtain ⟨a1, a2, a3, a4, a5⟩ := (r s hs).2 h2
  have hne : ∀ t', ¬ gD G t' = none → ¬ t' = T s := fun t' z z2 => z (by rw [z2]; exact hfr)
  have eL : ∀ t', ¬ t' = T s → gL (gLead G (T s) s (Y s) e) t' = gL G t' := fun t' z => up1_n z
  have eE : ∀ t', ¬ t' = T s → gE (gLead G (T s) s (Y s) e) t' = gE G t' := fun t' z => up1_n z
  have eD : ∀ t', ¬ t' = T s → gD (gLead G (T s) s (Y s) e) t' = gD G t' := fun t' z => up1_n z
  have eW : ∀ t', ¬ t' = T s → gW (gLead G (T s) s (Y s) e) t' = gW G t' := fun t' z => up1_n z
  have eEl : ∀ t', ¬ t' = T s → el (gLead G (T s) s (Y s) e) t' = el G t' := fun t' z => by unfold el; rw [eL t' z, eE t' z]
  have lT : gL (gLead G (T s) s (Y s) e) (T s) = gF G s ++ [e] := up1_s _ _ _
  have lE : gE (gLead G (T s) s (Y s) e) (T s) = (gF G s).length := up1_s _ _ _
  have lD : gD (gLead G (T s) s (Y s) e) (T s) = some s := up1_s _ _ _
  have lEl : el (gLead G (T s) s (Y s) e) (T s) = gF G s := by
    unfold el; rw [lT, lE, List.take_append_of_le_length (Nat.le_refl _), List.take_length]
  have vv : ∀ L, vL G L → vL (gLead G (T s) s (Y s) e) L := fun L hL j x hx => by
    obtain ⟨b1, b2, b3⟩ := hL j x hx
    have b4 := hne _ b1
    rw [eD _ b4, eE _ b4, eL _ b4]
    exact ⟨b1, b2, b3⟩
  have vF : vL (gLead G (T s) s (Y s) e) (gF G s ++ [e]) := fun j x hx => by
    rcases get_snoc hx with ⟨z1, z2⟩ | ⟨z1, z2⟩
    · obtain ⟨b1, b2, b3⟩ := vv _ (f s hs).1 j x z2
      exact ⟨b1, b2, b3.al _⟩
    · rw [z2, he, lD, lE, lT]
      exact ⟨(fun z => by cases z), by omega, ag.rf (by rw [List.length_append, List.length_singleton]; omega)⟩
  have hA0 : ∀ t' u, u < 7 → gD G t' = none → gA G t' u = 0 := fun t' u hu z => Classical.byContradiction (fun z2 => (a t' u hu z2).2.1 z)
  refine ⟨fun t' c' hc' => ?_, fun x hx => ?_, fun x hx => ?_, fun t' u c' VL hu => ?_, p, fun t' u hu h0 => ?_, fun u t' i hu hi hx => ?_, fun t t' u c' VL i hu g1 g2 g3 g4 => ?_, fun t' i n hc' => ?_, fun t' j x hd hj hx h9 => ?_⟩
  · by_cases e1 : t' = T s
    · subst e1
      rw [lD] at hc'
      have e2 := Option.some.inj hc'
      subst e2
      rw [lT, lE, lEl]
      refine ⟨hs, a1, Nat.le_refl _, by rw [List.length_append, List.length_singleton]; omega, a3, ?_, ?_, fun j x hx => ?_, vF⟩
      · rw [show gW (gLead G (T s) s (Y s) e) (T s) = Y s from up1_s _ _ _]; exact hq
      · rw [show gW (gLead G (T s) s (Y s) e) (T s) = Y s from up1_s _ _ _]; exact a5
      · rcases get_snoc hx with ⟨z1, z2⟩ | ⟨z1, z2⟩
        · exact ⟨fun _ => a4 x (List.mem_of_getElem? z2), fun z => by omega⟩
        · rw [z2]; exact ⟨fun z => by omega, fun _ => he⟩
    · rw [eD _ e1] at hc'
      obtain ⟨d1, d2, d3, d4, d5, d6, d7, d8, d9⟩ := d t' c' hc'
      rw [eL _ e1, eE _ e1, eEl _ e1, eW _ e1]
      exact ⟨d1, d2, d3, d4, d5, d6, d7, d8, vv _ d9⟩
  · by_cases e1 : x = s
    · subst e1
      rw [show gF (gLead G (T x) x (Y x) e) x = gF G x ++ [e] from up1_s _ _ _]
      refine ⟨vF, fun y hy => ?_⟩
      rcases List.mem_append.mp hy with z | z
      · exact (f x hs).2 y z
      · rw [List.mem_singleton.mp z, he]; exact Nat.le_refl _
    · rw [show gF (gLead G (T s) s (Y s) e) x = gF G x from up1_n e1]
      exact ⟨vv _ (f x hx).1, (f x hx).2⟩
  · by_cases e1 : x = s
    · subst e1
      rw [up1_s, lD, lT]
      exact ⟨fun _ => ⟨rfl, up1_s _ _ _⟩, fun z => absurd z (by decide)⟩
    · rw [up1_n e1, show gF (gLead G (T s) s (Y s) e) x = gF G x from up1_n e1]
      refine ⟨fun z => ?_, fun z => ?_⟩
      · obtain ⟨q1, q2⟩ := (r x hx).1 z
        have q3 := hne (T x) (by rw [q1]; exact fun y => by cases y)
        rw [eD _ q3, eL _ q3]
        exact ⟨q1, q2⟩
      · obtain ⟨b1, b2, b3⟩ := (r x hx).2 z
        refine ⟨b1, fun y => ?_, b3⟩
        by_cases q3 : T x = T s
        · rw [q3, lD] at y; exact e1 (Option.some.inj y).symm
        · rw [eD _ q3] at y; exact b2 y
  · obtain ⟨v1, v2, v3, v4, v5, v6⟩ := v t' u c' VL hu
    exact ⟨v1, v2, v3, v4, vv _ v5, v6⟩
  · by_cases e1 : t' = T s
    · subst e1
      by_cases e2 : u = s
      · subst e2
        rw [lD, lT]
        refine ⟨Nat.le_refl _, (fun z => by cases z), ?_⟩
        rw [show gA (gLead G (T u) u (Y u) e) (T u) u = (gF G u).length + 1 from up2_s _ _ _ _, List.length_append, List.length_singleton]
        exact Nat.le_refl _
      · exact absurd ((up2_n (fun z => e2 z.2)).trans (hA0 (T s) u hu hfr)) h0
    · rw [eD _ e1, eL _ e1, show gA (gLead G (T s) s (Y s) e) t' u = gA G t' u from up2_n (fun z => e1 z.1)]
      rw [show gA (gLead G (T s) s (Y s) e) t' u = gA G t' u from up2_n (fun z => e1 z.1)] at h0
      exact a t' u hu h0
  · have hx' : ∀ t2, t' < t2 → t2 ≤ T u → ¬ gD G t2 = none → ag (el G t2) (gL (gLead G (T s) s (Y s) e) t') i := fun t2 q1 q2 q3 => by
      have q4 := hne t2 q3
      rw [← eEl t2 q4]
      exact hx t2 q1 q2 (by rw [eD _ q4]; exact q3)
    by_cases e1 : t' = T s
    · subst e1
      by_cases e2 : u = s
      · subst e2
        rw [lT, show gF (gLead G (T u) u (Y u) e) u = gF G u ++ [e] from up1_s _ _ _]
        rw [show gA (gLead G (T u) u (Y u) e) (T u) u = (gF G u).length + 1 from up2_s _ _ _ _] at hi
        exact ag.rf (by rw [List.length_append, List.length_singleton]; exact hi)
      · rw [show gA (gLead G (T s) s (Y s) e) (T s) u = gA G (T s) u from up2_n (fun z => e2 z.2), hA0 (T s) u hu hfr] at hi
        rw [Nat.le_zero.mp hi]
        exact ag.z _ _
    · rw [eL _ e1] at hx' ⊢
      rw [show gA (gLead G (T s) s (Y s) e) t' u = gA G t' u from up2_n (fun z => e1 z.1)] at hi
      have q := s6 u t' i hu hi hx'
      by_cases e2 : u = s
      · rw [e2] at q ⊢
        rw [show gF (gLead G (T s) s (Y s) e) s = gF G s ++ [e] from up1_s _ _ _]
        exact q.al _
      · rw [show gF (gLead G (T s) s (Y s) e) u = gF G u from up1_n e2]
        exact q
  · by_cases e1 : t = T s
    · have hu7 := (v t' u c' VL hu).1
      have htu := (v t' u c' VL hu).2.2.1
      subst e1
      have e2 : ¬ u = s := fun z => by rw [z] at htu; omega
      rw [show gA (gLead G (T s) s (Y s) e) (T s) u = gA G (T s) u from up2_n (fun z => e2 z.2), hA0 (T s) u hu7 hfr] at g2
      rw [Nat.le_zero.mp g2]
      exact ag.z _ _
    · rw [show gA (gLead G (T s) s (Y s) e) t u = gA G t u from up2_n (fun z => e1 z.1)] at g2
      rw [eL _ e1] at g3 g4 ⊢
      refine s7 t t' u c' VL i hu g1 g2 (fun t2 q1 q2 q3 => ?_) ?_
      · have q4 := hne t2 q3
        rw [← eEl t2 q4]
        exact g3 t2 q1 q2 (by rw [eD _ q4]; exact q3)
      · by_cases e2 : t' = T s
        · rw [e2]; exact Or.inl hfr
        · rw [eD _ e2, eW _ e2, eEl _ e2] at g4
          exact g4
  · obtain ⟨b1, b2, b3, b4, QQ, b5, b6⟩ := c t' i n hc'
    have e1 := hne t' b1
    rw [eD _ e1, eE _ e1, eL _ e1]
    exact ⟨b1, b2, b3, b4, QQ, b5, fun u hu hQ => by rw [show gA (gLead G (T s) s (Y s) e) t' u = gA G t' u from up2_n (fun z => e1 z.1)]; exact b6 u hu hQ⟩
  · by_cases e1 : t' = T s
    · subst e1
      rw [lE] at hj
      rw [lT] at hx
      rcases get_snoc hx with ⟨z1, z2⟩ | ⟨z1, z2⟩
      · omega
      · rw [z2] at h9; exact absurd h9 h4
    · rw [eD _ e1] at hd
      rw [eE _ e1] at hj
      rw [eL _ e1] at hx ⊢
      exact m t' j x hd hj hx h9
end STP
