/-! ===== THE LAW: calls that ask, calls that refuse ===== -/
section QP
variable {n0 : Nat} {sc : Nat → Int32} {c : Nat} {X : XS} {w m : Nat} {ew em : PV}
theorem LI.q (hL : LI n0 sc c X) (v : Int64) (t : Int32) : LI n0 sc (c + 1) (xSetT (xSetO X v) t) := hL.same rfl (fun _ _ => rfl) (fun _ _ _ _ => rfl) (fun _ _ => rfl) (Nat.le_succ _) (Nat.le_add_right _ _)
theorem LI.x (hL : LI n0 sc c X) (t : Int32) : LI n0 sc (c + 1) (xSetT (xThr X) t) := hL.same rfl (fun _ _ => rfl) (fun _ _ _ _ => rfl) (fun _ _ => rfl) (Nat.le_refl _) (Nat.le_refl _)
theorem qp_q {v : Int32} (hL : LI n0 sc c X) (hw : RU w ew X (some (.int 0)) (fun Z => ∃ Y, Y = X ∧ Z = xSetO Y v.toInt64)) (hm : RT m em (xSetO X v.toInt64) (some (.int v)) (xSetT (xSetO X v.toInt64) 0)) : qPair w m ew em X (LI n0 sc (c + 1)) := by
  refine ⟨0, hw.m (fun Z hZ => ?_)⟩
  obtain ⟨Y, rfl, rfl⟩ := hZ
  exact ⟨rfl, v, RT.m hm ⟨rfl, fun _ => rfl, hL.q _ _⟩⟩
theorem qp_qB {v : Int32} (hL : LI n0 sc c X) (h01 : v = 0 ∨ v = 1) (hw : RU w ew X (some (.int 0)) (fun Z => ∃ Y, Y = X ∧ Z = xSetO Y v.toInt64)) (hm : RT m em (xSetO X v.toInt64) (some (.int v)) (xSetT (xSetO X v.toInt64) 0)) : qPairB w m ew em X (LI n0 sc (c + 1)) := by
  refine ⟨0, hw.m (fun Z hZ => ?_)⟩
  obtain ⟨Y, rfl, rfl⟩ := hZ
  exact ⟨rfl, v, RT.m hm ⟨rfl, fun _ => ⟨h01, rfl⟩, hL.q _ _⟩⟩
theorem qp_x {k : Int32} (hL : LI n0 sc c X) (hw : RT w ew X (some (.int k)) (xThr X)) (hm : RT m em (xThr X) (some (.int 0)) (xSetT (xThr X) k)) (hk : ¬ k = 0) : qPair w m ew em X (LI n0 sc (c + 1)) :=
  ⟨k, RT.m hw ⟨rfl, 0, RT.m hm ⟨rfl, fun z => absurd z hk, hL.x _⟩⟩⟩
theorem qp_xB {k : Int32} (hL : LI n0 sc c X) (hw : RT w ew X (some (.int k)) (xThr X)) (hm : RT m em (xThr X) (some (.int 0)) (xSetT (xThr X) k)) (hk : ¬ k = 0) : qPairB w m ew em X (LI n0 sc (c + 1)) :=
  ⟨k, RT.m hw ⟨rfl, 0, RT.m hm ⟨rfl, fun z => absurd z hk, hL.x _⟩⟩⟩
/-- a call that moves -/
theorem qp_m {v : Int32} {P : XS → Prop} (hw : RU w ew X (some (.int 0)) (fun Z => ∃ Y, P Y ∧ Z = xSetO Y v.toInt64)) (hP : ∀ Y, P Y → xC Y = xC X) (hm : ∀ Y, P Y → RU m em (xSetO Y v.toInt64) (some (.int v)) (fun Z => xT Z = 0 ∧ xO Z = v.toInt64 ∧ LI n0 sc (c + 1) Z)) : qPair w m ew em X (LI n0 sc (c + 1)) := by
  refine ⟨0, hw.m (fun Z hZ => ?_)⟩
  obtain ⟨Y, hY, rfl⟩ := hZ
  exact ⟨hP Y hY, v, (hm Y hY).m (fun Z hZ => ⟨hZ.1, fun _ => hZ.2.1, hZ.2.2⟩)⟩
theorem qp_mB {v : Int32} {P : XS → Prop} (h01 : v = 0 ∨ v = 1) (hw : RU w ew X (some (.int 0)) (fun Z => ∃ Y, P Y ∧ Z = xSetO Y v.toInt64)) (hP : ∀ Y, P Y → xC Y = xC X) (hm : ∀ Y, P Y → RU m em (xSetO Y v.toInt64) (some (.int v)) (fun Z => xT Z = 0 ∧ xO Z = v.toInt64 ∧ LI n0 sc (c + 1) Z)) : qPairB w m ew em X (LI n0 sc (c + 1)) := by
  refine ⟨0, hw.m (fun Z hZ => ?_)⟩
  obtain ⟨Y, hY, rfl⟩ := hZ
  exact ⟨hP Y hY, v, (hm Y hY).m (fun Z hZ => ⟨hZ.1, fun _ => ⟨h01, hZ.2.1⟩, hZ.2.2⟩)⟩
/-- what is known of now -/
theorem LI.k (hL : LI n0 sc c X) : ∃ m0 G A, kAll m0 A (A + 48) (5000 * (600 - c)) (xK X 2) G := by
  obtain ⟨a1, a2, a3, a4, a5, a6, S, P, A, a7, ⟨m0, G, L, g1, -⟩, a9⟩ := hL
  rw [a2] at g1
  exact ⟨m0, G, A, g1⟩
theorem LI.ok (hL : LI n0 sc c X) {s : Nat} (hs : s < 7) : sOk (xK X 2) s ∧ kWf (xK X 2) s ∧ (∃ n : Nat, n < 128 ∧ sMem (xK X 2) s = Int32.ofNat n) ∧ kA (xK X 2) s + ((xK X 2).2.1 s).length + 1 < 400000 ∧ ∀ e, e ∈ (xK X 2).2.1 s → eG e := by
  obtain ⟨m0, G, A, g⟩ := hL.k
  have h := g.ok hs
  refine ⟨h.1, h.1.wf, ?_, h.2.1, fun e he => ?_⟩
  · rw [h.2.2.2.2.2]
    exact sMemL_128 _ _ (fun e he => ((g.2.1 s hs).1.2.2 e he).2.1) g.2.2.2.1
  · obtain ⟨⟨a, b, a1, a2, a3, a4, a5, a6⟩, aB, aE⟩ := (g.2.1 s hs).1
    rw [a5] at he
    exact aE e (List.mem_of_mem_drop he)
theorem LI.mem (hL : LI n0 sc c X) {s : Nat} (hs : s < 7) : dV (xD X) 0 10 s 0 = sMem (xK X 2) s := by rw [← hL.2.1]; exact (hL.2.2.1 s hs).1
theorem eG_v {e : ENT} (h : eG e) : ((e 1 = 4 → sVal e = sCnt (e 6)) ∧ (¬ e 1 = 4 → sVal e = e 5)) ∧ ¬ e 0 = -1 := by
  obtain ⟨h1, h2, h3⟩ := h
  refine ⟨⟨fun z => ?_, fun z => ?_⟩, fun z => ?_⟩
  · unfold sVal
    rw [if_neg (by rw [z]; decide), if_pos z]
  · unfold sVal
    by_cases q : 1 ≤ e 1 ∧ e 1 ≤ 3
    · rw [if_pos q]
    · rw [if_neg q, if_neg z]
      exact ((h3 q).resolve_left z).symm
  · rw [h1] at z
    have h9 := tm_lt e
    have := (i32_ix h9).2
    rw [z] at this
    exact this (by decide)
/-- an entry that is there or isn't -/
theorem sEnt_has {K : KK} {s : Nat} {x : Int32} (h : sEnt K s x = none) (hw : kWf K s) : sHasE K s x = false := by
  cases hh : sHasE K s x with
  | false => rfl
  | true =>
    obtain ⟨e, he⟩ := (sHasE_some hw).mp hh
    rw [h] at he; cases he
end QP
