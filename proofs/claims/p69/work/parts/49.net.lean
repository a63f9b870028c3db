/-! ===== THE NETWORK ===== -/
theorem Rep.cntN {X : XS} {g : PS} {o n : Nat} (h : Rep X g) (ho : o < 2) (hn : n ≤ 60) : Rep (xSetK X o (kNet (xK X o) (lMsg (xD X) o n))) (pPut g (aB o + 3) 3 (.int (Int32.ofNat n))) := by
  obtain ⟨v, hv⟩ : ∃ v : Value, v = .int (Int32.ofNat n) := ⟨_, rfl⟩
  rw [← hv]
  obtain ⟨a1, a2, a3, a4, a5, a6, a7, a8, a9, a10, a11, a12, a13, a14, a15⟩ := h
  have hM := hMp g (aB o + 3) 3 v
  have h2 : o = 0 ∨ o = 1 := by omega
  have hA : ∀ o' i, o' < 2 → i < 7 → ∀ k, ¬ (fun x y => x = aB o + 3 ∧ y = 3) (dA (xD X) o' i) k := (fun o' i ho' hi k z => by
      have hz : dA (xD X) o' i = 2 + 193 * o + 3 := z.1
      rcases Nat.lt_or_ge o' 2 with z2 | z2
      · rcases (a8 o' i z2 hi).2.2.2.1 with y | y
        · dsimp only [aS] at y
          rcases h2 with rfl | rfl <;> rcases (show o' = 0 ∨ o' = 1 by omega) with rfl | rfl <;> omega
        · rcases h2 with rfl | rfl <;> omega
      · rcases (a9 o' i z2 ho' hi).2.2.2.1 with y | y
        · dsimp only [bB] at y
          rcases h2 with rfl | rfl <;> omega
        · rcases h2 with rfl | rfl <;> omega)
  have hK1 : ∀ o', (xK (xSetK X o (kNet (xK X o) (lMsg (xD X) o n))) o').1 = (xK X o').1 := fun o' => by
    rw [xK_setK]; split
    · rename_i z; rw [z]; rfl
    · rfl
  have hK2 : ∀ o', (xK (xSetK X o (kNet (xK X o) (lMsg (xD X) o n))) o').2.1 = (xK X o').2.1 := fun o' => by
    rw [xK_setK]; split
    · rename_i z; rw [z]; rfl
    · rfl
  have hK4 : ∀ o', o' ≠ o → xK (xSetK X o (kNet (xK X o) (lMsg (xD X) o n))) o' = xK X o' := fun o' z => by
    rw [xK_setK]; exact if_neg z
  refine ⟨a1, a2, ?_, a4.frm hM (fun a k b hl z => ?_), a5.frm hM (fun k => by dsimp only [aB]; omega), ⟨fun o' ho' => ⟨?_, fun i hi => ?_⟩, fun o' h1 h2 => ?_⟩, fun o' ho' => ?_, ?_, ?_, a10, ?_, ?_, ?_, ?_, a15.frm hM (fun a ha k z => (a15.2 a ha).2.1 ?_)⟩
  · have q3 := a3.frm hM (fun o' f i j a k hl z => ((loc_oth hl o 0).2.2.1 ho).1 ⟨z.1, Or.inr z.2⟩)
    intro o' f i j a k hl
    refine (q3 o' f i j a k hl).trans (congrArg Value.int ?_)
    unfold xN
    rw [hK1]
    rfl
  · rcases hl with ⟨o', ho', hl⟩ | ⟨o', h1, h3, hl⟩ | hl | hl
    · exact (srfC_oth ho' hl o 0 ho).2.2.1 ⟨z.1, by omega⟩
    · have := srfR_rng hl; dsimp only [aB] at z; omega
    · dsimp only [aB] at z; omega
    · dsimp only [aB] at z; omega
  · by_cases e : o' = o
    · subst e
      have e3 : (xK (xSetK X o' (kNet (xK X o') (lMsg (xD X) o' n))) o').2.2.length = n := by rw [xK_same]; exact lMsg_len _ _ _
      rw [e3, hv]
      exact if_pos ⟨rfl, rfl⟩
    · rw [hK4 o' e]
      exact (hM _ _ (fun z => e (by have := z.1; dsimp only [aB] at this; omega))).trans (a6.1 o' ho').1
  · rw [hK2]
    refine ⟨(hM _ _ (fun z => by have := z.2; omega)).trans ((a6.1 o' ho').2 i hi).1, (hM _ _ (fun z => by have := z.2; omega)).trans ((a6.1 o' ho').2 i hi).2⟩
  · rw [hK4 o' (by omega)]
    refine ⟨(hM _ _ (fun z => by have := z.2; omega)).trans (a6.2 o' h1 h2).1, fun i hi => (hM _ _ (fun z => by have := z.1; dsimp only [aB, bB] at this; omega)).trans ((a6.2 o' h1 h2).2 i hi)⟩
  · rw [hK1]
    refine ⟨?_, (a7 o' ho').2⟩
    by_cases e : o' = o
    · subst e
      rw [xK_same]
      show (lMsg (xD X) o' n).length ≤ 60
      rw [lMsg_len]; exact hn
    · rw [hK4 o' e]; exact (a7 o' ho').1
  · have q8 := a8.frm hM (fun o' i ho' hi => ⟨fun z => by have := z.2; omega, hA o' i (by omega) hi⟩)
    unfold rLc at q8 ⊢
    simp only [hK2]
    exact q8
  · have q9 := a9.frm hM (fun o' i h1 h2 hi => ⟨fun z => by have := z.1; dsimp only [aB, bB] at this; omega, hA o' i h2 hi⟩)
    unfold rLr at q9 ⊢
    simp only [hK2]
    exact q9
  · have q11 := a11.frm hM (fun o' i ho' hi z => by have := z.2; omega)
    unfold rSn at q11 ⊢
    simp only [hK1]
    exact q11
  · have q12 := a12.frm hM (fun o' i ho' hi z => by have := z.2; omega)
    unfold rRq at q12 ⊢
    simp only [hK1]
    exact q12
  · intro o' ho'
    obtain ⟨b1, b2, b3, b4, b5, b6⟩ := a13 o' ho'
    have nm : ∀ q, q < 61 → ∀ k, pU (pM g) (aB o + 3) 3 v (aM o' q) k = pM g (aM o' q) k ∧ pU (pM g) (aB o + 3) 3 v (aM o' q + 1) k = pM g (aM o' q + 1) k := fun q hq k =>
      ⟨hM _ _ (fun z => by have := z.1; dsimp only [aB, aM] at this; rcases h2 with rfl | rfl <;> rcases (show o' = 0 ∨ o' = 1 by omega) with rfl | rfl <;> omega), hM _ _ (fun z => by have := z.1; dsimp only [aB, aM] at this; rcases h2 with rfl | rfl <;> rcases (show o' = 0 ∨ o' = 1 by omega) with rfl | rfl <;> omega)⟩
    refine ⟨(hM _ _ (fun z => by have := z.2; omega)).trans b1, fun j hj => (hM _ _ (fun z => by have := z.1; dsimp only [aB] at this; omega)).trans (b2 j hj), b3, b4, fun q hq => ?_, fun j w hw => ?_⟩
    · obtain ⟨c1, c2, c3, c4, c5, c6⟩ := b5 q hq
      refine ⟨fun k k1 k2 => (nm q hq k).1.trans (c1 k k1 k2), c2, fun y => (nm q hq 10).1.trans (c3 y), fun r hr => ?_, ⟨c5.1, c5.2.mv (fun j => (nm q hq j).2) (fun _ _ z => z)⟩, fun j e' he' => ?_⟩
      · obtain ⟨p, d1, d2⟩ := c4 r hr
        exact ⟨p, (nm q hq 10).1.trans d1, d2⟩
      · obtain ⟨p, d1, d2⟩ := c6 j e' he'
        exact ⟨p, (nm q hq j).2.trans d1, d2⟩
    · by_cases e : o' = o
      · subst e
        rw [xK_same] at hw
        exact (lMsg_get _ _ _ _ _ hw).2
      · rw [hK4 o' e] at hw
        exact b6 j w hw
  · intro o' h1 h3
    rw [hK4 o' (by omega)]
    exact a14 o' h1 h3
  · unfold stat
    have z' : a = 2 + 193 * o + 3 := z.1
    rcases h2 with rfl | rfl <;> omega
section ATN3
variable {m i pc ln r1 r2 r3 : Nat} {ls : PV} {st : List Value} {X : XS} {Q : PO → XS → Prop} {M : PMet} {o q : Nat}
/-- how many messages are under way -/
def xCnt (X : XS) (o n : Nat) : XS := xSetK X o (kNet (xK X o) (lMsg (xD X) o n))
theorem AT.p_4_3 {n k : Nat} {v : Int32} (hM : qPT m = M) (hr : M.1[i]? = some (pc, .putfield k, ln, 4, 3, r3)) (ho : o < 2) (hn : n ≤ 60) (hv : v = Int32.ofNat n) (kk : AT m (i + 1) ls st (xCnt X o n) Q) : AT m i ls (.int v :: .ref (aB o + 3) :: st) X Q := by
  subst hv
  refine AT.write hM hr rfl (fun g hg => ⟨_, ?_, hg.cntN ho hn⟩) kk
  show (if pK g (aB o + 3) = 4 ∧ 3 < pF 4 ∧ fits (pT 4 3) (.int (Int32.ofNat n)) = true then some (i + 1, ls, st, pPut g (aB o + 3) 3 (.int (Int32.ofNat n))) else none) = _
  rw [if_pos ⟨(hg.2.1 _ _ _ (shp_net ho)).1, by decide, rfl⟩]
end ATN3
theorem dSetH_idem (D : XD) (o q : Nat) (u u' : MSG) : dSetH (dSetH D o q u) o q u' = dSetH D o q u' := by
  unfold dSetH
  refine Prod.ext rfl (Prod.ext rfl (Prod.ext rfl (Prod.ext rfl (Prod.ext rfl (Prod.ext rfl (Prod.ext (funext fun a => funext fun b => ?_) rfl))))))
  dsimp only
  split <;> rfl
theorem xMsg_idem (X : XS) (o q : Nat) (u u' : MSG) : xMsg (xMsg X o q u) o q u' = xMsg X o q u' := by
  unfold xMsg kMsg
  simp only [xK_same, xSetK_idem, xD_setK, xK_setD, xD_setD, xSetD_setK, xSetD_idem, dSetH_idem]
  congr 1
  show kNet (xK X o) (lMsg _ o (lMsg _ o (xK X o).2.2.length).length) = _
  rw [lMsg_len]
theorem dH_msg (X : XS) (o q : Nat) (u : MSG) : dH (xD (xMsg X o q u)) o q = u := if_pos ⟨rfl, rfl⟩
theorem xD_cnt (X : XS) (o n : Nat) : xD (xCnt X o n) = xD X := rfl
