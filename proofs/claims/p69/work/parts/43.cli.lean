/-! ===== CLIENTS: REQUESTS ===== -/
theorem Rep.reqs {X : XS} {g : PS} {o s : Nat} {r : ENT} {v : Value} (h : Rep X g) (ho : o < 2) (hs : s < 4) (h0 : r 3 = 0 → v = .null) (h1 : r 3 ≠ 0 → ∃ q, v = .ref q ∧ dRq (xD X) q r) : Rep (xSetK X o (kRow (xK X o) 34 s r)) (pPut g (aC o s) 0 v) := by
  obtain ⟨a1, a2, a3, a4, a5, a6, a7, a8, a9, a10, a11, a12, a13, a14, a15⟩ := h
  have hA : ∀ o' i, o' < 2 → i < 7 → ∀ k, ¬ (fun x y => x = aC o s ∧ y = 0) (dA (xD X) o' i) k := (fun o' i ho' hi k z => by
      have hz : dA (xD X) o' i = aC o s := z.1
      dsimp only [aC] at hz
      rcases Nat.lt_or_ge o' 2 with z2 | z2
      · rcases (a8 o' i z2 hi).2.2.2.1 with y | y
        · dsimp only [aS] at y
          rcases (show o = 0 ∨ o = 1 by omega) with rfl | rfl <;> rcases (show o' = 0 ∨ o' = 1 by omega) with rfl | rfl <;> omega
        · omega
      · rcases (a9 o' i z2 ho' hi).2.2.2.1 with y | y
        · dsimp only [bB] at y
          omega
        · omega)
  have e2 : ∀ o', (xK (xSetK X o (kRow (xK X o) 34 s r)) o').2 = (xK X o').2 := fun o' => by
    rw [xK_setK]; split
    · rename_i z; rw [z]; rfl
    · rfl
  have e1 : ∀ o' f i j, f ≠ 34 → (xK (xSetK X o (kRow (xK X o) 34 s r)) o').1 f i j = (xK X o').1 f i j := fun o' f i j hf => by
    rw [xK_setK]; split
    · rename_i z; rw [z]; exact if_neg (fun z => hf z.1)
    · rfl
  have h34 : ∀ o' f i j a k, loc o' f i j a k → o' < 2 → f ≠ 34 := fun o' f i j a k hl ho' => by
    rcases hl with ⟨-, hl⟩ | ⟨h1, h2, -⟩
    · unfold locC at hl; omega
    · omega
  refine ⟨a1, a2, fun o' f i j a k hl => ?_, a4.frm (hMp g (aC o s) 0 v) (fun a k b hl z => by
      rcases hl with ⟨o', ho', hl⟩ | ⟨o', h1, h2, hl⟩ | hl | hl
      · exact ((srfC_oth ho' hl o s ho).2.1 hs) z.1
      · have := srfR_rng hl; dsimp only [aC] at z; omega
      · dsimp only [aC] at z; omega
      · dsimp only [aC] at z; omega), a5.frm (hMp g (aC o s) 0 v) (fun k => by dsimp only [aC]; omega), ?_, fun o' ho' => ⟨by rw [e2]; exact (a7 o' ho').1, fun i hi => by rw [e1 _ _ _ _ (by decide)]; exact (a7 o' ho').2.1 i hi, fun c hc => by rw [e1 _ _ _ _ (by decide)]; exact (a7 o' ho').2.2 c hc⟩, ?_, ?_, a10.frm, fun o' i ho' hi => ?_, fun o' c ho' hc => ?_, ?_, ?_, a15.frm (hMp g (aC o s) 0 v) (fun a ha k z => (a15.2 a ha).2.1 (by
      rw [show a = aC o s from z.1]
      unfold stat
      dsimp only [aC]
      rcases (show o = 0 ∨ o = 1 by omega) with rfl | rfl <;> omega))⟩
  · have q := a3.frm (hMp g (aC o s) 0 v) (fun o' f i j a k hl z => ((loc_oth hl o s).2.1 ho hs) ⟨z.1, z.2⟩)
    refine (q o' f i j a k hl).trans (congrArg Value.int ?_)
    unfold xN
    split
    · rfl
    · rw [xK_setK]
      split
      · rename_i z1 z2
        subst z2
        exact (if_neg (fun z => h34 o' f i j a k hl ho z.1)).symm
      · rfl
  · have q := a6.frm (hMp g (aC o s) 0 v) (fun o' i => ⟨fun ho' z => by dsimp only [aC, aB] at z; omega, fun ho' hi => ⟨fun z => by have := z.2; omega, fun z => by dsimp only [aS, aC] at z; rcases (show o = 0 ∨ o = 1 by omega) with rfl | rfl <;> rcases (show o' = 0 ∨ o' = 1 by omega) with rfl | rfl <;> omega⟩, fun h1 h2 => ⟨fun z => by dsimp only [aC, bB] at z; omega, fun hi z => by dsimp only [aC, bB] at z; omega⟩⟩)
    unfold rCt at q ⊢
    simp only [e2]
    exact q
  · have q := a8.frm (hMp g (aC o s) 0 v) (fun o' i ho' hi => ⟨fun z => by have := z.2; omega, hA o' i (by omega) hi⟩)
    unfold rLc at q ⊢
    simp only [e2]
    exact q
  · have q := a9.frm (hMp g (aC o s) 0 v) (fun o' i h1 h2 hi => ⟨fun z => by dsimp only [aC, bB] at z; omega, hA o' i h2 hi⟩)
    unfold rLr at q ⊢
    simp only [e2]
    exact q
  · obtain ⟨p, b1, r', b2, b3⟩ := a11 o' i ho' hi
    refine ⟨p, ?_, r', b2, fun k hk => (b3 k hk).trans (e1 _ _ _ _ (by decide)).symm⟩
    refine (hMp g (aC o s) 0 v _ _ (fun z => ?_)).trans b1
    have := z.2; omega
  · by_cases e : o' = o ∧ c = s
    · obtain ⟨rfl, rfl⟩ := e
      have e3 : ∀ j, (xK (xSetK X o' (kRow (xK X o') 34 c r)) o').1 34 c j = r j := fun j => by
        rw [xK_setK, if_pos rfl]; exact if_pos ⟨rfl, rfl⟩
      have e4 : pM (pPut g (aC o' c) 0 v) (aC o' c) 0 = v := if_pos ⟨rfl, rfl⟩
      refine ⟨fun z => ?_, fun z => ?_⟩
      · rw [e3] at z; rw [e4]; exact h0 z
      · rw [e3] at z
        obtain ⟨q, b1, r', b2, b3⟩ := h1 z
        exact ⟨q, e4.trans b1, r', b2, fun k k1 k2 => (b3 k k1 k2).trans (e3 k).symm⟩
    · have e3 : ∀ j, (xK (xSetK X o (kRow (xK X o) 34 s r)) o').1 34 c j = (xK X o').1 34 c j := fun j => by
        rw [xK_setK]; split
        · rename_i z; subst z; exact if_neg (fun z => e ⟨rfl, z.2⟩)
        · rfl
      have e4 : pM (pPut g (aC o s) 0 v) (aC o' c) 0 = pM g (aC o' c) 0 := hMp g (aC o s) 0 v _ _ (fun z => e (by
        have z1 : aC o' c = aC o s := z.1
        dsimp only [aC] at z1
        rcases (show o = 0 ∨ o = 1 by omega) with rfl | rfl <;> rcases (show o' = 0 ∨ o' = 1 by omega) with rfl | rfl
        · exact ⟨rfl, by omega⟩
        · omega
        · omega
        · exact ⟨rfl, by omega⟩))
      obtain ⟨b1, b2⟩ := a12 o' c ho' hc
      refine ⟨fun z => ?_, fun z => ?_⟩
      · rw [e3] at z; rw [e4]; exact b1 z
      · rw [e3] at z; rw [e4]
        obtain ⟨q, c1, r', c2, c3⟩ := b2 z
        exact ⟨q, c1, r', c2, fun k k1 k2 => (c3 k k1 k2).trans (e3 k).symm⟩
  · have q := a13.frm a7 (hMp g (aC o s) 0 v) (fun o' q ho' => ⟨fun z => by dsimp only [aC, aB] at z; omega, fun hq z => by dsimp only [aC, aB] at z; omega, fun hq k => ⟨fun z => by dsimp only [aC, aM] at z; rcases (show o = 0 ∨ o = 1 by omega) with rfl | rfl <;> rcases (show o' = 0 ∨ o' = 1 by omega) with rfl | rfl <;> omega, fun z => by dsimp only [aC, aM] at z; rcases (show o = 0 ∨ o = 1 by omega) with rfl | rfl <;> rcases (show o' = 0 ∨ o' = 1 by omega) with rfl | rfl <;> omega⟩⟩)
    unfold rNt at q ⊢
    simp only [e2]
    exact q
  · unfold rPo at a14 ⊢
    simp only [e2]
    exact a14
section ATQ
variable {m i pc ln r1 r2 r3 : Nat} {ls : PV} {st : List Value} {X : XS} {Q : PO → XS → Prop} {M : PMet} {o s : Nat}
def rNil (r : ENT) : ENT := fun j => if j < 7 then 0 else r j
theorem AT.p_0_0n {n : Nat} (hM : qPT m = M) (hr : M.1[i]? = some (pc, .putfield n, ln, 0, 0, r3)) (ho : o < 2) (hs : s < 4) (k : AT m (i + 1) ls st (xSetK X o (kRow (xK X o) 34 s (rNil ((xK X o).1 34 s)))) Q) : AT m i ls (.null :: .ref (aC o s) :: st) X Q := by
  refine AT.write hM hr rfl (fun g hg => ⟨_, ?_, hg.reqs ho hs (v := .null) (fun _ => rfl) (fun z => absurd (if_pos (by decide)) z)⟩) k
  show (if pK g (aC o s) = 0 ∧ 0 < pF 0 ∧ fits (pT 0 0) .null = true then some (i + 1, ls, st, pPut g (aC o s) 0 .null) else none) = _
  rw [if_pos ⟨(hg.2.1 _ _ _ (shp_cli ho hs)).1, by decide, rfl⟩]
theorem AT.p_0_0s {n q : Nat} {r : ENT} (hM : qPT m = M) (hr : M.1[i]? = some (pc, .putfield n, ln, 0, 0, r3)) (ho : o < 2) (hs : s < 4) (hq : dRq (xD X) q r) (h3 : ¬ r 3 = 0) (k : AT m (i + 1) ls st (xSetK X o (kRow (xK X o) 34 s r)) Q) : AT m i ls (.ref q :: .ref (aC o s) :: st) X Q := by
  refine AT.write hM hr rfl (fun g hg => ⟨_, ?_, hg.reqs ho hs (v := .ref q) (fun z => absurd z h3) (fun _ => ⟨q, rfl, hq⟩)⟩) k
  show (if pK g (aC o s) = 0 ∧ 0 < pF 0 ∧ fits (pT 0 0) (.ref q) = true then some (i + 1, ls, st, pPut g (aC o s) 0 (.ref q)) else none) = _
  rw [if_pos ⟨(hg.2.1 _ _ _ (shp_cli ho hs)).1, by decide, rfl⟩]
end ATQ
