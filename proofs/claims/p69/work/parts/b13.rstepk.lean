/-! ===== THE SERVERS AGREE: the steps of a round ===== -/
/-- what no step of a round changes -/
def frF (f : Nat) : Prop := f = 4 ∨ f = 30 ∨ f = 31 ∨ f = 34
section FRS
variable {K : KK} {s f i j : Nat}
theorem kLeadA_f (hf : frF f) : (kLeadA K s).1 f i j = K.1 f i j := by
  unfold frF at hf
  unfold kLeadA
  rw [kLk_1 (by omega), kSnd_1 _ _ (by omega)]
  exact kLead_1 (by omega)
theorem kStandA_f (hf : frF f) : (kStandA K s).1 f i j = K.1 f i j := by
  have hf' := hf
  unfold frF at hf
  unfold kStandA
  split
  · rw [kLeadA_f hf', kStand_1 (by omega)]
  · rw [kAskF_1 _ _ _ _ _ (by omega), kStand_1 (by omega)]
theorem kSoundA_f (hf : frF f) : (kSoundA K s).1 f i j = K.1 f i j := by
  have hf' := hf
  unfold frF at hf
  unfold kSoundA
  split
  · split
    · rw [kStandA_f hf', kStart_1 (by omega)]
    · rw [kAskF_1 _ _ _ _ _ (by omega), kStart_1 (by omega)]
  · exact kSet_ne (by omega)
theorem kRise_f {r : Int32} (hf : frF f) : (kRise K s r).1 f i j = K.1 f i j := by
  unfold kRise
  split
  · exact kSoundA_f hf
  · split
    · exact kStandA_f hf
    · split
      · exact kLeadA_f hf
      · rfl
theorem kTurn1_f {q : Nat} (hf : frF f) : (kTurn1 K q).1 f i j = K.1 f i j := by
  have hf' := hf
  unfold frF at hf
  have hb : (kBeat K q).1 f i j = K.1 f i j := kSet_ne (by omega)
  have hw : (kWait K q).1 f i j = K.1 f i j := kSet_ne (by omega)
  unfold kTurn1
  split
  · split
    · rw [kSnd_1 _ _ (by omega), hb]
    · exact hb
  · split
    · split
      · exact hw
      · rw [kSoundA_f hf', hw]
    · rfl
theorem kOnYes_f {w : MSG} {rl tm st : Int32} (hf : frF f) : (kOnYes K s w rl tm st).1 f i j = K.1 f i j := by
  have hf' := hf
  unfold frF at hf
  have hy : (kYes K s w).1 f i j = K.1 f i j := kSet_ne (by omega)
  unfold kOnYes
  split
  · split
    · rw [kRise_f hf', hy]
    · exact hy
  · rfl
theorem kOnEnt_f {w : MSG} (hf : frF f) : (kOnEnt K s w).1 f i j = K.1 f i j := by
  unfold frF at hf
  unfold kOnEnt kOnEnt2 kEntT
  split
  · rw [kSend_1 _ _ (by omega)]
  · split
    · rw [kSend_1 _ _ (by omega), kCommTo_1 (by omega) (by omega) (by omega), (kAccs_1' s _ _ _).1, kObey_1 (by omega)]
    · rw [kSend_1 _ _ (by omega), kObey_1 (by omega)]
theorem kOnSnp_f {w : MSG} (hf : frF f) : (kOnSnp K s w).1 f i j = K.1 f i j := by
  unfold frF at hf
  have hi : ∀ (K : KK) (r : Option ENT), (kInst K s r).1 f i j = K.1 f i j := fun K r => by
    cases r with
    | none => rfl
    | some r =>
      show (if K.1 15 s 0 < r 0 then kTab (kSet (kCut K s (sCutN K s r) r) 15 s 0 (r 0)) s r else K).1 f i j = _
      split
      · rw [kTab_1 (by omega), kSet_ne (by omega), kCut_1 (by omega)]
      · rfl
  unfold kOnSnp
  split
  · rw [kSend_1 _ _ (by omega)]
  · rw [kSend_1 _ _ (by omega), hi, kObey_1 (by omega)]
theorem kOnAns_f {w : MSG} {x : Nat} (hf : frF f) : (kOnAns K s x w).1 f i j = K.1 f i j := by
  unfold frF at hf
  unfold kOnAns kAns6
  split
  · split
    · rw [kSend_1 _ _ (by omega), kSet_ne (by omega)]
    · split
      · rw [kSend_1 _ _ (by omega), kLk_1 (by omega), kLearn_1 (by omega)]
      · rw [kLk_1 (by omega), kLearn_1 (by omega)]
  · rfl
theorem kGo_f {w : MSG} {x : Nat} (hf : frF f) : (kGo K s x w).1 f i j = K.1 f i j := by
  have hf' := hf
  unfold frF at hf
  unfold kGo
  split
  · unfold kOnSnd; rw [kSend_1 _ _ (by omega)]
  · split
    · exact kOnYes_f hf'
    · split
      · unfold kOnCal kGrant
        rw [kSend_1 _ _ (by omega)]
        split
        · rw [kSet_ne (by omega), kSet_ne (by omega)]
        · rfl
      · split
        · exact kOnYes_f hf'
        · split
          · exact kOnEnt_f hf'
          · split
            · exact kOnAns_f hf'
            · split
              · exact kOnSnp_f hf'
              · split
                · exact kStandA_f hf'
                · rfl
theorem kHand_f {w : MSG} {x y : Nat} (hf : frF f) : (kHand K x s y w).1 f i j = K.1 f i j := by
  have hf' := hf
  unfold frF at hf
  unfold kHand
  split
  · rw [kGo_f hf', kEnter_1 (by omega)]; rfl
  · unfold kLose
    rw [kSet_ne (by omega)]; rfl
theorem kHand0_f (hf : frF f) : (kHand0 K).1 f i j = K.1 f i j := by
  cases h : K.2.2 with
  | nil => unfold kHand0; rw [h]
  | cons w t => rw [(kHand0_c h).1]; exact kHand_f hf
end FRS
section RSTEP
variable {K : KK} {G : GG} {m0 : Int32} {A B k s : Nat}
/-- a message is carried out -/
theorem kAll.go {w : MSG} {f : Nat} (h : kAll m0 A B (k + 1) K G) (hs : s < 7) (hw : uOk m0 A (k + 1) G w) (hS : mS w = s) (hF : mF w = f) (hle : sBears w = true → mT w ≤ kT K s) : ∃ G', kAll m0 A B k (kGo K s f w) G' ∧ gLe G G' := by
  have br : ∀ n : Int32, w.1 1 = n → ¬ n = 1 → ¬ n = 2 → mT w ≤ kT K s := fun n e n1 n2 => by
    refine hle ?_
    unfold sBears
    rw [e, decide_eq_true n1, decide_eq_false n2]; rfl
  have dn : ∀ {K' : KK}, (∃ G', kAll m0 A B (k + 1) K' G' ∧ gLe G G') → ∃ G', kAll m0 A B k K' G' ∧ gLe G G' := fun z => by
    obtain ⟨G', g, g9⟩ := z; exact ⟨G', g.dn, g9⟩
  unfold kGo
  by_cases c1 : w.1 1 = 1
  · rw [if_pos c1]; exact dn ⟨G, h.onSnd hs hw, gLe.rf G⟩
  rw [if_neg c1]
  by_cases c2 : w.1 1 = 2
  · rw [if_pos c2]; exact h.onYes2 hs hw
  rw [if_neg c2]
  by_cases c3 : w.1 1 = 3
  · rw [if_pos c3]; exact dn (h.onCal hs hw c3 hS)
  rw [if_neg c3]
  by_cases c4 : w.1 1 = 4
  · rw [if_pos c4]; exact dn (h.onYes4 hs hw c4 hS)
  rw [if_neg c4]
  by_cases c5 : w.1 1 = 5
  · rw [if_pos c5]; exact dn (h.onEnt hs hw c5 hS hF (br 5 c5 (by decide) (by decide))).2
  rw [if_neg c5]
  by_cases c6 : w.1 1 = 6
  · rw [if_pos c6]; exact dn (h.onAns hs hw c6 hS hF)
  rw [if_neg c6]
  by_cases c7 : w.1 1 = 7
  · rw [if_pos c7]; exact dn (h.onSnp hs hw c7 hS hF (br 7 c7 (by decide) (by decide)))
  rw [if_neg c7]
  by_cases c8 : sHur K s (sMem K s) w = true
  · rw [if_pos c8]
    unfold sHur at c8
    rw [Bool.and_eq_true, Bool.and_eq_true, Bool.and_eq_true] at c8
    have c9 := of_decide_eq_true c8.2.2.2
    have hlen := (h.ok hs).2.2.1
    have hB := h.2.2.2.2.2.2
    refine h.standA hs ?_
    rw [show (48 : Int32) = Int32.ofNat 48 from rfl, i32_le (by omega) (by omega)] at c9
    omega
  · rw [if_neg c8]; exact ⟨G, h.dn, gLe.rf G⟩
/-- what must hold of it -/
theorem kAll.goOk {w : MSG} {f : Nat} (h : kAll m0 A B k K G) (hs : s < 7) (hw : uOk m0 A k G w) (hS : mS w = s) (hF : mF w = f) (hle : sBears w = true → mT w ≤ kT K s) : goOk B K s f w := by
  refine ⟨fun c5 => ?_, fun c6 r3 e4 => ?_⟩
  · refine (h.onEnt hs hw c5 hS hF (hle ?_)).1
    unfold sBears
    rw [c5]; rfl
  · obtain ⟨g1, g2⟩ := h.ansN hs hw c6 hS hF r3 e4
    have hf7 : f < 7 := by rw [← hF]; exact hw.1.2.2.2.1
    refine ⟨fun z => (g1 z).nx hs ?_ hf7, fun z => (g2 z).nx hs ?_ hf7⟩
    · rw [kSet_ne (by omega)]; exact r3
    · rw [kLearn_1 (by omega)]; exact r3
theorem kAll.fit (h : kAll m0 A B k K G) : kFit B K := by
  have hB := h.2.2.2.2.2.2
  refine ⟨fun s hs => ?_, fun j w hj => ?_⟩
  · have hk := h.ok hs
    exact ⟨hk.1, hk.2.1, by omega, fun hr q hq => h.nx hs hr hq⟩
  · have hm : w ∈ K.2.2 := List.mem_of_getElem? hj
    have hw := h.2.2.1 w hm
    obtain ⟨g1, g2, -⟩ := (h.drop j).enter (w := w) hw.1.2.1 hw
    exact ⟨hw.1, g1.goOk hw.1.2.1 hw rfl rfl g2⟩
theorem kAll.hand {w : MSG} {j : Nat} (h : kAll m0 A B (k + 1) K G) (hj : K.2.2[j]? = some w) : ∃ G', kAll m0 A B k (kHand K j (mS w) (mF w) w) G' ∧ gLe G G' := by
  have hw := h.2.2.1 w (List.mem_of_getElem? hj)
  unfold kHand
  split
  · obtain ⟨g1, g2, -⟩ := (h.drop j).enter (w := w) hw.1.2.1 hw
    exact g1.go hw.1.2.1 hw rfl rfl g2
  · exact ⟨G, (h.drop j).lose.dn, gLe.rf G⟩
theorem kAll.hand0 (h : kAll m0 A B (k + 1) K G) : ∃ G', kAll m0 A B k (kHand0 K) G' ∧ gLe G G' := by
  cases e : K.2.2 with
  | nil => unfold kHand0; rw [e]; exact ⟨G, h.dn, gLe.rf G⟩
  | cons w t => rw [(kHand0_c e).1]; exact h.hand (by rw [e]; rfl)
theorem kAll.turn1 {q : Nat} (h : kAll m0 A B (k + 1) K G) (hq : q < 7) : ∃ G', kAll m0 A B k (kTurn1 K q) G' ∧ gLe G G' := by
  have hb : kAll m0 A B (k + 1) (kBeat K q) G := h.set (by unfold relF; omega)
  have hw : kAll m0 A B (k + 1) (kWait K q) G := h.set (by unfold relF; omega)
  unfold kTurn1
  by_cases c : ¬ K.1 4 q 0 = 0 ∧ K.1 12 q 0 = 3
  · rw [if_pos c]
    by_cases c2 : (kBeat K q).1 17 q 0 - (kBeat K q).1 17 q 0 / 2 * 2 = 0
    · rw [if_pos c2]
      refine ⟨G, (hb.snd hq (kR_of (r := 3) (by omega) ?_)).dn, gLe.rf G⟩
      unfold kBeat
      rw [kSet_ne (by omega)]; exact c.2
    · rw [if_neg c2]; exact ⟨G, hb.dn, gLe.rf G⟩
  · rw [if_neg c]
    by_cases c2 : ¬ K.1 4 q 0 = 0 ∧ sBit (sMem K q) q = true
    · rw [if_pos c2]
      by_cases c3 : (kWait K q).1 14 q 0 < sPat q (K.1 5 q 0)
      · rw [if_pos c3]; exact ⟨G, hw.dn, gLe.rf G⟩
      · rw [if_neg c3]; exact hw.soundA hq
    · rw [if_neg c2]; exact ⟨G, h.dn, gLe.rf G⟩
/-- what the rounds keep: k the steps to come, P what no step changes -/
def JJ (m0 : Int32) (A B : Nat) (P : (Nat → Nat → Nat → Int32) → Prop) (k : Nat) (K : KK) : Prop := (∃ G, kAll m0 A B k K G) ∧ (∀ s f, s < 7 → f < 7 → sBit (K.1 30 s 0) f = sBit (K.1 30 f 0) s) ∧ P K.1
def PFr (P : (Nat → Nat → Nat → Int32) → Prop) : Prop := ∀ K K' : KK, (∀ f i j, frF f → K'.1 f i j = K.1 f i j) → P K.1 → P K'.1
theorem JJ.inv (m0 : Int32) (A B : Nat) {P : (Nat → Nat → Nat → Int32) → Prop} (hP : PFr P) : kInv B (JJ m0 A B P) := by
  have st : ∀ (k : Nat) (K K' : KK), JJ m0 A B P (k + 1) K → (∀ f i j, frF f → K'.1 f i j = K.1 f i j) → (∃ G', kAll m0 A B k K' G') → JJ m0 A B P k K' := fun k K K' h hf hG => by
    refine ⟨hG, fun s f hs hf7 => ?_, hP K K' hf h.2.2⟩
    rw [hf 30 s 0 (by unfold frF; omega), hf 30 f 0 (by unfold frF; omega)]
    exact h.2.1 s f hs hf7
  refine ⟨fun k K h => ?_, fun k K i hi h => ?_, fun k K h => ?_, fun k K h => ?_, fun k K h => ?_⟩
  · obtain ⟨⟨G, g⟩, -⟩ := h; exact g.fit
  · exact st k K _ h (fun f a b hf => kTurn1_f hf) (by obtain ⟨⟨G, g⟩, -⟩ := h; obtain ⟨G', x, -⟩ := g.turn1 hi; exact ⟨G', x⟩)
  · exact st k K _ h (fun f a b hf => kHand0_f hf) (by obtain ⟨⟨G, g⟩, -⟩ := h; obtain ⟨G', x, -⟩ := g.hand0; exact ⟨G', x⟩)
  · exact st k K _ h (fun f a b hf => kSet_ne (fun z => by unfold frF at hf; omega)) (by obtain ⟨⟨G, g⟩, -⟩ := h; exact ⟨G, g.dn.set (by unfold relF; omega)⟩)
  · exact st k K _ h (fun _ _ _ _ => rfl) (by obtain ⟨⟨G, g⟩, -⟩ := h; exact ⟨G, g.dn⟩)
end RSTEP
