/-! ===== THE REFERENCE: become, the whole ===== -/
def kCpQ (K Kp : KK) : KK := (fun a b c => if a = 34 ∧ b < 4 ∧ c < 7 then Kp.1 a b c else K.1 a b c, K.2)
/-- the same where D holds -/
def kD (D : Nat → Nat → Nat → Prop) (K Kp : KK) : Prop := ∀ a b c, D a b c → K.1 a b c = Kp.1 a b c
theorem kD.z (K Kp : KK) : kD (fun _ _ _ => False) K Kp := fun _ _ _ h => h.elim
theorem kD.cp {D : Nat → Nat → Nat → Prop} {K Kp : KK} (h : kD D K Kp) (f j n : Nat) : kD (fun a b c => D a b c ∨ (a = f ∧ b < n ∧ c = j)) (kCpF f j n K Kp) Kp := fun a b c hd => by
  show (if a = f ∧ b < n ∧ c = j then Kp.1 a b c else K.1 a b c) = _
  by_cases e : a = f ∧ b < n ∧ c = j
  · rw [if_pos e]
  · rw [if_neg e]; exact h a b c (hd.resolve_right e)
theorem kD.set {D : Nat → Nat → Nat → Prop} {K Kp : KK} (h : kD D K Kp) (f : Nat) : kD (fun a b c => D a b c ∨ (a = f ∧ b = 0 ∧ c = 0)) (kSet K f 0 0 (Kp.1 f 0 0)) Kp := fun a b c hd => by
  show (if a = f ∧ b = 0 ∧ c = 0 then Kp.1 f 0 0 else K.1 a b c) = _
  by_cases e : a = f ∧ b = 0 ∧ c = 0
  · rw [if_pos e, e.1, e.2.1, e.2.2]
  · rw [if_neg e]; exact h a b c (hd.resolve_right e)
theorem kD.q {D : Nat → Nat → Nat → Prop} {K Kp : KK} (h : kD D K Kp) : kD (fun a b c => D a b c ∨ (a = 34 ∧ b < 4 ∧ c < 7)) (kCpQ K Kp) Kp := fun a b c hd => by
  show (if a = 34 ∧ b < 4 ∧ c < 7 then Kp.1 a b c else K.1 a b c) = _
  by_cases e : a = 34 ∧ b < 4 ∧ c < 7
  · rw [if_pos e]
  · rw [if_neg e]; exact h a b c (hd.resolve_right e)
theorem kD.lp {D : Nat → Nat → Nat → Prop} {K Kp KA : KK} (h : kD D KA Kp) (h7 : kCp 7 K Kp KA) : kD (fun a b c => (D a b c ∧ ¬ (a = 18 ∧ 3 ≤ c ∨ a = 19 ∨ a = 2 ∨ a = 3)) ∨ (((a = 18 ∧ 3 ≤ c ∧ c < 19) ∨ (a = 19 ∧ c < 16) ∨ ((a = 2 ∨ a = 3) ∧ c < 7)) ∧ b < 7)) K Kp := fun a b c hd => by
  rcases hd with hd | hd
  · rw [h7.1 a b c hd.2]; exact h a b c hd.1
  · exact h7.2.1 a b c hd.1 hd.2
theorem kAgr_bec {K0 Kp KZ : KK} (h : kCp 7 KZ Kp (kCpF 18 2 7 (kCpF 18 1 7 (kCpF 18 0 7 (kCpF 30 0 7 (kCpF 16 0 7 (kCpF 17 0 7 (kCpF 15 0 7 (kCpF 14 0 7 (kCpF 13 0 7 (kCpF 12 0 7 (kCpF 6 0 7 (kCpF 5 0 7 (kCpF 4 0 7 (kSet (kSet K0 33 0 0 (Kp.1 33 0 0)) 32 0 0 (Kp.1 32 0 0)) Kp) Kp) Kp) Kp) Kp) Kp) Kp) Kp) Kp) Kp) Kp) Kp) Kp)) : kAgr (kCpF 36 0 4 (kCpF 35 0 4 (kCpQ (kNet KZ Kp.2.2) Kp) Kp) Kp) Kp := by
  have hd := ((((((((((((((((kD.z K0 Kp).set 33).set 32).cp 4 0 7).cp 5 0 7).cp 6 0 7).cp 12 0 7).cp 13 0 7).cp 14 0 7).cp 15 0 7).cp 17 0 7).cp 16 0 7).cp 30 0 7).cp 18 0 7).cp 18 1 7).cp 18 2 7).lp h
  have hd2 : kD _ (kCpF 36 0 4 (kCpF 35 0 4 (kCpQ (kNet KZ Kp.2.2) Kp) Kp) Kp) Kp := ((kD.q (K := kNet KZ Kp.2.2) hd).cp 35 0 4).cp 36 0 4
  refine ⟨fun f i j hr => ?_, fun i hi => (h.2.2.1 i hi).symm, rfl⟩
  rcases hr with ⟨hf, hi, hj⟩ | ⟨hf, hi, hj⟩ | ⟨hf, hi, hj⟩ | ⟨hf, hi, hj⟩ | ⟨hf, hi, hj⟩ | ⟨hf, hi, hj⟩ | ⟨hf, hi, hj⟩ | ⟨hf, hi, hj⟩
  · subst hj
    rcases (by omega : f = 4 ∨ f = 5 ∨ f = 6 ∨ f = 12 ∨ f = 13 ∨ f = 14 ∨ f = 15 ∨ f = 16 ∨ f = 17) with rfl | rfl | rfl | rfl | rfl | rfl | rfl | rfl | rfl
    · exact (hd2 _ _ _ (Or.inl (Or.inl (Or.inl (Or.inl ⟨Or.inl (Or.inl (Or.inl (Or.inl (Or.inl (Or.inl (Or.inl (Or.inl (Or.inl (Or.inl (Or.inl (Or.inl (Or.inr ⟨rfl, hi, rfl⟩)))))))))))), by omega⟩))))).symm
    · exact (hd2 _ _ _ (Or.inl (Or.inl (Or.inl (Or.inl ⟨Or.inl (Or.inl (Or.inl (Or.inl (Or.inl (Or.inl (Or.inl (Or.inl (Or.inl (Or.inl (Or.inl (Or.inr ⟨rfl, hi, rfl⟩))))))))))), by omega⟩))))).symm
    · exact (hd2 _ _ _ (Or.inl (Or.inl (Or.inl (Or.inl ⟨Or.inl (Or.inl (Or.inl (Or.inl (Or.inl (Or.inl (Or.inl (Or.inl (Or.inl (Or.inl (Or.inr ⟨rfl, hi, rfl⟩)))))))))), by omega⟩))))).symm
    · exact (hd2 _ _ _ (Or.inl (Or.inl (Or.inl (Or.inl ⟨Or.inl (Or.inl (Or.inl (Or.inl (Or.inl (Or.inl (Or.inl (Or.inl (Or.inl (Or.inr ⟨rfl, hi, rfl⟩))))))))), by omega⟩))))).symm
    · exact (hd2 _ _ _ (Or.inl (Or.inl (Or.inl (Or.inl ⟨Or.inl (Or.inl (Or.inl (Or.inl (Or.inl (Or.inl (Or.inl (Or.inl (Or.inr ⟨rfl, hi, rfl⟩)))))))), by omega⟩))))).symm
    · exact (hd2 _ _ _ (Or.inl (Or.inl (Or.inl (Or.inl ⟨Or.inl (Or.inl (Or.inl (Or.inl (Or.inl (Or.inl (Or.inl (Or.inr ⟨rfl, hi, rfl⟩))))))), by omega⟩))))).symm
    · exact (hd2 _ _ _ (Or.inl (Or.inl (Or.inl (Or.inl ⟨Or.inl (Or.inl (Or.inl (Or.inl (Or.inl (Or.inl (Or.inr ⟨rfl, hi, rfl⟩)))))), by omega⟩))))).symm
    · exact (hd2 _ _ _ (Or.inl (Or.inl (Or.inl (Or.inl ⟨Or.inl (Or.inl (Or.inl (Or.inl (Or.inr ⟨rfl, hi, rfl⟩)))), by omega⟩))))).symm
    · exact (hd2 _ _ _ (Or.inl (Or.inl (Or.inl (Or.inl ⟨Or.inl (Or.inl (Or.inl (Or.inl (Or.inl (Or.inr ⟨rfl, hi, rfl⟩))))), by omega⟩))))).symm
  · subst hf
    exact (hd2 _ _ _ (Or.inl (Or.inl (Or.inl (Or.inr ⟨Or.inr (Or.inl ⟨rfl, hj⟩), hi⟩))))).symm
  · exact (hd2 _ _ _ (Or.inl (Or.inl (Or.inl (Or.inr ⟨Or.inr (Or.inr ⟨hf, hj⟩), hi⟩))))).symm
  · subst hf; subst hj
    exact (hd2 _ _ _ (Or.inl (Or.inl (Or.inl (Or.inl ⟨Or.inl (Or.inl (Or.inl (Or.inr ⟨rfl, hi, rfl⟩))), by omega⟩))))).symm
  · subst hi; subst hj
    rcases hf with rfl | rfl
    · exact (hd2 _ _ _ (Or.inl (Or.inl (Or.inl (Or.inl ⟨Or.inl (Or.inl (Or.inl (Or.inl (Or.inl (Or.inl (Or.inl (Or.inl (Or.inl (Or.inl (Or.inl (Or.inl (Or.inl (Or.inr ⟨rfl, rfl, rfl⟩))))))))))))), by omega⟩))))).symm
    · exact (hd2 _ _ _ (Or.inl (Or.inl (Or.inl (Or.inl ⟨Or.inl (Or.inl (Or.inl (Or.inl (Or.inl (Or.inl (Or.inl (Or.inl (Or.inl (Or.inl (Or.inl (Or.inl (Or.inl (Or.inl (Or.inr ⟨rfl, rfl, rfl⟩)))))))))))))), by omega⟩))))).symm
  · subst hj
    rcases hf with rfl | rfl
    · exact (hd2 _ _ _ (Or.inl (Or.inr ⟨rfl, hi, rfl⟩))).symm
    · exact (hd2 _ _ _ (Or.inr ⟨rfl, hi, rfl⟩)).symm
  · subst hf
    rcases (by omega : j = 0 ∨ j = 1 ∨ j = 2 ∨ 3 ≤ j) with rfl | rfl | rfl | h3
    · exact (hd2 _ _ _ (Or.inl (Or.inl (Or.inl (Or.inl ⟨Or.inl (Or.inl (Or.inr ⟨rfl, hi, rfl⟩)), by omega⟩))))).symm
    · exact (hd2 _ _ _ (Or.inl (Or.inl (Or.inl (Or.inl ⟨Or.inl (Or.inr ⟨rfl, hi, rfl⟩), by omega⟩))))).symm
    · exact (hd2 _ _ _ (Or.inl (Or.inl (Or.inl (Or.inl ⟨Or.inr ⟨rfl, hi, rfl⟩, by omega⟩))))).symm
    · exact (hd2 _ _ _ (Or.inl (Or.inl (Or.inl (Or.inr ⟨Or.inl ⟨rfl, h3, hj⟩, hi⟩))))).symm
  · subst hf
    exact (hd2 _ _ _ (Or.inl (Or.inl (Or.inr ⟨rfl, hi, hj⟩)))).symm
theorem c_181 {X : XS} {o p m : Nat} (h2 : 2 ≤ o) (h4 : o < 4) (p2 : 2 ≤ p) (p4 : p < 4) (hpo : ¬ p = o) (hB : ∀ i, i < 7 → ((xK X p).2.1 i).length < 400000) (hBm : ∀ i, i < 7 → ((xK X p).2.1 i).length ≤ m) (hM : m ≤ 400000) (hR : rOkR X o) (hap : aPr X p) : RU 181 [some (.ref (bB o)), some (.ref (bB p)), none] X none (fun Y => rRel0 o m 0 0 X Y (xK X p) ∧ aPr Y o) := by
  refine AT.rep (fun hr => ?_)
  have r20 : rRel0 o m 0 0 X (xSetD X (dRow20 (xD X) o (fun q => dV (xD X) p 20 q 0) 7)) (xK X o) := ⟨rfl, fun a => by by_cases e : a = o; (rw [if_pos e, e]; rfl); (rw [if_neg e]; rfl), fun _ _ _ => rfl, fun a f i j ha => if_neg (fun z => ha z.1), Nat.le_refl _, Nat.le_refl _, fun _ _ => ⟨Nat.le_refl _, Or.inl (Nat.le_refl _)⟩⟩
  refine AT.aload_n M_181 rfl rfl ?_
  refine AT.aload_n M_181 rfl rfl ?_
  refine AT.r10_0 M_181 rfl p2 p4 ?_
  refine AT.w10_0 M_181 rfl h2 h4 ?_
  refine AT.aload_n M_181 rfl rfl ?_
  refine AT.aload_n M_181 rfl rfl ?_
  refine AT.r10_1 M_181 rfl p2 p4 ?_
  refine AT.w10_1 M_181 rfl h2 h4 ?_
  try simp only [xK_same, xSetK_idem, xK_other _ _ _ _ hpo, xD_setK, xSetD_setK, xK_setD, xD_setD, xSetD_idem]
  refine AT.aload_n M_181 rfl rfl ?_
  refine AT.r10_2 M_181 rfl p2 p4 ?_
  refine AT.iconst M_181 rfl (v := 0) (by decide) ?_
  refine AT.aload_n M_181 rfl rfl ?_
  refine AT.r10_2 M_181 rfl h2 h4 ?_
  refine AT.iconst M_181 rfl (v := 0) (by decide) ?_
  refine AT.bipush M_181 rfl (v := 7) (by decide) ?_
  refine AT.acp M_181 rfl rfl (Nat.le_of_ble_eq_true rfl) (n := 7) (p := 0) (q := 0) (kd := 13) rfl rfl rfl ⟨by omega, by omega, by omega⟩ (Or.inr rfl) (src.loc (o := p) (f := 4) (fi := fun q => q) (fj := fun _ => 0) (v := fun q => (xK X p).1 4 q 0) (kl := 7) (shr p2 p4 (Or.inr (Or.inl ⟨rfl, rfl, rfl⟩))) (by omega) (by omega) (fun q hq => by rw [Nat.zero_add]; exact (lor (f := 4) p2 p4 (Or.inr (Or.inr (Or.inl ⟨by omega, by omega, hq, rfl, by omega, rfl⟩))))) (fun q hq => by show (xK _ p).1 4 q 0 = _; rw [xK_other _ _ _ _ hpo]))
    (dst.num (o := o) (K' := kCpF 4 0 7 (kSet (kSet (xK X o) 33 0 0 ((xK X p).1 33 0 0)) 32 0 0 ((xK X p).1 32 0 0)) (xK X p)) (f := 4) (fi := fun q => q) (fj := fun _ => 0) (kl := 7) (shr h2 h4 (Or.inr (Or.inl ⟨rfl, rfl, rfl⟩))) (by omega) (by omega) (fun q hq => by rw [Nat.zero_add]; exact (lor (f := 4) h2 h4 (Or.inr (Or.inr (Or.inl ⟨by omega, by omega, hq, rfl, by omega, rfl⟩))))) rfl (fun z => by omega) (fun _ q hq => (hr.choose_spec.2.2.2.2.2.2.1 p p4).2.1 q hq) (by rw [xK_same]; rfl) (fun q hq => if_pos ⟨rfl, hq, rfl⟩) (fun f' i' j' hne => by rw [xK_same]; exact if_neg (fun z => hne i' z.2.1 ⟨z.1, rfl, z.2.2⟩))) ?_
  try simp only [xK_same, xSetK_idem, xK_other _ _ _ _ hpo, xD_setK, xSetD_setK, xK_setD, xD_setD, xSetD_idem]
  refine AT.aload_n M_181 rfl rfl ?_
  refine AT.r10_3 M_181 rfl p2 p4 ?_
  refine AT.aload_n M_181 rfl rfl ?_
  refine AT.r10_3 M_181 rfl h2 h4 ?_
  refine AT.cpr (o := o) (p := p) (f := 5) (j := 0) (cc := 2) (n := 7) M_181 rfl rfl (Nat.le_of_ble_eq_true rfl) (sh_i7 p2 p4 (by omega) (by omega)) (sh_i7 h2 h4 (by omega) (by omega)) (fun q hq => (lor (f := 5) p2 p4 (Or.inr (Or.inr (Or.inl ⟨by omega, by omega, hq, rfl, by omega, rfl⟩))))) (fun q hq => (lor (f := 5) h2 h4 (Or.inr (Or.inr (Or.inl ⟨by omega, by omega, hq, rfl, by omega, rfl⟩))))) rfl h2 (by omega) (fun z => by omega) ?_
  try simp only [xK_same, xSetK_idem, xK_other _ _ _ _ hpo, xD_setK, xSetD_setK, xK_setD, xD_setD, xSetD_idem]
  refine AT.aload_n M_181 rfl rfl ?_
  refine AT.r10_4 M_181 rfl p2 p4 ?_
  refine AT.aload_n M_181 rfl rfl ?_
  refine AT.r10_4 M_181 rfl h2 h4 ?_
  refine AT.cpr (o := o) (p := p) (f := 6) (j := 0) (cc := 3) (n := 7) M_181 rfl rfl (Nat.le_of_ble_eq_true rfl) (sh_i7 p2 p4 (by omega) (by omega)) (sh_i7 h2 h4 (by omega) (by omega)) (fun q hq => (lor (f := 6) p2 p4 (Or.inr (Or.inr (Or.inl ⟨by omega, by omega, hq, rfl, by omega, rfl⟩))))) (fun q hq => (lor (f := 6) h2 h4 (Or.inr (Or.inr (Or.inl ⟨by omega, by omega, hq, rfl, by omega, rfl⟩))))) rfl h2 (by omega) (fun z => by omega) ?_
  try simp only [xK_same, xSetK_idem, xK_other _ _ _ _ hpo, xD_setK, xSetD_setK, xK_setD, xD_setD, xSetD_idem]
  refine AT.aload_n M_181 rfl rfl ?_
  refine AT.r10_5 M_181 rfl p2 p4 ?_
  refine AT.aload_n M_181 rfl rfl ?_
  refine AT.r10_5 M_181 rfl h2 h4 ?_
  refine AT.cpr (o := o) (p := p) (f := 12) (j := 0) (cc := 4) (n := 7) M_181 rfl rfl (Nat.le_of_ble_eq_true rfl) (sh_i7 p2 p4 (by omega) (by omega)) (sh_i7 h2 h4 (by omega) (by omega)) (fun q hq => (lor (f := 12) p2 p4 (Or.inr (Or.inr (Or.inr (Or.inl ⟨by omega, by omega, hq, rfl, by omega, rfl⟩)))))) (fun q hq => (lor (f := 12) h2 h4 (Or.inr (Or.inr (Or.inr (Or.inl ⟨by omega, by omega, hq, rfl, by omega, rfl⟩)))))) rfl h2 (by omega) (fun z => by omega) ?_
  try simp only [xK_same, xSetK_idem, xK_other _ _ _ _ hpo, xD_setK, xSetD_setK, xK_setD, xD_setD, xSetD_idem]
  refine AT.aload_n M_181 rfl rfl ?_
  refine AT.r10_6 M_181 rfl p2 p4 ?_
  refine AT.aload_n M_181 rfl rfl ?_
  refine AT.r10_6 M_181 rfl h2 h4 ?_
  refine AT.cpr (o := o) (p := p) (f := 13) (j := 0) (cc := 5) (n := 7) M_181 rfl rfl (Nat.le_of_ble_eq_true rfl) (sh_i7 p2 p4 (by omega) (by omega)) (sh_i7 h2 h4 (by omega) (by omega)) (fun q hq => (lor (f := 13) p2 p4 (Or.inr (Or.inr (Or.inr (Or.inl ⟨by omega, by omega, hq, rfl, by omega, rfl⟩)))))) (fun q hq => (lor (f := 13) h2 h4 (Or.inr (Or.inr (Or.inr (Or.inl ⟨by omega, by omega, hq, rfl, by omega, rfl⟩)))))) rfl h2 (by omega) (fun z => by omega) ?_
  try simp only [xK_same, xSetK_idem, xK_other _ _ _ _ hpo, xD_setK, xSetD_setK, xK_setD, xD_setD, xSetD_idem]
  refine AT.aload_n M_181 rfl rfl ?_
  refine AT.r10_7 M_181 rfl p2 p4 ?_
  refine AT.aload_n M_181 rfl rfl ?_
  refine AT.r10_7 M_181 rfl h2 h4 ?_
  refine AT.cpr (o := o) (p := p) (f := 14) (j := 0) (cc := 6) (n := 7) M_181 rfl rfl (Nat.le_of_ble_eq_true rfl) (sh_i7 p2 p4 (by omega) (by omega)) (sh_i7 h2 h4 (by omega) (by omega)) (fun q hq => (lor (f := 14) p2 p4 (Or.inr (Or.inr (Or.inr (Or.inl ⟨by omega, by omega, hq, rfl, by omega, rfl⟩)))))) (fun q hq => (lor (f := 14) h2 h4 (Or.inr (Or.inr (Or.inr (Or.inl ⟨by omega, by omega, hq, rfl, by omega, rfl⟩)))))) rfl h2 (by omega) (fun z => by omega) ?_
  try simp only [xK_same, xSetK_idem, xK_other _ _ _ _ hpo, xD_setK, xSetD_setK, xK_setD, xD_setD, xSetD_idem]
  refine AT.aload_n M_181 rfl rfl ?_
  refine AT.r10_8 M_181 rfl p2 p4 ?_
  refine AT.aload_n M_181 rfl rfl ?_
  refine AT.r10_8 M_181 rfl h2 h4 ?_
  refine AT.cpr (o := o) (p := p) (f := 15) (j := 0) (cc := 7) (n := 7) M_181 rfl rfl (Nat.le_of_ble_eq_true rfl) (sh_i7 p2 p4 (by omega) (by omega)) (sh_i7 h2 h4 (by omega) (by omega)) (fun q hq => (lor (f := 15) p2 p4 (Or.inr (Or.inr (Or.inr (Or.inl ⟨by omega, by omega, hq, rfl, by omega, rfl⟩)))))) (fun q hq => (lor (f := 15) h2 h4 (Or.inr (Or.inr (Or.inr (Or.inl ⟨by omega, by omega, hq, rfl, by omega, rfl⟩)))))) rfl h2 (by omega) (fun z => by omega) ?_
  try simp only [xK_same, xSetK_idem, xK_other _ _ _ _ hpo, xD_setK, xSetD_setK, xK_setD, xD_setD, xSetD_idem]
  refine AT.aload_n M_181 rfl rfl ?_
  refine AT.r10_9 M_181 rfl p2 p4 ?_
  refine AT.aload_n M_181 rfl rfl ?_
  refine AT.r10_9 M_181 rfl h2 h4 ?_
  refine AT.cs20 M_181 rfl M_180 rfl (Nat.le_of_ble_eq_true rfl) rfl (c_180 (kd := 12) (n := 7) (v := fun q => dV (xD X) p 20 q 0) (src.loc (o := p) (f := 20) (fi := fun q => q) (fj := fun _ => 0) (sh_i7 (o := p) (c := 8) p2 p4 (by omega) (by omega)) (by omega) (by omega) (fun q hq => by rw [Nat.zero_add]; exact (lor p2 p4 (Or.inr (Or.inr (Or.inr (Or.inr (Or.inl ⟨rfl, hq, rfl, rfl, rfl⟩))))))) (fun q hq => rfl)) (fun g hg => (hg.2.1 _ _ _ (sh_i7 (o := p) (c := 8) p2 p4 (by omega) (by omega))).2 (by omega)) (dst.p20 h2 h4) (by omega) (Or.inl rfl)) ?_ (Nat.le_of_ble_eq_true rfl) rfl
  try simp only [xK_same, xSetK_idem, xK_other _ _ _ _ hpo, xD_setK, xSetD_setK, xK_setD, xD_setD, xSetD_idem]
  have hV20 : True := trivial
  refine AT.aload_n M_181 rfl rfl ?_
  refine AT.r10_10 M_181 rfl p2 p4 ?_
  refine AT.aload_n M_181 rfl rfl ?_
  refine AT.r10_10 M_181 rfl h2 h4 ?_
  refine AT.cpr (o := o) (p := p) (f := 17) (j := 0) (cc := 9) (n := 7) M_181 rfl rfl (Nat.le_of_ble_eq_true rfl) (sh_i7 p2 p4 (by omega) (by omega)) (sh_i7 h2 h4 (by omega) (by omega)) (fun q hq => (lor p2 p4 (Or.inr (Or.inr (Or.inr (Or.inr (Or.inr (Or.inl ⟨rfl, hq, rfl, rfl, rfl⟩)))))))) (fun q hq => (lor h2 h4 (Or.inr (Or.inr (Or.inr (Or.inr (Or.inr (Or.inl ⟨rfl, hq, rfl, rfl, rfl⟩)))))))) rfl h2 (by omega) (fun z => by omega) ?_
  try simp only [xK_same, xSetK_idem, xK_other _ _ _ _ hpo, xD_setK, xSetD_setK, xK_setD, xD_setD, xSetD_idem]
  refine AT.aload_n M_181 rfl rfl ?_
  refine AT.r10_11 M_181 rfl p2 p4 ?_
  refine AT.aload_n M_181 rfl rfl ?_
  refine AT.r10_11 M_181 rfl h2 h4 ?_
  refine AT.cpr (o := o) (p := p) (f := 16) (j := 0) (cc := 10) (n := 7) M_181 rfl rfl (Nat.le_of_ble_eq_true rfl) (sh_i7 p2 p4 (by omega) (by omega)) (sh_i7 h2 h4 (by omega) (by omega)) (fun q hq => (lor p2 p4 (Or.inr (Or.inr (Or.inr (Or.inr (Or.inr (Or.inr (Or.inl ⟨rfl, hq, rfl, rfl, rfl⟩))))))))) (fun q hq => (lor h2 h4 (Or.inr (Or.inr (Or.inr (Or.inr (Or.inr (Or.inr (Or.inl ⟨rfl, hq, rfl, rfl, rfl⟩))))))))) rfl h2 (by omega) (fun z => by omega) ?_
  try simp only [xK_same, xSetK_idem, xK_other _ _ _ _ hpo, xD_setK, xSetD_setK, xK_setD, xD_setD, xSetD_idem]
  refine AT.aload_n M_181 rfl rfl ?_
  refine AT.r10_12 M_181 rfl p2 p4 ?_
  refine AT.aload_n M_181 rfl rfl ?_
  refine AT.r10_12 M_181 rfl h2 h4 ?_
  refine AT.cpr (o := o) (p := p) (f := 30) (j := 0) (cc := 11) (n := 7) M_181 rfl rfl (Nat.le_of_ble_eq_true rfl) (sh_i7 p2 p4 (by omega) (by omega)) (sh_i7 h2 h4 (by omega) (by omega)) (fun q hq => (lor p2 p4 (Or.inr (Or.inr (Or.inr (Or.inr (Or.inr (Or.inr (Or.inr (Or.inl ⟨rfl, hq, rfl, rfl, rfl⟩)))))))))) (fun q hq => (lor h2 h4 (Or.inr (Or.inr (Or.inr (Or.inr (Or.inr (Or.inr (Or.inr (Or.inl ⟨rfl, hq, rfl, rfl, rfl⟩)))))))))) rfl h2 (by omega) (fun z => by omega) ?_
  try simp only [xK_same, xSetK_idem, xK_other _ _ _ _ hpo, xD_setK, xSetD_setK, xK_setD, xD_setD, xSetD_idem]
  refine AT.aload_n M_181 rfl rfl ?_
  refine AT.r10_13 M_181 rfl p2 p4 ?_
  refine AT.aload_n M_181 rfl rfl ?_
  refine AT.r10_13 M_181 rfl h2 h4 ?_
  refine AT.cpr (o := o) (p := p) (f := 18) (j := 0) (cc := 12) (n := 7) M_181 rfl rfl (Nat.le_of_ble_eq_true rfl) (sh_i7 p2 p4 (by omega) (by omega)) (sh_i7 h2 h4 (by omega) (by omega)) (fun q hq => (lor p2 p4 (Or.inr (Or.inr (Or.inr (Or.inr (Or.inr (Or.inr (Or.inr (Or.inr (Or.inl ⟨rfl, hq, by omega, rfl, rfl⟩))))))))))) (fun q hq => (lor h2 h4 (Or.inr (Or.inr (Or.inr (Or.inr (Or.inr (Or.inr (Or.inr (Or.inr (Or.inl ⟨rfl, hq, by omega, rfl, rfl⟩))))))))))) rfl h2 (by omega) (fun z => by omega) ?_
  try simp only [xK_same, xSetK_idem, xK_other _ _ _ _ hpo, xD_setK, xSetD_setK, xK_setD, xD_setD, xSetD_idem]
  refine AT.aload_n M_181 rfl rfl ?_
  refine AT.r10_14 M_181 rfl p2 p4 ?_
  refine AT.aload_n M_181 rfl rfl ?_
  refine AT.r10_14 M_181 rfl h2 h4 ?_
  refine AT.cpr (o := o) (p := p) (f := 18) (j := 1) (cc := 13) (n := 7) M_181 rfl rfl (Nat.le_of_ble_eq_true rfl) (sh_i7 p2 p4 (by omega) (by omega)) (sh_i7 h2 h4 (by omega) (by omega)) (fun q hq => (lor p2 p4 (Or.inr (Or.inr (Or.inr (Or.inr (Or.inr (Or.inr (Or.inr (Or.inr (Or.inl ⟨rfl, hq, by omega, rfl, rfl⟩))))))))))) (fun q hq => (lor h2 h4 (Or.inr (Or.inr (Or.inr (Or.inr (Or.inr (Or.inr (Or.inr (Or.inr (Or.inl ⟨rfl, hq, by omega, rfl, rfl⟩))))))))))) rfl h2 (by omega) (fun z => by omega) ?_
  try simp only [xK_same, xSetK_idem, xK_other _ _ _ _ hpo, xD_setK, xSetD_setK, xK_setD, xD_setD, xSetD_idem]
  refine AT.aload_n M_181 rfl rfl ?_
  refine AT.r10_15 M_181 rfl p2 p4 ?_
  refine AT.aload_n M_181 rfl rfl ?_
  refine AT.r10_15 M_181 rfl h2 h4 ?_
  refine AT.cpr (o := o) (p := p) (f := 18) (j := 2) (cc := 14) (n := 7) M_181 rfl rfl (Nat.le_of_ble_eq_true rfl) (sh_i7 p2 p4 (by omega) (by omega)) (sh_i7 h2 h4 (by omega) (by omega)) (fun q hq => (lor p2 p4 (Or.inr (Or.inr (Or.inr (Or.inr (Or.inr (Or.inr (Or.inr (Or.inr (Or.inl ⟨rfl, hq, by omega, rfl, rfl⟩))))))))))) (fun q hq => (lor h2 h4 (Or.inr (Or.inr (Or.inr (Or.inr (Or.inr (Or.inr (Or.inr (Or.inr (Or.inl ⟨rfl, hq, by omega, rfl, rfl⟩))))))))))) rfl h2 (by omega) (fun z => by omega) ?_
  try simp only [xK_same, xSetK_idem, xK_other _ _ _ _ hpo, xD_setK, xSetD_setK, xK_setD, xD_setD, xSetD_idem]
  refine AT.aload_n M_181 rfl rfl ?_
  refine AT.r10_18 M_181 rfl p2 p4 ?_
  refine AT.aload_n M_181 rfl rfl ?_
  refine AT.r10_18 M_181 rfl h2 h4 ?_
  refine AT.czp M_181 rfl rfl (Nat.le_of_ble_eq_true rfl) h2 h4 p2 p4 ?_
  have hpA : xK (xSetK (xSetD X (dRow20 (xD X) o (fun q => dV (xD X) p 20 q 0) 7)) o (kCpF 18 2 7 (kCpF 18 1 7 (kCpF 18 0 7 (kCpF 30 0 7 (kCpF 16 0 7 (kCpF 17 0 7 (kCpF 15 0 7 (kCpF 14 0 7 (kCpF 13 0 7 (kCpF 12 0 7 (kCpF 6 0 7 (kCpF 5 0 7 (kCpF 4 0 7 (kSet (kSet (xK X o) 33 0 0 ((xK X p).1 33 0 0)) 32 0 0 ((xK X p).1 32 0 0)) (xK X p)) (xK X p)) (xK X p)) (xK X p)) (xK X p)) (xK X p)) (xK X p)) (xK X p)) (xK X p)) (xK X p)) (xK X p)) (xK X p)) (xK X p))) p = xK X p := by rw [xK_other _ _ _ _ hpo]; rfl
  rw [hpA]
  refine AT2.iconst M_181 rfl (v := 0) (by decide) ?_
  refine AT2.ist2 M_181 rfl rfl ?_
  have rA : rRel0 o m 0 0 X (xSetK (xSetD X (dRow20 (xD X) o (fun q => dV (xD X) p 20 q 0) 7)) o (kCpF 18 2 7 (kCpF 18 1 7 (kCpF 18 0 7 (kCpF 30 0 7 (kCpF 16 0 7 (kCpF 17 0 7 (kCpF 15 0 7 (kCpF 14 0 7 (kCpF 13 0 7 (kCpF 12 0 7 (kCpF 6 0 7 (kCpF 5 0 7 (kCpF 4 0 7 (kSet (kSet (xK X o) 33 0 0 ((xK X p).1 33 0 0)) 32 0 0 ((xK X p).1 32 0 0)) (xK X p)) (xK X p)) (xK X p)) (xK X p)) (xK X p)) (xK X p)) (xK X p)) (xK X p)) (xK X p)) (xK X p)) (xK X p)) (xK X p)) (xK X p))) (kCpF 18 2 7 (kCpF 18 1 7 (kCpF 18 0 7 (kCpF 30 0 7 (kCpF 16 0 7 (kCpF 17 0 7 (kCpF 15 0 7 (kCpF 14 0 7 (kCpF 13 0 7 (kCpF 12 0 7 (kCpF 6 0 7 (kCpF 5 0 7 (kCpF 4 0 7 (kSet (kSet (xK X o) 33 0 0 ((xK X p).1 33 0 0)) 32 0 0 ((xK X p).1 32 0 0)) (xK X p)) (xK X p)) (xK X p)) (xK X p)) (xK X p)) (xK X p)) (xK X p)) (xK X p)) (xK X p)) (xK X p)) (xK X p)) (xK X p)) (xK X p)) := r20.net _
  refine l_181 (X := (xSetK (xSetD X (dRow20 (xD X) o (fun q => dV (xD X) p 20 q 0) 7)) o (kCpF 18 2 7 (kCpF 18 1 7 (kCpF 18 0 7 (kCpF 30 0 7 (kCpF 16 0 7 (kCpF 17 0 7 (kCpF 15 0 7 (kCpF 14 0 7 (kCpF 13 0 7 (kCpF 12 0 7 (kCpF 6 0 7 (kCpF 5 0 7 (kCpF 4 0 7 (kSet (kSet (xK X o) 33 0 0 ((xK X p).1 33 0 0)) 32 0 0 ((xK X p).1 32 0 0)) (xK X p)) (xK X p)) (xK X p)) (xK X p)) (xK X p)) (xK X p)) (xK X p)) (xK X p)) (xK X p)) (xK X p)) (xK X p)) (xK X p)) (xK X p)))) (m := m) (KA := (kCpF 18 2 7 (kCpF 18 1 7 (kCpF 18 0 7 (kCpF 30 0 7 (kCpF 16 0 7 (kCpF 17 0 7 (kCpF 15 0 7 (kCpF 14 0 7 (kCpF 13 0 7 (kCpF 12 0 7 (kCpF 6 0 7 (kCpF 5 0 7 (kCpF 4 0 7 (kSet (kSet (xK X o) 33 0 0 ((xK X p).1 33 0 0)) 32 0 0 ((xK X p).1 32 0 0)) (xK X p)) (xK X p)) (xK X p)) (xK X p)) (xK X p)) (xK X p)) (xK X p)) (xK X p)) (xK X p)) (xK X p)) (xK X p)) (xK X p)) (xK X p))) h2 h4 p2 p4 hpo rfl (fun i hi => rfl) hB hBm hM 7 0 rfl hpA (by rw [xK_same]; exact ⟨fun _ _ _ _ => rfl, fun _ _ _ _ hi => absurd hi (Nat.not_lt_zero _), fun _ hi => absurd hi (Nat.not_lt_zero _), rfl⟩) (rA.ok hM hR) (fun Z z1 z2 z3 => ?_)
  refine AT2.out (fun k hk => by rw [z3.2.2.1 k hk]) h2 h4 ?_
  have hpZ : xK Z p = xK X p := by rw [z1.2.1, if_neg hpo, hpA]
  refine AT.dpost h2 h4 p2 p4 hpo ?_
  rw [hpZ]
  refine AT.aload_n M_181 rfl rfl ?_
  refine AT.r10_25 M_181 rfl p2 p4 ?_
  refine AT.aload_n M_181 rfl rfl ?_
  refine AT.r10_25 M_181 rfl h2 h4 ?_
  refine AT.cs20 M_181 rfl M_180 rfl (Nat.le_of_ble_eq_true rfl) rfl (c_180 (kd := 12) (n := 28) (v := fun q => (xK X p).1 34 (q / 7) (q % 7)) (src.loc (o := p) (f := 34) (fi := fun q => q / 7) (fj := fun q => q % 7) (sh_req p2 p4) (by omega) (by omega) (fun q hq => by rw [Nat.zero_add]; exact (by have := lo_req (o := p) p2 p4 (c := q / 7) (j := q % 7) (by omega) (by omega); rw [show 7 * (q / 7) + q % 7 = q by omega] at this; exact this)) (fun q hq => by show (xK _ p).1 34 (q / 7) (q % 7) = _; rw [xK_other _ _ _ _ hpo]; exact congrArg (fun z => z.1 34 (q / 7) (q % 7)) hpZ)) (fun g hg => (hg.2.1 _ _ _ (sh_req p2 p4)).2 (by omega))
    (dst.num (o := o) (K' := kCpQ (kNet (xK Z o) (xK X p).2.2) (xK X p)) (f := 34) (fi := fun q => q / 7) (fj := fun q => q % 7) (sh_req h2 h4) (by omega) (by omega) (fun q hq => by rw [Nat.zero_add]; exact (by have := lo_req (o := o) h2 h4 (c := q / 7) (j := q % 7) (by omega) (by omega); rw [show 7 * (q / 7) + q % 7 = q by omega] at this; exact this)) rfl (fun z => by omega) (fun z => absurd z (by decide)) (by rw [xK_same]; rfl) (fun q hq => if_pos ⟨rfl, by omega, by omega⟩) (fun f' i' j' hne => by rw [xK_same]; exact if_neg (fun z => hne (7 * i' + j') (by omega) ⟨z.1, by omega, by omega⟩))) (by omega) (Or.inl rfl)) ?_ (Nat.le_of_ble_eq_true rfl) rfl
  try simp only [xK_same, xSetK_idem, xK_other _ _ _ _ hpo, xD_setK, xSetD_setK, xK_setD, xD_setD, xSetD_idem]
  refine AT.aload_n M_181 rfl rfl ?_
  refine AT.r10_26 M_181 rfl p2 p4 ?_
  refine AT.aload_n M_181 rfl rfl ?_
  refine AT.r10_26 M_181 rfl h2 h4 ?_
  refine AT.cpr (o := o) (p := p) (f := 35) (j := 0) (cc := 59) (n := 4) M_181 rfl rfl (Nat.le_of_ble_eq_true rfl) (shr p2 p4 (Or.inr (Or.inr (Or.inr (Or.inr (Or.inr (Or.inr (Or.inr (Or.inr (Or.inr (Or.inr (Or.inr (Or.inr (Or.inr (Or.inr (Or.inr (Or.inr ⟨by omega, by omega, rfl, rfl⟩))))))))))))))))) (shr h2 h4 (Or.inr (Or.inr (Or.inr (Or.inr (Or.inr (Or.inr (Or.inr (Or.inr (Or.inr (Or.inr (Or.inr (Or.inr (Or.inr (Or.inr (Or.inr (Or.inr ⟨by omega, by omega, rfl, rfl⟩))))))))))))))))) (fun q hq => (lor (f := 35) p2 p4 (Or.inr (Or.inr (Or.inr (Or.inr (Or.inr (Or.inr (Or.inr (Or.inr (Or.inr (Or.inr (Or.inr (Or.inr (Or.inr (Or.inr (Or.inr (Or.inr ⟨by omega, by omega, hq, rfl, by omega, rfl⟩)))))))))))))))))) (fun q hq => (lor (f := 35) h2 h4 (Or.inr (Or.inr (Or.inr (Or.inr (Or.inr (Or.inr (Or.inr (Or.inr (Or.inr (Or.inr (Or.inr (Or.inr (Or.inr (Or.inr (Or.inr (Or.inr ⟨by omega, by omega, hq, rfl, by omega, rfl⟩)))))))))))))))))) rfl h2 (by omega) (fun _ q hq => by rw [xK_other _ _ _ _ hpo]; exact (congrArg (fun z => z.1 35 q 0 = 0 ∨ z.1 35 q 0 = 1) hpZ).mpr ((hr.choose_spec.2.2.2.2.2.2.1 p p4).2.2 q hq)) ?_
  try simp only [xK_same, xSetK_idem, xK_other _ _ _ _ hpo, xD_setK, xSetD_setK, xK_setD, xD_setD, xSetD_idem]
  try rw [hpZ]
  refine AT.aload_n M_181 rfl rfl ?_
  refine AT.r10_27 M_181 rfl p2 p4 ?_
  refine AT.aload_n M_181 rfl rfl ?_
  refine AT.r10_27 M_181 rfl h2 h4 ?_
  refine AT.cpr (o := o) (p := p) (f := 36) (j := 0) (cc := 60) (n := 4) M_181 rfl rfl (Nat.le_of_ble_eq_true rfl) (shr p2 p4 (Or.inr (Or.inr (Or.inr (Or.inr (Or.inr (Or.inr (Or.inr (Or.inr (Or.inr (Or.inr (Or.inr (Or.inr (Or.inr (Or.inr (Or.inr (Or.inr ⟨by omega, by omega, rfl, rfl⟩))))))))))))))))) (shr h2 h4 (Or.inr (Or.inr (Or.inr (Or.inr (Or.inr (Or.inr (Or.inr (Or.inr (Or.inr (Or.inr (Or.inr (Or.inr (Or.inr (Or.inr (Or.inr (Or.inr ⟨by omega, by omega, rfl, rfl⟩))))))))))))))))) (fun q hq => (lor (f := 36) p2 p4 (Or.inr (Or.inr (Or.inr (Or.inr (Or.inr (Or.inr (Or.inr (Or.inr (Or.inr (Or.inr (Or.inr (Or.inr (Or.inr (Or.inr (Or.inr (Or.inr ⟨by omega, by omega, hq, rfl, by omega, rfl⟩)))))))))))))))))) (fun q hq => (lor (f := 36) h2 h4 (Or.inr (Or.inr (Or.inr (Or.inr (Or.inr (Or.inr (Or.inr (Or.inr (Or.inr (Or.inr (Or.inr (Or.inr (Or.inr (Or.inr (Or.inr (Or.inr ⟨by omega, by omega, hq, rfl, by omega, rfl⟩)))))))))))))))))) rfl h2 (by omega) (fun z => by omega) ?_
  try simp only [xK_same, xSetK_idem, xK_other _ _ _ _ hpo, xD_setK, xSetD_setK, xK_setD, xD_setD, xSetD_idem]
  try rw [hpZ]
  have hA := kAgr_bec (K0 := xK X o) (Kp := xK X p) z3
  refine AT.agr (o := o) (K := xK X p) (by rw [xK_same]; exact hA) ?_
  rw [xSetK_idem]
  refine AT.vret M_181 rfl rfl ?_
  refine ⟨rfl, (((rA.tr z1).row 41 0 _).net _).up (by omega) (by omega), fun i hi => ?_⟩
  rw [xK_same]
  show (if o = o ∧ 20 = 41 ∧ i = 0 then _ else dV (xD Z) o 20 i 0) = _
  rw [if_neg (fun z => absurd z.2.1 (by decide)), z2 20 i 0 (by omega) (by omega)]
  show (if o = o ∧ 20 = 20 ∧ i < 7 ∧ 0 = 0 then dV (xD X) p 20 i 0 else _) = _
  rw [if_pos ⟨rfl, rfl, hi, rfl⟩]
  exact hap i hi
