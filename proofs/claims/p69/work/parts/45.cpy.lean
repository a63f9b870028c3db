/-! ===== COPYING A SERVER'S NUMBERS ===== -/
theorem rows_shp {o s f c off kl : Nat} (ho : o < 2) (hs : s < 7) (hc : (f = 2 ∧ c = 5 ∧ off = 0 ∧ kl = 7) ∨ (f = 3 ∧ c = 6 ∧ off = 0 ∧ kl = 7) ∨ (f = 19 ∧ c = 2 ∧ off = 0 ∧ kl = 8) ∨ (f = 19 ∧ c = 3 ∧ off = 8 ∧ kl = 4) ∨ (f = 19 ∧ c = 4 ∧ off = 12 ∧ kl = 4)) :
    shp (aS o s + c) 12 kl ∧ ∀ q, q < kl → loc o f s (off + q) (aS o s + c) q := by
  rcases hc with ⟨rfl, rfl, rfl, rfl⟩ | ⟨rfl, rfl, rfl, rfl⟩ | ⟨rfl, rfl, rfl, rfl⟩ | ⟨rfl, rfl, rfl, rfl⟩ | ⟨rfl, rfl, rfl, rfl⟩
  · exact ⟨shp_nxt ho hs, fun q hq => by rw [Nat.zero_add]; exact loc_nxt ho hs hq⟩
  · exact ⟨shp_mat ho hs, fun q hq => by rw [Nat.zero_add]; exact loc_mat ho hs hq⟩
  · exact ⟨shp_val ho hs, fun q hq => by rw [Nat.zero_add]; exact loc_val ho hs hq⟩
  · exact ⟨shp_ser ho hs, fun q hq => loc_ser ho hs hq⟩
  · exact ⟨shp_giv ho hs, fun q hq => loc_giv ho hs hq⟩
section ATC
variable {m i pc ln r1 r2 r3 : Nat} {ls : PV} {st : List Value} {X : XS} {Q : PO → XS → Prop} {M : PMet} {o s : Nat}
theorem AT.acpN {n o' t f c off kl : Nat} {x : Int32} (hM : qPT m = M) (hr : M.1[i]? = some (pc, .invokestatic n, ln, r1, r2, r3)) (h0 : r1 = 1) (hsm : st.length ≤ 4) (ho : o < 2) (hs : s < 7) (ho2 : o' < 2) (ht : t < 7)
    (hc : (f = 2 ∧ c = 5 ∧ off = 0 ∧ kl = 7) ∨ (f = 3 ∧ c = 6 ∧ off = 0 ∧ kl = 7) ∨ (f = 19 ∧ c = 2 ∧ off = 0 ∧ kl = 8) ∨ (f = 19 ∧ c = 3 ∧ off = 8 ∧ kl = 4) ∨ (f = 19 ∧ c = 4 ∧ off = 12 ∧ kl = 4)) (hx : x = Int32.ofNat kl)
    (k : AT m (i + 1) ls st (xSetK X o (kRow (xK X o) f s (fun j => if off ≤ j ∧ j < off + kl then (xK X o').1 f t j else (xK X o).1 f s j))) Q) : AT m i ls (.int x :: .int 0 :: .ref (aS o s + c) :: .int 0 :: .ref (aS o' t + c) :: st) X Q := by
  obtain ⟨s1, l1⟩ := rows_shp ho hs hc
  obtain ⟨s2, l2⟩ := rows_shp ho2 ht hc
  have hkl : kl ≤ 8 ∧ off + kl ≤ 16 := by omega
  have hf : xPriv f = false ∧ f ≠ 18 ∧ f ≠ 34 ∧ ¬ (f = 4 ∨ f = 35) := by
    rcases hc with ⟨rfl, -⟩ | ⟨rfl, -⟩ | ⟨rfl, -⟩ | ⟨rfl, -⟩ | ⟨rfl, -⟩ <;> decide
  refine AT.acpG (o := o) (i0 := 0) (j0 := 0) (kl := kl) (f := f) (kd := 12) (v := fun q => (xK X o').1 f t (off + q)) (fi := fun _ => s) (fj := fun q => off + q) (K' := kRow (xK X o) f s (fun j => if off ≤ j ∧ j < off + kl then (xK X o').1 f t j else (xK X o).1 f s j)) hM hr h0 hsm hx rfl rfl (by omega) (Or.inl rfl) (fun g hg => ⟨(hg.2.1 _ _ _ s2).1, by rw [(hg.2.1 _ _ _ s2).2 (Nat.le_refl _), Nat.zero_add]; exact Nat.le_refl _, fun q hq => ?_⟩) (fun g hg => ⟨(hg.2.1 _ _ _ s1).1, by rw [(hg.2.1 _ _ _ s1).2 (Nat.le_refl _), Nat.zero_add]; exact Nat.le_refl _⟩) (fun q hq => by rw [Nat.zero_add]; exact l1 q hq) hf.1 (fun _ => ⟨hf.2.1, hf.2.2.1⟩) (fun z => absurd z hf.2.2.2) rfl (fun q hq => ?_) (fun f' i' j' hn => ?_) k
  · rw [Nat.zero_add]
    refine (hg.2.2.1 _ _ _ _ _ _ (l2 q hq)).trans (congrArg Value.int ?_)
    unfold xN
    rw [hf.1]
    rfl
  · show (if f = f ∧ s = s then (if off ≤ off + q ∧ off + q < off + kl then (xK X o').1 f t (off + q) else (xK X o).1 f s (off + q)) else (xK X o).1 f s (off + q)) = (xK X o').1 f t (off + q)
    rw [if_pos ⟨rfl, rfl⟩, if_pos ⟨by omega, by omega⟩]
  · show (if f' = f ∧ i' = s then (if off ≤ j' ∧ j' < off + kl then (xK X o').1 f t j' else (xK X o).1 f s j') else (xK X o).1 f' i' j') = (xK X o).1 f' i' j'
    by_cases h1 : f' = f ∧ i' = s
    · rw [if_pos h1]
      by_cases h2 : off ≤ j' ∧ j' < off + kl
      · exact absurd ⟨h1.1, h1.2, by omega⟩ (hn (j' - off) (by omega))
      · rw [if_neg h2, h1.1, h1.2]
    · rw [if_neg h1]
end ATC
/-- the first n numbers of a row -/
def kRowN (K : KK) (f s n : Nat) (r : Nat → Int32) : KK := kRow K f s (fun j => if j < n then r j else K.1 f s j)
/-- Table.copyFrom between servers of two states -/
theorem c_92s {X : XS} {o s o' t : Nat} (ho : o < 2) (hs : s < 7) (ho2 : o' < 2) (ht : t < 7) (hne : ¬ o' = o) : RT 92 [some (.ref (aS o s + 1)), some (.ref (aS o' t + 1))] X none (xSetK X o (kRowN (xK X o) 19 s 16 ((xK X o').1 19 t))) := by
  refine AT.aload_n M_92 rfl rfl ?_
  refine AT.f_8_0 M_92 rfl ho2 ht ?_
  refine AT.iconst M_92 rfl (v := 0) (by decide) ?_
  refine AT.aload_n M_92 rfl rfl ?_
  refine AT.f_8_0 M_92 rfl ho hs ?_
  refine AT.iconst M_92 rfl (v := 0) (by decide) ?_
  refine AT.bipush M_92 rfl (v := 8) (by decide) ?_
  refine AT.acpN (c := 2) M_92 rfl rfl (Nat.zero_le _) ho hs ho2 ht (Or.inr (Or.inr (Or.inl ⟨rfl, rfl, rfl, rfl⟩))) rfl ?_
  refine AT.aload_n M_92 rfl rfl ?_
  refine AT.f_8_1 M_92 rfl ho2 ht ?_
  refine AT.iconst M_92 rfl (v := 0) (by decide) ?_
  refine AT.aload_n M_92 rfl rfl ?_
  refine AT.f_8_1 M_92 rfl ho hs ?_
  refine AT.iconst M_92 rfl (v := 0) (by decide) ?_
  refine AT.iconst M_92 rfl (v := 4) (by decide) ?_
  refine AT.acpN (c := 3) M_92 rfl rfl (Nat.zero_le _) ho hs ho2 ht (Or.inr (Or.inr (Or.inr (Or.inl ⟨rfl, rfl, rfl, rfl⟩)))) rfl ?_
  refine AT.aload_n M_92 rfl rfl ?_
  refine AT.f_8_2 M_92 rfl ho2 ht ?_
  refine AT.iconst M_92 rfl (v := 0) (by decide) ?_
  refine AT.aload_n M_92 rfl rfl ?_
  refine AT.f_8_2 M_92 rfl ho hs ?_
  refine AT.iconst M_92 rfl (v := 0) (by decide) ?_
  refine AT.iconst M_92 rfl (v := 4) (by decide) ?_
  refine AT.acpN (c := 4) M_92 rfl rfl (Nat.zero_le _) ho hs ho2 ht (Or.inr (Or.inr (Or.inr (Or.inr ⟨rfl, rfl, rfl, rfl⟩)))) rfl ?_
  refine AT.vret M_92 rfl rfl ?_
  refine ⟨rfl, ?_⟩
  simp only [xK_other _ _ _ _ hne, xK_same, xSetK_idem, kRow_idem]
  congr 1
  unfold kRowN
  refine kRow_congr _ _ _ (fun j => ?_)
  simp only [kRow_1, and_self, if_true]
  by_cases h1 : j < 8
  · rw [if_pos (show j < 16 by omega), if_neg (by omega), if_neg (by omega), if_pos (by omega)]
  · by_cases h2 : j < 12
    · rw [if_pos (show j < 16 by omega), if_neg (by omega), if_pos (by omega)]
    · by_cases h3 : j < 16
      · rw [if_pos h3, if_pos (by omega)]
      · rw [if_neg h3, if_neg (by omega), if_neg (by omega), if_neg (by omega)]
