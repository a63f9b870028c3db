/-! ===== A SNAPSHOT OF A SERVER'S TABLE ===== -/
theorem pCpy_M (g : PS) (a b n u k : Nat) : pM (pCpy g a 0 b 0 n) u k = if u = b ∧ k < n then pM g a k else pM g u k := by
  show (if u = b ∧ 0 ≤ k ∧ k < 0 + n then pM g a (0 + (k - 0)) else pM g u k) = _
  by_cases h : u = b ∧ k < n
  · rw [if_pos h, if_pos ⟨h.1, Nat.zero_le _, by rw [Nat.zero_add]; exact h.2⟩, Nat.zero_add, Nat.sub_zero]
  · rw [if_neg h, if_neg (fun z => h ⟨z.1, by have := z.2.2; omega⟩)]
theorem gCp_M {g : PS} {x y : Nat → Nat} (hxy : ∀ i j, i < 3 → j < 3 → x i ≠ y j) (h01 : y 0 ≠ y 1) (h02 : y 0 ≠ y 2) (h12 : y 1 ≠ y 2) : (∀ u k, u ≠ y 0 → u ≠ y 1 → u ≠ y 2 → pM (gCp g x y) u k = pM g u k) ∧ (∀ k, k < 8 → pM (gCp g x y) (y 0) k = pM g (x 0) k) ∧ (∀ k, k < 4 → pM (gCp g x y) (y 1) k = pM g (x 1) k) ∧ ∀ k, k < 4 → pM (gCp g x y) (y 2) k = pM g (x 2) k := by
  unfold gCp
  refine ⟨fun u k a b c => ?_, fun k hk => ?_, fun k hk => ?_, fun k hk => ?_⟩
  · rw [pCpy_M, if_neg (fun z => c z.1), pCpy_M, if_neg (fun z => b z.1), pCpy_M, if_neg (fun z => a z.1)]
  · rw [pCpy_M, if_neg (fun z => h02 z.1), pCpy_M, if_neg (fun z => h01 z.1), pCpy_M, if_pos ⟨rfl, hk⟩]
  · rw [pCpy_M, if_neg (fun z => h12 z.1), pCpy_M, if_pos ⟨rfl, hk⟩, pCpy_M, if_neg (fun z => hxy 1 0 (by decide) (by decide) z.1)]
  · rw [pCpy_M, if_pos ⟨rfl, hk⟩, pCpy_M, if_neg (fun z => hxy 2 1 (by decide) (by decide) z.1), pCpy_M, if_neg (fun z => hxy 2 0 (by decide) (by decide) z.1)]
/-- Snapshot.<init> with a server's table -/
theorem c_90t {X : XS} {o s p : Nat} {i t m : Int32} (ho : o < 2) (hs : s < 7) (hp : (dE (xD X) p).1 = 17) (hN : dC (xD X) = p) : RT 90 [some (.ref p), some (.int i), some (.int t), some (.int m), some (.ref (aS o s + 1))] X none (xSetD X (dSnap (xD X) p (sSnp i t m ((xK X o).1 19 s)))) := by
  intro g hg
  have hpN : pN g = p + 1 := by rw [hg.1.2.2.2, hN]
  have kp : pK g p = 7 := xKd.new (ci := 7) hp (by decide) g hg
  have h512 : 388 ≤ p + 1 := by have := hg.1.1; omega
  have hlo : aS o s + 4 < 388 := by dsimp only [aS]; omega
  obtain ⟨b1, b2, b3⟩ := hg.2.2.2.2.2.2.2.2.2.2.2.2.2.2.2 p (by omega)
  have hps : p ≠ 387 := fun z => b2 ⟨by omega, by omega, by omega⟩
  have hpp : aS o s + 4 < p := by omega
  obtain ⟨q0, q1, q2, q3, q4⟩ := gS_pM g p i t m hpN
  obtain ⟨r1, r2, r3, r4, r5⟩ := gS_tM g p i t m hpN
  have lo := gS_lo g p i t m hpN
  have sA : pK (gS g p i t m) (aS o s + 1) = 8 ∧ ∀ k, k < 3 → pM (gS g p i t m) (aS o s + 1) k = .ref (aS o s + 2 + k) ∧ pK (gS g p i t m) (aS o s + 2 + k) = 12 := by
    refine ⟨(lo _ (by omega)).1.trans (hg.2.1 _ _ _ (shp_tab ho hs)).1, fun k hk => ⟨((lo _ (by omega)).2.2 k).trans (hg.2.2.2.1 _ _ _ (Or.inl ⟨o, ho, Or.inr (Or.inr (Or.inr (Or.inr (Or.inr ⟨s, hs, Or.inr (Or.inr (Or.inr ⟨rfl, hk, rfl⟩))⟩))))⟩)), (lo _ (by omega)).1.trans ?_⟩⟩
    rcases (show k = 0 ∨ k = 1 ∨ k = 2 by omega) with rfl | rfl | rfl
    · exact (hg.2.1 _ _ _ (shp_val ho hs)).1
    · exact (hg.2.1 _ _ _ (shp_ser ho hs)).1
    · exact (hg.2.1 _ _ _ (shp_giv ho hs)).1
  have sL : pL (gS g p i t m) (aS o s + 2 + 0) = 8 ∧ pL (gS g p i t m) (aS o s + 2 + 1) = 4 ∧ pL (gS g p i t m) (aS o s + 2 + 2) = 4 :=
    ⟨(lo _ (by omega)).2.1.trans ((hg.2.1 _ _ _ (shp_val ho hs)).2 (by omega)), (lo _ (by omega)).2.1.trans ((hg.2.1 _ _ _ (shp_ser ho hs)).2 (by omega)), (lo _ (by omega)).2.1.trans ((hg.2.1 _ _ _ (shp_giv ho hs)).2 (by omega))⟩
  have kS : pK (gS g p i t m) p = 7 := by
    rw [gS_K, hpN, if_neg (by omega), if_neg (by omega), if_neg (by omega), if_neg (by omega)]; exact kp
  refine w_90 kp (by omega) ?_
  refine PW.pl M_90 rfl rfl rfl ?_
  refine PW.pl M_90 rfl rfl rfl ?_
  refine PW.pl M_90 rfl rfl rfl ?_
  refine PW.pl M_90 rfl rfl (st' := [.ref (p + 1)]) (g' := gS g p i t m) (ls' := [some (.ref p), some (.int i), some (.int t), some (.int m), some (.ref (aS o s + 1))]) (nx := 20) ?_ ?_
  · show (if pK (gS g p i t m) p = 7 ∧ 3 < pF 7 then some (20, _, pM (gS g p i t m) p 3 :: [], _) else none) = _
    rw [q3, if_pos ⟨kS, by decide⟩]
  refine PW.pl M_90 rfl rfl rfl ?_
  refine PW.call M_90 rfl rfl M_92 rfl (Or.inl (Nat.zero_le _)) (Nat.le_of_ble_eq_true rfl) ?_ ?_
  · exact decide_eq_true ⟨r2, by decide⟩
  refine w_92 (a := aS o s + 1) (b := p + 1) (x := fun k => aS o s + 2 + k) (y := fun k => p + 2 + k) sA sL ⟨r2, r1⟩ ⟨r3, r4, r5⟩ (fun k hk => ⟨by show p + 2 + k ≠ aS o s + 1; omega, by show p + 2 + k ≠ p + 1; omega⟩) ?_
  refine PW.ret M_90 rfl rfl (v := none) rfl ⟨_, ?_, rfl, rfl⟩
  obtain ⟨c1, c2, c3, c4⟩ := gCp_M (g := gS g p i t m) (x := fun k => aS o s + 2 + k) (y := fun k => p + 2 + k) (fun i j h1 h2 => by show aS o s + 2 + i ≠ p + 2 + j; omega) (by show p + 2 + 0 ≠ p + 2 + 1; omega) (by show p + 2 + 0 ≠ p + 2 + 2; omega) (by show p + 2 + 1 ≠ p + 2 + 2; omega)
  have c1' : ∀ u k, u < p + 2 → pM (gCp (gS g p i t m) (fun k => aS o s + 2 + k) (fun k => p + 2 + k)) u k = pM (gS g p i t m) u k := fun u k hu => c1 u k (by show u ≠ p + 2 + 0; omega) (by show u ≠ p + 2 + 1; omega) (by show u ≠ p + 2 + 2; omega)
  have nm : ∀ f i j a k, loc o f i j a k → pM g a k = .int (xN X o f i j) := hg.2.2.1 o
  refine hg.snp hp hpN rfl rfl (Nat.add_assoc _ _ _) (fun a ha => ⟨(lo a ha).1, (lo a ha).2.1, fun k => (c1' a k (by omega)).trans ((lo a ha).2.2 k)⟩) ⟨?_, ?_, fun k hk => (c1' p k (by omega)).trans ?_, (c1' p 3 (by omega)).trans q3, fun k hk => (c1' p k (by omega)).trans (q4 k hk)⟩ ⟨r2, fun k hk => ⟨(c1' (p + 1) k (by omega)).trans (r1 k hk).1, (r1 k hk).2⟩⟩ ⟨r3, r4, r5⟩ ⟨fun k hk => (c2 k hk).trans (((lo _ (by show aS o s + 2 + 0 < p; omega)).2.2 k).trans ((nm _ _ _ _ _ (loc_val ho hs hk)).trans ?_)), fun k hk => ⟨(c3 k hk).trans (((lo _ (by show aS o s + 2 + 1 < p; omega)).2.2 k).trans ((nm _ _ _ _ _ (loc_ser ho hs hk)).trans ?_)), (c4 k hk).trans (((lo _ (by show aS o s + 2 + 2 < p; omega)).2.2 k).trans ((nm _ _ _ _ _ (loc_giv ho hs hk)).trans ?_))⟩⟩
  · show pK (gS g p i t m) p = 7
    rw [gS_K, hpN, if_neg (by omega), if_neg (by omega), if_neg (by omega), if_neg (by omega)]; exact kp
  · show pL (gS g p i t m) p = pL g p
    rw [gS_L, hpN, if_neg (by omega), if_neg (by omega), if_neg (by omega), if_neg (by omega)]
  · rcases (show k = 0 ∨ k = 1 ∨ k = 2 by omega) with rfl | rfl | rfl
    · exact q0
    · exact q1
    · exact q2
  · show Value.int ((xK X o).1 19 s k) = Value.int (if 3 + k = 0 then i else if 3 + k = 1 then t else if 3 + k = 2 then m else (xK X o).1 19 s (3 + k - 3))
    rw [if_neg (by omega), if_neg (by omega), if_neg (by omega), show 3 + k - 3 = k by omega]
  · show Value.int ((xK X o).1 19 s (8 + k)) = Value.int (if 11 + k = 0 then i else if 11 + k = 1 then t else if 11 + k = 2 then m else (xK X o).1 19 s (11 + k - 3))
    rw [if_neg (by omega), if_neg (by omega), if_neg (by omega), show 11 + k - 3 = 8 + k by omega]
  · show Value.int ((xK X o).1 19 s (12 + k)) = Value.int (if 15 + k = 0 then i else if 15 + k = 1 then t else if 15 + k = 2 then m else (xK X o).1 19 s (15 + k - 3))
    rw [if_neg (by omega), if_neg (by omega), if_neg (by omega), show 15 + k - 3 = 12 + k by omega]
