/-! ===== THE CONSTRUCTORS OF TABLES AND SNAPSHOTS ===== -/
abbrev zI : Nat → Value := fun _ => .int 0
theorem st_na {nx r2 n : Nat} {ls : PV} {r : List Value} {g : PS} {x : Int32} (hx : x = Int32.ofNat n) (hn : n ≤ 100000000) : pStep (.newarray .int) nx 0 r2 ls (.int x :: r) g = some (nx, ls, .ref (pN g) :: r, pNew g 12 n n zI) := by
  subst hx
  show (if Int32.ofNat n < 0 ∨ 100000000 < (Int32.ofNat n).toNatClampNeg then none else some (nx, ls, Value.ref (pN g) :: r, pNew g 12 (Int32.ofNat n).toNatClampNeg (Int32.ofNat n).toNatClampNeg (fun _ => .int 0))) = _
  rw [(i32_ix (by omega)).1, if_neg]
  rintro (z | z)
  · exact (i32_ix (by omega)).2 z
  · omega
def gT1 (g : PS) (t : Nat) : PS := pPut (pNew g 12 8 8 zI) t 0 (.ref (pN g))
def gT2 (g : PS) (t : Nat) : PS := pPut (pNew (gT1 g t) 12 4 4 zI) t 1 (.ref (pN g + 1))
def gT3 (g : PS) (t : Nat) : PS := pPut (pNew (gT2 g t) 12 4 4 zI) t 2 (.ref (pN g + 2))
theorem gT3_K (g : PS) (t a : Nat) : pK (gT3 g t) a = if a = pN g + 2 then 12 else if a = pN g + 1 then 12 else if a = pN g then 12 else pK g a := rfl
theorem gT3_L (g : PS) (t a : Nat) : pL (gT3 g t) a = if a = pN g + 2 then 4 else if a = pN g + 1 then 4 else if a = pN g then 8 else pL g a := rfl
theorem gT3_M (g : PS) (t a k : Nat) : pM (gT3 g t) a k = if a = t ∧ k = 2 then .ref (pN g + 2) else if a = pN g + 2 then .int 0 else if a = t ∧ k = 1 then .ref (pN g + 1) else if a = pN g + 1 then .int 0 else if a = t ∧ k = 0 then .ref (pN g) else if a = pN g then .int 0 else pM g a k := rfl
theorem w_91 {g : PS} {t : Nat} {Q : PO → PS → Prop} (hk : pK g t = 8) (hlt : t < pN g) (hQ : Q (.inl none) (gT3 g t)) : PW 91 0 [some (.ref t)] [] g Q := by
  have k1 : pK (pNew g 12 8 8 zI) t = 8 := by rw [pK_new, if_neg (by omega)]; exact hk
  have k2 : pK (pNew (gT1 g t) 12 4 4 zI) t = 8 := by
    rw [pK_new, if_neg (by show ¬ t = pN g + 1; omega)]; exact k1
  have k3 : pK (pNew (gT2 g t) 12 4 4 zI) t = 8 := by
    rw [pK_new, if_neg (by show ¬ t = pN g + 2; omega)]; exact k2
  refine PW.pl M_91 rfl rfl rfl ?_
  refine PW.obj M_91 rfl rfl (Or.inl (Nat.zero_le _)) ?_
  refine PW.pl M_91 rfl rfl rfl ?_
  refine PW.pl M_91 rfl rfl rfl ?_
  refine PW.pl M_91 rfl rfl (st' := [.ref (pN g), .ref t]) (g' := pNew g 12 8 8 zI) (st_na (n := 8) rfl (by decide)) ?_
  refine PW.pl M_91 rfl rfl (g' := gT1 g t) (if_pos ⟨k1, by decide, rfl⟩) ?_
  refine PW.pl M_91 rfl rfl rfl ?_
  refine PW.pl M_91 rfl rfl rfl ?_
  refine PW.pl M_91 rfl rfl (st' := [.ref (pN g + 1), .ref t]) (g' := pNew (gT1 g t) 12 4 4 zI) (st_na (n := 4) rfl (by decide)) ?_
  refine PW.pl M_91 rfl rfl (g' := gT2 g t) (if_pos ⟨k2, by decide, rfl⟩) ?_
  refine PW.pl M_91 rfl rfl rfl ?_
  refine PW.pl M_91 rfl rfl rfl ?_
  refine PW.pl M_91 rfl rfl (st' := [.ref (pN g + 2), .ref t]) (g' := pNew (gT2 g t) 12 4 4 zI) (st_na (n := 4) rfl (by decide)) ?_
  refine PW.pl M_91 rfl rfl (g' := gT3 g t) (if_pos ⟨k3, by decide, rfl⟩) ?_
  exact PW.ret M_91 rfl rfl (v := none) rfl hQ
/-- the state of a new snapshot, before the table is copied -/
def gS0 (g : PS) : PS := pNew g 8 0 (pF 8) (fun k => defaultValue (pT 8 k))
def gS (g : PS) (p : Nat) (i t m : Int32) : PS := pPut (pPut (pPut (pPut (gT3 (gS0 g) (pN g)) p 3 (.ref (pN g))) p 0 (.int i)) p 1 (.int t)) p 2 (.int m)
theorem gS_K (g : PS) (p a : Nat) (i t m : Int32) : pK (gS g p i t m) a = if a = pN g + 3 then 12 else if a = pN g + 2 then 12 else if a = pN g + 1 then 12 else if a = pN g then 8 else pK g a := rfl
theorem gS_L (g : PS) (p a : Nat) (i t m : Int32) : pL (gS g p i t m) a = if a = pN g + 3 then 4 else if a = pN g + 2 then 4 else if a = pN g + 1 then 8 else if a = pN g then 0 else pL g a := rfl
theorem gS_M (g : PS) (p a k : Nat) (i t m : Int32) : pM (gS g p i t m) a k = if a = p ∧ k = 2 then .int m else if a = p ∧ k = 1 then .int t else if a = p ∧ k = 0 then .int i else if a = p ∧ k = 3 then .ref (pN g) else if a = pN g ∧ k = 2 then .ref (pN g + 3) else if a = pN g + 3 then .int 0 else if a = pN g ∧ k = 1 then .ref (pN g + 2) else if a = pN g + 2 then .int 0 else if a = pN g ∧ k = 0 then .ref (pN g + 1) else if a = pN g + 1 then .int 0 else if a = pN g then defaultValue (pT 8 k) else pM g a k := rfl
/-- the rows of Snapshot.<init> up to the table -/
theorem w_90 {g : PS} {p : Nat} {i t m : Int32} {x : Value} {Q : PO → PS → Prop} (hk : pK g p = 7) (hlt : p < pN g) (hQ : PW 90 16 [some (.ref p), some (.int i), some (.int t), some (.int m), some x] [] (gS g p i t m) Q) :
    PW 90 0 [some (.ref p), some (.int i), some (.int t), some (.int m), some x] [] g Q := by
  have k0 : pK (gS0 g) (pN g) = 8 := if_pos rfl
  have k1 : ∀ g', pK g' = pK (gT3 (gS0 g) (pN g)) → pK g' p = 7 := fun g' e => by
    rw [e, gT3_K]
    have n0 : pN (gS0 g) = pN g + 1 := rfl
    rw [n0, if_neg (by omega), if_neg (by omega), if_neg (by omega)]
    show (if p = pN g then 8 else pK g p) = 7
    rw [if_neg (by omega)]
    exact hk
  refine PW.pl M_90 rfl rfl rfl ?_
  refine PW.obj M_90 rfl rfl (Or.inl (Nat.zero_le _)) ?_
  refine PW.pl M_90 rfl rfl rfl ?_
  refine PW.pl M_90 rfl rfl (st' := [.ref (pN g), .ref p]) (g' := gS0 g) rfl ?_
  refine PW.pl M_90 rfl rfl rfl ?_
  refine PW.call M_90 rfl rfl M_91 rfl (Or.inl (Nat.le_of_ble_eq_true rfl)) (Nat.le_of_ble_eq_true rfl) ?_ ?_
  · rfl
  show PW 91 0 [some (.ref (pN g))] [] (gS0 g) _
  refine w_91 k0 (Nat.lt_succ_self _) ?_
  refine PW.pl M_90 rfl rfl (if_pos ⟨k1 _ rfl, by decide, rfl⟩) ?_
  refine PW.pl M_90 rfl rfl rfl ?_
  refine PW.pl M_90 rfl rfl rfl ?_
  refine PW.pl M_90 rfl rfl (if_pos ⟨k1 _ rfl, by decide, rfl⟩) ?_
  refine PW.pl M_90 rfl rfl rfl ?_
  refine PW.pl M_90 rfl rfl rfl ?_
  refine PW.pl M_90 rfl rfl (if_pos ⟨k1 _ rfl, by decide, rfl⟩) ?_
  refine PW.pl M_90 rfl rfl rfl ?_
  refine PW.pl M_90 rfl rfl rfl ?_
  refine PW.pl M_90 rfl rfl (if_pos ⟨k1 _ rfl, by decide, rfl⟩) ?_
  exact hQ
/-- a snapshot's numbers -/
def sSnp (i t m : Int32) (tb : Nat → Int32) : ENT := fun k => if k = 0 then i else if k = 1 then t else if k = 2 then m else tb (k - 3)
theorem gS_pM (g : PS) (p : Nat) (i t m : Int32) (hN : pN g = p + 1) : pM (gS g p i t m) p 0 = .int i ∧ pM (gS g p i t m) p 1 = .int t ∧ pM (gS g p i t m) p 2 = .int m ∧ pM (gS g p i t m) p 3 = .ref (p + 1) ∧ ∀ k, 4 ≤ k → pM (gS g p i t m) p k = pM g p k := by
  refine ⟨?_, ?_, ?_, ?_, fun k hk => ?_⟩
  · rw [gS_M, if_neg (by omega), if_neg (by omega), if_pos ⟨rfl, rfl⟩]
  · rw [gS_M, if_neg (by omega), if_pos ⟨rfl, rfl⟩]
  · rw [gS_M, if_pos ⟨rfl, rfl⟩]
  · rw [gS_M, if_neg (by omega), if_neg (by omega), if_neg (by omega), if_pos ⟨rfl, rfl⟩, hN]
  · rw [gS_M, hN, if_neg (by omega), if_neg (by omega), if_neg (by omega), if_neg (by omega), if_neg (by omega), if_neg (by omega), if_neg (by omega), if_neg (by omega), if_neg (by omega), if_neg (by omega), if_neg (by omega)]
theorem gS_tM (g : PS) (p : Nat) (i t m : Int32) (hN : pN g = p + 1) : (∀ k, k < 3 → pM (gS g p i t m) (p + 1) k = .ref (p + 2 + k) ∧ pK (gS g p i t m) (p + 2 + k) = 12) ∧ pK (gS g p i t m) (p + 1) = 8 ∧ pL (gS g p i t m) (p + 2) = 8 ∧ pL (gS g p i t m) (p + 3) = 4 ∧ pL (gS g p i t m) (p + 4) = 4 := by
  refine ⟨fun k hk => ?_, ?_, ?_, ?_, ?_⟩
  · rcases (show k = 0 ∨ k = 1 ∨ k = 2 by omega) with rfl | rfl | rfl
    · refine ⟨?_, ?_⟩
      · rw [gS_M, hN, if_neg (by omega), if_neg (by omega), if_neg (by omega), if_neg (by omega), if_neg (by omega), if_neg (by omega), if_neg (by omega), if_neg (by omega), if_pos ⟨rfl, rfl⟩]
      · rw [gS_K, hN, if_neg (by omega), if_neg (by omega), if_pos rfl]
    · refine ⟨?_, ?_⟩
      · rw [gS_M, hN, if_neg (by omega), if_neg (by omega), if_neg (by omega), if_neg (by omega), if_neg (by omega), if_neg (by omega), if_pos ⟨rfl, rfl⟩]
      · rw [gS_K, hN, if_neg (by omega), if_pos rfl]
    · refine ⟨?_, ?_⟩
      · rw [gS_M, hN, if_neg (by omega), if_neg (by omega), if_neg (by omega), if_neg (by omega), if_pos ⟨rfl, rfl⟩]
      · rw [gS_K, hN, if_pos rfl]
  · rw [gS_K, hN, if_neg (by omega), if_neg (by omega), if_neg (by omega), if_pos rfl]
  · rw [gS_L, hN, if_neg (by omega), if_neg (by omega), if_pos rfl]
  · rw [gS_L, hN, if_neg (by omega), if_pos rfl]
  · rw [gS_L, hN, if_pos rfl]
theorem gS_lo (g : PS) (p : Nat) (i t m : Int32) (hN : pN g = p + 1) : ∀ a, a < p → pK (gS g p i t m) a = pK g a ∧ pL (gS g p i t m) a = pL g a ∧ ∀ k, pM (gS g p i t m) a k = pM g a k := by
  refine fun a ha => ⟨?_, ?_, fun k => ?_⟩
  · rw [gS_K, hN, if_neg (by omega), if_neg (by omega), if_neg (by omega), if_neg (by omega)]
  · rw [gS_L, hN, if_neg (by omega), if_neg (by omega), if_neg (by omega), if_neg (by omega)]
  · rw [gS_M, hN, if_neg (by omega), if_neg (by omega), if_neg (by omega), if_neg (by omega), if_neg (by omega), if_neg (by omega), if_neg (by omega), if_neg (by omega), if_neg (by omega), if_neg (by omega), if_neg (by omega)]
theorem gS_zM (g : PS) (p : Nat) (i t m : Int32) (hN : pN g = p + 1) (j k : Nat) (h2 : 2 ≤ j) (h4 : j ≤ 4) : pM (gS g p i t m) (p + j) k = .int 0 := by
  rcases (show j = 2 ∨ j = 3 ∨ j = 4 by omega) with rfl | rfl | rfl
  · rw [gS_M, hN, if_neg (by omega), if_neg (by omega), if_neg (by omega), if_neg (by omega), if_neg (by omega), if_neg (by omega), if_neg (by omega), if_neg (by omega), if_neg (by omega), if_pos rfl]
  · rw [gS_M, hN, if_neg (by omega), if_neg (by omega), if_neg (by omega), if_neg (by omega), if_neg (by omega), if_neg (by omega), if_neg (by omega), if_pos rfl]
  · rw [gS_M, hN, if_neg (by omega), if_neg (by omega), if_neg (by omega), if_neg (by omega), if_neg (by omega), if_pos rfl]
/-- the copy of a table, on the cells -/
def gCp (g : PS) (x y : Nat → Nat) : PS := pCpy (pCpy (pCpy g (x 0) 0 (y 0) 0 8) (x 1) 0 (y 1) 0 4) (x 2) 0 (y 2) 0 4
theorem w_92 {g : PS} {a b : Nat} {x y : Nat → Nat} {Q : PO → PS → Prop} (ha : pK g a = 8 ∧ ∀ k, k < 3 → pM g a k = .ref (x k) ∧ pK g (x k) = 12) (hla : pL g (x 0) = 8 ∧ pL g (x 1) = 4 ∧ pL g (x 2) = 4) (hb : pK g b = 8 ∧ ∀ k, k < 3 → pM g b k = .ref (y k) ∧ pK g (y k) = 12) (hlb : pL g (y 0) = 8 ∧ pL g (y 1) = 4 ∧ pL g (y 2) = 4)
    (hd : ∀ k, k < 3 → y k ≠ a ∧ y k ≠ b) (hQ : Q (.inl none) (gCp g x y)) : PW 92 0 [some (.ref b), some (.ref a)] [] g Q := by
  have gf : ∀ (g' : PS) (c : Nat) (z : Nat → Nat) (n : Nat) (nx f : Nat) (ls : PV) (st : List Value), f < 3 → pK g' c = 8 → pM g' c f = .ref (z f) → pStep (.getfield n) nx 8 f ls (.ref c :: st) g' = some (nx, ls, .ref (z f) :: st, g') := fun g' c z n nx f ls st hf h1 h2 => by
    show (if pK g' c = 8 ∧ f < pF 8 then some (nx, ls, pM g' c f :: st, _) else none) = _
    rw [if_pos ⟨h1, show f < 3 from hf⟩, h2]
  have cp : ∀ (g' : PS) (c d : Nat) (n : Nat) (x : Int32) (nx : Nat) (ls : PV), n < 100 → x = Int32.ofNat n → pK g' c = 12 → pK g' d = 12 → pL g' c = n → pL g' d = n → pAcp nx ls [.int x, .int 0, .ref d, .int 0, .ref c] g' = some (nx, ls, [], pCpy g' c 0 d 0 n) := fun g' c d n x nx ls hn hx h1 h2 h3 h4 => by
    subst hx
    unfold pAcp
    dsimp only
    rw [(i32_ix (q := n) (by omega)).1]
    exact if_pos ⟨Or.inl h1, h2.trans h1.symm, (i32_ix (by omega)).2, by decide, by decide, by rw [h3]; exact Nat.le_of_eq (Nat.zero_add _), by rw [h4]; exact Nat.le_of_eq (Nat.zero_add _)⟩
  have mc : ∀ (g' : PS) (c d n u k : Nat), u ≠ d → pM (pCpy g' c 0 d 0 n) u k = pM g' u k := fun g' c d n u k hu => if_neg (fun z => hu z.1)
  refine PW.pl M_92 rfl rfl rfl ?_
  refine PW.pl M_92 rfl rfl (gf _ _ x _ _ _ _ _ (by decide) ha.1 (ha.2 0 (by decide)).1) ?_
  refine PW.pl M_92 rfl rfl rfl ?_
  refine PW.pl M_92 rfl rfl rfl ?_
  refine PW.pl M_92 rfl rfl (gf _ _ y _ _ _ _ _ (by decide) hb.1 (hb.2 0 (by decide)).1) ?_
  refine PW.pl M_92 rfl rfl rfl ?_
  refine PW.pl M_92 rfl rfl rfl ?_
  refine PW.acp M_92 rfl rfl (cp _ _ _ 8 _ _ _ (by decide) rfl (ha.2 0 (by decide)).2 (hb.2 0 (by decide)).2 hla.1 hlb.1) (Or.inl (Nat.zero_le _)) ?_
  refine PW.pl M_92 rfl rfl rfl ?_
  refine PW.pl M_92 rfl rfl (gf _ _ x _ _ _ _ _ (by decide) ha.1 ((mc _ _ _ _ _ _ (hd 0 (by decide)).1.symm).trans (ha.2 1 (by decide)).1)) ?_
  refine PW.pl M_92 rfl rfl rfl ?_
  refine PW.pl M_92 rfl rfl rfl ?_
  refine PW.pl M_92 rfl rfl (gf _ _ y _ _ _ _ _ (by decide) hb.1 ((mc _ _ _ _ _ _ (hd 0 (by decide)).2.symm).trans (hb.2 1 (by decide)).1)) ?_
  refine PW.pl M_92 rfl rfl rfl ?_
  refine PW.pl M_92 rfl rfl rfl ?_
  refine PW.acp M_92 rfl rfl (cp _ _ _ 4 _ _ _ (by decide) rfl (ha.2 1 (by decide)).2 (hb.2 1 (by decide)).2 hla.2.1 hlb.2.1) (Or.inl (Nat.zero_le _)) ?_
  refine PW.pl M_92 rfl rfl rfl ?_
  refine PW.pl M_92 rfl rfl (gf _ _ x _ _ _ _ _ (by decide) ha.1 ((mc _ _ _ _ _ _ (hd 1 (by decide)).1.symm).trans ((mc _ _ _ _ _ _ (hd 0 (by decide)).1.symm).trans (ha.2 2 (by decide)).1))) ?_
  refine PW.pl M_92 rfl rfl rfl ?_
  refine PW.pl M_92 rfl rfl rfl ?_
  refine PW.pl M_92 rfl rfl (gf _ _ y _ _ _ _ _ (by decide) hb.1 ((mc _ _ _ _ _ _ (hd 1 (by decide)).2.symm).trans ((mc _ _ _ _ _ _ (hd 0 (by decide)).2.symm).trans (hb.2 2 (by decide)).1))) ?_
  refine PW.pl M_92 rfl rfl rfl ?_
  refine PW.pl M_92 rfl rfl rfl ?_
  refine PW.acp M_92 rfl rfl (cp _ _ _ 4 _ _ _ (by decide) rfl (ha.2 2 (by decide)).2 (hb.2 2 (by decide)).2 hla.2.2 hlb.2.2) (Or.inl (Nat.zero_le _)) ?_
  exact PW.ret M_92 rfl rfl (v := none) rfl hQ
/-- Snapshot.<init> without a table -/
theorem c_90n {X : XS} {p : Nat} {i t m : Int32} (hp : (dE (xD X) p).1 = 17) (hN : dC (xD X) = p) : RT 90 [some (.ref p), some (.int i), some (.int t), some (.int m), some .null] X none (xSetD X (dSnap (xD X) p (sSnp i t m (fun _ => 0)))) := by
  intro g hg
  have hpN : pN g = p + 1 := by rw [hg.1.2.2.2, hN]
  have kp : pK g p = 7 := xKd.new (ci := 7) hp (by decide) g hg
  refine w_90 kp (by omega) ?_
  refine PW.pl M_90 rfl rfl rfl ?_
  refine PW.pl M_90 rfl rfl rfl ?_
  refine PW.ret M_90 rfl rfl (v := none) rfl ⟨_, ?_, rfl, rfl⟩
  obtain ⟨q0, q1, q2, q3, q4⟩ := gS_pM g p i t m hpN
  obtain ⟨r1, r2, r3, r4, r5⟩ := gS_tM g p i t m hpN
  refine hg.snp hp hpN rfl rfl (Nat.add_assoc _ _ _) (gS_lo g p i t m hpN) ⟨?_, ?_, fun k hk => ?_, q3, q4⟩ ⟨r2, r1⟩ ⟨r3, r4, r5⟩ ⟨fun k hk => ?_, fun k hk => ⟨?_, ?_⟩⟩
  · rw [gS_K, hpN, if_neg (by omega), if_neg (by omega), if_neg (by omega), if_neg (by omega)]; exact kp
  · rw [gS_L, hpN, if_neg (by omega), if_neg (by omega), if_neg (by omega), if_neg (by omega)]
  · rcases (show k = 0 ∨ k = 1 ∨ k = 2 by omega) with rfl | rfl | rfl
    · exact q0
    · exact q1
    · exact q2
  · rw [gS_zM g p i t m hpN 2 k (by omega) (by omega)]
    show _ = Value.int (if 3 + k = 0 then i else if 3 + k = 1 then t else if 3 + k = 2 then m else 0)
    rw [if_neg (by omega), if_neg (by omega), if_neg (by omega)]
  · rw [gS_zM g p i t m hpN 3 k (by omega) (by omega)]
    show _ = Value.int (if 11 + k = 0 then i else if 11 + k = 1 then t else if 11 + k = 2 then m else 0)
    rw [if_neg (by omega), if_neg (by omega), if_neg (by omega)]
  · rw [gS_zM g p i t m hpN 4 k (by omega) (by omega)]
    show _ = Value.int (if 15 + k = 0 then i else if 15 + k = 1 then t else if 15 + k = 2 then m else 0)
    rw [if_neg (by omega), if_neg (by omega), if_neg (by omega)]
