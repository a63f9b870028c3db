/-! ===== THE TWIN: cut and mend ===== -/
theorem c_246x1 {X : XS} {p q : Int32} (hp : p < 0 ∨ ¬ p < 7) : RT 246 [some (.ref 388), some (.int p), some (.int q)] X (some (.int 0)) (xSetT X 1) := by
  refine AT.aload_n M_246 rfl rfl ?_
  refine AT.iload_n M_246 rfl rfl ?_
  refine AT.iload_n M_246 rfl rfl ?_
  refine AT.iconst M_246 rfl (v := 1) (by decide) ?_
  refine AT.cv4i M_246 rfl M_245 rfl (Nat.le_of_ble_eq_true rfl) (xKd.of sh_mod) (by decide) (c_245x1 hp) ?_ (Nat.le_of_ble_eq_true rfl) rfl
  refine AT.iret M_246 rfl rfl ?_
  exact ⟨rfl, rfl⟩
theorem c_246x2 {X : XS} {s : Nat} (hs : s < 7) {q : Int32} (hp : q < 0 ∨ ¬ q < 7) : RT 246 [some (.ref 388), some (.int (Int32.ofNat s)), some (.int q)] X (some (.int 0)) (xSetT X 1) := by
  refine AT.aload_n M_246 rfl rfl ?_
  refine AT.iload_n M_246 rfl rfl ?_
  refine AT.iload_n M_246 rfl rfl ?_
  refine AT.iconst M_246 rfl (v := 1) (by decide) ?_
  refine AT.cv4i M_246 rfl M_245 rfl (Nat.le_of_ble_eq_true rfl) (xKd.of sh_mod) (by decide) (c_245x2 hs hp) ?_ (Nat.le_of_ble_eq_true rfl) rfl
  refine AT.iret M_246 rfl rfl ?_
  exact ⟨rfl, rfl⟩
theorem c_246x3 {X : XS} {s : Nat} (hs : s < 7) : RT 246 [some (.ref 388), some (.int (Int32.ofNat s)), some (.int (Int32.ofNat s))] X (some (.int 0)) (xSetT X 2) := by
  refine AT.aload_n M_246 rfl rfl ?_
  refine AT.iload_n M_246 rfl rfl ?_
  refine AT.iload_n M_246 rfl rfl ?_
  refine AT.iconst M_246 rfl (v := 1) (by decide) ?_
  refine AT.cv4i M_246 rfl M_245 rfl (Nat.le_of_ble_eq_true rfl) (xKd.of sh_mod) (by decide) (c_245x3 hs) ?_ (Nat.le_of_ble_eq_true rfl) rfl
  refine AT.iret M_246 rfl rfl ?_
  exact ⟨rfl, rfl⟩
theorem c_246x4 {X : XS} {s j : Nat} (hs : s < 7) (hj : j < 7) (hne : ¬ s = j) (hb : sBit ((xK X 2).1 30 s 0) j = true) : RT 246 [some (.ref 388), some (.int (Int32.ofNat s)), some (.int (Int32.ofNat j))] X (some (.int 0)) (xSetT X 3) := by
  refine AT.aload_n M_246 rfl rfl ?_
  refine AT.iload_n M_246 rfl rfl ?_
  refine AT.iload_n M_246 rfl rfl ?_
  refine AT.iconst M_246 rfl (v := 1) (by decide) ?_
  refine AT.cv4i M_246 rfl M_245 rfl (Nat.le_of_ble_eq_true rfl) (xKd.of sh_mod) (by decide) (c_245x4 hs hj hne (by rw [hb]; rfl)) ?_ (Nat.le_of_ble_eq_true rfl) rfl
  refine AT.iret M_246 rfl rfl ?_
  exact ⟨rfl, rfl⟩
theorem c_246 {X : XS} {s j : Nat} (hs : s < 7) (hj : j < 7) {m : Nat} (hap : aPr X 2) (hne : ¬ s = j) (hb : sBit ((xK X 2).1 30 s 0) j = false) (h7 : ∀ i, i < 7 → ∃ n : Nat, n < 128 ∧ (kTurn (xK X 2) s j).1 30 i 0 = Int32.ofNat n) : RU 246 [some (.ref 388), some (.int (Int32.ofNat s)), some (.int (Int32.ofNat j))] X (some (.int (sSum (fun i => sCnt ((kTurn (xK X 2) s j).1 30 i 0)) 7 / 2))) (fun Z => rRel0 2 m 0 0 (xSetT X 0) Z (kTurn (xK X 2) s j) ∧ aPr Z 2) := by
  refine AT.aload_n M_246 rfl rfl ?_
  refine AT.iload_n M_246 rfl rfl ?_
  refine AT.iload_n M_246 rfl rfl ?_
  refine AT.iconst M_246 rfl (v := 1) (by decide) ?_
  refine AT.cv4u M_246 rfl M_245 rfl (Nat.le_of_ble_eq_true rfl) (xKd.of sh_mod) (by decide) (c_245 (m := m) hs hj hap hne (by rw [hb]; decide) h7) (fun Y hc4 => ?_) (Nat.le_of_ble_eq_true rfl) rfl
  have r1 := hc4
  refine AT.iret M_246 rfl rfl ?_
  exact ⟨rfl, r1⟩
theorem c_247x1 {X : XS} {p q : Int32} (hp : p < 0 ∨ ¬ p < 7) : RT 247 [some (.ref 388), some (.int p), some (.int q)] X (some (.int 0)) (xSetT X 1) := by
  refine AT.aload_n M_247 rfl rfl ?_
  refine AT.iload_n M_247 rfl rfl ?_
  refine AT.iload_n M_247 rfl rfl ?_
  refine AT.iconst M_247 rfl (v := 0) (by decide) ?_
  refine AT.cv4i M_247 rfl M_245 rfl (Nat.le_of_ble_eq_true rfl) (xKd.of sh_mod) (by decide) (c_245x1 hp) ?_ (Nat.le_of_ble_eq_true rfl) rfl
  refine AT.iret M_247 rfl rfl ?_
  exact ⟨rfl, rfl⟩
theorem c_247x2 {X : XS} {s : Nat} (hs : s < 7) {q : Int32} (hp : q < 0 ∨ ¬ q < 7) : RT 247 [some (.ref 388), some (.int (Int32.ofNat s)), some (.int q)] X (some (.int 0)) (xSetT X 1) := by
  refine AT.aload_n M_247 rfl rfl ?_
  refine AT.iload_n M_247 rfl rfl ?_
  refine AT.iload_n M_247 rfl rfl ?_
  refine AT.iconst M_247 rfl (v := 0) (by decide) ?_
  refine AT.cv4i M_247 rfl M_245 rfl (Nat.le_of_ble_eq_true rfl) (xKd.of sh_mod) (by decide) (c_245x2 hs hp) ?_ (Nat.le_of_ble_eq_true rfl) rfl
  refine AT.iret M_247 rfl rfl ?_
  exact ⟨rfl, rfl⟩
theorem c_247x3 {X : XS} {s : Nat} (hs : s < 7) : RT 247 [some (.ref 388), some (.int (Int32.ofNat s)), some (.int (Int32.ofNat s))] X (some (.int 0)) (xSetT X 2) := by
  refine AT.aload_n M_247 rfl rfl ?_
  refine AT.iload_n M_247 rfl rfl ?_
  refine AT.iload_n M_247 rfl rfl ?_
  refine AT.iconst M_247 rfl (v := 0) (by decide) ?_
  refine AT.cv4i M_247 rfl M_245 rfl (Nat.le_of_ble_eq_true rfl) (xKd.of sh_mod) (by decide) (c_245x3 hs) ?_ (Nat.le_of_ble_eq_true rfl) rfl
  refine AT.iret M_247 rfl rfl ?_
  exact ⟨rfl, rfl⟩
theorem c_247x4 {X : XS} {s j : Nat} (hs : s < 7) (hj : j < 7) (hne : ¬ s = j) (hb : sBit ((xK X 2).1 30 s 0) j = false) : RT 247 [some (.ref 388), some (.int (Int32.ofNat s)), some (.int (Int32.ofNat j))] X (some (.int 0)) (xSetT X 3) := by
  refine AT.aload_n M_247 rfl rfl ?_
  refine AT.iload_n M_247 rfl rfl ?_
  refine AT.iload_n M_247 rfl rfl ?_
  refine AT.iconst M_247 rfl (v := 0) (by decide) ?_
  refine AT.cv4i M_247 rfl M_245 rfl (Nat.le_of_ble_eq_true rfl) (xKd.of sh_mod) (by decide) (c_245x4 hs hj hne (by rw [hb]; rfl)) ?_ (Nat.le_of_ble_eq_true rfl) rfl
  refine AT.iret M_247 rfl rfl ?_
  exact ⟨rfl, rfl⟩
theorem c_247 {X : XS} {s j : Nat} (hs : s < 7) (hj : j < 7) {m : Nat} (hap : aPr X 2) (hne : ¬ s = j) (hb : sBit ((xK X 2).1 30 s 0) j = true) (h7 : ∀ i, i < 7 → ∃ n : Nat, n < 128 ∧ (kTurn (xK X 2) s j).1 30 i 0 = Int32.ofNat n) : RU 247 [some (.ref 388), some (.int (Int32.ofNat s)), some (.int (Int32.ofNat j))] X (some (.int (sSum (fun i => sCnt ((kTurn (xK X 2) s j).1 30 i 0)) 7 / 2))) (fun Z => rRel0 2 m 0 0 (xSetT X 0) Z (kTurn (xK X 2) s j) ∧ aPr Z 2) := by
  refine AT.aload_n M_247 rfl rfl ?_
  refine AT.iload_n M_247 rfl rfl ?_
  refine AT.iload_n M_247 rfl rfl ?_
  refine AT.iconst M_247 rfl (v := 0) (by decide) ?_
  refine AT.cv4u M_247 rfl M_245 rfl (Nat.le_of_ble_eq_true rfl) (xKd.of sh_mod) (by decide) (c_245 (m := m) hs hj hap hne (by rw [hb]; decide) h7) (fun Y hc4 => ?_) (Nat.le_of_ble_eq_true rfl) rfl
  have r1 := hc4
  refine AT.iret M_247 rfl rfl ?_
  exact ⟨rfl, r1⟩
