/-! ===== THE TWIN: hand; parts of entries; next and matched ===== -/
theorem c_271 {X : XS} {c : Nat} (hc : c < 4) : RT 271 [some (.ref 388), some (.int (Int32.ofNat c))] X (some (.int (bI (sOpen (xK X 2) c)))) X := by
  refine AT.aload_n M_271 rfl rfl ?_
  refine AT.r11_0 M_271 rfl ?_
  refine AT.r10_25 M_271 rfl (show 2 ≤ 2 by omega) (show 2 < 4 by omega) ?_
  refine AT.iload_n M_271 rfl rfl ?_
  refine AT.bipush M_271 rfl (v := 7) (by decide) ?_
  refine AT.imul M_271 rfl rfl ?_
  refine AT.iconst M_271 rfl (v := 3) (by decide) ?_
  refine AT.iadd M_271 rfl rfl ?_
  refine AT.ra_req M_271 rfl (c := c) (j := 3) hc (by omega) (by rw [i32_7, Int32.ofNat_add]; rfl) (show 2 ≤ 2 by omega) (show 2 < 4 by omega) ?_
  refine AT.if_le M_271 rfl (fun b9 => ?_) (fun b9 => ?_)
  · refine AT.iconst M_271 rfl (v := 0) (by decide) ?_
    refine AT.zret M_271 rfl rfl (by first | exact Or.inl rfl | exact Or.inr rfl | assumption) ?_
    rw [show sOpen (xK X 2) c = false from by unfold sOpen; rw [decide_eq_false (fun z => z b9)]; rfl]
    exact ⟨rfl, rfl⟩
  · refine AT.aload_n M_271 rfl rfl ?_
    refine AT.r11_0 M_271 rfl ?_
    refine AT.r10_26 M_271 rfl (show 2 ≤ 2 by omega) (show 2 < 4 by omega) ?_
    refine AT.iload_n M_271 rfl rfl ?_
    refine AT.ra_35 M_271 rfl rfl (show 2 ≤ 2 by omega) (show 2 < 4 by omega) hc ?_
    refine AT.if_ne M_271 rfl (fun b15 => ?_) (fun b15 => ?_)
    · refine AT.iconst M_271 rfl (v := 0) (by decide) ?_
      refine AT.zret M_271 rfl rfl (by first | exact Or.inl rfl | exact Or.inr rfl | assumption) ?_
      rw [show sOpen (xK X 2) c = false from by unfold sOpen; rw [decide_eq_true b9, decide_eq_false b15]; rfl]
      exact ⟨rfl, rfl⟩
    · refine AT.iconst M_271 rfl (v := 1) (by decide) ?_
      refine AT.goto M_271 rfl ?_
      refine AT.zret M_271 rfl rfl (by first | exact Or.inl rfl | exact Or.inr rfl | assumption) ?_
      rw [show sOpen (xK X 2) c = true from by unfold sOpen; rw [decide_eq_true b9, decide_eq_true (Classical.not_not.mp b15)]; rfl]
      exact ⟨rfl, rfl⟩
theorem c_272x1 {X : XS} {p q : Int32} (hp : p < 0 ∨ ¬ p < 4) : RT 272 [some (.ref 388), some (.int p), some (.int q), none] X (some (.int 0)) (xSetT X 1) := by
  refine AT.aload_n M_272 rfl rfl ?_
  refine AT.iconst M_272 rfl (v := 0) (by decide) ?_
  refine AT.w11_2 M_272 rfl ?_
  refine AT.iload_n M_272 rfl rfl ?_
  refine AT.cs1i M_272 rfl M_235 rfl (Nat.le_of_ble_eq_true rfl) rfl (c_235x hp) ?_ (Nat.le_of_ble_eq_true rfl) rfl
  refine AT.if_eq M_272 rfl (fun b5 => ?_) (fun b5 => absurd rfl b5)
  refine AT.aload_n M_272 rfl rfl ?_
  refine AT.iconst M_272 rfl (v := 1) (by decide) ?_
  refine AT.cv2i M_272 rfl M_233 rfl (Nat.le_of_ble_eq_true rfl) (xKd.of sh_mod) (by decide) c_233 ?_ (Nat.le_of_ble_eq_true rfl) rfl
  refine AT.iret M_272 rfl rfl ?_
  exact ⟨rfl, rfl⟩
theorem c_272x2 {X : XS} {c : Nat} {q : Int32} (hc : c < 4) (hp : q < 0 ∨ ¬ q < 7) : RT 272 [some (.ref 388), some (.int (Int32.ofNat c)), some (.int q), none] X (some (.int 0)) (xSetT X 1) := by
  refine AT.aload_n M_272 rfl rfl ?_
  refine AT.iconst M_272 rfl (v := 0) (by decide) ?_
  refine AT.w11_2 M_272 rfl ?_
  refine AT.iload_n M_272 rfl rfl ?_
  refine AT.cs1i M_272 rfl M_235 rfl (Nat.le_of_ble_eq_true rfl) rfl (c_235 hc) ?_ (Nat.le_of_ble_eq_true rfl) rfl
  refine AT.if_eq M_272 rfl (fun b5 => absurd b5 (by decide)) (fun b5 => ?_)
  refine AT.iload_n M_272 rfl rfl ?_
  refine AT.cs1i M_272 rfl M_234 rfl (Nat.le_of_ble_eq_true rfl) rfl (c_234x hp) ?_ (Nat.le_of_ble_eq_true rfl) rfl
  refine AT.if_ne M_272 rfl (fun b8 => absurd rfl b8) (fun b8 => ?_)
  refine AT.aload_n M_272 rfl rfl ?_
  refine AT.iconst M_272 rfl (v := 1) (by decide) ?_
  refine AT.cv2i M_272 rfl M_233 rfl (Nat.le_of_ble_eq_true rfl) (xKd.of sh_mod) (by decide) c_233 ?_ (Nat.le_of_ble_eq_true rfl) rfl
  refine AT.iret M_272 rfl rfl ?_
  exact ⟨rfl, rfl⟩
theorem c_272x3 {X : XS} {c s : Nat} (hc : c < 4) (hs : s < 7) (ho : sOpen (xK X 2) c = false) : RT 272 [some (.ref 388), some (.int (Int32.ofNat c)), some (.int (Int32.ofNat s)), none] X (some (.int 0)) (xSetT X 2) := by
  refine AT.aload_n M_272 rfl rfl ?_
  refine AT.iconst M_272 rfl (v := 0) (by decide) ?_
  refine AT.w11_2 M_272 rfl ?_
  refine AT.iload_n M_272 rfl rfl ?_
  refine AT.cs1i M_272 rfl M_235 rfl (Nat.le_of_ble_eq_true rfl) rfl (c_235 hc) ?_ (Nat.le_of_ble_eq_true rfl) rfl
  refine AT.if_eq M_272 rfl (fun b5 => absurd b5 (by decide)) (fun b5 => ?_)
  refine AT.iload_n M_272 rfl rfl ?_
  refine AT.cs1i M_272 rfl M_234 rfl (Nat.le_of_ble_eq_true rfl) rfl (c_234 hs) ?_ (Nat.le_of_ble_eq_true rfl) rfl
  refine AT.if_ne M_272 rfl (fun b8 => ?_) (fun b8 => absurd b8 (by decide))
  refine AT.aload_n M_272 rfl rfl ?_
  refine AT.iload_n M_272 rfl rfl ?_
  refine AT.cv2i M_272 rfl M_271 rfl (Nat.le_of_ble_eq_true rfl) (xKd.of sh_mod) (by decide) (c_271 (X := (xSetT X 0)) hc) ?_ (Nat.le_of_ble_eq_true rfl) rfl
  refine AT.if_eq M_272 rfl (fun b16 => ?_) (fun b16 => absurd (by rw [show sOpen (xK (xSetT X 0) 2) c = false from ho]; rfl) b16)
  refine AT.aload_n M_272 rfl rfl ?_
  refine AT.iconst M_272 rfl (v := 2) (by decide) ?_
  refine AT.cv2i M_272 rfl M_233 rfl (Nat.le_of_ble_eq_true rfl) (xKd.of sh_mod) (by decide) c_233 ?_ (Nat.le_of_ble_eq_true rfl) rfl
  refine AT.iret M_272 rfl rfl ?_
  exact ⟨rfl, rfl⟩
theorem c_272x4 {X : XS} {c s : Nat} (hc : c < 4) (hs : s < 7) (ho : sOpen (xK X 2) c = true) (hr : ¬ (xK X 2).1 12 s 0 = 3) : RT 272 [some (.ref 388), some (.int (Int32.ofNat c)), some (.int (Int32.ofNat s)), none] X (some (.int 0)) (xSetT X 2) := by
  refine AT.aload_n M_272 rfl rfl ?_
  refine AT.iconst M_272 rfl (v := 0) (by decide) ?_
  refine AT.w11_2 M_272 rfl ?_
  refine AT.iload_n M_272 rfl rfl ?_
  refine AT.cs1i M_272 rfl M_235 rfl (Nat.le_of_ble_eq_true rfl) rfl (c_235 hc) ?_ (Nat.le_of_ble_eq_true rfl) rfl
  refine AT.if_eq M_272 rfl (fun b5 => absurd b5 (by decide)) (fun b5 => ?_)
  refine AT.iload_n M_272 rfl rfl ?_
  refine AT.cs1i M_272 rfl M_234 rfl (Nat.le_of_ble_eq_true rfl) rfl (c_234 hs) ?_ (Nat.le_of_ble_eq_true rfl) rfl
  refine AT.if_ne M_272 rfl (fun b8 => ?_) (fun b8 => absurd b8 (by decide))
  refine AT.aload_n M_272 rfl rfl ?_
  refine AT.iload_n M_272 rfl rfl ?_
  refine AT.cv2i M_272 rfl M_271 rfl (Nat.le_of_ble_eq_true rfl) (xKd.of sh_mod) (by decide) (c_271 (X := (xSetT X 0)) hc) ?_ (Nat.le_of_ble_eq_true rfl) rfl
  refine AT.if_eq M_272 rfl (fun b16 => absurd b16 (by rw [show sOpen (xK (xSetT X 0) 2) c = true from ho]; decide)) (fun b16 => ?_)
  refine AT.aload_n M_272 rfl rfl ?_
  refine AT.iload_n M_272 rfl rfl ?_
  refine AT.cv2i M_272 rfl M_241 rfl (Nat.le_of_ble_eq_true rfl) (xKd.of sh_mod) (by decide) (c_241 (X := (xSetT X 0)) hs) ?_ (Nat.le_of_ble_eq_true rfl) rfl
  refine AT.if_eq M_272 rfl (fun b20 => ?_) (fun b20 => absurd (by rw [show decide ((xK (xSetT X 0) 2).1 12 s 0 = 3) = false from decide_eq_false hr]; rfl) b20)
  refine AT.aload_n M_272 rfl rfl ?_
  refine AT.iconst M_272 rfl (v := 2) (by decide) ?_
  refine AT.cv2i M_272 rfl M_233 rfl (Nat.le_of_ble_eq_true rfl) (xKd.of sh_mod) (by decide) c_233 ?_ (Nat.le_of_ble_eq_true rfl) rfl
  refine AT.iret M_272 rfl rfl ?_
  exact ⟨rfl, rfl⟩
theorem c_272x5 {X : XS} {c s : Nat} (hc : c < 4) (hs : s < 7) (ho : sOpen (xK X 2) c = true) (hr : (xK X 2).1 12 s 0 = 3) (hl : ¬ ((xK X 2).2.1 s).length < 40) (hl9 : ((xK X 2).2.1 s).length < 400000) : RT 272 [some (.ref 388), some (.int (Int32.ofNat c)), some (.int (Int32.ofNat s)), none] X (some (.int 0)) (xSetT X 2) := by
  refine AT.aload_n M_272 rfl rfl ?_
  refine AT.iconst M_272 rfl (v := 0) (by decide) ?_
  refine AT.w11_2 M_272 rfl ?_
  refine AT.iload_n M_272 rfl rfl ?_
  refine AT.cs1i M_272 rfl M_235 rfl (Nat.le_of_ble_eq_true rfl) rfl (c_235 hc) ?_ (Nat.le_of_ble_eq_true rfl) rfl
  refine AT.if_eq M_272 rfl (fun b5 => absurd b5 (by decide)) (fun b5 => ?_)
  refine AT.iload_n M_272 rfl rfl ?_
  refine AT.cs1i M_272 rfl M_234 rfl (Nat.le_of_ble_eq_true rfl) rfl (c_234 hs) ?_ (Nat.le_of_ble_eq_true rfl) rfl
  refine AT.if_ne M_272 rfl (fun b8 => ?_) (fun b8 => absurd b8 (by decide))
  refine AT.aload_n M_272 rfl rfl ?_
  refine AT.iload_n M_272 rfl rfl ?_
  refine AT.cv2i M_272 rfl M_271 rfl (Nat.le_of_ble_eq_true rfl) (xKd.of sh_mod) (by decide) (c_271 (X := (xSetT X 0)) hc) ?_ (Nat.le_of_ble_eq_true rfl) rfl
  refine AT.if_eq M_272 rfl (fun b16 => absurd b16 (by rw [show sOpen (xK (xSetT X 0) 2) c = true from ho]; decide)) (fun b16 => ?_)
  refine AT.aload_n M_272 rfl rfl ?_
  refine AT.iload_n M_272 rfl rfl ?_
  refine AT.cv2i M_272 rfl M_241 rfl (Nat.le_of_ble_eq_true rfl) (xKd.of sh_mod) (by decide) (c_241 (X := (xSetT X 0)) hs) ?_ (Nat.le_of_ble_eq_true rfl) rfl
  refine AT.if_eq M_272 rfl (fun b20 => absurd b20 (by rw [show decide ((xK (xSetT X 0) 2).1 12 s 0 = 3) = true from decide_eq_true hr]; decide)) (fun b20 => ?_)
  refine AT.aload_n M_272 rfl rfl ?_
  refine AT.r11_0 M_272 rfl ?_
  refine AT.r10_18 M_272 rfl (show 2 ≤ 2 by omega) (show 2 < 4 by omega) ?_
  refine AT.iload_n M_272 rfl rfl ?_
  refine AT.ra_siz M_272 rfl rfl (show 2 ≤ 2 by omega) (show 2 < 4 by omega) (by assumption) ?_
  refine AT.bipush M_272 rfl (v := 40) (by decide) ?_
  change AT 272 _ _ (.int 40 :: .int (Int32.ofNat ((xK X 2).2.1 s).length) :: _) _ _
  refine AT.icmp_lt M_272 rfl (fun b27 => absurd b27 (fun z => hl ((i32_lt (b := 40) (by omega) (by omega)).mp z))) (fun b27 => ?_)
  refine AT.aload_n M_272 rfl rfl ?_
  refine AT.iconst M_272 rfl (v := 2) (by decide) ?_
  refine AT.cv2i M_272 rfl M_233 rfl (Nat.le_of_ble_eq_true rfl) (xKd.of sh_mod) (by decide) c_233 ?_ (Nat.le_of_ble_eq_true rfl) rfl
  refine AT.iret M_272 rfl rfl ?_
  exact ⟨rfl, rfl⟩
theorem c_272 {X : XS} {c s : Nat} (hc : c < 4) (hs : s < 7) {m : Nat} (hap : aPr X 2) (hR : rOkR X 2) (hk : sOk (xK X 2) s) (hB : kA (xK X 2) s + ((xK X 2).2.1 s).length + 1 < 400000) (hn : ((xK X 2).2.1 s).length + 1 ≤ m) (hE : eOk (eReq (xK X 2) s c)) (ho : sOpen (xK X 2) c = true) (hr : (xK X 2).1 12 s 0 = 3) (hl : ((xK X 2).2.1 s).length < 40) : RU 272 [some (.ref 388), some (.int (Int32.ofNat c)), some (.int (Int32.ofNat s)), none] X (some (.int (sLast (kApp (xK X 2) s (eReq (xK X 2) s c)) s))) (fun Z => rRel0 2 m 0 0 (xSetT X 0) Z (kLk (kApp (xK X 2) s (eReq (xK X 2) s c)) s) ∧ aPr Z 2) := by
  have hL0 := (hR s hs).1
  have hB9 : dR (xD X) 2 s < 20000000 := by have := (hR s hs).2; omega
  have hsrc : ∀ Y, rKeep 2 (xSetT X 0) Y → xK Y 2 = xK (xSetT X 0) 2 → srcV Y (bB 2 + 58) (7 * c) 7 (fun q => (xK X 2).1 34 c q) 12 := fun Y _ hY => src.loc (f := 34) (fi := fun _ => c) (fj := fun q => q) (sh_req (by omega) (by omega)) (by omega) (by omega) (fun q hq => lo_req (by omega) (by omega) hc hq) (fun q hq => by
    show (xK Y 2).1 34 c q = _
    rw [hY]; rfl)
  refine AT.aload_n M_272 rfl rfl ?_
  refine AT.iconst M_272 rfl (v := 0) (by decide) ?_
  refine AT.w11_2 M_272 rfl ?_
  refine AT.iload_n M_272 rfl rfl ?_
  refine AT.cs1i M_272 rfl M_235 rfl (Nat.le_of_ble_eq_true rfl) rfl (c_235 hc) ?_ (Nat.le_of_ble_eq_true rfl) rfl
  refine AT.if_eq M_272 rfl (fun b5 => absurd b5 (by decide)) (fun b5 => ?_)
  refine AT.iload_n M_272 rfl rfl ?_
  refine AT.cs1i M_272 rfl M_234 rfl (Nat.le_of_ble_eq_true rfl) rfl (c_234 hs) ?_ (Nat.le_of_ble_eq_true rfl) rfl
  refine AT.if_ne M_272 rfl (fun b8 => ?_) (fun b8 => absurd b8 (by decide))
  refine AT.aload_n M_272 rfl rfl ?_
  refine AT.iload_n M_272 rfl rfl ?_
  refine AT.cv2i M_272 rfl M_271 rfl (Nat.le_of_ble_eq_true rfl) (xKd.of sh_mod) (by decide) (c_271 (X := (xSetT X 0)) hc) ?_ (Nat.le_of_ble_eq_true rfl) rfl
  refine AT.if_eq M_272 rfl (fun b16 => absurd b16 (by rw [show sOpen (xK (xSetT X 0) 2) c = true from ho]; decide)) (fun b16 => ?_)
  refine AT.aload_n M_272 rfl rfl ?_
  refine AT.iload_n M_272 rfl rfl ?_
  refine AT.cv2i M_272 rfl M_241 rfl (Nat.le_of_ble_eq_true rfl) (xKd.of sh_mod) (by decide) (c_241 (X := (xSetT X 0)) hs) ?_ (Nat.le_of_ble_eq_true rfl) rfl
  refine AT.if_eq M_272 rfl (fun b20 => absurd b20 (by rw [show decide ((xK (xSetT X 0) 2).1 12 s 0 = 3) = true from decide_eq_true hr]; decide)) (fun b20 => ?_)
  refine AT.aload_n M_272 rfl rfl ?_
  refine AT.r11_0 M_272 rfl ?_
  refine AT.r10_18 M_272 rfl (show 2 ≤ 2 by omega) (show 2 < 4 by omega) ?_
  refine AT.iload_n M_272 rfl rfl ?_
  refine AT.ra_siz M_272 rfl rfl (show 2 ≤ 2 by omega) (show 2 < 4 by omega) (by assumption) ?_
  refine AT.bipush M_272 rfl (v := 40) (by decide) ?_
  change AT 272 _ _ (.int 40 :: .int (Int32.ofNat ((xK X 2).2.1 s).length) :: _) _ _
  refine AT.icmp_lt M_272 rfl (fun b27 => ?_) (fun b27 => absurd ((i32_lt (b := 40) (by omega) (by omega)).mpr hl) b27)
  refine AT.aload_n M_272 rfl rfl ?_
  refine AT.r11_0 M_272 rfl ?_
  refine AT.iload_n M_272 rfl rfl ?_
  refine AT.aload_n M_272 rfl rfl ?_
  refine AT.r11_0 M_272 rfl ?_
  refine AT.r10_25 M_272 rfl (show 2 ≤ 2 by omega) (show 2 < 4 by omega) ?_
  refine AT.iload_n M_272 rfl rfl ?_
  refine AT.bipush M_272 rfl (v := 7) (by decide) ?_
  refine AT.imul M_272 rfl rfl ?_
  refine AT.aload_n M_272 rfl rfl ?_
  refine AT.r11_0 M_272 rfl ?_
  refine AT.r10_3 M_272 rfl (show 2 ≤ 2 by omega) (show 2 < 4 by omega) ?_
  refine AT.iload_n M_272 rfl rfl ?_
  refine AT.ra_5 M_272 rfl rfl (show 2 ≤ 2 by omega) (show 2 < 4 by omega) (by assumption) ?_
  refine AT.cv5w M_272 rfl M_185 rfl (Nat.le_of_ble_eq_true rfl) (xKd.of (sh_st (o := 2) (by omega) (by omega))) (by decide) (c_185 (X := (xSetT X 0)) (o := 2) (by omega) (by omega) hs (ww := fun q => (xK X 2).1 34 c q) (at0 := 7 * c) hL0 hB9 (by have := hk.2.2.2.2.1; show ((xK X 2).2.1 s).length + 1 < _; omega) (i32_7 c) (by omega) hsrc) (fun Y hc46 => ?_) (Nat.le_of_ble_eq_true rfl) rfl
  obtain ⟨r0, k0⟩ := hc46
  have r1 : rRel0 2 m 0 0 (xSetT X 0) Y (kApp (xK X 2) s (eReq (xK X 2) s c)) := r0.more hn
  have eY : xK Y 2 = kApp (xK X 2) s (eReq (xK X 2) s c) := r1.k
  have ok1 : sOk (xK Y 2) s := by rw [eY]; exact kApp_ok hk hE hB
  have ap1 : aPr Y 2 := fun i hi => by rw [eY]; exact (k0.1 20 i 0 (by omega)).trans (hap i hi)
  refine AT.aload_n M_272 rfl rfl ?_
  refine AT.r11_0 M_272 rfl ?_
  refine AT.iload_n M_272 rfl rfl ?_
  refine AT.cv2i M_272 rfl M_187 rfl (Nat.le_of_ble_eq_true rfl) (xKd.of (sh_st (o := 2) (by omega) (by omega))) (by decide) (c_187 (X := Y) (o := 2) (by omega) (by omega) hs) ?_ (Nat.le_of_ble_eq_true rfl) rfl
  refine AT.ist3 M_272 rfl rfl ?_
  refine AT.aload_n M_272 rfl rfl ?_
  refine AT.r11_0 M_272 rfl ?_
  refine AT.iload_n M_272 rfl rfl ?_
  refine AT.cv2w M_272 rfl M_207 rfl (Nat.le_of_ble_eq_true rfl) (xKd.of (sh_st (o := 2) (by omega) (by omega))) (by decide) (c_207 (X := Y) (o := 2) (m := m) (by omega) (by omega) hs ok1 ap1) (fun W hc55 => ?_) (Nat.le_of_ble_eq_true rfl) rfl
  have r3 := hc55
  refine AT.iload_n M_272 rfl rfl ?_
  refine AT.iret M_272 rfl rfl ?_
  rw [eY] at r3 ⊢
  exact ⟨rfl, r1.tr r3.1, r3.2.2⟩
theorem c_292x1 {X : XS} {p x : Int32} (hp : p < 0 ∨ ¬ p < 7) : RT 292 [some (.ref 388), some (.int p), some (.int x)] X (some (.int 0)) (xSetT X 1) := by
  refine AT.aload_n M_292 rfl rfl ?_
  refine AT.iconst M_292 rfl (v := 0) (by decide) ?_
  refine AT.w11_2 M_292 rfl ?_
  refine AT.iload_n M_292 rfl rfl ?_
  refine AT.cs1i M_292 rfl M_234 rfl (Nat.le_of_ble_eq_true rfl) rfl (c_234x hp) ?_ (Nat.le_of_ble_eq_true rfl) rfl
  refine AT.if_eq M_292 rfl (fun b5 => ?_) (fun b5 => absurd rfl b5)
  refine AT.aload_n M_292 rfl rfl ?_
  refine AT.iconst M_292 rfl (v := 1) (by decide) ?_
  refine AT.cv2i M_292 rfl M_233 rfl (Nat.le_of_ble_eq_true rfl) (xKd.of sh_mod) (by decide) c_233 ?_ (Nat.le_of_ble_eq_true rfl) rfl
  refine AT.iret M_292 rfl rfl ?_
  exact ⟨rfl, rfl⟩
theorem c_292x2 {X : XS} {s : Nat} (hs : s < 7) {x : Int32} (hne : ¬ x = (xK X 2).1 18 s 0) (hno : sHasE (xK X 2) s x = false) : RT 292 [some (.ref 388), some (.int (Int32.ofNat s)), some (.int x)] X (some (.int 0)) (xSetT X 1) := by
  refine AT.aload_n M_292 rfl rfl ?_
  refine AT.iconst M_292 rfl (v := 0) (by decide) ?_
  refine AT.w11_2 M_292 rfl ?_
  refine AT.iload_n M_292 rfl rfl ?_
  refine AT.cs1i M_292 rfl M_234 rfl (Nat.le_of_ble_eq_true rfl) rfl (c_234 hs) ?_ (Nat.le_of_ble_eq_true rfl) rfl
  refine AT.if_eq M_292 rfl (fun b5 => absurd b5 (by decide)) (fun b5 => ?_)
  refine AT.iload_n M_292 rfl rfl ?_
  refine AT.aload_n M_292 rfl rfl ?_
  refine AT.r11_0 M_292 rfl ?_
  refine AT.r10_13 M_292 rfl (show 2 ≤ 2 by omega) (show 2 < 4 by omega) ?_
  refine AT.iload_n M_292 rfl rfl ?_
  refine AT.ra_18_0 M_292 rfl rfl (show 2 ≤ 2 by omega) (show 2 < 4 by omega) (by assumption) ?_
  refine AT.icmp_eq M_292 rfl (fun b12 => absurd b12 hne) (fun b12 => ?_)
  refine AT.aload_n M_292 rfl rfl ?_
  refine AT.r11_0 M_292 rfl ?_
  refine AT.iload_n M_292 rfl rfl ?_
  refine AT.iload_n M_292 rfl rfl ?_
  refine AT.cv3i M_292 rfl M_188 rfl (Nat.le_of_ble_eq_true rfl) (xKd.of (sh_st (o := 2) (by omega) (by omega))) (by decide) (c_188 (X := (xSetT X 0)) (o := 2) (by omega) (by omega) hs) ?_ (Nat.le_of_ble_eq_true rfl) rfl
  refine AT.if_eq M_292 rfl (fun b18 => ?_) (fun b18 => absurd (by rw [show sHasE (xK (xSetT X 0) 2) s x = false from hno]; rfl) b18)
  refine AT.aload_n M_292 rfl rfl ?_
  refine AT.iconst M_292 rfl (v := 1) (by decide) ?_
  refine AT.cv2i M_292 rfl M_233 rfl (Nat.le_of_ble_eq_true rfl) (xKd.of sh_mod) (by decide) c_233 ?_ (Nat.le_of_ble_eq_true rfl) rfl
  refine AT.iret M_292 rfl rfl ?_
  exact ⟨rfl, rfl⟩
theorem c_292s {X : XS} {s : Nat} (hs : s < 7) {x : Int32} (hw : kWf (xK X 2) s) (he : x = (xK X 2).1 18 s 0) : RT 292 [some (.ref 388), some (.int (Int32.ofNat s)), some (.int x)] X (some (.int (sTix (xK X 2) s x))) (xSetT X 0) := by
  refine AT.aload_n M_292 rfl rfl ?_
  refine AT.iconst M_292 rfl (v := 0) (by decide) ?_
  refine AT.w11_2 M_292 rfl ?_
  refine AT.iload_n M_292 rfl rfl ?_
  refine AT.cs1i M_292 rfl M_234 rfl (Nat.le_of_ble_eq_true rfl) rfl (c_234 hs) ?_ (Nat.le_of_ble_eq_true rfl) rfl
  refine AT.if_eq M_292 rfl (fun b5 => absurd b5 (by decide)) (fun b5 => ?_)
  refine AT.iload_n M_292 rfl rfl ?_
  refine AT.aload_n M_292 rfl rfl ?_
  refine AT.r11_0 M_292 rfl ?_
  refine AT.r10_13 M_292 rfl (show 2 ≤ 2 by omega) (show 2 < 4 by omega) ?_
  refine AT.iload_n M_292 rfl rfl ?_
  refine AT.ra_18_0 M_292 rfl rfl (show 2 ≤ 2 by omega) (show 2 < 4 by omega) (by assumption) ?_
  refine AT.icmp_eq M_292 rfl (fun b12 => ?_) (fun b12 => absurd he b12)
  refine AT.aload_n M_292 rfl rfl ?_
  refine AT.r11_0 M_292 rfl ?_
  refine AT.iload_n M_292 rfl rfl ?_
  refine AT.iload_n M_292 rfl rfl ?_
  refine AT.cv3i M_292 rfl M_191 rfl (Nat.le_of_ble_eq_true rfl) (xKd.of (sh_st (o := 2) (by omega) (by omega))) (by decide) (c_191 (X := (xSetT X 0)) (o := 2) (by omega) (by omega) hs hw (Or.inl he)) ?_ (Nat.le_of_ble_eq_true rfl) rfl
  refine AT.goto M_292 rfl ?_
  refine AT.iret M_292 rfl rfl ?_
  exact ⟨rfl, rfl⟩
theorem c_292e {X : XS} {s : Nat} (hs : s < 7) {x : Int32} (hw : kWf (xK X 2) s) (hne : ¬ x = (xK X 2).1 18 s 0) (hh : sHasE (xK X 2) s x = true) : RT 292 [some (.ref 388), some (.int (Int32.ofNat s)), some (.int x)] X (some (.int (sTix (xK X 2) s x))) (xSetT X 0) := by
  refine AT.aload_n M_292 rfl rfl ?_
  refine AT.iconst M_292 rfl (v := 0) (by decide) ?_
  refine AT.w11_2 M_292 rfl ?_
  refine AT.iload_n M_292 rfl rfl ?_
  refine AT.cs1i M_292 rfl M_234 rfl (Nat.le_of_ble_eq_true rfl) rfl (c_234 hs) ?_ (Nat.le_of_ble_eq_true rfl) rfl
  refine AT.if_eq M_292 rfl (fun b5 => absurd b5 (by decide)) (fun b5 => ?_)
  refine AT.iload_n M_292 rfl rfl ?_
  refine AT.aload_n M_292 rfl rfl ?_
  refine AT.r11_0 M_292 rfl ?_
  refine AT.r10_13 M_292 rfl (show 2 ≤ 2 by omega) (show 2 < 4 by omega) ?_
  refine AT.iload_n M_292 rfl rfl ?_
  refine AT.ra_18_0 M_292 rfl rfl (show 2 ≤ 2 by omega) (show 2 < 4 by omega) (by assumption) ?_
  refine AT.icmp_eq M_292 rfl (fun b12 => absurd b12 hne) (fun b12 => ?_)
  refine AT.aload_n M_292 rfl rfl ?_
  refine AT.r11_0 M_292 rfl ?_
  refine AT.iload_n M_292 rfl rfl ?_
  refine AT.iload_n M_292 rfl rfl ?_
  refine AT.cv3i M_292 rfl M_188 rfl (Nat.le_of_ble_eq_true rfl) (xKd.of (sh_st (o := 2) (by omega) (by omega))) (by decide) (c_188 (X := (xSetT X 0)) (o := 2) (by omega) (by omega) hs) ?_ (Nat.le_of_ble_eq_true rfl) rfl
  refine AT.if_eq M_292 rfl (fun b18 => absurd b18 (by rw [show sHasE (xK (xSetT X 0) 2) s x = true from hh]; decide)) (fun b18 => ?_)
  refine AT.aload_n M_292 rfl rfl ?_
  refine AT.r11_0 M_292 rfl ?_
  refine AT.iload_n M_292 rfl rfl ?_
  refine AT.iload_n M_292 rfl rfl ?_
  refine AT.cv3i M_292 rfl M_191 rfl (Nat.le_of_ble_eq_true rfl) (xKd.of (sh_st (o := 2) (by omega) (by omega))) (by decide) (c_191 (X := (xSetT X 0)) (o := 2) (by omega) (by omega) hs hw (Or.inr ((sHasE_some (K := xK X 2) hw).mp hh))) ?_ (Nat.le_of_ble_eq_true rfl) rfl
  refine AT.goto M_292 rfl ?_
  refine AT.iret M_292 rfl rfl ?_
  exact ⟨rfl, rfl⟩
theorem c_292 {X : XS} {s : Nat} (hs : s < 7) {x : Int32} (hw : kWf (xK X 2) s) (hin : x = (xK X 2).1 18 s 0 ∨ sHasE (xK X 2) s x = true) : RT 292 [some (.ref 388), some (.int (Int32.ofNat s)), some (.int x)] X (some (.int (sTix (xK X 2) s x))) (xSetT X 0) := by
  by_cases h : x = (xK X 2).1 18 s 0
  · exact c_292s hs hw h
  · exact c_292e hs hw h (hin.resolve_left h)
theorem c_295m {X : XS} {s : Nat} (hs : s < 7) {x : Int32} {e : ENT} (hw : kWf (xK X 2) s) (hx : sEnt (xK X 2) s x = some e) (h8 : e 1 = 4 → ∃ n : Nat, n < 128 ∧ e 6 = Int32.ofNat n) (hv : (e 1 = 4 → sVal e = sCnt (e 6)) ∧ (¬ e 1 = 4 → sVal e = e 5)) (h4 : e 1 = 4) : RT 295 [some (.ref 388), some (.int (Int32.ofNat s)), some (.int x)] X (some (.int (sVal e))) (xSetT X 0) := by
  refine AT.aload_n M_295 rfl rfl ?_
  refine AT.iload_n M_295 rfl rfl ?_
  refine AT.iload_n M_295 rfl rfl ?_
  refine AT.iconst M_295 rfl (v := 1) (by decide) ?_
  refine AT.cv4i M_295 rfl M_293 rfl (Nat.le_of_ble_eq_true rfl) (xKd.of sh_mod) (by decide) (c_293 (c := 1) hs hw hx (by omega) rfl) ?_ (Nat.le_of_ble_eq_true rfl) rfl
  refine AT.iconst M_295 rfl (v := 4) (by decide) ?_
  refine AT.icmp_ne M_295 rfl (fun b6 => absurd h4 b6) (fun b6 => ?_)
  refine AT.aload_n M_295 rfl rfl ?_
  refine AT.r11_0 M_295 rfl ?_
  refine AT.iload_n M_295 rfl rfl ?_
  refine AT.iload_n M_295 rfl rfl ?_
  refine AT.bipush M_295 rfl (v := 6) (by decide) ?_
  refine AT.cv4i M_295 rfl M_190 rfl (Nat.le_of_ble_eq_true rfl) (xKd.of (sh_st (o := 2) (by omega) (by omega))) (by decide) (c_190 (X := (xSetT X 0)) (o := 2) (by omega) (by omega) hs hx hw (c := 6) (by omega) rfl) ?_ (Nat.le_of_ble_eq_true rfl) rfl
  refine AT.cs1i M_295 rfl M_197 rfl (Nat.le_of_ble_eq_true rfl) rfl (c_197x (h8 h4)) ?_ (Nat.le_of_ble_eq_true rfl) rfl
  refine AT.goto M_295 rfl ?_
  refine AT.iret M_295 rfl rfl ?_
  rw [show sVal e = sCnt (e 6) from (hv.1 h4)]
  exact ⟨rfl, rfl⟩
theorem c_295n {X : XS} {s : Nat} (hs : s < 7) {x : Int32} {e : ENT} (hw : kWf (xK X 2) s) (hx : sEnt (xK X 2) s x = some e) (hv : (e 1 = 4 → sVal e = sCnt (e 6)) ∧ (¬ e 1 = 4 → sVal e = e 5)) (h4 : ¬ e 1 = 4) : RT 295 [some (.ref 388), some (.int (Int32.ofNat s)), some (.int x)] X (some (.int (sVal e))) (xSetT X 0) := by
  refine AT.aload_n M_295 rfl rfl ?_
  refine AT.iload_n M_295 rfl rfl ?_
  refine AT.iload_n M_295 rfl rfl ?_
  refine AT.iconst M_295 rfl (v := 1) (by decide) ?_
  refine AT.cv4i M_295 rfl M_293 rfl (Nat.le_of_ble_eq_true rfl) (xKd.of sh_mod) (by decide) (c_293 (X := X) (c := 1) hs hw hx (by omega) rfl) ?_ (Nat.le_of_ble_eq_true rfl) rfl
  refine AT.iconst M_295 rfl (v := 4) (by decide) ?_
  refine AT.icmp_ne M_295 rfl (fun b6 => ?_) (fun b6 => absurd h4 b6)
  refine AT.aload_n M_295 rfl rfl ?_
  refine AT.iload_n M_295 rfl rfl ?_
  refine AT.iload_n M_295 rfl rfl ?_
  refine AT.iconst M_295 rfl (v := 5) (by decide) ?_
  refine AT.cv4i M_295 rfl M_293 rfl (Nat.le_of_ble_eq_true rfl) (xKd.of sh_mod) (by decide) (c_293 (X := (xSetT X 0)) (c := 5) hs hw hx (by omega) rfl) ?_ (Nat.le_of_ble_eq_true rfl) rfl
  refine AT.iret M_295 rfl rfl ?_
  rw [show sVal e = e 5 from (hv.2 h4)]
  exact ⟨rfl, rfl⟩
theorem c_295 {X : XS} {s : Nat} (hs : s < 7) {x : Int32} {e : ENT} (hw : kWf (xK X 2) s) (hx : sEnt (xK X 2) s x = some e) (h8 : e 1 = 4 → ∃ n : Nat, n < 128 ∧ e 6 = Int32.ofNat n) (hv : (e 1 = 4 → sVal e = sCnt (e 6)) ∧ (¬ e 1 = 4 → sVal e = e 5)) : RT 295 [some (.ref 388), some (.int (Int32.ofNat s)), some (.int x)] X (some (.int (sVal e))) (xSetT X 0) := by
  by_cases h : e 1 = 4
  · exact c_295m hs hw hx h8 hv h
  · exact c_295n hs hw hx hv h
theorem c_295x1 {X : XS} {p x : Int32} (hp : p < 0 ∨ ¬ p < 7) : RT 295 [some (.ref 388), some (.int p), some (.int x)] X (some (.int 0)) (xSetT X 1) := by
  refine AT.aload_n M_295 rfl rfl ?_
  refine AT.iload_n M_295 rfl rfl ?_
  refine AT.iload_n M_295 rfl rfl ?_
  refine AT.iconst M_295 rfl (v := 1) (by decide) ?_
  refine AT.cv4i M_295 rfl M_293 rfl (Nat.le_of_ble_eq_true rfl) (xKd.of sh_mod) (by decide) (c_293x1 hp) ?_ (Nat.le_of_ble_eq_true rfl) rfl
  refine AT.iconst M_295 rfl (v := 4) (by decide) ?_
  refine AT.icmp_ne M_295 rfl (fun b6 => ?_) (fun b6 => absurd (by decide) b6)
  refine AT.aload_n M_295 rfl rfl ?_
  refine AT.iload_n M_295 rfl rfl ?_
  refine AT.iload_n M_295 rfl rfl ?_
  refine AT.iconst M_295 rfl (v := 5) (by decide) ?_
  refine AT.cv4i M_295 rfl M_293 rfl (Nat.le_of_ble_eq_true rfl) (xKd.of sh_mod) (by decide) (c_293x1 hp) ?_ (Nat.le_of_ble_eq_true rfl) rfl
  refine AT.iret M_295 rfl rfl ?_
  exact ⟨rfl, rfl⟩
theorem c_295x2 {X : XS} {s : Nat} (hs : s < 7) {x : Int32} (hno : sHasE (xK X 2) s x = false) : RT 295 [some (.ref 388), some (.int (Int32.ofNat s)), some (.int x)] X (some (.int 0)) (xSetT X 1) := by
  refine AT.aload_n M_295 rfl rfl ?_
  refine AT.iload_n M_295 rfl rfl ?_
  refine AT.iload_n M_295 rfl rfl ?_
  refine AT.iconst M_295 rfl (v := 1) (by decide) ?_
  refine AT.cv4i M_295 rfl M_293 rfl (Nat.le_of_ble_eq_true rfl) (xKd.of sh_mod) (by decide) (c_293x2 hs hno) ?_ (Nat.le_of_ble_eq_true rfl) rfl
  refine AT.iconst M_295 rfl (v := 4) (by decide) ?_
  refine AT.icmp_ne M_295 rfl (fun b6 => ?_) (fun b6 => absurd (by decide) b6)
  refine AT.aload_n M_295 rfl rfl ?_
  refine AT.iload_n M_295 rfl rfl ?_
  refine AT.iload_n M_295 rfl rfl ?_
  refine AT.iconst M_295 rfl (v := 5) (by decide) ?_
  refine AT.cv4i M_295 rfl M_293 rfl (Nat.le_of_ble_eq_true rfl) (xKd.of sh_mod) (by decide) (c_293x2 hs hno) ?_ (Nat.le_of_ble_eq_true rfl) rfl
  refine AT.iret M_295 rfl rfl ?_
  exact ⟨rfl, rfl⟩
theorem c_300nx1 {X : XS} {p q : Int32} (hp : p < 0 ∨ ¬ p < 7) : RT 300 [some (.ref 388), some (.int p), some (.int q), some (.ref (bB 2 + 40))] X (some (.int 0)) (xSetT X 1) := by
  refine AT.aload_n M_300 rfl rfl ?_
  refine AT.iconst M_300 rfl (v := 0) (by decide) ?_
  refine AT.w11_2 M_300 rfl ?_
  refine AT.iload_n M_300 rfl rfl ?_
  refine AT.cs1i M_300 rfl M_234 rfl (Nat.le_of_ble_eq_true rfl) rfl (c_234x hp) ?_ (Nat.le_of_ble_eq_true rfl) rfl
  refine AT.if_eq M_300 rfl (fun b5 => ?_) (fun b5 => absurd rfl b5)
  refine AT.aload_n M_300 rfl rfl ?_
  refine AT.iconst M_300 rfl (v := 1) (by decide) ?_
  refine AT.cv2i M_300 rfl M_233 rfl (Nat.le_of_ble_eq_true rfl) (xKd.of sh_mod) (by decide) c_233 ?_ (Nat.le_of_ble_eq_true rfl) rfl
  refine AT.iret M_300 rfl rfl ?_
  exact ⟨rfl, rfl⟩
theorem c_300nx2 {X : XS} {s : Nat} (hs : s < 7) {q : Int32} (hp : q < 0 ∨ ¬ q < 7) : RT 300 [some (.ref 388), some (.int (Int32.ofNat s)), some (.int q), some (.ref (bB 2 + 40))] X (some (.int 0)) (xSetT X 1) := by
  refine AT.aload_n M_300 rfl rfl ?_
  refine AT.iconst M_300 rfl (v := 0) (by decide) ?_
  refine AT.w11_2 M_300 rfl ?_
  refine AT.iload_n M_300 rfl rfl ?_
  refine AT.cs1i M_300 rfl M_234 rfl (Nat.le_of_ble_eq_true rfl) rfl (c_234 hs) ?_ (Nat.le_of_ble_eq_true rfl) rfl
  refine AT.if_eq M_300 rfl (fun b5 => absurd b5 (by decide)) (fun b5 => ?_)
  refine AT.iload_n M_300 rfl rfl ?_
  refine AT.cs1i M_300 rfl M_234 rfl (Nat.le_of_ble_eq_true rfl) rfl (c_234x hp) ?_ (Nat.le_of_ble_eq_true rfl) rfl
  refine AT.if_ne M_300 rfl (fun b8 => absurd rfl b8) (fun b8 => ?_)
  refine AT.aload_n M_300 rfl rfl ?_
  refine AT.iconst M_300 rfl (v := 1) (by decide) ?_
  refine AT.cv2i M_300 rfl M_233 rfl (Nat.le_of_ble_eq_true rfl) (xKd.of sh_mod) (by decide) c_233 ?_ (Nat.le_of_ble_eq_true rfl) rfl
  refine AT.iret M_300 rfl rfl ?_
  exact ⟨rfl, rfl⟩
theorem c_300nx3 {X : XS} {s : Nat} (hs : s < 7) : RT 300 [some (.ref 388), some (.int (Int32.ofNat s)), some (.int (Int32.ofNat s)), some (.ref (bB 2 + 40))] X (some (.int 0)) (xSetT X 2) := by
  refine AT.aload_n M_300 rfl rfl ?_
  refine AT.iconst M_300 rfl (v := 0) (by decide) ?_
  refine AT.w11_2 M_300 rfl ?_
  refine AT.iload_n M_300 rfl rfl ?_
  refine AT.cs1i M_300 rfl M_234 rfl (Nat.le_of_ble_eq_true rfl) rfl (c_234 hs) ?_ (Nat.le_of_ble_eq_true rfl) rfl
  refine AT.if_eq M_300 rfl (fun b5 => absurd b5 (by decide)) (fun b5 => ?_)
  refine AT.iload_n M_300 rfl rfl ?_
  refine AT.cs1i M_300 rfl M_234 rfl (Nat.le_of_ble_eq_true rfl) rfl (c_234 hs) ?_ (Nat.le_of_ble_eq_true rfl) rfl
  refine AT.if_ne M_300 rfl (fun b8 => ?_) (fun b8 => absurd b8 (by decide))
  refine AT.iload_n M_300 rfl rfl ?_
  refine AT.iload_n M_300 rfl rfl ?_
  refine AT.icmp_ne M_300 rfl (fun b15 => absurd rfl b15) (fun b15 => ?_)
  refine AT.aload_n M_300 rfl rfl ?_
  refine AT.iconst M_300 rfl (v := 2) (by decide) ?_
  refine AT.cv2i M_300 rfl M_233 rfl (Nat.le_of_ble_eq_true rfl) (xKd.of sh_mod) (by decide) c_233 ?_ (Nat.le_of_ble_eq_true rfl) rfl
  refine AT.iret M_300 rfl rfl ?_
  exact ⟨rfl, rfl⟩
theorem c_300nx4 {X : XS} {s j : Nat} (hs : s < 7) (hj : j < 7) (hne : ¬ s = j) (hr : ¬ (xK X 2).1 12 s 0 = 3) : RT 300 [some (.ref 388), some (.int (Int32.ofNat s)), some (.int (Int32.ofNat j)), some (.ref (bB 2 + 40))] X (some (.int 0)) (xSetT X 3) := by
  refine AT.aload_n M_300 rfl rfl ?_
  refine AT.iconst M_300 rfl (v := 0) (by decide) ?_
  refine AT.w11_2 M_300 rfl ?_
  refine AT.iload_n M_300 rfl rfl ?_
  refine AT.cs1i M_300 rfl M_234 rfl (Nat.le_of_ble_eq_true rfl) rfl (c_234 hs) ?_ (Nat.le_of_ble_eq_true rfl) rfl
  refine AT.if_eq M_300 rfl (fun b5 => absurd b5 (by decide)) (fun b5 => ?_)
  refine AT.iload_n M_300 rfl rfl ?_
  refine AT.cs1i M_300 rfl M_234 rfl (Nat.le_of_ble_eq_true rfl) rfl (c_234 hj) ?_ (Nat.le_of_ble_eq_true rfl) rfl
  refine AT.if_ne M_300 rfl (fun b8 => ?_) (fun b8 => absurd b8 (by decide))
  refine AT.iload_n M_300 rfl rfl ?_
  refine AT.iload_n M_300 rfl rfl ?_
  refine AT.icmp_ne M_300 rfl (fun b15 => ?_) (fun b15 => absurd (i32_nat (by omega) (by omega) (Classical.not_not.mp b15)) hne)
  refine AT.aload_n M_300 rfl rfl ?_
  refine AT.iload_n M_300 rfl rfl ?_
  refine AT.cv2i M_300 rfl M_241 rfl (Nat.le_of_ble_eq_true rfl) (xKd.of sh_mod) (by decide) (c_241 (X := (xSetT X 0)) hs) ?_ (Nat.le_of_ble_eq_true rfl) rfl
  refine AT.if_eq M_300 rfl (fun b23 => ?_) (fun b23 => absurd (by rw [show decide ((xK (xSetT X 0) 2).1 12 s 0 = 3) = false from decide_eq_false hr]; rfl) b23)
  refine AT.aload_n M_300 rfl rfl ?_
  refine AT.iconst M_300 rfl (v := 3) (by decide) ?_
  refine AT.cv2i M_300 rfl M_233 rfl (Nat.le_of_ble_eq_true rfl) (xKd.of sh_mod) (by decide) c_233 ?_ (Nat.le_of_ble_eq_true rfl) rfl
  refine AT.iret M_300 rfl rfl ?_
  exact ⟨rfl, rfl⟩
theorem c_300n {X : XS} {s j : Nat} (hs : s < 7) (hj : j < 7) (hne : ¬ s = j) (hr : (xK X 2).1 12 s 0 = 3) : RT 300 [some (.ref 388), some (.int (Int32.ofNat s)), some (.int (Int32.ofNat j)), some (.ref (bB 2 + 40))] X (some (.int ((xK X 2).1 2 s j))) (xSetT X 0) := by
  refine AT.aload_n M_300 rfl rfl ?_
  refine AT.iconst M_300 rfl (v := 0) (by decide) ?_
  refine AT.w11_2 M_300 rfl ?_
  refine AT.iload_n M_300 rfl rfl ?_
  refine AT.cs1i M_300 rfl M_234 rfl (Nat.le_of_ble_eq_true rfl) rfl (c_234 hs) ?_ (Nat.le_of_ble_eq_true rfl) rfl
  refine AT.if_eq M_300 rfl (fun b5 => absurd b5 (by decide)) (fun b5 => ?_)
  refine AT.iload_n M_300 rfl rfl ?_
  refine AT.cs1i M_300 rfl M_234 rfl (Nat.le_of_ble_eq_true rfl) rfl (c_234 hj) ?_ (Nat.le_of_ble_eq_true rfl) rfl
  refine AT.if_ne M_300 rfl (fun b8 => ?_) (fun b8 => absurd b8 (by decide))
  refine AT.iload_n M_300 rfl rfl ?_
  refine AT.iload_n M_300 rfl rfl ?_
  refine AT.icmp_ne M_300 rfl (fun b15 => ?_) (fun b15 => absurd (i32_nat (by omega) (by omega) (Classical.not_not.mp b15)) hne)
  refine AT.aload_n M_300 rfl rfl ?_
  refine AT.iload_n M_300 rfl rfl ?_
  refine AT.cv2i M_300 rfl M_241 rfl (Nat.le_of_ble_eq_true rfl) (xKd.of sh_mod) (by decide) (c_241 (X := (xSetT X 0)) hs) ?_ (Nat.le_of_ble_eq_true rfl) rfl
  refine AT.if_eq M_300 rfl (fun b23 => absurd b23 (by rw [show decide ((xK (xSetT X 0) 2).1 12 s 0 = 3) = true from decide_eq_true hr]; decide)) (fun b23 => ?_)
  refine AT.aload_n M_300 rfl rfl ?_
  refine AT.iload_n M_300 rfl rfl ?_
  refine AT.rr_nxt M_300 rfl rfl (show 2 ≤ 2 by omega) (show 2 < 4 by omega) (by assumption) ?_
  refine AT.iload_n M_300 rfl rfl ?_
  refine AT.ra_nxt M_300 rfl rfl (show 2 ≤ 2 by omega) (show 2 < 4 by omega) (by assumption) (by omega) ?_
  refine AT.goto M_300 rfl ?_
  refine AT.iret M_300 rfl rfl ?_
  exact ⟨rfl, rfl⟩
theorem c_301x1 {X : XS} {p q : Int32} (hp : p < 0 ∨ ¬ p < 7) : RT 301 [some (.ref 388), some (.int p), some (.int q)] X (some (.int 0)) (xSetT X 1) := by
  refine AT.aload_n M_301 rfl rfl ?_
  refine AT.iload_n M_301 rfl rfl ?_
  refine AT.iload_n M_301 rfl rfl ?_
  refine AT.aload_n M_301 rfl rfl ?_
  refine AT.r11_0 M_301 rfl ?_
  refine AT.r10_20 M_301 rfl (show 2 ≤ 2 by omega) (show 2 < 4 by omega) ?_
  refine AT.cv4i M_301 rfl M_300 rfl (Nat.le_of_ble_eq_true rfl) (xKd.of sh_mod) (by decide) (c_300nx1 hp) ?_ (Nat.le_of_ble_eq_true rfl) rfl
  refine AT.iret M_301 rfl rfl ?_
  exact ⟨rfl, rfl⟩
theorem c_301x2 {X : XS} {s : Nat} (hs : s < 7) {q : Int32} (hp : q < 0 ∨ ¬ q < 7) : RT 301 [some (.ref 388), some (.int (Int32.ofNat s)), some (.int q)] X (some (.int 0)) (xSetT X 1) := by
  refine AT.aload_n M_301 rfl rfl ?_
  refine AT.iload_n M_301 rfl rfl ?_
  refine AT.iload_n M_301 rfl rfl ?_
  refine AT.aload_n M_301 rfl rfl ?_
  refine AT.r11_0 M_301 rfl ?_
  refine AT.r10_20 M_301 rfl (show 2 ≤ 2 by omega) (show 2 < 4 by omega) ?_
  refine AT.cv4i M_301 rfl M_300 rfl (Nat.le_of_ble_eq_true rfl) (xKd.of sh_mod) (by decide) (c_300nx2 hs hp) ?_ (Nat.le_of_ble_eq_true rfl) rfl
  refine AT.iret M_301 rfl rfl ?_
  exact ⟨rfl, rfl⟩
theorem c_301x3 {X : XS} {s : Nat} (hs : s < 7) : RT 301 [some (.ref 388), some (.int (Int32.ofNat s)), some (.int (Int32.ofNat s))] X (some (.int 0)) (xSetT X 2) := by
  refine AT.aload_n M_301 rfl rfl ?_
  refine AT.iload_n M_301 rfl rfl ?_
  refine AT.iload_n M_301 rfl rfl ?_
  refine AT.aload_n M_301 rfl rfl ?_
  refine AT.r11_0 M_301 rfl ?_
  refine AT.r10_20 M_301 rfl (show 2 ≤ 2 by omega) (show 2 < 4 by omega) ?_
  refine AT.cv4i M_301 rfl M_300 rfl (Nat.le_of_ble_eq_true rfl) (xKd.of sh_mod) (by decide) (c_300nx3 hs) ?_ (Nat.le_of_ble_eq_true rfl) rfl
  refine AT.iret M_301 rfl rfl ?_
  exact ⟨rfl, rfl⟩
theorem c_301x4 {X : XS} {s j : Nat} (hs : s < 7) (hj : j < 7) (hne : ¬ s = j) (hr : ¬ (xK X 2).1 12 s 0 = 3) : RT 301 [some (.ref 388), some (.int (Int32.ofNat s)), some (.int (Int32.ofNat j))] X (some (.int 0)) (xSetT X 3) := by
  refine AT.aload_n M_301 rfl rfl ?_
  refine AT.iload_n M_301 rfl rfl ?_
  refine AT.iload_n M_301 rfl rfl ?_
  refine AT.aload_n M_301 rfl rfl ?_
  refine AT.r11_0 M_301 rfl ?_
  refine AT.r10_20 M_301 rfl (show 2 ≤ 2 by omega) (show 2 < 4 by omega) ?_
  refine AT.cv4i M_301 rfl M_300 rfl (Nat.le_of_ble_eq_true rfl) (xKd.of sh_mod) (by decide) (c_300nx4 hs hj hne hr) ?_ (Nat.le_of_ble_eq_true rfl) rfl
  refine AT.iret M_301 rfl rfl ?_
  exact ⟨rfl, rfl⟩
theorem c_301 {X : XS} {s j : Nat} (hs : s < 7) (hj : j < 7) (hne : ¬ s = j) (hr : (xK X 2).1 12 s 0 = 3) : RT 301 [some (.ref 388), some (.int (Int32.ofNat s)), some (.int (Int32.ofNat j))] X (some (.int ((xK X 2).1 2 s j))) (xSetT X 0) := by
  refine AT.aload_n M_301 rfl rfl ?_
  refine AT.iload_n M_301 rfl rfl ?_
  refine AT.iload_n M_301 rfl rfl ?_
  refine AT.aload_n M_301 rfl rfl ?_
  refine AT.r11_0 M_301 rfl ?_
  refine AT.r10_20 M_301 rfl (show 2 ≤ 2 by omega) (show 2 < 4 by omega) ?_
  refine AT.cv4i M_301 rfl M_300 rfl (Nat.le_of_ble_eq_true rfl) (xKd.of sh_mod) (by decide) (c_300n hs hj hne hr) ?_ (Nat.le_of_ble_eq_true rfl) rfl
  refine AT.iret M_301 rfl rfl ?_
  exact ⟨rfl, rfl⟩
theorem c_300mx1 {X : XS} {p q : Int32} (hp : p < 0 ∨ ¬ p < 7) : RT 300 [some (.ref 388), some (.int p), some (.int q), some (.ref (bB 2 + 48))] X (some (.int 0)) (xSetT X 1) := by
  refine AT.aload_n M_300 rfl rfl ?_
  refine AT.iconst M_300 rfl (v := 0) (by decide) ?_
  refine AT.w11_2 M_300 rfl ?_
  refine AT.iload_n M_300 rfl rfl ?_
  refine AT.cs1i M_300 rfl M_234 rfl (Nat.le_of_ble_eq_true rfl) rfl (c_234x hp) ?_ (Nat.le_of_ble_eq_true rfl) rfl
  refine AT.if_eq M_300 rfl (fun b5 => ?_) (fun b5 => absurd rfl b5)
  refine AT.aload_n M_300 rfl rfl ?_
  refine AT.iconst M_300 rfl (v := 1) (by decide) ?_
  refine AT.cv2i M_300 rfl M_233 rfl (Nat.le_of_ble_eq_true rfl) (xKd.of sh_mod) (by decide) c_233 ?_ (Nat.le_of_ble_eq_true rfl) rfl
  refine AT.iret M_300 rfl rfl ?_
  exact ⟨rfl, rfl⟩
theorem c_300mx2 {X : XS} {s : Nat} (hs : s < 7) {q : Int32} (hp : q < 0 ∨ ¬ q < 7) : RT 300 [some (.ref 388), some (.int (Int32.ofNat s)), some (.int q), some (.ref (bB 2 + 48))] X (some (.int 0)) (xSetT X 1) := by
  refine AT.aload_n M_300 rfl rfl ?_
  refine AT.iconst M_300 rfl (v := 0) (by decide) ?_
  refine AT.w11_2 M_300 rfl ?_
  refine AT.iload_n M_300 rfl rfl ?_
  refine AT.cs1i M_300 rfl M_234 rfl (Nat.le_of_ble_eq_true rfl) rfl (c_234 hs) ?_ (Nat.le_of_ble_eq_true rfl) rfl
  refine AT.if_eq M_300 rfl (fun b5 => absurd b5 (by decide)) (fun b5 => ?_)
  refine AT.iload_n M_300 rfl rfl ?_
  refine AT.cs1i M_300 rfl M_234 rfl (Nat.le_of_ble_eq_true rfl) rfl (c_234x hp) ?_ (Nat.le_of_ble_eq_true rfl) rfl
  refine AT.if_ne M_300 rfl (fun b8 => absurd rfl b8) (fun b8 => ?_)
  refine AT.aload_n M_300 rfl rfl ?_
  refine AT.iconst M_300 rfl (v := 1) (by decide) ?_
  refine AT.cv2i M_300 rfl M_233 rfl (Nat.le_of_ble_eq_true rfl) (xKd.of sh_mod) (by decide) c_233 ?_ (Nat.le_of_ble_eq_true rfl) rfl
  refine AT.iret M_300 rfl rfl ?_
  exact ⟨rfl, rfl⟩
theorem c_300mx3 {X : XS} {s : Nat} (hs : s < 7) : RT 300 [some (.ref 388), some (.int (Int32.ofNat s)), some (.int (Int32.ofNat s)), some (.ref (bB 2 + 48))] X (some (.int 0)) (xSetT X 2) := by
  refine AT.aload_n M_300 rfl rfl ?_
  refine AT.iconst M_300 rfl (v := 0) (by decide) ?_
  refine AT.w11_2 M_300 rfl ?_
  refine AT.iload_n M_300 rfl rfl ?_
  refine AT.cs1i M_300 rfl M_234 rfl (Nat.le_of_ble_eq_true rfl) rfl (c_234 hs) ?_ (Nat.le_of_ble_eq_true rfl) rfl
  refine AT.if_eq M_300 rfl (fun b5 => absurd b5 (by decide)) (fun b5 => ?_)
  refine AT.iload_n M_300 rfl rfl ?_
  refine AT.cs1i M_300 rfl M_234 rfl (Nat.le_of_ble_eq_true rfl) rfl (c_234 hs) ?_ (Nat.le_of_ble_eq_true rfl) rfl
  refine AT.if_ne M_300 rfl (fun b8 => ?_) (fun b8 => absurd b8 (by decide))
  refine AT.iload_n M_300 rfl rfl ?_
  refine AT.iload_n M_300 rfl rfl ?_
  refine AT.icmp_ne M_300 rfl (fun b15 => absurd rfl b15) (fun b15 => ?_)
  refine AT.aload_n M_300 rfl rfl ?_
  refine AT.iconst M_300 rfl (v := 2) (by decide) ?_
  refine AT.cv2i M_300 rfl M_233 rfl (Nat.le_of_ble_eq_true rfl) (xKd.of sh_mod) (by decide) c_233 ?_ (Nat.le_of_ble_eq_true rfl) rfl
  refine AT.iret M_300 rfl rfl ?_
  exact ⟨rfl, rfl⟩
theorem c_300mx4 {X : XS} {s j : Nat} (hs : s < 7) (hj : j < 7) (hne : ¬ s = j) (hr : ¬ (xK X 2).1 12 s 0 = 3) : RT 300 [some (.ref 388), some (.int (Int32.ofNat s)), some (.int (Int32.ofNat j)), some (.ref (bB 2 + 48))] X (some (.int 0)) (xSetT X 3) := by
  refine AT.aload_n M_300 rfl rfl ?_
  refine AT.iconst M_300 rfl (v := 0) (by decide) ?_
  refine AT.w11_2 M_300 rfl ?_
  refine AT.iload_n M_300 rfl rfl ?_
  refine AT.cs1i M_300 rfl M_234 rfl (Nat.le_of_ble_eq_true rfl) rfl (c_234 hs) ?_ (Nat.le_of_ble_eq_true rfl) rfl
  refine AT.if_eq M_300 rfl (fun b5 => absurd b5 (by decide)) (fun b5 => ?_)
  refine AT.iload_n M_300 rfl rfl ?_
  refine AT.cs1i M_300 rfl M_234 rfl (Nat.le_of_ble_eq_true rfl) rfl (c_234 hj) ?_ (Nat.le_of_ble_eq_true rfl) rfl
  refine AT.if_ne M_300 rfl (fun b8 => ?_) (fun b8 => absurd b8 (by decide))
  refine AT.iload_n M_300 rfl rfl ?_
  refine AT.iload_n M_300 rfl rfl ?_
  refine AT.icmp_ne M_300 rfl (fun b15 => ?_) (fun b15 => absurd (i32_nat (by omega) (by omega) (Classical.not_not.mp b15)) hne)
  refine AT.aload_n M_300 rfl rfl ?_
  refine AT.iload_n M_300 rfl rfl ?_
  refine AT.cv2i M_300 rfl M_241 rfl (Nat.le_of_ble_eq_true rfl) (xKd.of sh_mod) (by decide) (c_241 (X := (xSetT X 0)) hs) ?_ (Nat.le_of_ble_eq_true rfl) rfl
  refine AT.if_eq M_300 rfl (fun b23 => ?_) (fun b23 => absurd (by rw [show decide ((xK (xSetT X 0) 2).1 12 s 0 = 3) = false from decide_eq_false hr]; rfl) b23)
  refine AT.aload_n M_300 rfl rfl ?_
  refine AT.iconst M_300 rfl (v := 3) (by decide) ?_
  refine AT.cv2i M_300 rfl M_233 rfl (Nat.le_of_ble_eq_true rfl) (xKd.of sh_mod) (by decide) c_233 ?_ (Nat.le_of_ble_eq_true rfl) rfl
  refine AT.iret M_300 rfl rfl ?_
  exact ⟨rfl, rfl⟩
theorem c_300m {X : XS} {s j : Nat} (hs : s < 7) (hj : j < 7) (hne : ¬ s = j) (hr : (xK X 2).1 12 s 0 = 3) : RT 300 [some (.ref 388), some (.int (Int32.ofNat s)), some (.int (Int32.ofNat j)), some (.ref (bB 2 + 48))] X (some (.int ((xK X 2).1 3 s j))) (xSetT X 0) := by
  refine AT.aload_n M_300 rfl rfl ?_
  refine AT.iconst M_300 rfl (v := 0) (by decide) ?_
  refine AT.w11_2 M_300 rfl ?_
  refine AT.iload_n M_300 rfl rfl ?_
  refine AT.cs1i M_300 rfl M_234 rfl (Nat.le_of_ble_eq_true rfl) rfl (c_234 hs) ?_ (Nat.le_of_ble_eq_true rfl) rfl
  refine AT.if_eq M_300 rfl (fun b5 => absurd b5 (by decide)) (fun b5 => ?_)
  refine AT.iload_n M_300 rfl rfl ?_
  refine AT.cs1i M_300 rfl M_234 rfl (Nat.le_of_ble_eq_true rfl) rfl (c_234 hj) ?_ (Nat.le_of_ble_eq_true rfl) rfl
  refine AT.if_ne M_300 rfl (fun b8 => ?_) (fun b8 => absurd b8 (by decide))
  refine AT.iload_n M_300 rfl rfl ?_
  refine AT.iload_n M_300 rfl rfl ?_
  refine AT.icmp_ne M_300 rfl (fun b15 => ?_) (fun b15 => absurd (i32_nat (by omega) (by omega) (Classical.not_not.mp b15)) hne)
  refine AT.aload_n M_300 rfl rfl ?_
  refine AT.iload_n M_300 rfl rfl ?_
  refine AT.cv2i M_300 rfl M_241 rfl (Nat.le_of_ble_eq_true rfl) (xKd.of sh_mod) (by decide) (c_241 (X := (xSetT X 0)) hs) ?_ (Nat.le_of_ble_eq_true rfl) rfl
  refine AT.if_eq M_300 rfl (fun b23 => absurd b23 (by rw [show decide ((xK (xSetT X 0) 2).1 12 s 0 = 3) = true from decide_eq_true hr]; decide)) (fun b23 => ?_)
  refine AT.aload_n M_300 rfl rfl ?_
  refine AT.iload_n M_300 rfl rfl ?_
  refine AT.rr_mat M_300 rfl rfl (show 2 ≤ 2 by omega) (show 2 < 4 by omega) (by assumption) ?_
  refine AT.iload_n M_300 rfl rfl ?_
  refine AT.ra_mat M_300 rfl rfl (show 2 ≤ 2 by omega) (show 2 < 4 by omega) (by assumption) (by omega) ?_
  refine AT.goto M_300 rfl ?_
  refine AT.iret M_300 rfl rfl ?_
  exact ⟨rfl, rfl⟩
theorem c_302x1 {X : XS} {p q : Int32} (hp : p < 0 ∨ ¬ p < 7) : RT 302 [some (.ref 388), some (.int p), some (.int q)] X (some (.int 0)) (xSetT X 1) := by
  refine AT.aload_n M_302 rfl rfl ?_
  refine AT.iload_n M_302 rfl rfl ?_
  refine AT.iload_n M_302 rfl rfl ?_
  refine AT.aload_n M_302 rfl rfl ?_
  refine AT.r11_0 M_302 rfl ?_
  refine AT.r10_21 M_302 rfl (show 2 ≤ 2 by omega) (show 2 < 4 by omega) ?_
  refine AT.cv4i M_302 rfl M_300 rfl (Nat.le_of_ble_eq_true rfl) (xKd.of sh_mod) (by decide) (c_300mx1 hp) ?_ (Nat.le_of_ble_eq_true rfl) rfl
  refine AT.iret M_302 rfl rfl ?_
  exact ⟨rfl, rfl⟩
theorem c_302x2 {X : XS} {s : Nat} (hs : s < 7) {q : Int32} (hp : q < 0 ∨ ¬ q < 7) : RT 302 [some (.ref 388), some (.int (Int32.ofNat s)), some (.int q)] X (some (.int 0)) (xSetT X 1) := by
  refine AT.aload_n M_302 rfl rfl ?_
  refine AT.iload_n M_302 rfl rfl ?_
  refine AT.iload_n M_302 rfl rfl ?_
  refine AT.aload_n M_302 rfl rfl ?_
  refine AT.r11_0 M_302 rfl ?_
  refine AT.r10_21 M_302 rfl (show 2 ≤ 2 by omega) (show 2 < 4 by omega) ?_
  refine AT.cv4i M_302 rfl M_300 rfl (Nat.le_of_ble_eq_true rfl) (xKd.of sh_mod) (by decide) (c_300mx2 hs hp) ?_ (Nat.le_of_ble_eq_true rfl) rfl
  refine AT.iret M_302 rfl rfl ?_
  exact ⟨rfl, rfl⟩
theorem c_302x3 {X : XS} {s : Nat} (hs : s < 7) : RT 302 [some (.ref 388), some (.int (Int32.ofNat s)), some (.int (Int32.ofNat s))] X (some (.int 0)) (xSetT X 2) := by
  refine AT.aload_n M_302 rfl rfl ?_
  refine AT.iload_n M_302 rfl rfl ?_
  refine AT.iload_n M_302 rfl rfl ?_
  refine AT.aload_n M_302 rfl rfl ?_
  refine AT.r11_0 M_302 rfl ?_
  refine AT.r10_21 M_302 rfl (show 2 ≤ 2 by omega) (show 2 < 4 by omega) ?_
  refine AT.cv4i M_302 rfl M_300 rfl (Nat.le_of_ble_eq_true rfl) (xKd.of sh_mod) (by decide) (c_300mx3 hs) ?_ (Nat.le_of_ble_eq_true rfl) rfl
  refine AT.iret M_302 rfl rfl ?_
  exact ⟨rfl, rfl⟩
theorem c_302x4 {X : XS} {s j : Nat} (hs : s < 7) (hj : j < 7) (hne : ¬ s = j) (hr : ¬ (xK X 2).1 12 s 0 = 3) : RT 302 [some (.ref 388), some (.int (Int32.ofNat s)), some (.int (Int32.ofNat j))] X (some (.int 0)) (xSetT X 3) := by
  refine AT.aload_n M_302 rfl rfl ?_
  refine AT.iload_n M_302 rfl rfl ?_
  refine AT.iload_n M_302 rfl rfl ?_
  refine AT.aload_n M_302 rfl rfl ?_
  refine AT.r11_0 M_302 rfl ?_
  refine AT.r10_21 M_302 rfl (show 2 ≤ 2 by omega) (show 2 < 4 by omega) ?_
  refine AT.cv4i M_302 rfl M_300 rfl (Nat.le_of_ble_eq_true rfl) (xKd.of sh_mod) (by decide) (c_300mx4 hs hj hne hr) ?_ (Nat.le_of_ble_eq_true rfl) rfl
  refine AT.iret M_302 rfl rfl ?_
  exact ⟨rfl, rfl⟩
theorem c_302 {X : XS} {s j : Nat} (hs : s < 7) (hj : j < 7) (hne : ¬ s = j) (hr : (xK X 2).1 12 s 0 = 3) : RT 302 [some (.ref 388), some (.int (Int32.ofNat s)), some (.int (Int32.ofNat j))] X (some (.int ((xK X 2).1 3 s j))) (xSetT X 0) := by
  refine AT.aload_n M_302 rfl rfl ?_
  refine AT.iload_n M_302 rfl rfl ?_
  refine AT.iload_n M_302 rfl rfl ?_
  refine AT.aload_n M_302 rfl rfl ?_
  refine AT.r11_0 M_302 rfl ?_
  refine AT.r10_21 M_302 rfl (show 2 ≤ 2 by omega) (show 2 < 4 by omega) ?_
  refine AT.cv4i M_302 rfl M_300 rfl (Nat.le_of_ble_eq_true rfl) (xKd.of sh_mod) (by decide) (c_300m hs hj hne hr) ?_ (Nat.le_of_ble_eq_true rfl) rfl
  refine AT.iret M_302 rfl rfl ?_
  exact ⟨rfl, rfl⟩
