/-! ===== THE TWIN: what a message tells; requests ===== -/
def sOpen (K : KK) (c : Nat) : Bool := decide (¬ K.1 34 c 3 ≤ 0) && decide (K.1 35 c 0 = 0)
theorem i32_7 (n : Nat) : Int32.ofNat n * 7 = Int32.ofNat (7 * n) := by rw [Nat.mul_comm, Int32.ofNat_mul]; rfl
def kReq7 (K : KK) (c : Nat) (r : ENT) : KK := (fun f i j => if f = 34 ∧ i = c ∧ j < 7 then r j else K.1 f i j, K.2)
theorem c_266 {X : XS} {j : Nat} {u : MSG} (hu : (xK X 2).2.2[j]? = some u) (h01 : u.1 5 = 0 ∨ u.1 5 = 1) (h9 : u.1 1 = 2 ∨ u.1 1 = 4 → u.1 9 = 0) : RT 266 [some (.ref 388), some (.int (Int32.ofNat j))] X (some (.int (sTold u))) (xSetT X 0) := by
  refine AT.rep (fun hr => ?_)
  have h60 := (hr.choose_spec.2.2.2.2.2.2.1 2 (by omega)).1
  have hj := (List.getElem?_eq_some_iff.mp hu).1
  refine AT.aload_n M_266 rfl rfl ?_
  refine AT.iload_n M_266 rfl rfl ?_
  refine AT.iconst M_266 rfl (v := 4) (by decide) ?_
  refine AT.cv3i M_266 rfl M_261 rfl (Nat.le_of_ble_eq_true rfl) (xKd.of sh_mod) (by decide) (c_261 (c := 4) hu (by omega)) ?_ (Nat.le_of_ble_eq_true rfl) rfl
  refine AT.aload_n M_266 rfl rfl ?_
  refine AT.iload_n M_266 rfl rfl ?_
  refine AT.cv2i M_266 rfl M_238 rfl (Nat.le_of_ble_eq_true rfl) (xKd.of sh_mod) (by decide) (c_238 (X := (xSetT X 0))) ?_ (Nat.le_of_ble_eq_true rfl) rfl
  rw [i32_msg (n := (xK (xSetT X 0) 2).2.2.length) hj h60]
  refine AT.if_eq M_266 rfl (fun b7 => absurd b7 (by decide)) (fun b7 => ?_)
  refine AT.aload_n M_266 rfl rfl ?_
  refine AT.r11_0 M_266 rfl ?_
  refine AT.r10_23 M_266 rfl (show 2 ≤ 2 by omega) (show 2 < 4 by omega) ?_
  refine AT.iload_n M_266 rfl rfl ?_
  refine AT.bipush M_266 rfl (v := 36) (by decide) ?_
  refine AT.imul M_266 rfl rfl ?_
  refine AT.bipush M_266 rfl (v := 7) (by decide) ?_
  refine AT.iadd M_266 rfl rfl ?_
  refine AT.ra_post (j := 36 * j + 7) M_266 rfl (by rw [i32_36, Int32.ofNat_add]; rfl) (show 2 ≤ 2 by omega) (show 2 < 4 by omega) (by omega) ?_
  rw [show dV (xD (xSetT X 0)) 2 41 0 (36 * j + 7) = mRow u 7 from hr.choose_spec.2.2.2.2.2.2.2.2.2.2.2.2.2.1 2 (by omega) (by omega) j u hu 7 (by omega)]
  refine AT.goto M_266 rfl ?_
  refine AT.iadd M_266 rfl rfl ?_
  refine AT.iret M_266 rfl rfl ?_
  rw [show mRow u 4 + mRow u 7 = sTold u from by
    show (if u.1 1 = 2 ∨ u.1 1 = 4 then u.1 5 else u.1 6) + u.1 9 = _
    unfold sTold
    by_cases e : u.1 1 = 2 ∨ u.1 1 = 4
    · rw [if_pos e, if_pos e, h9 e, Int32.add_zero]
      rcases h01 with z | z <;> rw [z] <;> decide
    · rw [if_neg e, if_neg e]]
  exact ⟨rfl, rfl⟩
theorem c_266x {X : XS} {p : Int32} (hp : p < 0 ∨ ¬ p < Int32.ofNat (xK X 2).2.2.length) : RT 266 [some (.ref 388), some (.int p)] X (some (.int 0)) (xSetT X 1) := by
  refine AT.aload_n M_266 rfl rfl ?_
  refine AT.iload_n M_266 rfl rfl ?_
  refine AT.iconst M_266 rfl (v := 4) (by decide) ?_
  refine AT.cv3i M_266 rfl M_261 rfl (Nat.le_of_ble_eq_true rfl) (xKd.of sh_mod) (by decide) (c_261x hp) ?_ (Nat.le_of_ble_eq_true rfl) rfl
  refine AT.aload_n M_266 rfl rfl ?_
  refine AT.iload_n M_266 rfl rfl ?_
  refine AT.cv2i M_266 rfl M_238 rfl (Nat.le_of_ble_eq_true rfl) (xKd.of sh_mod) (by decide) (c_238 (X := xSetT X 1)) ?_ (Nat.le_of_ble_eq_true rfl) rfl
  rw [i32_nmsg (n := (xK (xSetT X 1) 2).2.2.length) hp]
  refine AT.if_eq M_266 rfl (fun b7 => ?_) (fun b7 => absurd rfl b7)
  refine AT.iconst M_266 rfl (v := 0) (by decide) ?_
  refine AT.iadd M_266 rfl rfl ?_
  refine AT.iret M_266 rfl rfl ?_
  exact ⟨rfl, rfl⟩
theorem c_267x1 {X : XS} {p kd q ex vl : Int32} (hp : p < 0 ∨ ¬ p < 4) : RT 267 [some (.ref 388), some (.int p), some (.int kd), some (.int q), some (.int ex), some (.int vl), none, none] X (some (.int 0)) (xSetT X 1) := by
  refine AT.aload_n M_267 rfl rfl ?_
  refine AT.iconst M_267 rfl (v := 0) (by decide) ?_
  refine AT.w11_2 M_267 rfl ?_
  refine AT.iload_n M_267 rfl rfl ?_
  refine AT.cs1i M_267 rfl M_235 rfl (Nat.le_of_ble_eq_true rfl) rfl (c_235x hp) ?_ (Nat.le_of_ble_eq_true rfl) rfl
  refine AT.if_eq M_267 rfl (fun b5 => ?_) (fun b5 => absurd rfl b5)
  refine AT.aload_n M_267 rfl rfl ?_
  refine AT.iconst M_267 rfl (v := 1) (by decide) ?_
  refine AT.cv2i M_267 rfl M_233 rfl (Nat.le_of_ble_eq_true rfl) (xKd.of sh_mod) (by decide) c_233 ?_ (Nat.le_of_ble_eq_true rfl) rfl
  refine AT.iret M_267 rfl rfl ?_
  exact ⟨rfl, rfl⟩
theorem c_267x2 {X : XS} {c : Nat} {kd q ex vl : Int32} (hc : c < 4) (hp : q < 0 ∨ ¬ q < 8) : RT 267 [some (.ref 388), some (.int (Int32.ofNat c)), some (.int kd), some (.int q), some (.int ex), some (.int vl), none, none] X (some (.int 0)) (xSetT X 1) := by
  refine AT.aload_n M_267 rfl rfl ?_
  refine AT.iconst M_267 rfl (v := 0) (by decide) ?_
  refine AT.w11_2 M_267 rfl ?_
  refine AT.iload_n M_267 rfl rfl ?_
  refine AT.cs1i M_267 rfl M_235 rfl (Nat.le_of_ble_eq_true rfl) rfl (c_235 hc) ?_ (Nat.le_of_ble_eq_true rfl) rfl
  refine AT.if_eq M_267 rfl (fun b5 => absurd b5 (by decide)) (fun b5 => ?_)
  refine AT.iload_n M_267 rfl rfl ?_
  refine AT.cs1i M_267 rfl M_236 rfl (Nat.le_of_ble_eq_true rfl) rfl (c_236x hp) ?_ (Nat.le_of_ble_eq_true rfl) rfl
  refine AT.if_ne M_267 rfl (fun b8 => absurd rfl b8) (fun b8 => ?_)
  refine AT.aload_n M_267 rfl rfl ?_
  refine AT.iconst M_267 rfl (v := 1) (by decide) ?_
  refine AT.cv2i M_267 rfl M_233 rfl (Nat.le_of_ble_eq_true rfl) (xKd.of sh_mod) (by decide) c_233 ?_ (Nat.le_of_ble_eq_true rfl) rfl
  refine AT.iret M_267 rfl rfl ?_
  exact ⟨rfl, rfl⟩
theorem c_267x3 {X : XS} {c k : Nat} {kd ex vl : Int32} (hc : c < 4) (hk : k < 8) (hv : ¬ ((-9999 : Int32) ≤ vl ∧ vl ≤ 9999)) : RT 267 [some (.ref 388), some (.int (Int32.ofNat c)), some (.int kd), some (.int (Int32.ofNat k)), some (.int ex), some (.int vl), none, none] X (some (.int 0)) (xSetT X 2) := by
  refine AT.aload_n M_267 rfl rfl ?_
  refine AT.iconst M_267 rfl (v := 0) (by decide) ?_
  refine AT.w11_2 M_267 rfl ?_
  refine AT.iload_n M_267 rfl rfl ?_
  refine AT.cs1i M_267 rfl M_235 rfl (Nat.le_of_ble_eq_true rfl) rfl (c_235 hc) ?_ (Nat.le_of_ble_eq_true rfl) rfl
  refine AT.if_eq M_267 rfl (fun b5 => absurd b5 (by decide)) (fun b5 => ?_)
  refine AT.iload_n M_267 rfl rfl ?_
  refine AT.cs1i M_267 rfl M_236 rfl (Nat.le_of_ble_eq_true rfl) rfl (c_236 hk) ?_ (Nat.le_of_ble_eq_true rfl) rfl
  refine AT.if_ne M_267 rfl (fun b8 => ?_) (fun b8 => absurd b8 (by decide))
  refine AT.iload M_267 rfl rfl ?_
  refine AT.cs1i M_267 rfl M_237 rfl (Nat.le_of_ble_eq_true rfl) rfl c_237 ?_ (Nat.le_of_ble_eq_true rfl) rfl
  refine AT.if_eq M_267 rfl (fun b15 => ?_) (fun b15 => absurd (by rw [decide_eq_false hv]; rfl) b15)
  refine AT.aload_n M_267 rfl rfl ?_
  refine AT.iconst M_267 rfl (v := 2) (by decide) ?_
  refine AT.cv2i M_267 rfl M_233 rfl (Nat.le_of_ble_eq_true rfl) (xKd.of sh_mod) (by decide) c_233 ?_ (Nat.le_of_ble_eq_true rfl) rfl
  refine AT.iret M_267 rfl rfl ?_
  exact ⟨rfl, rfl⟩
theorem c_267x4 {X : XS} {c k : Nat} {kd ex vl : Int32} (hc : c < 4) (hk : k < 8) (hv : (-9999 : Int32) ≤ vl ∧ vl ≤ 9999) (hx : ¬ ((-9999 : Int32) ≤ ex ∧ ex ≤ 9999)) : RT 267 [some (.ref 388), some (.int (Int32.ofNat c)), some (.int kd), some (.int (Int32.ofNat k)), some (.int ex), some (.int vl), none, none] X (some (.int 0)) (xSetT X 2) := by
  refine AT.aload_n M_267 rfl rfl ?_
  refine AT.iconst M_267 rfl (v := 0) (by decide) ?_
  refine AT.w11_2 M_267 rfl ?_
  refine AT.iload_n M_267 rfl rfl ?_
  refine AT.cs1i M_267 rfl M_235 rfl (Nat.le_of_ble_eq_true rfl) rfl (c_235 hc) ?_ (Nat.le_of_ble_eq_true rfl) rfl
  refine AT.if_eq M_267 rfl (fun b5 => absurd b5 (by decide)) (fun b5 => ?_)
  refine AT.iload_n M_267 rfl rfl ?_
  refine AT.cs1i M_267 rfl M_236 rfl (Nat.le_of_ble_eq_true rfl) rfl (c_236 hk) ?_ (Nat.le_of_ble_eq_true rfl) rfl
  refine AT.if_ne M_267 rfl (fun b8 => ?_) (fun b8 => absurd b8 (by decide))
  refine AT.iload M_267 rfl rfl ?_
  refine AT.cs1i M_267 rfl M_237 rfl (Nat.le_of_ble_eq_true rfl) rfl c_237 ?_ (Nat.le_of_ble_eq_true rfl) rfl
  refine AT.if_eq M_267 rfl (fun b15 => absurd b15 (by rw [decide_eq_true hv]; decide)) (fun b15 => ?_)
  refine AT.iload M_267 rfl rfl ?_
  refine AT.cs1i M_267 rfl M_237 rfl (Nat.le_of_ble_eq_true rfl) rfl c_237 ?_ (Nat.le_of_ble_eq_true rfl) rfl
  refine AT.if_ne M_267 rfl (fun b18 => absurd (by rw [decide_eq_false hx]; rfl) b18) (fun b18 => ?_)
  refine AT.aload_n M_267 rfl rfl ?_
  refine AT.iconst M_267 rfl (v := 2) (by decide) ?_
  refine AT.cv2i M_267 rfl M_233 rfl (Nat.le_of_ble_eq_true rfl) (xKd.of sh_mod) (by decide) c_233 ?_ (Nat.le_of_ble_eq_true rfl) rfl
  refine AT.iret M_267 rfl rfl ?_
  exact ⟨rfl, rfl⟩
theorem c_267x5 {X : XS} {c k : Nat} {kd ex vl : Int32} (hc : c < 4) (hk : k < 8) (hv : (-9999 : Int32) ≤ vl ∧ vl ≤ 9999) (hx : (-9999 : Int32) ≤ ex ∧ ex ≤ 9999) (hw : ¬ (xK X 2).1 34 c 3 ≤ 0 ∧ (xK X 2).1 35 c 0 = 0) : RT 267 [some (.ref 388), some (.int (Int32.ofNat c)), some (.int kd), some (.int (Int32.ofNat k)), some (.int ex), some (.int vl), none, none] X (some (.int 0)) (xSetT X 3) := by
  refine AT.aload_n M_267 rfl rfl ?_
  refine AT.iconst M_267 rfl (v := 0) (by decide) ?_
  refine AT.w11_2 M_267 rfl ?_
  refine AT.iload_n M_267 rfl rfl ?_
  refine AT.cs1i M_267 rfl M_235 rfl (Nat.le_of_ble_eq_true rfl) rfl (c_235 hc) ?_ (Nat.le_of_ble_eq_true rfl) rfl
  refine AT.if_eq M_267 rfl (fun b5 => absurd b5 (by decide)) (fun b5 => ?_)
  refine AT.iload_n M_267 rfl rfl ?_
  refine AT.cs1i M_267 rfl M_236 rfl (Nat.le_of_ble_eq_true rfl) rfl (c_236 hk) ?_ (Nat.le_of_ble_eq_true rfl) rfl
  refine AT.if_ne M_267 rfl (fun b8 => ?_) (fun b8 => absurd b8 (by decide))
  refine AT.iload M_267 rfl rfl ?_
  refine AT.cs1i M_267 rfl M_237 rfl (Nat.le_of_ble_eq_true rfl) rfl c_237 ?_ (Nat.le_of_ble_eq_true rfl) rfl
  refine AT.if_eq M_267 rfl (fun b15 => absurd b15 (by rw [decide_eq_true hv]; decide)) (fun b15 => ?_)
  refine AT.iload M_267 rfl rfl ?_
  refine AT.cs1i M_267 rfl M_237 rfl (Nat.le_of_ble_eq_true rfl) rfl c_237 ?_ (Nat.le_of_ble_eq_true rfl) rfl
  refine AT.if_ne M_267 rfl (fun b18 => ?_) (fun b18 => absurd (Classical.not_not.mp b18) (by rw [decide_eq_true hx]; decide))
  refine AT.iload_n M_267 rfl rfl ?_
  refine AT.bipush M_267 rfl (v := 7) (by decide) ?_
  refine AT.imul M_267 rfl rfl ?_
  refine AT.ist6 M_267 rfl rfl ?_
  refine AT.aload_n M_267 rfl rfl ?_
  refine AT.r11_0 M_267 rfl ?_
  refine AT.r10_25 M_267 rfl (show 2 ≤ 2 by omega) (show 2 < 4 by omega) ?_
  refine AT.iload M_267 rfl rfl ?_
  refine AT.iconst M_267 rfl (v := 3) (by decide) ?_
  refine AT.iadd M_267 rfl rfl ?_
  refine AT.ra_req M_267 rfl (c := c) (j := 3) hc (by omega) (by rw [i32_7, Int32.ofNat_add]; rfl) (show 2 ≤ 2 by omega) (show 2 < 4 by omega) ?_
  refine AT.if_le M_267 rfl (fun b34 => absurd b34 hw.1) (fun b34 => ?_)
  refine AT.aload_n M_267 rfl rfl ?_
  refine AT.r11_0 M_267 rfl ?_
  refine AT.r10_26 M_267 rfl (show 2 ≤ 2 by omega) (show 2 < 4 by omega) ?_
  refine AT.iload_n M_267 rfl rfl ?_
  refine AT.ra_35 M_267 rfl rfl (show 2 ≤ 2 by omega) (show 2 < 4 by omega) hc ?_
  refine AT.if_ne M_267 rfl (fun b40 => absurd hw.2 b40) (fun b40 => ?_)
  refine AT.aload_n M_267 rfl rfl ?_
  refine AT.iconst M_267 rfl (v := 3) (by decide) ?_
  refine AT.cv2i M_267 rfl M_233 rfl (Nat.le_of_ble_eq_true rfl) (xKd.of sh_mod) (by decide) c_233 ?_ (Nat.le_of_ble_eq_true rfl) rfl
  refine AT.iret M_267 rfl rfl ?_
  exact ⟨rfl, rfl⟩
theorem kAgr_ask {K : KK} {c k : Nat} {kd ex vl : Int32} : kAgr (kSet (kReq7 K c (fun i => if i = 6 then ex else if i = 5 then vl else if i = 4 then (Int32.ofNat k) else if i = 3 then (K.1 34 c 3 + 1) else if i = 2 then (Int32.ofNat c) else if i = 1 then kd else if i = 0 then 0 else 0)) 35 c 0 0) (kAsk K c kd (Int32.ofNat k) ex vl) := by
  refine ⟨fun f i j h => ?_, fun _ _ => rfl, rfl⟩
  show (if f = 35 ∧ i = c ∧ j = 0 then (0 : Int32) else if f = 34 ∧ i = c then rAsk (Int32.ofNat c) (K.1 34 c 3 + 1) kd (Int32.ofNat k) ex vl j else K.1 f i j) = if f = 35 ∧ i = c ∧ j = 0 then (0 : Int32) else if f = 34 ∧ i = c ∧ j < 7 then _ else K.1 f i j
  by_cases e : f = 35 ∧ i = c ∧ j = 0
  · rw [if_pos e, if_pos e]
  · rw [if_neg e, if_neg e]
    by_cases e2 : f = 34 ∧ i = c
    · have hj : j < 7 := by unfold kRl at h; omega
      rw [if_pos e2, if_pos ⟨e2.1, e2.2, hj⟩]
      unfold rAsk
      rcases (by omega : j = 0 ∨ j = 1 ∨ j = 2 ∨ j = 3 ∨ j = 4 ∨ j = 5 ∨ j = 6) with rfl | rfl | rfl | rfl | rfl | rfl | rfl <;> rfl
    · rw [if_neg e2, if_neg (fun z => e2 ⟨z.1, z.2.1⟩)]
theorem c_267a {X : XS} {c k : Nat} {kd ex vl : Int32} (hc : c < 4) (hk : k < 8) {m : Nat} (hap : aPr X 2) (hv : (-9999 : Int32) ≤ vl ∧ vl ≤ 9999) (hx : (-9999 : Int32) ≤ ex ∧ ex ≤ 9999) (hw : (xK X 2).1 34 c 3 ≤ 0) : RU 267 [some (.ref 388), some (.int (Int32.ofNat c)), some (.int kd), some (.int (Int32.ofNat k)), some (.int ex), some (.int vl), none, none] X (some (.int ((xK X 2).1 34 c 3 + 1))) (fun Z => rRel0 2 m 1 7 (xSetT X 0) Z (kAsk (xK X 2) c kd (Int32.ofNat k) ex vl) ∧ aPr Z 2) := by
  refine AT.aload_n M_267 rfl rfl ?_
  refine AT.iconst M_267 rfl (v := 0) (by decide) ?_
  refine AT.w11_2 M_267 rfl ?_
  refine AT.iload_n M_267 rfl rfl ?_
  refine AT.cs1i M_267 rfl M_235 rfl (Nat.le_of_ble_eq_true rfl) rfl (c_235 hc) ?_ (Nat.le_of_ble_eq_true rfl) rfl
  refine AT.if_eq M_267 rfl (fun b5 => absurd b5 (by decide)) (fun b5 => ?_)
  refine AT.iload_n M_267 rfl rfl ?_
  refine AT.cs1i M_267 rfl M_236 rfl (Nat.le_of_ble_eq_true rfl) rfl (c_236 hk) ?_ (Nat.le_of_ble_eq_true rfl) rfl
  refine AT.if_ne M_267 rfl (fun b8 => ?_) (fun b8 => absurd b8 (by decide))
  refine AT.iload M_267 rfl rfl ?_
  refine AT.cs1i M_267 rfl M_237 rfl (Nat.le_of_ble_eq_true rfl) rfl c_237 ?_ (Nat.le_of_ble_eq_true rfl) rfl
  refine AT.if_eq M_267 rfl (fun b15 => absurd b15 (by rw [decide_eq_true hv]; decide)) (fun b15 => ?_)
  refine AT.iload M_267 rfl rfl ?_
  refine AT.cs1i M_267 rfl M_237 rfl (Nat.le_of_ble_eq_true rfl) rfl c_237 ?_ (Nat.le_of_ble_eq_true rfl) rfl
  refine AT.if_ne M_267 rfl (fun b18 => ?_) (fun b18 => absurd (Classical.not_not.mp b18) (by rw [decide_eq_true hx]; decide))
  refine AT.iload_n M_267 rfl rfl ?_
  refine AT.bipush M_267 rfl (v := 7) (by decide) ?_
  refine AT.imul M_267 rfl rfl ?_
  refine AT.ist6 M_267 rfl rfl ?_
  refine AT.aload_n M_267 rfl rfl ?_
  refine AT.r11_0 M_267 rfl ?_
  refine AT.r10_25 M_267 rfl (show 2 ≤ 2 by omega) (show 2 < 4 by omega) ?_
  refine AT.iload M_267 rfl rfl ?_
  refine AT.iconst M_267 rfl (v := 3) (by decide) ?_
  refine AT.iadd M_267 rfl rfl ?_
  refine AT.ra_req M_267 rfl (c := c) (j := 3) hc (by omega) (by rw [i32_7, Int32.ofNat_add]; rfl) (show 2 ≤ 2 by omega) (show 2 < 4 by omega) ?_
  refine AT.if_le M_267 rfl (fun b34 => ?_) (fun b34 => absurd hw b34)
  refine AT.bipush M_267 rfl (v := 7) (by decide) ?_
  refine AT.newe M_267 rfl (n := 7) rfl (by omega) (fun h5 => ?_)
  refine AT.dup M_267 rfl ?_
  refine AT.iconst M_267 rfl (v := 0) (by decide) ?_
  refine AT.iconst M_267 rfl (v := 0) (by decide) ?_
  refine AT.rs_ne M_267 rfl (j := 0) rfl h5 (by omega) (by omega) ?_
  refine AT.dup M_267 rfl ?_
  refine AT.iconst M_267 rfl (v := 1) (by decide) ?_
  refine AT.iload_n M_267 rfl rfl ?_
  refine AT.rs_ne M_267 rfl (j := 1) rfl h5 (by omega) (by omega) ?_
  refine AT.dup M_267 rfl ?_
  refine AT.iconst M_267 rfl (v := 2) (by decide) ?_
  refine AT.iload_n M_267 rfl rfl ?_
  refine AT.rs_ne M_267 rfl (j := 2) rfl h5 (by omega) (by omega) ?_
  refine AT.dup M_267 rfl ?_
  refine AT.iconst M_267 rfl (v := 3) (by decide) ?_
  refine AT.aload_n M_267 rfl rfl ?_
  refine AT.r11_0 M_267 rfl ?_
  refine AT.r10_25 M_267 rfl (show 2 ≤ 2 by omega) (show 2 < 4 by omega) ?_
  refine AT.iload M_267 rfl rfl ?_
  refine AT.iconst M_267 rfl (v := 3) (by decide) ?_
  refine AT.iadd M_267 rfl rfl ?_
  refine AT.ra_req M_267 rfl (c := c) (j := 3) hc (by omega) (by rw [i32_7, Int32.ofNat_add]; rfl) (show 2 ≤ 2 by omega) (show 2 < 4 by omega) ?_
  change AT 267 _ _ (.int ((xK X 2).1 34 c 3) :: _) _ _
  refine AT.iconst M_267 rfl (v := 1) (by decide) ?_
  refine AT.iadd M_267 rfl rfl ?_
  refine AT.rs_ne M_267 rfl (j := 3) rfl h5 (by omega) (by omega) ?_
  refine AT.dup M_267 rfl ?_
  refine AT.iconst M_267 rfl (v := 4) (by decide) ?_
  refine AT.iload_n M_267 rfl rfl ?_
  refine AT.rs_ne M_267 rfl (j := 4) rfl h5 (by omega) (by omega) ?_
  refine AT.dup M_267 rfl ?_
  refine AT.iconst M_267 rfl (v := 5) (by decide) ?_
  refine AT.iload M_267 rfl rfl ?_
  refine AT.rs_ne M_267 rfl (j := 5) rfl h5 (by omega) (by omega) ?_
  refine AT.dup M_267 rfl ?_
  refine AT.bipush M_267 rfl (v := 6) (by decide) ?_
  refine AT.iload M_267 rfl rfl ?_
  refine AT.rs_ne M_267 rfl (j := 6) rfl h5 (by omega) (by omega) ?_
  refine AT.ast7 M_267 rfl rfl ?_
  refine AT.aload M_267 rfl rfl ?_
  refine AT.iconst M_267 rfl (v := 0) (by decide) ?_
  refine AT.aload_n M_267 rfl rfl ?_
  refine AT.r11_0 M_267 rfl ?_
  refine AT.r10_25 M_267 rfl (show 2 ≤ 2 by omega) (show 2 < 4 by omega) ?_
  refine AT.iload M_267 rfl rfl ?_
  refine AT.bipush M_267 rfl (v := 7) (by decide) ?_
  refine AT.acp M_267 rfl rfl (Nat.le_of_ble_eq_true rfl) (n := 7) (p := 0) (q := 7 * c) (kd := 12) rfl rfl (i32_7 c) ⟨by omega, by omega, by omega⟩ (Or.inl rfl) (src.fr (xNewE_E (xSetT X 0) 7 (fun i => if i = 6 then ex else if i = 5 then vl else if i = 4 then (Int32.ofNat k) else if i = 3 then ((xK X 2).1 34 c 3 + 1) else if i = 2 then (Int32.ofNat c) else if i = 1 then kd else if i = 0 then 0 else 0)) (by omega) (fun q hq => by rw [Nat.zero_add]))
    (dst.num (K' := (kReq7 (xK X 2) c (fun i => if i = 6 then ex else if i = 5 then vl else if i = 4 then (Int32.ofNat k) else if i = 3 then ((xK X 2).1 34 c 3 + 1) else if i = 2 then (Int32.ofNat c) else if i = 1 then kd else if i = 0 then 0 else 0))) (f := 34) (fi := fun _ => c) (fj := fun q => q) (sh_req (show 2 ≤ 2 by omega) (show 2 < 4 by omega)) (by omega) (by omega) (fun q hq => lo_req (show 2 ≤ 2 by omega) (show 2 < 4 by omega) hc hq) rfl (fun z => by omega) (fun z => by omega) rfl (fun q hq => if_pos ⟨rfl, rfl, hq⟩) (fun f' i' j' hne => if_neg (fun z => hne j' z.2.2 ⟨z.1, z.2.1, rfl⟩))) ?_
  refine AT.aload_n M_267 rfl rfl ?_
  refine AT.r11_0 M_267 rfl ?_
  refine AT.r10_26 M_267 rfl (show 2 ≤ 2 by omega) (show 2 < 4 by omega) ?_
  refine AT.iload_n M_267 rfl rfl ?_
  refine AT.iconst M_267 rfl (v := 0) (by decide) ?_
  refine AT.rs_35 M_267 rfl (by first | exact Or.inl rfl | exact Or.inr rfl | assumption) rfl (show 2 ≤ 2 by omega) (show 2 < 4 by omega) hc ?_
  try simp only [xK_same, xSetK_idem, xD_setK]
  refine AT.agr (o := 2) (K := (kAsk (xK X 2) c kd (Int32.ofNat k) ex vl)) ?_ ?_
  · rw [xK_same]
    exact kAgr_ask
  try simp only [xK_same, xSetK_idem, xD_setK]
  refine AT.aload M_267 rfl rfl ?_
  refine AT.iconst M_267 rfl (v := 3) (by decide) ?_
  refine AT.ra_fr M_267 rfl (j := 3) rfl (xNewE_E (xSetT X 0) 7 (fun i => if i = 6 then ex else if i = 5 then vl else if i = 4 then (Int32.ofNat k) else if i = 3 then ((xK X 2).1 34 c 3 + 1) else if i = 2 then (Int32.ofNat c) else if i = 1 then kd else if i = 0 then 0 else 0)) (by omega) (by omega) ?_
  change AT 267 _ _ (.int ((xK X 2).1 34 c 3 + 1) :: _) _ _
  refine AT.iret M_267 rfl rfl ?_
  refine ⟨rfl, (rRel0.new 2 m 7 (xSetT X 0) (fun i => if i = 6 then ex else if i = 5 then vl else if i = 4 then (Int32.ofNat k) else if i = 3 then ((xK X 2).1 34 c 3 + 1) else if i = 2 then (Int32.ofNat c) else if i = 1 then kd else if i = 0 then 0 else 0)).net _, fun i hi => ?_⟩
  rw [xK_same]
  refine (hap i hi).trans ?_
  show _ = (kSet (kRow (xK X 2) 34 c _) 35 c 0 0).1 15 i 0
  rw [kSet_ne (by omega)]
  rfl
theorem c_267b {X : XS} {c k : Nat} {kd ex vl : Int32} (hc : c < 4) (hk : k < 8) {m : Nat} (hap : aPr X 2) (hv : (-9999 : Int32) ≤ vl ∧ vl ≤ 9999) (hx : (-9999 : Int32) ≤ ex ∧ ex ≤ 9999) (hw : ¬ (xK X 2).1 34 c 3 ≤ 0) (h35 : ¬ (xK X 2).1 35 c 0 = 0) : RU 267 [some (.ref 388), some (.int (Int32.ofNat c)), some (.int kd), some (.int (Int32.ofNat k)), some (.int ex), some (.int vl), none, none] X (some (.int ((xK X 2).1 34 c 3 + 1))) (fun Z => rRel0 2 m 1 7 (xSetT X 0) Z (kAsk (xK X 2) c kd (Int32.ofNat k) ex vl) ∧ aPr Z 2) := by
  refine AT.aload_n M_267 rfl rfl ?_
  refine AT.iconst M_267 rfl (v := 0) (by decide) ?_
  refine AT.w11_2 M_267 rfl ?_
  refine AT.iload_n M_267 rfl rfl ?_
  refine AT.cs1i M_267 rfl M_235 rfl (Nat.le_of_ble_eq_true rfl) rfl (c_235 hc) ?_ (Nat.le_of_ble_eq_true rfl) rfl
  refine AT.if_eq M_267 rfl (fun b5 => absurd b5 (by decide)) (fun b5 => ?_)
  refine AT.iload_n M_267 rfl rfl ?_
  refine AT.cs1i M_267 rfl M_236 rfl (Nat.le_of_ble_eq_true rfl) rfl (c_236 hk) ?_ (Nat.le_of_ble_eq_true rfl) rfl
  refine AT.if_ne M_267 rfl (fun b8 => ?_) (fun b8 => absurd b8 (by decide))
  refine AT.iload M_267 rfl rfl ?_
  refine AT.cs1i M_267 rfl M_237 rfl (Nat.le_of_ble_eq_true rfl) rfl c_237 ?_ (Nat.le_of_ble_eq_true rfl) rfl
  refine AT.if_eq M_267 rfl (fun b15 => absurd b15 (by rw [decide_eq_true hv]; decide)) (fun b15 => ?_)
  refine AT.iload M_267 rfl rfl ?_
  refine AT.cs1i M_267 rfl M_237 rfl (Nat.le_of_ble_eq_true rfl) rfl c_237 ?_ (Nat.le_of_ble_eq_true rfl) rfl
  refine AT.if_ne M_267 rfl (fun b18 => ?_) (fun b18 => absurd (Classical.not_not.mp b18) (by rw [decide_eq_true hx]; decide))
  refine AT.iload_n M_267 rfl rfl ?_
  refine AT.bipush M_267 rfl (v := 7) (by decide) ?_
  refine AT.imul M_267 rfl rfl ?_
  refine AT.ist6 M_267 rfl rfl ?_
  refine AT.aload_n M_267 rfl rfl ?_
  refine AT.r11_0 M_267 rfl ?_
  refine AT.r10_25 M_267 rfl (show 2 ≤ 2 by omega) (show 2 < 4 by omega) ?_
  refine AT.iload M_267 rfl rfl ?_
  refine AT.iconst M_267 rfl (v := 3) (by decide) ?_
  refine AT.iadd M_267 rfl rfl ?_
  refine AT.ra_req M_267 rfl (c := c) (j := 3) hc (by omega) (by rw [i32_7, Int32.ofNat_add]; rfl) (show 2 ≤ 2 by omega) (show 2 < 4 by omega) ?_
  refine AT.if_le M_267 rfl (fun b34 => absurd b34 hw) (fun b34 => ?_)
  refine AT.aload_n M_267 rfl rfl ?_
  refine AT.r11_0 M_267 rfl ?_
  refine AT.r10_26 M_267 rfl (show 2 ≤ 2 by omega) (show 2 < 4 by omega) ?_
  refine AT.iload_n M_267 rfl rfl ?_
  refine AT.ra_35 M_267 rfl rfl (show 2 ≤ 2 by omega) (show 2 < 4 by omega) hc ?_
  refine AT.if_ne M_267 rfl (fun b40 => ?_) (fun b40 => absurd h35 b40)
  refine AT.bipush M_267 rfl (v := 7) (by decide) ?_
  refine AT.newe M_267 rfl (n := 7) rfl (by omega) (fun h5 => ?_)
  refine AT.dup M_267 rfl ?_
  refine AT.iconst M_267 rfl (v := 0) (by decide) ?_
  refine AT.iconst M_267 rfl (v := 0) (by decide) ?_
  refine AT.rs_ne M_267 rfl (j := 0) rfl h5 (by omega) (by omega) ?_
  refine AT.dup M_267 rfl ?_
  refine AT.iconst M_267 rfl (v := 1) (by decide) ?_
  refine AT.iload_n M_267 rfl rfl ?_
  refine AT.rs_ne M_267 rfl (j := 1) rfl h5 (by omega) (by omega) ?_
  refine AT.dup M_267 rfl ?_
  refine AT.iconst M_267 rfl (v := 2) (by decide) ?_
  refine AT.iload_n M_267 rfl rfl ?_
  refine AT.rs_ne M_267 rfl (j := 2) rfl h5 (by omega) (by omega) ?_
  refine AT.dup M_267 rfl ?_
  refine AT.iconst M_267 rfl (v := 3) (by decide) ?_
  refine AT.aload_n M_267 rfl rfl ?_
  refine AT.r11_0 M_267 rfl ?_
  refine AT.r10_25 M_267 rfl (show 2 ≤ 2 by omega) (show 2 < 4 by omega) ?_
  refine AT.iload M_267 rfl rfl ?_
  refine AT.iconst M_267 rfl (v := 3) (by decide) ?_
  refine AT.iadd M_267 rfl rfl ?_
  refine AT.ra_req M_267 rfl (c := c) (j := 3) hc (by omega) (by rw [i32_7, Int32.ofNat_add]; rfl) (show 2 ≤ 2 by omega) (show 2 < 4 by omega) ?_
  change AT 267 _ _ (.int ((xK X 2).1 34 c 3) :: _) _ _
  refine AT.iconst M_267 rfl (v := 1) (by decide) ?_
  refine AT.iadd M_267 rfl rfl ?_
  refine AT.rs_ne M_267 rfl (j := 3) rfl h5 (by omega) (by omega) ?_
  refine AT.dup M_267 rfl ?_
  refine AT.iconst M_267 rfl (v := 4) (by decide) ?_
  refine AT.iload_n M_267 rfl rfl ?_
  refine AT.rs_ne M_267 rfl (j := 4) rfl h5 (by omega) (by omega) ?_
  refine AT.dup M_267 rfl ?_
  refine AT.iconst M_267 rfl (v := 5) (by decide) ?_
  refine AT.iload M_267 rfl rfl ?_
  refine AT.rs_ne M_267 rfl (j := 5) rfl h5 (by omega) (by omega) ?_
  refine AT.dup M_267 rfl ?_
  refine AT.bipush M_267 rfl (v := 6) (by decide) ?_
  refine AT.iload M_267 rfl rfl ?_
  refine AT.rs_ne M_267 rfl (j := 6) rfl h5 (by omega) (by omega) ?_
  refine AT.ast7 M_267 rfl rfl ?_
  refine AT.aload M_267 rfl rfl ?_
  refine AT.iconst M_267 rfl (v := 0) (by decide) ?_
  refine AT.aload_n M_267 rfl rfl ?_
  refine AT.r11_0 M_267 rfl ?_
  refine AT.r10_25 M_267 rfl (show 2 ≤ 2 by omega) (show 2 < 4 by omega) ?_
  refine AT.iload M_267 rfl rfl ?_
  refine AT.bipush M_267 rfl (v := 7) (by decide) ?_
  refine AT.acp M_267 rfl rfl (Nat.le_of_ble_eq_true rfl) (n := 7) (p := 0) (q := 7 * c) (kd := 12) rfl rfl (i32_7 c) ⟨by omega, by omega, by omega⟩ (Or.inl rfl) (src.fr (xNewE_E (xSetT X 0) 7 (fun i => if i = 6 then ex else if i = 5 then vl else if i = 4 then (Int32.ofNat k) else if i = 3 then ((xK X 2).1 34 c 3 + 1) else if i = 2 then (Int32.ofNat c) else if i = 1 then kd else if i = 0 then 0 else 0)) (by omega) (fun q hq => by rw [Nat.zero_add]))
    (dst.num (K' := (kReq7 (xK X 2) c (fun i => if i = 6 then ex else if i = 5 then vl else if i = 4 then (Int32.ofNat k) else if i = 3 then ((xK X 2).1 34 c 3 + 1) else if i = 2 then (Int32.ofNat c) else if i = 1 then kd else if i = 0 then 0 else 0))) (f := 34) (fi := fun _ => c) (fj := fun q => q) (sh_req (show 2 ≤ 2 by omega) (show 2 < 4 by omega)) (by omega) (by omega) (fun q hq => lo_req (show 2 ≤ 2 by omega) (show 2 < 4 by omega) hc hq) rfl (fun z => by omega) (fun z => by omega) rfl (fun q hq => if_pos ⟨rfl, rfl, hq⟩) (fun f' i' j' hne => if_neg (fun z => hne j' z.2.2 ⟨z.1, z.2.1, rfl⟩))) ?_
  refine AT.aload_n M_267 rfl rfl ?_
  refine AT.r11_0 M_267 rfl ?_
  refine AT.r10_26 M_267 rfl (show 2 ≤ 2 by omega) (show 2 < 4 by omega) ?_
  refine AT.iload_n M_267 rfl rfl ?_
  refine AT.iconst M_267 rfl (v := 0) (by decide) ?_
  refine AT.rs_35 M_267 rfl (by first | exact Or.inl rfl | exact Or.inr rfl | assumption) rfl (show 2 ≤ 2 by omega) (show 2 < 4 by omega) hc ?_
  try simp only [xK_same, xSetK_idem, xD_setK]
  refine AT.agr (o := 2) (K := (kAsk (xK X 2) c kd (Int32.ofNat k) ex vl)) ?_ ?_
  · rw [xK_same]
    exact kAgr_ask
  try simp only [xK_same, xSetK_idem, xD_setK]
  refine AT.aload M_267 rfl rfl ?_
  refine AT.iconst M_267 rfl (v := 3) (by decide) ?_
  refine AT.ra_fr M_267 rfl (j := 3) rfl (xNewE_E (xSetT X 0) 7 (fun i => if i = 6 then ex else if i = 5 then vl else if i = 4 then (Int32.ofNat k) else if i = 3 then ((xK X 2).1 34 c 3 + 1) else if i = 2 then (Int32.ofNat c) else if i = 1 then kd else if i = 0 then 0 else 0)) (by omega) (by omega) ?_
  change AT 267 _ _ (.int ((xK X 2).1 34 c 3 + 1) :: _) _ _
  refine AT.iret M_267 rfl rfl ?_
  refine ⟨rfl, (rRel0.new 2 m 7 (xSetT X 0) (fun i => if i = 6 then ex else if i = 5 then vl else if i = 4 then (Int32.ofNat k) else if i = 3 then ((xK X 2).1 34 c 3 + 1) else if i = 2 then (Int32.ofNat c) else if i = 1 then kd else if i = 0 then 0 else 0)).net _, fun i hi => ?_⟩
  rw [xK_same]
  refine (hap i hi).trans ?_
  show _ = (kSet (kRow (xK X 2) 34 c _) 35 c 0 0).1 15 i 0
  rw [kSet_ne (by omega)]
  rfl
theorem c_267 {X : XS} {c k : Nat} {kd ex vl : Int32} (hc : c < 4) (hk : k < 8) {m : Nat} (hap : aPr X 2) (hv : (-9999 : Int32) ≤ vl ∧ vl ≤ 9999) (hx : (-9999 : Int32) ≤ ex ∧ ex ≤ 9999) (hw : (xK X 2).1 34 c 3 ≤ 0 ∨ ¬ (xK X 2).1 35 c 0 = 0) : RU 267 [some (.ref 388), some (.int (Int32.ofNat c)), some (.int kd), some (.int (Int32.ofNat k)), some (.int ex), some (.int vl), none, none] X (some (.int ((xK X 2).1 34 c 3 + 1))) (fun Z => rRel0 2 m 1 7 (xSetT X 0) Z (kAsk (xK X 2) c kd (Int32.ofNat k) ex vl) ∧ aPr Z 2) := by
  by_cases h : (xK X 2).1 34 c 3 ≤ 0
  · exact c_267a hc hk hap hv hx h
  · exact c_267b hc hk hap hv hx h (hw.resolve_left h)
theorem c_268x1 {X : XS} {p q : Int32} {vl : Int32} (hp : p < 0 ∨ ¬ p < 4) : RT 268 [some (.ref 388), some (.int p), some (.int q), some (.int vl)] X (some (.int 0)) (xSetT X 1) := by
  refine AT.aload_n M_268 rfl rfl ?_
  refine AT.iload_n M_268 rfl rfl ?_
  refine AT.iconst M_268 rfl (v := 1) (by decide) ?_
  refine AT.iload_n M_268 rfl rfl ?_
  refine AT.iconst M_268 rfl (v := 0) (by decide) ?_
  refine AT.iload_n M_268 rfl rfl ?_
  refine AT.cv6i M_268 rfl M_267 rfl (Nat.le_of_ble_eq_true rfl) (xKd.of sh_mod) (by decide) (c_267x1 hp) ?_ (Nat.le_of_ble_eq_true rfl) rfl
  refine AT.iret M_268 rfl rfl ?_
  exact ⟨rfl, rfl⟩
theorem c_268x2 {X : XS} {c : Nat} {q : Int32} {vl : Int32} (hc : c < 4) (hp : q < 0 ∨ ¬ q < 8) : RT 268 [some (.ref 388), some (.int (Int32.ofNat c)), some (.int q), some (.int vl)] X (some (.int 0)) (xSetT X 1) := by
  refine AT.aload_n M_268 rfl rfl ?_
  refine AT.iload_n M_268 rfl rfl ?_
  refine AT.iconst M_268 rfl (v := 1) (by decide) ?_
  refine AT.iload_n M_268 rfl rfl ?_
  refine AT.iconst M_268 rfl (v := 0) (by decide) ?_
  refine AT.iload_n M_268 rfl rfl ?_
  refine AT.cv6i M_268 rfl M_267 rfl (Nat.le_of_ble_eq_true rfl) (xKd.of sh_mod) (by decide) (c_267x2 hc hp) ?_ (Nat.le_of_ble_eq_true rfl) rfl
  refine AT.iret M_268 rfl rfl ?_
  exact ⟨rfl, rfl⟩
theorem c_268x3 {X : XS} {c k : Nat} {vl : Int32} (hc : c < 4) (hk : k < 8) (hv : ¬ ((-9999 : Int32) ≤ vl ∧ vl ≤ 9999)) : RT 268 [some (.ref 388), some (.int (Int32.ofNat c)), some (.int (Int32.ofNat k)), some (.int vl)] X (some (.int 0)) (xSetT X 2) := by
  refine AT.aload_n M_268 rfl rfl ?_
  refine AT.iload_n M_268 rfl rfl ?_
  refine AT.iconst M_268 rfl (v := 1) (by decide) ?_
  refine AT.iload_n M_268 rfl rfl ?_
  refine AT.iconst M_268 rfl (v := 0) (by decide) ?_
  refine AT.iload_n M_268 rfl rfl ?_
  refine AT.cv6i M_268 rfl M_267 rfl (Nat.le_of_ble_eq_true rfl) (xKd.of sh_mod) (by decide) (c_267x3 hc hk hv) ?_ (Nat.le_of_ble_eq_true rfl) rfl
  refine AT.iret M_268 rfl rfl ?_
  exact ⟨rfl, rfl⟩
theorem c_268x5 {X : XS} {c k : Nat} {vl : Int32} (hc : c < 4) (hk : k < 8) (hv : (-9999 : Int32) ≤ vl ∧ vl ≤ 9999) (hw : ¬ (xK X 2).1 34 c 3 ≤ 0 ∧ (xK X 2).1 35 c 0 = 0) : RT 268 [some (.ref 388), some (.int (Int32.ofNat c)), some (.int (Int32.ofNat k)), some (.int vl)] X (some (.int 0)) (xSetT X 3) := by
  refine AT.aload_n M_268 rfl rfl ?_
  refine AT.iload_n M_268 rfl rfl ?_
  refine AT.iconst M_268 rfl (v := 1) (by decide) ?_
  refine AT.iload_n M_268 rfl rfl ?_
  refine AT.iconst M_268 rfl (v := 0) (by decide) ?_
  refine AT.iload_n M_268 rfl rfl ?_
  refine AT.cv6i M_268 rfl M_267 rfl (Nat.le_of_ble_eq_true rfl) (xKd.of sh_mod) (by decide) (c_267x5 hc hk hv (by decide) hw) ?_ (Nat.le_of_ble_eq_true rfl) rfl
  refine AT.iret M_268 rfl rfl ?_
  exact ⟨rfl, rfl⟩
theorem c_268 {X : XS} {c k : Nat} {vl : Int32} (hc : c < 4) (hk : k < 8) {m : Nat} (hap : aPr X 2) (hv : (-9999 : Int32) ≤ vl ∧ vl ≤ 9999) (hw : (xK X 2).1 34 c 3 ≤ 0 ∨ ¬ (xK X 2).1 35 c 0 = 0) : RU 268 [some (.ref 388), some (.int (Int32.ofNat c)), some (.int (Int32.ofNat k)), some (.int vl)] X (some (.int ((xK X 2).1 34 c 3 + 1))) (fun Z => rRel0 2 m 1 7 (xSetT X 0) Z (kAsk (xK X 2) c 1 (Int32.ofNat k) 0 vl) ∧ aPr Z 2) := by
  refine AT.aload_n M_268 rfl rfl ?_
  refine AT.iload_n M_268 rfl rfl ?_
  refine AT.iconst M_268 rfl (v := 1) (by decide) ?_
  refine AT.iload_n M_268 rfl rfl ?_
  refine AT.iconst M_268 rfl (v := 0) (by decide) ?_
  refine AT.iload_n M_268 rfl rfl ?_
  refine AT.cv6u M_268 rfl M_267 rfl (Nat.le_of_ble_eq_true rfl) (xKd.of sh_mod) (by decide) (c_267 (m := m) hc hk hap hv (by decide) hw) (fun Y hc6 => ?_) (Nat.le_of_ble_eq_true rfl) rfl
  have r1 := hc6
  refine AT.iret M_268 rfl rfl ?_
  exact ⟨rfl, r1⟩
theorem c_269x1 {X : XS} {p q : Int32} {vl : Int32} (hp : p < 0 ∨ ¬ p < 4) : RT 269 [some (.ref 388), some (.int p), some (.int q), some (.int vl)] X (some (.int 0)) (xSetT X 1) := by
  refine AT.aload_n M_269 rfl rfl ?_
  refine AT.iload_n M_269 rfl rfl ?_
  refine AT.iconst M_269 rfl (v := 2) (by decide) ?_
  refine AT.iload_n M_269 rfl rfl ?_
  refine AT.iconst M_269 rfl (v := 0) (by decide) ?_
  refine AT.iload_n M_269 rfl rfl ?_
  refine AT.cv6i M_269 rfl M_267 rfl (Nat.le_of_ble_eq_true rfl) (xKd.of sh_mod) (by decide) (c_267x1 hp) ?_ (Nat.le_of_ble_eq_true rfl) rfl
  refine AT.iret M_269 rfl rfl ?_
  exact ⟨rfl, rfl⟩
theorem c_269x2 {X : XS} {c : Nat} {q : Int32} {vl : Int32} (hc : c < 4) (hp : q < 0 ∨ ¬ q < 8) : RT 269 [some (.ref 388), some (.int (Int32.ofNat c)), some (.int q), some (.int vl)] X (some (.int 0)) (xSetT X 1) := by
  refine AT.aload_n M_269 rfl rfl ?_
  refine AT.iload_n M_269 rfl rfl ?_
  refine AT.iconst M_269 rfl (v := 2) (by decide) ?_
  refine AT.iload_n M_269 rfl rfl ?_
  refine AT.iconst M_269 rfl (v := 0) (by decide) ?_
  refine AT.iload_n M_269 rfl rfl ?_
  refine AT.cv6i M_269 rfl M_267 rfl (Nat.le_of_ble_eq_true rfl) (xKd.of sh_mod) (by decide) (c_267x2 hc hp) ?_ (Nat.le_of_ble_eq_true rfl) rfl
  refine AT.iret M_269 rfl rfl ?_
  exact ⟨rfl, rfl⟩
theorem c_269x3 {X : XS} {c k : Nat} {vl : Int32} (hc : c < 4) (hk : k < 8) (hv : ¬ ((-9999 : Int32) ≤ vl ∧ vl ≤ 9999)) : RT 269 [some (.ref 388), some (.int (Int32.ofNat c)), some (.int (Int32.ofNat k)), some (.int vl)] X (some (.int 0)) (xSetT X 2) := by
  refine AT.aload_n M_269 rfl rfl ?_
  refine AT.iload_n M_269 rfl rfl ?_
  refine AT.iconst M_269 rfl (v := 2) (by decide) ?_
  refine AT.iload_n M_269 rfl rfl ?_
  refine AT.iconst M_269 rfl (v := 0) (by decide) ?_
  refine AT.iload_n M_269 rfl rfl ?_
  refine AT.cv6i M_269 rfl M_267 rfl (Nat.le_of_ble_eq_true rfl) (xKd.of sh_mod) (by decide) (c_267x3 hc hk hv) ?_ (Nat.le_of_ble_eq_true rfl) rfl
  refine AT.iret M_269 rfl rfl ?_
  exact ⟨rfl, rfl⟩
theorem c_269x5 {X : XS} {c k : Nat} {vl : Int32} (hc : c < 4) (hk : k < 8) (hv : (-9999 : Int32) ≤ vl ∧ vl ≤ 9999) (hw : ¬ (xK X 2).1 34 c 3 ≤ 0 ∧ (xK X 2).1 35 c 0 = 0) : RT 269 [some (.ref 388), some (.int (Int32.ofNat c)), some (.int (Int32.ofNat k)), some (.int vl)] X (some (.int 0)) (xSetT X 3) := by
  refine AT.aload_n M_269 rfl rfl ?_
  refine AT.iload_n M_269 rfl rfl ?_
  refine AT.iconst M_269 rfl (v := 2) (by decide) ?_
  refine AT.iload_n M_269 rfl rfl ?_
  refine AT.iconst M_269 rfl (v := 0) (by decide) ?_
  refine AT.iload_n M_269 rfl rfl ?_
  refine AT.cv6i M_269 rfl M_267 rfl (Nat.le_of_ble_eq_true rfl) (xKd.of sh_mod) (by decide) (c_267x5 hc hk hv (by decide) hw) ?_ (Nat.le_of_ble_eq_true rfl) rfl
  refine AT.iret M_269 rfl rfl ?_
  exact ⟨rfl, rfl⟩
theorem c_269 {X : XS} {c k : Nat} {vl : Int32} (hc : c < 4) (hk : k < 8) {m : Nat} (hap : aPr X 2) (hv : (-9999 : Int32) ≤ vl ∧ vl ≤ 9999) (hw : (xK X 2).1 34 c 3 ≤ 0 ∨ ¬ (xK X 2).1 35 c 0 = 0) : RU 269 [some (.ref 388), some (.int (Int32.ofNat c)), some (.int (Int32.ofNat k)), some (.int vl)] X (some (.int ((xK X 2).1 34 c 3 + 1))) (fun Z => rRel0 2 m 1 7 (xSetT X 0) Z (kAsk (xK X 2) c 2 (Int32.ofNat k) 0 vl) ∧ aPr Z 2) := by
  refine AT.aload_n M_269 rfl rfl ?_
  refine AT.iload_n M_269 rfl rfl ?_
  refine AT.iconst M_269 rfl (v := 2) (by decide) ?_
  refine AT.iload_n M_269 rfl rfl ?_
  refine AT.iconst M_269 rfl (v := 0) (by decide) ?_
  refine AT.iload_n M_269 rfl rfl ?_
  refine AT.cv6u M_269 rfl M_267 rfl (Nat.le_of_ble_eq_true rfl) (xKd.of sh_mod) (by decide) (c_267 (m := m) hc hk hap hv (by decide) hw) (fun Y hc6 => ?_) (Nat.le_of_ble_eq_true rfl) rfl
  have r1 := hc6
  refine AT.iret M_269 rfl rfl ?_
  exact ⟨rfl, r1⟩
theorem c_270x1 {X : XS} {p q : Int32} {ex vl : Int32} (hp : p < 0 ∨ ¬ p < 4) : RT 270 [some (.ref 388), some (.int p), some (.int q), some (.int ex), some (.int vl)] X (some (.int 0)) (xSetT X 1) := by
  refine AT.aload_n M_270 rfl rfl ?_
  refine AT.iload_n M_270 rfl rfl ?_
  refine AT.iconst M_270 rfl (v := 3) (by decide) ?_
  refine AT.iload_n M_270 rfl rfl ?_
  refine AT.iload_n M_270 rfl rfl ?_
  refine AT.iload M_270 rfl rfl ?_
  refine AT.cv6i M_270 rfl M_267 rfl (Nat.le_of_ble_eq_true rfl) (xKd.of sh_mod) (by decide) (c_267x1 hp) ?_ (Nat.le_of_ble_eq_true rfl) rfl
  refine AT.iret M_270 rfl rfl ?_
  exact ⟨rfl, rfl⟩
theorem c_270x2 {X : XS} {c : Nat} {q : Int32} {ex vl : Int32} (hc : c < 4) (hp : q < 0 ∨ ¬ q < 8) : RT 270 [some (.ref 388), some (.int (Int32.ofNat c)), some (.int q), some (.int ex), some (.int vl)] X (some (.int 0)) (xSetT X 1) := by
  refine AT.aload_n M_270 rfl rfl ?_
  refine AT.iload_n M_270 rfl rfl ?_
  refine AT.iconst M_270 rfl (v := 3) (by decide) ?_
  refine AT.iload_n M_270 rfl rfl ?_
  refine AT.iload_n M_270 rfl rfl ?_
  refine AT.iload M_270 rfl rfl ?_
  refine AT.cv6i M_270 rfl M_267 rfl (Nat.le_of_ble_eq_true rfl) (xKd.of sh_mod) (by decide) (c_267x2 hc hp) ?_ (Nat.le_of_ble_eq_true rfl) rfl
  refine AT.iret M_270 rfl rfl ?_
  exact ⟨rfl, rfl⟩
theorem c_270x3 {X : XS} {c k : Nat} {ex vl : Int32} (hc : c < 4) (hk : k < 8) (hv : ¬ ((-9999 : Int32) ≤ vl ∧ vl ≤ 9999)) : RT 270 [some (.ref 388), some (.int (Int32.ofNat c)), some (.int (Int32.ofNat k)), some (.int ex), some (.int vl)] X (some (.int 0)) (xSetT X 2) := by
  refine AT.aload_n M_270 rfl rfl ?_
  refine AT.iload_n M_270 rfl rfl ?_
  refine AT.iconst M_270 rfl (v := 3) (by decide) ?_
  refine AT.iload_n M_270 rfl rfl ?_
  refine AT.iload_n M_270 rfl rfl ?_
  refine AT.iload M_270 rfl rfl ?_
  refine AT.cv6i M_270 rfl M_267 rfl (Nat.le_of_ble_eq_true rfl) (xKd.of sh_mod) (by decide) (c_267x3 hc hk hv) ?_ (Nat.le_of_ble_eq_true rfl) rfl
  refine AT.iret M_270 rfl rfl ?_
  exact ⟨rfl, rfl⟩
theorem c_270x4 {X : XS} {c k : Nat} {ex vl : Int32} (hc : c < 4) (hk : k < 8) (hv : (-9999 : Int32) ≤ vl ∧ vl ≤ 9999) (hx : ¬ ((-9999 : Int32) ≤ ex ∧ ex ≤ 9999)) : RT 270 [some (.ref 388), some (.int (Int32.ofNat c)), some (.int (Int32.ofNat k)), some (.int ex), some (.int vl)] X (some (.int 0)) (xSetT X 2) := by
  refine AT.aload_n M_270 rfl rfl ?_
  refine AT.iload_n M_270 rfl rfl ?_
  refine AT.iconst M_270 rfl (v := 3) (by decide) ?_
  refine AT.iload_n M_270 rfl rfl ?_
  refine AT.iload_n M_270 rfl rfl ?_
  refine AT.iload M_270 rfl rfl ?_
  refine AT.cv6i M_270 rfl M_267 rfl (Nat.le_of_ble_eq_true rfl) (xKd.of sh_mod) (by decide) (c_267x4 hc hk hv hx) ?_ (Nat.le_of_ble_eq_true rfl) rfl
  refine AT.iret M_270 rfl rfl ?_
  exact ⟨rfl, rfl⟩
theorem c_270x5 {X : XS} {c k : Nat} {ex vl : Int32} (hc : c < 4) (hk : k < 8) (hv : (-9999 : Int32) ≤ vl ∧ vl ≤ 9999) (hx : (-9999 : Int32) ≤ ex ∧ ex ≤ 9999) (hw : ¬ (xK X 2).1 34 c 3 ≤ 0 ∧ (xK X 2).1 35 c 0 = 0) : RT 270 [some (.ref 388), some (.int (Int32.ofNat c)), some (.int (Int32.ofNat k)), some (.int ex), some (.int vl)] X (some (.int 0)) (xSetT X 3) := by
  refine AT.aload_n M_270 rfl rfl ?_
  refine AT.iload_n M_270 rfl rfl ?_
  refine AT.iconst M_270 rfl (v := 3) (by decide) ?_
  refine AT.iload_n M_270 rfl rfl ?_
  refine AT.iload_n M_270 rfl rfl ?_
  refine AT.iload M_270 rfl rfl ?_
  refine AT.cv6i M_270 rfl M_267 rfl (Nat.le_of_ble_eq_true rfl) (xKd.of sh_mod) (by decide) (c_267x5 hc hk hv hx hw) ?_ (Nat.le_of_ble_eq_true rfl) rfl
  refine AT.iret M_270 rfl rfl ?_
  exact ⟨rfl, rfl⟩
theorem c_270 {X : XS} {c k : Nat} {ex vl : Int32} (hc : c < 4) (hk : k < 8) {m : Nat} (hap : aPr X 2) (hv : (-9999 : Int32) ≤ vl ∧ vl ≤ 9999) (hx : (-9999 : Int32) ≤ ex ∧ ex ≤ 9999) (hw : (xK X 2).1 34 c 3 ≤ 0 ∨ ¬ (xK X 2).1 35 c 0 = 0) : RU 270 [some (.ref 388), some (.int (Int32.ofNat c)), some (.int (Int32.ofNat k)), some (.int ex), some (.int vl)] X (some (.int ((xK X 2).1 34 c 3 + 1))) (fun Z => rRel0 2 m 1 7 (xSetT X 0) Z (kAsk (xK X 2) c 3 (Int32.ofNat k) ex vl) ∧ aPr Z 2) := by
  refine AT.aload_n M_270 rfl rfl ?_
  refine AT.iload_n M_270 rfl rfl ?_
  refine AT.iconst M_270 rfl (v := 3) (by decide) ?_
  refine AT.iload_n M_270 rfl rfl ?_
  refine AT.iload_n M_270 rfl rfl ?_
  refine AT.iload M_270 rfl rfl ?_
  refine AT.cv6u M_270 rfl M_267 rfl (Nat.le_of_ble_eq_true rfl) (xKd.of sh_mod) (by decide) (c_267 (m := m) hc hk hap hv hx hw) (fun Y hc6 => ?_) (Nat.le_of_ble_eq_true rfl) rfl
  have r1 := hc6
  refine AT.iret M_270 rfl rfl ?_
  exact ⟨rfl, r1⟩
