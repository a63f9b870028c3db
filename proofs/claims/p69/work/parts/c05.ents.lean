/-! ===== ENTRIES: members that are some, serials no greater than the clients' ===== -/
def eV (S : Nat → Int32) (e : ENT) : Prop := (e 1 = 4 → ¬ e 6 = 0) ∧ (1 ≤ e 1 ∧ e 1 ≤ 3 → (e 2).toNatClampNeg < 4 ∧ (e 4).toNatClampNeg < 8 ∧ e 3 ≤ S (e 2).toNatClampNeg)
def vSn (S : Nat → Int32) (r : ENT) : Prop := ¬ r 2 = 0 ∧ ∀ c, c < 4 → r (11 + c) ≤ S c
def uV (S : Nat → Int32) (u : MSG) : Prop := (∀ e, e ∈ u.2.2 → eV S e) ∧ ∀ r, u.2.1 = some r → vSn S r
def EV (S : Nat → Int32) (K : KK) : Prop := (∀ i, i < 7 → (∀ e, e ∈ K.2.1 i → eV S e) ∧ vSn S (K.1 18 i) ∧ ∀ c, c < 4 → K.1 19 i (8 + c) ≤ S c) ∧ ∀ u, u ∈ K.2.2 → uV S u
theorem uV.z {S : Nat → Int32} {u : MSG} (h : u.2 = (none, [])) : uV S u := ⟨fun e he => (by rw [h] at he; cases he), fun r hr => (by rw [h] at hr; cases hr)⟩
theorem eV.up {S S' : Nat → Int32} {e : ENT} (h : eV S e) (hS : ∀ c, c < 4 → S c ≤ S' c) : eV S' e := ⟨h.1, fun z => by
  obtain ⟨a, b, c⟩ := h.2 z
  exact ⟨a, b, Int32.le_trans c (hS _ a)⟩⟩
theorem vSn.up {S S' : Nat → Int32} {r : ENT} (h : vSn S r) (hS : ∀ c, c < 4 → S c ≤ S' c) : vSn S' r := ⟨h.1, fun c hc => Int32.le_trans (h.2 c hc) (hS c hc)⟩
theorem EV.up {S S' : Nat → Int32} {K : KK} (h : EV S K) (hS : ∀ c, c < 4 → S c ≤ S' c) : EV S' K :=
  ⟨fun i hi => ⟨fun e he => ((h.1 i hi).1 e he).up hS, (h.1 i hi).2.1.up hS, fun c hc => Int32.le_trans ((h.1 i hi).2.2 c hc) (hS c hc)⟩, fun u hu => ⟨fun e he => ((h.2 u hu).1 e he).up hS, fun r hr => ((h.2 u hu).2 r hr).up hS⟩⟩
theorem sMemL_v {S : Nat → Int32} : ∀ (l : List ENT) (d : Int32), (∀ e, e ∈ l → eV S e) → ¬ d = 0 → ¬ sMemL l d = 0
  | [], d, _, h => h
  | e :: t, d, he, h => by
    unfold sMemL
    refine sMemL_v t _ (fun x hx => he x (List.mem_cons_of_mem _ hx)) ?_
    split
    · rename_i z; exact (he e List.mem_cons_self).1 z
    · exact h
section EVS
variable {S : Nat → Int32} {K K' : KK} {s : Nat}
theorem EV.mem (h : EV S K) (hs : s < 7) : ¬ sMem K s = 0 := sMemL_v _ _ (h.1 s hs).1 (h.1 s hs).2.1.1
theorem EV.fr (h : EV S K) (hl : ∀ i, i < 7 → ∀ e, e ∈ K'.2.1 i → e ∈ K.2.1 i) (h18 : ∀ i j, K'.1 18 i j = K.1 18 i j) (h19 : ∀ i j, K'.1 19 i j = K.1 19 i j) (hu : ∀ u, u ∈ K'.2.2 → u ∈ K.2.2 ∨ uV S u) : EV S K' := by
  refine ⟨fun i hi => ⟨fun e he => (h.1 i hi).1 e (hl i hi e he), ?_, fun c hc => by rw [h19]; exact (h.1 i hi).2.2 c hc⟩, fun u hu' => ?_⟩
  · have := (h.1 i hi).2.1
    exact ⟨by rw [h18]; exact this.1, fun c hc => by rw [h18]; exact this.2 c hc⟩
  · rcases hu u hu' with z | z
    · exact h.2 u z
    · exact z
theorem EV.num (h : EV S K) (h2 : K'.2 = K.2) (hn : ∀ f i j, f = 18 ∨ f = 19 → K'.1 f i j = K.1 f i j) : EV S K' :=
  h.fr (fun i _ e he => by rw [h2] at he; exact he) (fun i j => hn 18 i j (Or.inl rfl)) (fun i j => hn 19 i j (Or.inr rfl)) (fun u hu => Or.inl (by rw [h2] at hu; exact hu))
theorem EV.send {u : MSG} (h : EV S K) (hu : uV S u) : EV S (kSend K u) :=
  h.fr (fun i _ e he => by rw [kSend_l] at he; exact he) (fun i j => kSend_1 K u (by omega)) (fun i j => kSend_1 K u (by omega)) (fun w hw => by
    rcases kSend_net hw with z | z
    · exact Or.inl z
    · rw [z]; exact Or.inr hu)
theorem EV.mlog (h : EV S K) (hs : s < 7) (q : Nat) : uV S (mLog K s q) := by
  unfold mLog
  split
  · refine ⟨fun e he => ?_, fun r hr => by cases hr⟩
    have he' : e ∈ (eFrom K s (K.1 2 s q)).take (eFrom K s (K.1 2 s q)).length := he
    exact (h.1 s hs).1 e (List.mem_of_mem_drop (List.mem_of_mem_take (List.mem_of_mem_take he')))
  · refine ⟨fun e he => (by cases he), fun r hr => ?_⟩
    rw [← Option.some.inj hr]
    exact (h.1 s hs).2.1
theorem EV.app {e : ENT} (h : EV S K) (he : eV S e) : EV S (kLog K s (K.2.1 s ++ [e])) := by
  refine ⟨fun i hi => ⟨fun x hx => ?_, (h.1 i hi).2.1, (h.1 i hi).2.2⟩, h.2⟩
  have hx' : x ∈ (if i = s then K.2.1 s ++ [e] else K.2.1 i) := hx
  by_cases c : i = s
  · subst c
    rw [if_pos rfl] at hx'
    rcases List.mem_append.mp hx' with z | z
    · exact (h.1 i hi).1 x z
    · rw [List.mem_singleton.mp z]; exact he
  · rw [if_neg c] at hx'
    exact (h.1 i hi).1 x hx'
theorem eV.nil (t : Int32) : eV S (eNil t 0 0) := ⟨fun z => absurd (show (0 : Int32) = 4 from z) (by decide), fun z => absurd (show (1 : Int32) ≤ 0 from z.1) (by decide)⟩
theorem eV.mem {t m : Int32} (hm : ¬ m = 0) : eV S (eNil t 4 m) := ⟨fun _ => hm, fun z => absurd (show (4 : Int32) ≤ 3 from z.2) (by decide)⟩
/-- a request is applied -/
theorem kApply_ser {c ky x : Nat} {r : ENT} (hc : c < 4) (hk : ky < 8) (hx : x < 4) : (kApply K s c ky r).1 19 s (8 + x) = K.1 19 s (8 + x) ∨ (x = c ∧ (kApply K s c ky r).1 19 s (8 + x) = r 3) := by
  have key : ∀ a b : Int32, (kSet (kSet (kAp1 K s c r) 19 s ky a) 19 s (12 + c) b).1 19 s (8 + x) = K.1 19 s (8 + x) ∨ (x = c ∧ (kSet (kSet (kAp1 K s c r) 19 s ky a) 19 s (12 + c) b).1 19 s (8 + x) = r 3) := fun a b => by
    rw [kSet_ne (by omega), kSet_ne (by omega)]
    unfold kAp1
    by_cases e : x = c
    · subst e; exact Or.inr ⟨rfl, kSet_at _ _ _ _ _⟩
    · exact Or.inl (kSet_ne (by omega))
  unfold kApply
  split
  · exact Or.inl rfl
  · split
    · exact key _ _
    · split
      · exact key _ _
      · split
        · exact key _ _
        · exact key _ _
theorem kApply_2' (K : KK) (s c ky : Nat) (r : ENT) : (kApply K s c ky r).2 = K.2 := by
  unfold kApply kAp1
  repeat' split
  all_goals rfl
theorem EV.ansE {e : ENT} (h : EV S K) (he : eV S e) : EV S (kAnsE K s e) := by
  unfold kAnsE
  by_cases c : 1 ≤ e 1 ∧ e 1 ≤ 3
  · rw [if_pos c]
    obtain ⟨a1, a2, a3⟩ := he.2 c
    have e2 : (kAns2 (kApply K s (e 2).toNatClampNeg (e 4).toNatClampNeg e) s (e 2).toNatClampNeg e).2 = K.2 := by rw [kAns2_2, kApply_2']
    have e1 : ∀ f i j, ¬ (f = 35 ∨ f = 36) → (kAns2 (kApply K s (e 2).toNatClampNeg (e 4).toNatClampNeg e) s (e 2).toNatClampNeg e).1 f i j = (kApply K s (e 2).toNatClampNeg (e 4).toNatClampNeg e).1 f i j := fun f i j hf => kAns2_1 hf
    refine ⟨fun i hi => ⟨fun x hx => (h.1 i hi).1 x (by rw [e2] at hx; exact hx), ?_, fun x hx => ?_⟩, fun u hu => h.2 u (by rw [e2] at hu; exact hu)⟩
    · have := (h.1 i hi).2.1
      exact ⟨by rw [e1 18 i 2 (by omega), kApply_1 (by omega)]; exact this.1, fun x hx => by rw [e1 18 i _ (by omega), kApply_1 (by omega)]; exact this.2 x hx⟩
    · rw [e1 19 i _ (by omega)]
      by_cases ei : i = s
      · subst ei
        rcases kApply_ser (K := K) (s := i) (r := e) a1 a2 hx with z | ⟨z1, z2⟩
        · rw [z]; exact (h.1 i hi).2.2 x hx
        · rw [z2, z1]; exact a3
      · rw [kApply_1 (by omega)]; exact (h.1 i hi).2.2 x hx
  · rw [if_neg c]; exact h
theorem EV.appl {c : Nat} (h : EV S K) (hs : s < 7) (hw : kWf K s) : ∀ n, EV S (kAppl K s c n)
  | 0 => h
  | n + 1 => by
    unfold kAppl
    have ih := EV.appl (c := c) h hs hw n
    cases hx : sEnt K s (Int32.ofNat (c + (n + 1))) with
    | none => exact ih
    | some e => exact ih.ansE ((h.1 s hs).1 e (sEnt_mem hx hw))
theorem EV.comm {c n : Nat} (h : EV S K) (hs : s < 7) (hw : kWf K s) : EV S (kComm K s c n) :=
  (h.appl hs hw n).num rfl (fun f i j hf => kSet_ne (by omega))
theorem EV.lk (h : EV S K) (hs : s < 7) (hw : kWf K s) : EV S (kLk K s) := by
  unfold kLk kLook
  have h1 := fun n => h.comm (c := kC K s) (n := n) hs hw
  obtain ⟨n, hn⟩ : ∃ n, n = sLkN (fun k => sLkP K s (sMem K s) (Int32.ofNat (kC K s + k))) (kA K s + (K.2.1 s).length - kC K s) := ⟨_, rfl⟩
  rw [← hn]
  rcases kStep_cs (kComm K s (kC K s) n) s (sMem K s) (sMix K s) with e | e <;> rw [e]
  · exact h1 n
  · exact (h1 n).num rfl (fun f i j hf => by rw [kSet_ne (by omega), kSet_ne (by omega)])
theorem EV.acc {x : Int32} {e : ENT} (h : EV S K) (he : eV S e) : EV S (kAcc K s x e) := by
  unfold kAcc
  split
  · exact h
  · refine EV.app ?_ he
    unfold kTrim
    split
    · refine ⟨fun i hi => ⟨fun y hy => (h.1 i hi).1 y ?_, (h.1 i hi).2.1, (h.1 i hi).2.2⟩, h.2⟩
      have hy' : y ∈ (if i = s then (K.2.1 s).take (x - K.1 18 s 0 - 1).toNatClampNeg else K.2.1 i) := hy
      by_cases c : i = s
      · subst c; rw [if_pos rfl] at hy'; exact List.mem_of_mem_take hy'
      · rw [if_neg c] at hy'; exact hy'
    · exact h
theorem EV.accs : ∀ (l : List ENT) (K : KK) (x : Int32), EV S K → (∀ e, e ∈ l → eV S e) → EV S (kAccs s K x l)
  | [], K, _, h, _ => h
  | e :: t, K, x, h, he => EV.accs t (kAcc K s x e) (x + 1) (h.acc (he e List.mem_cons_self)) (fun y hy => he y (List.mem_cons_of_mem _ hy))
theorem EV.inst {r : ENT} (h : EV S K) (hr : vSn S r) : EV S (kInst K s (some r)) := by
  show EV S (if K.1 15 s 0 < r 0 then kTab (kSet (kCut K s (sCutN K s r) r) 15 s 0 (r 0)) s r else K)
  split
  · have e18 : ∀ i j, (kTab (kSet (kCut K s (sCutN K s r) r) 15 s 0 (r 0)) s r).1 18 i j = if i = s then r j else K.1 18 i j := fun i j => by
      rw [kTab_1 (by omega), kSet_ne (by omega)]
      by_cases c : i = s
      · rw [if_pos c, c]; exact if_pos ⟨rfl, rfl⟩
      · rw [if_neg c]; exact kCut_1 (by omega)
    have e19 : ∀ i j, (kTab (kSet (kCut K s (sCutN K s r) r) 15 s 0 (r 0)) s r).1 19 i j = if i = s ∧ j < 16 then r (3 + j) else K.1 19 i j := fun i j => by
      by_cases c : i = s
      · subst c
        show (if 19 = 19 ∧ i = i then (if j < 16 then r (3 + j) else _) else _) = _
        rw [if_pos ⟨rfl, rfl⟩]
        by_cases c2 : j < 16
        · rw [if_pos c2, if_pos ⟨rfl, c2⟩]
        · rw [if_neg c2, if_neg (fun z => c2 z.2), kSet_ne (by omega), kCut_1 (by omega)]
      · rw [if_neg (fun z => c z.1), kTab_1 (by omega), kSet_ne (by omega), kCut_1 (by omega)]
    refine ⟨fun i hi => ⟨fun x hx => (h.1 i hi).1 x ?_, ?_, fun c hc => ?_⟩, h.2⟩
    · have hx' : x ∈ (if i = s then (K.2.1 s).drop (sCutN K s r) else K.2.1 i) := hx
      by_cases c : i = s
      · subst c; rw [if_pos rfl] at hx'; exact List.mem_of_mem_drop hx'
      · rw [if_neg c] at hx'; exact hx'
    · unfold vSn
      simp only [e18]
      by_cases c : i = s
      · simp only [if_pos c]; exact hr
      · simp only [if_neg c]; exact (h.1 i hi).2.1
    · rw [e19]
      by_cases c' : i = s
      · rw [if_pos ⟨c', by omega⟩, show 3 + (8 + c) = 11 + c by omega]; exact hr.2 c hc
      · rw [if_neg (fun z => c' z.1)]; exact (h.1 i hi).2.2 c hc
  · exact h
end EVS
theorem kAll.wf {m0 : Int32} {A B k s : Nat} {K : KK} {G : GG} (h : kAll m0 A B k K G) (hs : s < 7) : kWf K s := by
  have hk := h.ok hs
  exact ⟨_, hk.1.1, by have := hk.2.1; omega⟩
theorem kAccs_wf {m0 : Int32} {A B k s : Nat} {K K' : KK} {G' : GG} (h' : kAll m0 A B k K' G') (hs : s < 7) (h18 : K'.1 18 s 0 = K.1 18 s 0) (hl : K'.2.1 s = K.2.1 s) : kWf K s := by
  obtain ⟨a, a1, a2⟩ := h'.wf hs
  exact ⟨a, by rw [← h18]; exact a1, by rw [← hl]; exact a2⟩
theorem EV.cl (S : Nat → Int32) (m0 : Int32) (A B : Nat) {s : Nat} (w : MSG) (hs : s < 7) : CLo m0 A B s w (fun K _ K' _ => uV S w → EV S K → EV S K') := by
  refine ⟨fun _ _ _ => id, fun _ _ _ _ _ _ h k hw z => k hw (h hw z), fun k K G K' G' h h' _ hp hw z => ?_⟩
  rcases hp with ⟨v, h1, rfl⟩ | ⟨x, rfl⟩ | rfl | rfl | ⟨h2, rfl⟩ | ⟨u, hu, rfl⟩ | ⟨q, -, rfl⟩ | rfl | rfl | rfl | ⟨f, x, hf, hr, rfl⟩ | ⟨f, x, hf, hr, rfl⟩ | ⟨f, v, hf, rfl⟩ | ⟨m, u, hu, rfl⟩ | ⟨r, u, hr, hu, rfl⟩
  · exact z.num rfl (fun f i j hf => kTerm_1 (by omega))
  · exact z.num rfl (fun f i j hf => kObey_1 (by omega))
  · exact z.num rfl (fun f i j hf => kStart_1 (by omega))
  · exact z.num rfl (fun f i j hf => kStand_1 (by omega))
  · exact (EV.num (K' := kLead K s) z rfl (fun f i j hf => kLead_1 (by omega))).app (eV.nil _)
  · exact z.send (uV.z hu)
  · exact z.send (z.mlog hs q)
  · exact z.lk hs (h.wf hs)
  · refine z.num ?_ (fun f i j hf => ?_)
    · unfold kGrant; split <;> rfl
    · unfold kGrant; split
      · rw [kSet_ne (by omega), kSet_ne (by omega)]
      · rfl
  · exact z.num rfl (fun f i j hf => by unfold kYes; rw [kSet_ne (by omega)])
  · refine z.num ?_ (fun f i j hf => kLearn_1 (by omega))
    unfold kLearn; split <;> rfl
  · exact z.num rfl (fun f i j hf => kSet_ne (by omega))
  · exact z.num rfl (fun f' i j hf' => kSet_ne (by omega))
  · refine EV.send ?_ (uV.z hu)
    unfold kCommTo
    have z1 := EV.accs (s := s) w.2.2 K (w.1 6 + 1) z hw.1
    obtain ⟨r1, -, -⟩ := kAccs_1' s w.2.2 K (w.1 6 + 1)
    refine z1.comm hs (kAccs_wf h' hs ?_ ?_)
    · rw [kSend_1 _ _ (by omega)]; exact kComm_1 (by omega) (by omega) (by omega)
    · rw [kSend_l]; exact congrArg (fun y => y.1 s) (kComm_2 _ _ _ _)
  · exact (z.inst (hw.2 r hr)).send (uV.z hu)
