/-! ===== THE LINKS AGAINST THE TABLES: decided by the kernel ===== -/
/-- the tables' words by pieces: place 1000 * piece + number -/
def qTb (k : Nat) : List Cond := match k with
  | 0 => k2_sels lw_privs | 1 => tables_1_1 | 2 => tables_1_2 | 3 => tables_1_3 | 4 => tables_1_4 | 5 => tables_1_5 | _ => []
def qGet (x : Nat) : Option Cond := (qTb (x / 1000))[x % 1000]?
theorem qTb_mem {k : Nat} {w : Cond} (h : w ∈ qTb k) : w ∈ lw_tbl := by
  unfold lw_tbl tables_1
  simp only [List.mem_append]
  match k, h with
  | 0, h => exact Or.inl h
  | 1, h => exact Or.inr (Or.inl h)
  | 2, h => exact Or.inr (Or.inr (Or.inl h))
  | 3, h => exact Or.inr (Or.inr (Or.inr (Or.inl h)))
  | 4, h => exact Or.inr (Or.inr (Or.inr (Or.inr (Or.inl h))))
  | 5, h => exact Or.inr (Or.inr (Or.inr (Or.inr (Or.inr h))))
  | n + 6, h => exact absurd h List.not_mem_nil
theorem qGet_mem {x : Nat} {w : Cond} (h : qGet x = some w) : w ∈ lw_tbl := qTb_mem (List.mem_of_getElem? h)
def qLayP (ci : Nat) : List Nat := match ci with
  | 0 => [2072, 2074, 2076]
  | 1 => [2087, 2089, 2091, 2093]
  | 2 => [3051, 3053, 3055, 3057]
  | 3 => [1090, 1092, 1094, 1096, 1098, 1100, 1102, 1104, 1106, 1108, 1110]
  | 4 => [1125, 1127, 1129, 1131, 1133, 1135]
  | 5 => [5011, 5013, 5015, 5017, 5019, 5021]
  | 6 => [2022, 2024, 2026, 2028, 2030, 2032, 2034, 2036, 2038, 2040, 2042, 2044, 2046, 2048, 2050, 2052, 2054, 2056]
  | 7 => [1183, 1185, 1187, 1189]
  | 8 => [1159, 1161, 1163]
  | 9 => [2098, 2100]
  | 10 => [2072, 2074, 2076]
  | _ => [2072, 2074, 2076]
set_option maxRecDepth 100000 in
theorem qLay_ok : (List.range 12).all (fun ci => decide (u_ws (qOwn ci) (qTf ci) (pF ci) = (qLayP ci).filterMap qGet) && (u_ws (qOwn ci) (qTf ci) (pF ci)).all goodWord) = true := by decide +kernel
theorem qLay {ci : Nat} (h : ci < 12) : ∀ w ∈ u_ws (qOwn ci) (qTf ci) (pF ci), w ∈ lw_tbl ∧ goodWord w = true := by
  have h1 := List.all_eq_true.mp qLay_ok ci (List.mem_range.mpr h)
  simp only [Bool.and_eq_true, decide_eq_true_eq] at h1
  intro w hw
  refine ⟨?_, List.all_eq_true.mp h1.2 w hw⟩
  rw [h1.1] at hw
  obtain ⟨i, -, hi⟩ := List.mem_filterMap.mp hw
  exact qGet_mem hi
theorem qTf_ok : ∀ ci, ci < 12 → ∀ k, k < pF ci → parseFieldDescriptor (qTf ci k).2.2.1 = some (pT ci k) := by
  intro ci h
  match ci, h with
  | 0, _ => exact tyX0_ok
  | 1, _ => exact tyX1_ok
  | 2, _ => exact tyX2_ok
  | 3, _ => exact tyX3_ok
  | 4, _ => exact tyX4_ok
  | 5, _ => exact tyX5_ok
  | 6, _ => exact tyX6_ok
  | 7, _ => exact tyX7_ok
  | 8, _ => exact tyX8_ok
  | 9, _ => exact tyX9_ok
  | 10, _ => exact tyX0_ok
  | 11, _ => exact tyX0_ok
  | n + 12, h => omega
theorem qTf_nm : ∀ ci, ci < 12 → ∀ a, a < pF ci → ∀ b, b < pF ci → a ≠ b → (qTf ci a).2.1 ≠ (qTf ci b).2.1 := by
  intro ci h
  match ci, h with
  | 0, _ => exact nmX0
  | 1, _ => exact nmX1
  | 2, _ => exact nmX2
  | 3, _ => exact nmX3
  | 4, _ => exact nmX4
  | 5, _ => exact nmX5
  | 6, _ => exact nmX6
  | 7, _ => exact nmX7
  | 8, _ => exact nmX8
  | 9, _ => exact nmX9
  | 10, _ => exact nmX0
  | 11, _ => exact nmX0
  | n + 12, h => omega
theorem pF_lt {ci k : Nat} (h : k < pF ci) : ci < 12 := by
  rcases Nat.lt_or_ge ci 12 with z | z
  · exact z
  · match ci, z with
    | n + 12, _ => exact absurd h (Nat.not_lt_zero k)
abbrev QL6 : Type := Nat × Nat × Nat × Nat × Nat × Nat
/-- a field link's word -/
def qFw (f : QL6) : Cond := if f.2.2.2.2.1 = 1 then .fieldLinkNest (qOwn f.1) f.2.1 (qTf f.2.2.1 f.2.2.2.1).1 (qTf f.2.2.1 f.2.2.2.1).2.1 (qTf f.2.2.1 f.2.2.2.1).2.2.1 RX11
  else .fieldLink (qOwn f.1) f.2.1 (qTf f.2.2.1 f.2.2.2.1).1 (qTf f.2.2.1 f.2.2.2.1).2.1 (qTf f.2.2.1 f.2.2.2.1).2.2.1
set_option maxRecDepth 100000 in
theorem qFL_ok : qFL.all (fun f => decide (qGet f.2.2.2.2.2 = some (qFw f))) = true := by decide +kernel
/-- a class link's word, and where an array is made its array's -/
def qCn (kd : Nat) : String := if kd < 12 then qOwn kd else match kd with
  | 15 => RX0 | 16 => RX2 | 17 => RX3 | 18 => RX6 | _ => "[[I"
set_option maxRecDepth 100000 in
theorem qCL_ok : qCL.all (fun f => decide (qGet f.2.2.2 = some (.classLink (qOwn f.1) f.2.1 (qCn f.2.2.1)))) = true := by decide +kernel
set_option maxRecDepth 100000 in
theorem qKL_ok : qKL.all (fun f => decide (qGet f.2.2.2.2 = some (if f.2.2.2.1 = 1 then Cond.constantLong (qOwn f.1) f.2.1 (Int64.ofNat f.2.2.1) else Cond.constant (qOwn f.1) f.2.1 (Int32.ofNat f.2.2.1)))) = true := by decide +kernel
/-- a method link's word -/
noncomputable def qMn (r1 : Nat) : MethodName := if r1 = 0 then objectInit else if r1 = 1 then arraycopyName else if r1 = 2 then yJ9_max_7cf53 else if r1 = 3 then yJ9_min_7cf53 else (qMI (r1 - 10)).2.1
noncomputable def qMw (f : QL6) : Cond := if f.2.2.2.1 = 1 then .methodLinkNest (qOwn f.1) f.2.1 (qMn f.2.2.1) (if f.1 ≤ 9 then RX9 else RX11) else .methodLink (qOwn f.1) f.2.1 (qMn f.2.2.1)

set_option maxRecDepth 100000 in
theorem qML_ok_0 : ((qML.drop 0).take 60).all (fun f => decide (qGet f.2.2.2.2.1 = some (qMw f))) = true := by decide +kernel
set_option maxRecDepth 100000 in
theorem qML_ok_1 : ((qML.drop 60).take 60).all (fun f => decide (qGet f.2.2.2.2.1 = some (qMw f))) = true := by decide +kernel
set_option maxRecDepth 100000 in
theorem qML_ok_2 : ((qML.drop 120).take 60).all (fun f => decide (qGet f.2.2.2.2.1 = some (qMw f))) = true := by decide +kernel
set_option maxRecDepth 100000 in
theorem qML_ok_3 : ((qML.drop 180).take 60).all (fun f => decide (qGet f.2.2.2.2.1 = some (qMw f))) = true := by decide +kernel
set_option maxRecDepth 100000 in
theorem qML_ok_4 : ((qML.drop 240).take 60).all (fun f => decide (qGet f.2.2.2.2.1 = some (qMw f))) = true := by decide +kernel
set_option maxRecDepth 100000 in
theorem qML_ok_5 : ((qML.drop 300).take 60).all (fun f => decide (qGet f.2.2.2.2.1 = some (qMw f))) = true := by decide +kernel
set_option maxRecDepth 100000 in
theorem qML_ok_6 : ((qML.drop 360).take 60).all (fun f => decide (qGet f.2.2.2.2.1 = some (qMw f))) = true := by decide +kernel
set_option maxRecDepth 100000 in
theorem qML_ok_7 : ((qML.drop 420).take 60).all (fun f => decide (qGet f.2.2.2.2.1 = some (qMw f))) = true := by decide +kernel
def qInsP : List (Nat × Nat) := [(2059, 1009), (1030, 1002), (3036, 1016), (1047, 1004), (1040, 1003), (4226, 1020), (1192, 1008), (1142, 1005), (1148, 1006), (1022, 1001), (2059, 1009), (2059, 1009)]
set_option maxRecDepth 100000 in
theorem qIns_ok : (List.range 12).all (fun ci => match qInsP[ci]? with | none => false | some z => decide (qGet z.1 = some (Cond.instantiable (qOwn ci) (pF ci))) && decide (qGet z.2 = some (Cond.initialized (qOwn ci)))) = true := by decide +kernel
/-- methods: their words -/
noncomputable def qCw (c : QMI) : Cond := match c.2.2.2.2.2.2.2.2.2.1 with
  | [] => Cond.code c.2.1 c.2.2.1 c.2.2.2.1 c.2.2.2.2.1
  | h :: t => Cond.codeWith c.2.1 c.2.2.1 c.2.2.2.1 c.2.2.2.2.1 (h :: t)
noncomputable def qMiOk (c : QMI) : Bool :=
  plainName c.2.1.cls && (decide (c.2.1.cls = qOwn c.1) && (decide (c.2.1.cls ≠ "java/lang/invoke/MethodHandle" ∧ c.2.1.cls ≠ "java/lang/invoke/VarHandle") && (
  decide ((parseMethodDescriptor c.2.1.desc).map (fun d => d.parameters.length) = some (c.2.2.2.2.2.1 - (1 - c.2.2.2.2.2.2.1))) && (decide (1 - c.2.2.2.2.2.2.1 ≤ c.2.2.2.2.2.1) && (
  decide (qGet c.2.2.2.2.2.2.2.2.2.2.2.1 = some (if c.2.2.2.2.2.2.1 = 1 then Cond.static c.2.1 else Cond.instanceMethod c.2.1)) && (
  decide (qGet c.2.2.2.2.2.2.2.2.2.2.2.2.2 = some (Cond.initialized c.2.1.cls)) &&
  (c.2.2.2.2.2.2.1 == 1 || (decide (c.2.1.name = "<init>" ∧ c.2.2.2.2.1 = none) || decide (qGet c.2.2.2.2.2.2.2.2.2.2.2.2.1 = some (Cond.selects (qOwn c.1) c.2.1 c.2.1))))))))))
/-- the handlers against the tables -/
def qHandOk (rows : List PRow) : List (Nat × Nat × Nat × Nat) → List PHd → List (Nat × Nat × Nat) → Bool
  | [], [], [] => true
  | h :: hs, d :: ds, x :: xs => decide (h = (d.1, d.2.1, x.1, x.2.1)) && (decide ((rows[d.2.2.1]?).map (fun r => r.1) = some x.1) && (decide (qGet x.2.2 = some (Cond.classLink RL x.2.1 (qEx d.2.2.2))) && (decide (d.2.2.2 < 3 ∧ x.2.1 ≠ 0) && qHandOk rows hs ds xs)))
  | _, _, _ => false
set_option maxRecDepth 100000 in
theorem qHands : (List.range 381).all (fun m => qHandOk (if m < 320 ∨ m = 378 then [] else qRows m) (qMI m).2.2.2.2.2.2.2.2.2.1 (qHd m) (qHh m)) = true := by decide +kernel
