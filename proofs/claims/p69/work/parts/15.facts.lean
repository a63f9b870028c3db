/-! ===== FACTS OF ALL METHODS ===== -/
noncomputable abbrev qmO (m : Nat) : Nat := (qMI m).1
noncomputable abbrev qmY (m : Nat) : MethodName := (qMI m).2.1
noncomputable abbrev qmB (m : Nat) : ByteArray := (qMI m).2.2.1
noncomputable abbrev qmL (m : Nat) : Nat := (qMI m).2.2.2.1
noncomputable abbrev qmR (m : Nat) : Option FieldType := (qMI m).2.2.2.2.1
noncomputable abbrev qmN (m : Nat) : Nat := (qMI m).2.2.2.2.2.1
noncomputable abbrev qmS (m : Nat) : Nat := (qMI m).2.2.2.2.2.2.1
noncomputable abbrev qmF (m : Nat) : Nat := (qMI m).2.2.2.2.2.2.2.1
noncomputable abbrev qmG (m : Nat) : Nat := (qMI m).2.2.2.2.2.2.2.2.1
noncomputable abbrev qmH (m : Nat) : List (Nat × Nat × Nat × Nat) := (qMI m).2.2.2.2.2.2.2.2.2.1
def qAllI {A : Type} (P : Nat → A → Prop) : Nat → List A → Prop
  | _, [] => True
  | k, c :: t => P k c ∧ qAllI P (k + 1) t
theorem qAllI_get {A : Type} {P : Nat → A → Prop} : ∀ {L : List A} {k i : Nat} {c : A}, qAllI P k L → L[i]? = some c → P (k + i) c
  | [], k, i, c, _, hi => by simp at hi
  | a :: t, k, 0, c, h, hi => by
    simp at hi
    subst hi
    exact h.1
  | a :: t, k, i + 1, c, h, hi => by
    have h1 := qAllI_get (i := i) h.2 (by simpa using hi)
    rw [show k + (i + 1) = k + 1 + i by omega]
    exact h1
set_option maxRecDepth 100000 in
theorem qMIL_len : qMIL.length = 381 := rfl
theorem qMI_get {m : Nat} (h : m < 381) : qMIL[m]? = some (qMI m) := by
  have h1 : m < qMIL.length := by rw [qMIL_len]; exact h
  unfold qMI
  rw [List.getD_eq_getElem?_getD, List.getElem?_eq_getElem h1]
  rfl
set_option maxRecDepth 100000 in
theorem qMo_all : qAllI (fun m c => m ≠ 378 → qMiOk c = true ∧ qGet c.2.2.2.2.2.2.2.2.2.2.1 = some (qCw c)) 0 qMIL := And.intro (fun _ => ⟨mo_0, cw_0⟩) (And.intro (fun _ => ⟨mo_1, cw_1⟩) (And.intro (fun _ => ⟨mo_0, cw_0⟩) (And.intro (fun _ => ⟨mo_3, cw_3⟩) (And.intro (fun _ => ⟨mo_4, cw_4⟩) (And.intro (fun _ => ⟨mo_5, cw_5⟩) (And.intro (fun _ => ⟨mo_6, cw_6⟩) (And.intro (fun _ => ⟨mo_7, cw_7⟩) (And.intro (fun _ => ⟨mo_8, cw_8⟩) (And.intro (fun _ => ⟨mo_0, cw_0⟩) (And.intro (fun _ => ⟨mo_10, cw_10⟩) (And.intro (fun _ => ⟨mo_11, cw_11⟩) (And.intro (fun _ => ⟨mo_12, cw_12⟩) (And.intro (fun _ => ⟨mo_13, cw_13⟩) (And.intro (fun _ => ⟨mo_14, cw_14⟩) (And.intro (fun _ => ⟨mo_0, cw_0⟩) (And.intro (fun _ => ⟨mo_0, cw_0⟩) (And.intro (fun _ => ⟨mo_0, cw_0⟩) (And.intro (fun _ => ⟨mo_0, cw_0⟩) (And.intro (fun _ => ⟨mo_0, cw_0⟩) (And.intro (fun _ => ⟨mo_0, cw_0⟩) (And.intro (fun _ => ⟨mo_21, cw_21⟩) (And.intro (fun _ => ⟨mo_22, cw_22⟩) (And.intro (fun _ => ⟨mo_23, cw_23⟩) (And.intro (fun _ => ⟨mo_24, cw_24⟩) (And.intro (fun _ => ⟨mo_25, cw_25⟩) (And.intro (fun _ => ⟨mo_26, cw_26⟩) (And.intro (fun _ => ⟨mo_27, cw_27⟩) (And.intro (fun _ => ⟨mo_28, cw_28⟩) (And.intro (fun _ => ⟨mo_29, cw_29⟩) (And.intro (fun _ => ⟨mo_30, cw_30⟩) (And.intro (fun _ => ⟨mo_31, cw_31⟩) (And.intro (fun _ => ⟨mo_32, cw_32⟩) (And.intro (fun _ => ⟨mo_33, cw_33⟩) (And.intro (fun _ => ⟨mo_34, cw_34⟩) (And.intro (fun _ => ⟨mo_35, cw_35⟩) (And.intro (fun _ => ⟨mo_36, cw_36⟩) (And.intro (fun _ => ⟨mo_37, cw_37⟩) (And.intro (fun _ => ⟨mo_38, cw_38⟩) (And.intro (fun _ => ⟨mo_39, cw_39⟩) (And.intro (fun _ => ⟨mo_40, cw_40⟩) (And.intro (fun _ => ⟨mo_41, cw_41⟩) (And.intro (fun _ => ⟨mo_42, cw_42⟩) (And.intro (fun _ => ⟨mo_43, cw_43⟩) (And.intro (fun _ => ⟨mo_44, cw_44⟩) (And.intro (fun _ => ⟨mo_45, cw_45⟩) (And.intro (fun _ => ⟨mo_46, cw_46⟩) (And.intro (fun _ => ⟨mo_47, cw_47⟩) (And.intro (fun _ => ⟨mo_48, cw_48⟩) (And.intro (fun _ => ⟨mo_0, cw_0⟩) (And.intro (fun _ => ⟨mo_50, cw_50⟩) (And.intro (fun _ => ⟨mo_51, cw_51⟩) (And.intro (fun _ => ⟨mo_52, cw_52⟩) (And.intro (fun _ => ⟨mo_53, cw_53⟩) (And.intro (fun _ => ⟨mo_54, cw_54⟩) (And.intro (fun _ => ⟨mo_55, cw_55⟩) (And.intro (fun _ => ⟨mo_56, cw_56⟩) (And.intro (fun _ => ⟨mo_57, cw_57⟩) (And.intro (fun _ => ⟨mo_58, cw_58⟩) (And.intro (fun _ => ⟨mo_59, cw_59⟩) (And.intro (fun _ => ⟨mo_0, cw_0⟩) (And.intro (fun _ => ⟨mo_61, cw_61⟩) (And.intro (fun _ => ⟨mo_62, cw_62⟩) (And.intro (fun _ => ⟨mo_63, cw_63⟩) (And.intro (fun _ => ⟨mo_64, cw_64⟩) (And.intro (fun _ => ⟨mo_65, cw_65⟩) (And.intro (fun _ => ⟨mo_66, cw_66⟩) (And.intro (fun _ => ⟨mo_67, cw_67⟩) (And.intro (fun _ => ⟨mo_68, cw_68⟩) (And.intro (fun _ => ⟨mo_69, cw_69⟩) (And.intro (fun _ => ⟨mo_70, cw_70⟩) (And.intro (fun _ => ⟨mo_71, cw_71⟩) (And.intro (fun _ => ⟨mo_72, cw_72⟩) (And.intro (fun _ => ⟨mo_73, cw_73⟩) (And.intro (fun _ => ⟨mo_74, cw_74⟩) (And.intro (fun _ => ⟨mo_75, cw_75⟩) (And.intro (fun _ => ⟨mo_76, cw_76⟩) (And.intro (fun _ => ⟨mo_77, cw_77⟩) (And.intro (fun _ => ⟨mo_78, cw_78⟩) (And.intro (fun _ => ⟨mo_79, cw_79⟩) (And.intro (fun _ => ⟨mo_80, cw_80⟩) (And.intro (fun _ => ⟨mo_81, cw_81⟩) (And.intro (fun _ => ⟨mo_82, cw_82⟩) (And.intro (fun _ => ⟨mo_83, cw_83⟩) (And.intro (fun _ => ⟨mo_84, cw_84⟩) (And.intro (fun _ => ⟨mo_85, cw_85⟩) (And.intro (fun _ => ⟨mo_86, cw_86⟩) (And.intro (fun _ => ⟨mo_87, cw_87⟩) (And.intro (fun _ => ⟨mo_88, cw_88⟩) (And.intro (fun _ => ⟨mo_89, cw_89⟩) (And.intro (fun _ => ⟨mo_90, cw_90⟩) (And.intro (fun _ => ⟨mo_91, cw_91⟩) (And.intro (fun _ => ⟨mo_92, cw_92⟩) (And.intro (fun _ => ⟨mo_93, cw_93⟩) (And.intro (fun _ => ⟨mo_94, cw_94⟩) (And.intro (fun _ => ⟨mo_95, cw_95⟩) (And.intro (fun _ => ⟨mo_96, cw_96⟩) (And.intro (fun _ => ⟨mo_97, cw_97⟩) (And.intro (fun _ => ⟨mo_98, cw_98⟩) (And.intro (fun _ => ⟨mo_99, cw_99⟩) (And.intro (fun _ => ⟨mo_100, cw_100⟩) (And.intro (fun _ => ⟨mo_101, cw_101⟩) (And.intro (fun _ => ⟨mo_102, cw_102⟩) (And.intro (fun _ => ⟨mo_103, cw_103⟩) (And.intro (fun _ => ⟨mo_104, cw_104⟩) (And.intro (fun _ => ⟨mo_105, cw_105⟩) (And.intro (fun _ => ⟨mo_106, cw_106⟩) (And.intro (fun _ => ⟨mo_107, cw_107⟩) (And.intro (fun _ => ⟨mo_108, cw_108⟩) (And.intro (fun _ => ⟨mo_109, cw_109⟩) (And.intro (fun _ => ⟨mo_110, cw_110⟩) (And.intro (fun _ => ⟨mo_0, cw_0⟩) (And.intro (fun _ => ⟨mo_0, cw_0⟩) (And.intro (fun _ => ⟨mo_0, cw_0⟩) (And.intro (fun _ => ⟨mo_0, cw_0⟩) (And.intro (fun _ => ⟨mo_0, cw_0⟩) (And.intro (fun _ => ⟨mo_116, cw_116⟩) (And.intro (fun _ => ⟨mo_117, cw_117⟩) (And.intro (fun _ => ⟨mo_0, cw_0⟩) (And.intro (fun _ => ⟨mo_119, cw_119⟩) (And.intro (fun _ => ⟨mo_120, cw_120⟩) (And.intro (fun _ => ⟨mo_0, cw_0⟩) (And.intro (fun _ => ⟨mo_0, cw_0⟩) (And.intro (fun _ => ⟨mo_123, cw_123⟩) (And.intro (fun _ => ⟨mo_124, cw_124⟩) (And.intro (fun _ => ⟨mo_125, cw_125⟩) (And.intro (fun _ => ⟨mo_126, cw_126⟩) (And.intro (fun _ => ⟨mo_127, cw_127⟩) (And.intro (fun _ => ⟨mo_128, cw_128⟩) (And.intro (fun _ => ⟨mo_129, cw_129⟩) (And.intro (fun _ => ⟨mo_130, cw_130⟩) (And.intro (fun _ => ⟨mo_0, cw_0⟩) (And.intro (fun _ => ⟨mo_132, cw_132⟩) (And.intro (fun _ => ⟨mo_133, cw_133⟩) (And.intro (fun _ => ⟨mo_134, cw_134⟩) (And.intro (fun _ => ⟨mo_135, cw_135⟩) (And.intro (fun _ => ⟨mo_136, cw_136⟩) (And.intro (fun _ => ⟨mo_0, cw_0⟩) (And.intro (fun _ => ⟨mo_138, cw_138⟩) (And.intro (fun _ => ⟨mo_139, cw_139⟩) (And.intro (fun _ => ⟨mo_140, cw_140⟩) (And.intro (fun _ => ⟨mo_141, cw_141⟩) (And.intro (fun _ => ⟨mo_142, cw_142⟩) (And.intro (fun _ => ⟨mo_143, cw_143⟩) (And.intro (fun _ => ⟨mo_144, cw_144⟩) (And.intro (fun _ => ⟨mo_145, cw_145⟩) (And.intro (fun _ => ⟨mo_146, cw_146⟩) (And.intro (fun _ => ⟨mo_147, cw_147⟩) (And.intro (fun _ => ⟨mo_148, cw_148⟩) (And.intro (fun _ => ⟨mo_149, cw_149⟩) (And.intro (fun _ => ⟨mo_150, cw_150⟩) (And.intro (fun _ => ⟨mo_0, cw_0⟩) (And.intro (fun _ => ⟨mo_0, cw_0⟩) (And.intro (fun _ => ⟨mo_0, cw_0⟩) (And.intro (fun _ => ⟨mo_0, cw_0⟩) (And.intro (fun _ => ⟨mo_0, cw_0⟩) (And.intro (fun _ => ⟨mo_0, cw_0⟩) (And.intro (fun _ => ⟨mo_0, cw_0⟩) (And.intro (fun _ => ⟨mo_0, cw_0⟩) (And.intro (fun _ => ⟨mo_0, cw_0⟩) (And.intro (fun _ => ⟨mo_160, cw_160⟩) (And.intro (fun _ => ⟨mo_161, cw_161⟩) (And.intro (fun _ => ⟨mo_162, cw_162⟩) (And.intro (fun _ => ⟨mo_163, cw_163⟩) (And.intro (fun _ => ⟨mo_164, cw_164⟩) (And.intro (fun _ => ⟨mo_165, cw_165⟩) (And.intro (fun _ => ⟨mo_166, cw_166⟩) (And.intro (fun _ => ⟨mo_0, cw_0⟩) (And.intro (fun _ => ⟨mo_168, cw_168⟩) (And.intro (fun _ => ⟨mo_169, cw_169⟩) (And.intro (fun _ => ⟨mo_170, cw_170⟩) (And.intro (fun _ => ⟨mo_171, cw_171⟩) (And.intro (fun _ => ⟨mo_172, cw_172⟩) (And.intro (fun _ => ⟨mo_173, cw_173⟩) (And.intro (fun _ => ⟨mo_174, cw_174⟩) (And.intro (fun _ => ⟨mo_175, cw_175⟩) (And.intro (fun _ => ⟨mo_176, cw_176⟩) (And.intro (fun _ => ⟨mo_0, cw_0⟩) (And.intro (fun _ => ⟨mo_178, cw_178⟩) (And.intro (fun _ => ⟨mo_0, cw_0⟩) (And.intro (fun _ => ⟨mo_0, cw_0⟩) (And.intro (fun _ => ⟨mo_0, cw_0⟩) (And.intro (fun _ => ⟨mo_0, cw_0⟩) (And.intro (fun _ => ⟨mo_0, cw_0⟩) (And.intro (fun _ => ⟨mo_0, cw_0⟩) (And.intro (fun _ => ⟨mo_0, cw_0⟩) (And.intro (fun _ => ⟨mo_0, cw_0⟩) (And.intro (fun _ => ⟨mo_0, cw_0⟩) (And.intro (fun _ => ⟨mo_0, cw_0⟩) (And.intro (fun _ => ⟨mo_0, cw_0⟩) (And.intro (fun _ => ⟨mo_0, cw_0⟩) (And.intro (fun _ => ⟨mo_0, cw_0⟩) (And.intro (fun _ => ⟨mo_0, cw_0⟩) (And.intro (fun _ => ⟨mo_0, cw_0⟩) (And.intro (fun _ => ⟨mo_0, cw_0⟩) (And.intro (fun _ => ⟨mo_0, cw_0⟩) (And.intro (fun _ => ⟨mo_0, cw_0⟩) (And.intro (fun _ => ⟨mo_0, cw_0⟩) (And.intro (fun _ => ⟨mo_0, cw_0⟩) (And.intro (fun _ => ⟨mo_0, cw_0⟩) (And.intro (fun _ => ⟨mo_0, cw_0⟩) (And.intro (fun _ => ⟨mo_0, cw_0⟩) (And.intro (fun _ => ⟨mo_0, cw_0⟩) (And.intro (fun _ => ⟨mo_0, cw_0⟩) (And.intro (fun _ => ⟨mo_0, cw_0⟩) (And.intro (fun _ => ⟨mo_0, cw_0⟩) (And.intro (fun _ => ⟨mo_0, cw_0⟩) (And.intro (fun _ => ⟨mo_0, cw_0⟩) (And.intro (fun _ => ⟨mo_0, cw_0⟩) (And.intro (fun _ => ⟨mo_0, cw_0⟩) (And.intro (fun _ => ⟨mo_0, cw_0⟩) (And.intro (fun _ => ⟨mo_0, cw_0⟩) (And.intro (fun _ => ⟨mo_0, cw_0⟩) (And.intro (fun _ => ⟨mo_0, cw_0⟩) (And.intro (fun _ => ⟨mo_0, cw_0⟩) (And.intro (fun _ => ⟨mo_0, cw_0⟩) (And.intro (fun _ => ⟨mo_0, cw_0⟩) (And.intro (fun _ => ⟨mo_0, cw_0⟩) (And.intro (fun _ => ⟨mo_0, cw_0⟩) (And.intro (fun _ => ⟨mo_0, cw_0⟩) (And.intro (fun _ => ⟨mo_0, cw_0⟩) (And.intro (fun _ => ⟨mo_0, cw_0⟩) (And.intro (fun _ => ⟨mo_0, cw_0⟩) (And.intro (fun _ => ⟨mo_0, cw_0⟩) (And.intro (fun _ => ⟨mo_0, cw_0⟩) (And.intro (fun _ => ⟨mo_0, cw_0⟩) (And.intro (fun _ => ⟨mo_0, cw_0⟩) (And.intro (fun _ => ⟨mo_0, cw_0⟩) (And.intro (fun _ => ⟨mo_0, cw_0⟩) (And.intro (fun _ => ⟨mo_0, cw_0⟩) (And.intro (fun _ => ⟨mo_0, cw_0⟩) (And.intro (fun _ => ⟨mo_0, cw_0⟩) (And.intro (fun _ => ⟨mo_0, cw_0⟩) (And.intro (fun _ => ⟨mo_0, cw_0⟩) (And.intro (fun _ => ⟨mo_0, cw_0⟩) (And.intro (fun _ => ⟨mo_0, cw_0⟩) (And.intro (fun _ => ⟨mo_0, cw_0⟩) (And.intro (fun _ => ⟨mo_0, cw_0⟩) (And.intro (fun _ => ⟨mo_0, cw_0⟩) (And.intro (fun _ => ⟨mo_0, cw_0⟩) (And.intro (fun _ => ⟨mo_0, cw_0⟩) (And.intro (fun _ => ⟨mo_0, cw_0⟩) (And.intro (fun _ => ⟨mo_0, cw_0⟩) (And.intro (fun _ => ⟨mo_0, cw_0⟩) (And.intro (fun _ => ⟨mo_0, cw_0⟩) (And.intro (fun _ => ⟨mo_0, cw_0⟩) (And.intro (fun _ => ⟨mo_0, cw_0⟩) (And.intro (fun _ => ⟨mo_0, cw_0⟩) (And.intro (fun _ => ⟨mo_0, cw_0⟩) (And.intro (fun _ => ⟨mo_0, cw_0⟩) (And.intro (fun _ => ⟨mo_0, cw_0⟩) (And.intro (fun _ => ⟨mo_0, cw_0⟩) (And.intro (fun _ => ⟨mo_0, cw_0⟩) (And.intro (fun _ => ⟨mo_0, cw_0⟩) (And.intro (fun _ => ⟨mo_0, cw_0⟩) (And.intro (fun _ => ⟨mo_0, cw_0⟩) (And.intro (fun _ => ⟨mo_0, cw_0⟩) (And.intro (fun _ => ⟨mo_0, cw_0⟩) (And.intro (fun _ => ⟨mo_0, cw_0⟩) (And.intro (fun _ => ⟨mo_0, cw_0⟩) (And.intro (fun _ => ⟨mo_0, cw_0⟩) (And.intro (fun _ => ⟨mo_0, cw_0⟩) (And.intro (fun _ => ⟨mo_0, cw_0⟩) (And.intro (fun _ => ⟨mo_0, cw_0⟩) (And.intro (fun _ => ⟨mo_0, cw_0⟩) (And.intro (fun _ => ⟨mo_0, cw_0⟩) (And.intro (fun _ => ⟨mo_0, cw_0⟩) (And.intro (fun _ => ⟨mo_0, cw_0⟩) (And.intro (fun _ => ⟨mo_0, cw_0⟩) (And.intro (fun _ => ⟨mo_0, cw_0⟩) (And.intro (fun _ => ⟨mo_0, cw_0⟩) (And.intro (fun _ => ⟨mo_0, cw_0⟩) (And.intro (fun _ => ⟨mo_0, cw_0⟩) (And.intro (fun _ => ⟨mo_0, cw_0⟩) (And.intro (fun _ => ⟨mo_0, cw_0⟩) (And.intro (fun _ => ⟨mo_0, cw_0⟩) (And.intro (fun _ => ⟨mo_0, cw_0⟩) (And.intro (fun _ => ⟨mo_0, cw_0⟩) (And.intro (fun _ => ⟨mo_0, cw_0⟩) (And.intro (fun _ => ⟨mo_0, cw_0⟩) (And.intro (fun _ => ⟨mo_0, cw_0⟩) (And.intro (fun _ => ⟨mo_0, cw_0⟩) (And.intro (fun _ => ⟨mo_0, cw_0⟩) (And.intro (fun _ => ⟨mo_0, cw_0⟩) (And.intro (fun _ => ⟨mo_0, cw_0⟩) (And.intro (fun _ => ⟨mo_0, cw_0⟩) (And.intro (fun _ => ⟨mo_0, cw_0⟩) (And.intro (fun _ => ⟨mo_0, cw_0⟩) (And.intro (fun _ => ⟨mo_0, cw_0⟩) (And.intro (fun _ => ⟨mo_0, cw_0⟩) (And.intro (fun _ => ⟨mo_0, cw_0⟩) (And.intro (fun _ => ⟨mo_0, cw_0⟩) (And.intro (fun _ => ⟨mo_0, cw_0⟩) (And.intro (fun _ => ⟨mo_0, cw_0⟩) (And.intro (fun _ => ⟨mo_0, cw_0⟩) (And.intro (fun _ => ⟨mo_0, cw_0⟩) (And.intro (fun _ => ⟨mo_0, cw_0⟩) (And.intro (fun _ => ⟨mo_0, cw_0⟩) (And.intro (fun _ => ⟨mo_0, cw_0⟩) (And.intro (fun _ => ⟨mo_0, cw_0⟩) (And.intro (fun _ => ⟨mo_0, cw_0⟩) (And.intro (fun _ => ⟨mo_0, cw_0⟩) (And.intro (fun _ => ⟨mo_0, cw_0⟩) (And.intro (fun _ => ⟨mo_0, cw_0⟩) (And.intro (fun _ => ⟨mo_0, cw_0⟩) (And.intro (fun _ => ⟨mo_0, cw_0⟩) (And.intro (fun _ => ⟨mo_0, cw_0⟩) (And.intro (fun _ => ⟨mo_0, cw_0⟩) (And.intro (fun _ => ⟨mo_0, cw_0⟩) (And.intro (fun _ => ⟨mo_0, cw_0⟩) (And.intro (fun _ => ⟨mo_0, cw_0⟩) (And.intro (fun _ => ⟨mo_0, cw_0⟩) (And.intro (fun _ => ⟨mo_0, cw_0⟩) (And.intro (fun _ => ⟨mo_0, cw_0⟩) (And.intro (fun _ => ⟨mo_0, cw_0⟩) (And.intro (fun _ => ⟨mo_0, cw_0⟩) (And.intro (fun _ => ⟨mo_0, cw_0⟩) (And.intro (fun _ => ⟨mo_0, cw_0⟩) (And.intro (fun _ => ⟨mo_0, cw_0⟩) (And.intro (fun _ => ⟨mo_0, cw_0⟩) (And.intro (fun _ => ⟨mo_0, cw_0⟩) (And.intro (fun _ => ⟨mo_0, cw_0⟩) (And.intro (fun _ => ⟨mo_322, cw_322⟩) (And.intro (fun _ => ⟨mo_323, cw_323⟩) (And.intro (fun _ => ⟨mo_324, cw_324⟩) (And.intro (fun _ => ⟨mo_325, cw_325⟩) (And.intro (fun _ => ⟨mo_326, cw_326⟩) (And.intro (fun _ => ⟨mo_327, cw_327⟩) (And.intro (fun _ => ⟨mo_0, cw_0⟩) (And.intro (fun _ => ⟨mo_0, cw_0⟩) (And.intro (fun _ => ⟨mo_0, cw_0⟩) (And.intro (fun _ => ⟨mo_0, cw_0⟩) (And.intro (fun _ => ⟨mo_0, cw_0⟩) (And.intro (fun _ => ⟨mo_0, cw_0⟩) (And.intro (fun _ => ⟨mo_0, cw_0⟩) (And.intro (fun _ => ⟨mo_0, cw_0⟩) (And.intro (fun _ => ⟨mo_0, cw_0⟩) (And.intro (fun _ => ⟨mo_0, cw_0⟩) (And.intro (fun _ => ⟨mo_0, cw_0⟩) (And.intro (fun _ => ⟨mo_0, cw_0⟩) (And.intro (fun _ => ⟨mo_0, cw_0⟩) (And.intro (fun _ => ⟨mo_0, cw_0⟩) (And.intro (fun _ => ⟨mo_0, cw_0⟩) (And.intro (fun _ => ⟨mo_0, cw_0⟩) (And.intro (fun _ => ⟨mo_0, cw_0⟩) (And.intro (fun _ => ⟨mo_0, cw_0⟩) (And.intro (fun _ => ⟨mo_0, cw_0⟩) (And.intro (fun _ => ⟨mo_0, cw_0⟩) (And.intro (fun _ => ⟨mo_0, cw_0⟩) (And.intro (fun _ => ⟨mo_0, cw_0⟩) (And.intro (fun _ => ⟨mo_0, cw_0⟩) (And.intro (fun _ => ⟨mo_0, cw_0⟩) (And.intro (fun _ => ⟨mo_0, cw_0⟩) (And.intro (fun _ => ⟨mo_0, cw_0⟩) (And.intro (fun _ => ⟨mo_0, cw_0⟩) (And.intro (fun _ => ⟨mo_0, cw_0⟩) (And.intro (fun _ => ⟨mo_0, cw_0⟩) (And.intro (fun _ => ⟨mo_0, cw_0⟩) (And.intro (fun _ => ⟨mo_0, cw_0⟩) (And.intro (fun _ => ⟨mo_0, cw_0⟩) (And.intro (fun _ => ⟨mo_0, cw_0⟩) (And.intro (fun _ => ⟨mo_0, cw_0⟩) (And.intro (fun _ => ⟨mo_0, cw_0⟩) (And.intro (fun _ => ⟨mo_0, cw_0⟩) (And.intro (fun _ => ⟨mo_0, cw_0⟩) (And.intro (fun _ => ⟨mo_0, cw_0⟩) (And.intro (fun _ => ⟨mo_0, cw_0⟩) (And.intro (fun _ => ⟨mo_0, cw_0⟩) (And.intro (fun _ => ⟨mo_0, cw_0⟩) (And.intro (fun _ => ⟨mo_0, cw_0⟩) (And.intro (fun _ => ⟨mo_0, cw_0⟩) (And.intro (fun _ => ⟨mo_0, cw_0⟩) (And.intro (fun _ => ⟨mo_0, cw_0⟩) (And.intro (fun _ => ⟨mo_0, cw_0⟩) (And.intro (fun _ => ⟨mo_0, cw_0⟩) (And.intro (fun _ => ⟨mo_0, cw_0⟩) (And.intro (fun _ => ⟨mo_0, cw_0⟩) (And.intro (fun _ => ⟨mo_0, cw_0⟩) (And.intro (fun z => absurd rfl z) (And.intro (fun _ => ⟨mo_379, cw_379⟩) (And.intro (fun _ => ⟨mo_380, cw_380⟩) (trivial)))))))))))))))))))))))))))))))))))))))))))))))))))))))))))))))))))))))))))))))))))))))))))))))))))))))))))))))))))))))))))))))))))))))))))))))))))))))))))))))))))))))))))))))))))))))))))))))))))))))))))))))))))))))))))))))))))))))))))))))))))))))))))))))))))))))))))))))))))))))))))))))))))))))))))))))))))))))))))))))))))))))))))))))))))))))))))))))))))))))))))))))))))))))))))))
/-- what the tables say of a method -/
theorem qMe {m : Nat} (h : m < 381) (h2 : m ≠ 378) : qMiOk (qMI m) = true ∧ qCw (qMI m) ∈ lw_tbl := by
  have h1 := qAllI_get qMo_all (qMI_get h)
  rw [Nat.zero_add] at h1
  exact ⟨(h1 h2).1, qGet_mem (h1 h2).2⟩
theorem qMo_spec {m : Nat} (h : m < 381) (h2 : m ≠ 378) : plainName (qmY m).cls = true ∧ (qmY m).cls = qOwn (qmO m) ∧ ((qmY m).cls ≠ "java/lang/invoke/MethodHandle" ∧ (qmY m).cls ≠ "java/lang/invoke/VarHandle") ∧
    (parseMethodDescriptor (qmY m).desc).map (fun d => d.parameters.length) = some (qmN m - (1 - qmS m)) ∧ 1 - qmS m ≤ qmN m ∧ (if qmS m = 1 then Cond.static (qmY m) else Cond.instanceMethod (qmY m)) ∈ lw_tbl ∧ Cond.initialized (qmY m).cls ∈ lw_tbl := by
  have h1 := (qMe h h2).1
  unfold qMiOk at h1
  simp only [Bool.and_eq_true, decide_eq_true_eq] at h1
  obtain ⟨g1, g2, g3, g4, g5, g6, g7, -⟩ := h1
  exact ⟨g1, g2, g3, g4, g5, qGet_mem g6, qGet_mem g7⟩
theorem qCw_eq (c : QMI) : qCw c = qCode c.2.1 c.2.2.1 c.2.2.2.1 c.2.2.2.2.1 c.2.2.2.2.2.2.2.2.2.1 := by
  obtain ⟨o, y, cc, L, ret, na, st, fr, lo, hh, w⟩ := c
  cases hh <;> rfl
theorem qCw_good (c : QMI) : goodWord (qCw c) = true := by
  rw [qCw_eq]
  unfold qCode
  split <;> rfl
theorem qCw_in {m : Nat} (h : m < 381) (h2 : m ≠ 378) : GoodIn qTs [qCw (qMI m)] := by
  intro w hw
  have e : w = qCw (qMI m) := by simpa using hw
  rw [e]
  exact ⟨qTs_of (qMe h h2).2 (qW_good (qCw_good _)), good_of_word (qCw_good _)⟩
/-- the links, once more: what kind of a method is linked -/
noncomputable def qLinkOk (f : QL6) : Bool :=
  if f.2.2.1 < 10 then f.2.2.2.1 == 0 && decide (f.2.2.1 < 4 ∧ f.2.2.2.2.2 = if f.2.2.1 = 0 then 2 else 1) else
  decide (f.2.2.1 - 10 < 381 ∧ f.2.2.1 - 10 ≠ 378) && (f.2.2.2.1 == 0 || f.2.2.2.1 == 1) && (match qMIL[f.2.2.1 - 10]? with
    | none => false
    | some c =>
      if f.2.2.2.2.2 = 0 then c.2.2.2.2.2.2.1 == 0 && (c.2.2.2.2.2.2.2.2.2.1.isEmpty && decide (qGet c.2.2.2.2.2.2.2.2.2.2.2.2.1 = some (Cond.selects (qOwn c.1) c.2.1 c.2.1)))
      else if f.2.2.2.2.2 = 1 then c.2.2.2.2.2.2.1 == 1 && (c.2.2.2.2.2.2.2.2.2.1.isEmpty || f.2.2.2.1 == 0)
      else c.2.2.2.2.2.2.1 == 0 && (c.2.2.2.2.2.2.2.2.2.1.isEmpty && decide (c.2.1.name = "<init>" ∧ c.2.2.2.2.1 = none)))
set_option maxRecDepth 100000 in
theorem qLL_0 : ((qML.drop 0).take 60).all qLinkOk = true := by decide +kernel
set_option maxRecDepth 100000 in
theorem qLL_1 : ((qML.drop 60).take 60).all qLinkOk = true := by decide +kernel
set_option maxRecDepth 100000 in
theorem qLL_2 : ((qML.drop 120).take 60).all qLinkOk = true := by decide +kernel
set_option maxRecDepth 100000 in
theorem qLL_3 : ((qML.drop 180).take 60).all qLinkOk = true := by decide +kernel
set_option maxRecDepth 100000 in
theorem qLL_4 : ((qML.drop 240).take 60).all qLinkOk = true := by decide +kernel
set_option maxRecDepth 100000 in
theorem qLL_5 : ((qML.drop 300).take 60).all qLinkOk = true := by decide +kernel
set_option maxRecDepth 100000 in
theorem qLL_6 : ((qML.drop 360).take 60).all qLinkOk = true := by decide +kernel
set_option maxRecDepth 100000 in
theorem qLL_7 : ((qML.drop 420).take 60).all qLinkOk = true := by decide +kernel
theorem qML_len : qML.length ≤ 480 := by decide +kernel
theorem qChunk {f : QL6} {P : QL6 → Bool} (h : f ∈ qML) (h0 : ((qML.drop 0).take 60).all P = true) (h1 : ((qML.drop 60).take 60).all P = true) (h2 : ((qML.drop 120).take 60).all P = true) (h3 : ((qML.drop 180).take 60).all P = true)
    (h4 : ((qML.drop 240).take 60).all P = true) (h5 : ((qML.drop 300).take 60).all P = true) (h6 : ((qML.drop 360).take 60).all P = true) (h7 : ((qML.drop 420).take 60).all P = true) : P f = true := by
  obtain ⟨i, hi⟩ := List.getElem?_of_mem h
  have hl : i < qML.length := (List.getElem?_eq_some_iff.mp hi).1
  have hl2 := qML_len
  have key : ∀ a, a ≤ i → i < a + 60 → f ∈ (qML.drop a).take 60 := by
    intro a ha hb
    refine List.mem_of_getElem? (i := i - a) ?_
    rw [List.getElem?_take, if_pos (by omega), List.getElem?_drop, show a + (i - a) = i by omega]
    exact hi
  by_cases z1 : i < 60
  · exact List.all_eq_true.mp h0 f (key 0 (by omega) (by omega))
  by_cases z2 : i < 120
  · exact List.all_eq_true.mp h1 f (key 60 (by omega) (by omega))
  by_cases z3 : i < 180
  · exact List.all_eq_true.mp h2 f (key 120 (by omega) (by omega))
  by_cases z4 : i < 240
  · exact List.all_eq_true.mp h3 f (key 180 (by omega) (by omega))
  by_cases z5 : i < 300
  · exact List.all_eq_true.mp h4 f (key 240 (by omega) (by omega))
  by_cases z6 : i < 360
  · exact List.all_eq_true.mp h5 f (key 300 (by omega) (by omega))
  by_cases z7 : i < 420
  · exact List.all_eq_true.mp h6 f (key 360 (by omega) (by omega))
  · exact List.all_eq_true.mp h7 f (key 420 (by omega) (by omega))
theorem qML_word {f : QL6} (h : f ∈ qML) : qMw f ∈ lw_tbl ∧ qLinkOk f = true := by
  refine ⟨qGet_mem (of_decide_eq_true (qChunk (P := fun f => decide (qGet f.2.2.2.2.1 = some (qMw f))) h qML_ok_0 qML_ok_1 qML_ok_2 qML_ok_3 qML_ok_4 qML_ok_5 qML_ok_6 qML_ok_7)), ?_⟩
  exact qChunk h qLL_0 qLL_1 qLL_2 qLL_3 qLL_4 qLL_5 qLL_6 qLL_7
/-- a link of a row: the word, the kind -/
theorem qMok_spec {o idx r1 r2 kd fr lo j : Nat} (h : qMok o idx r1 r2 kd fr lo j = true) : ∃ nest : Nat, ((nest = 0 ∧ kd < 2) ∨ r2 = 1) ∧
    (if nest = 1 then Cond.methodLinkNest (qOwn o) idx (qMn r1) (if o ≤ 9 then RX9 else RX11) else Cond.methodLink (qOwn o) idx (qMn r1)) ∈ lw_tbl ∧
    (r1 = 0 → 1 ≤ fr ∧ 20 ≤ lo) ∧ (r1 < 4 → 1 ≤ fr) ∧ (r1 ≠ 0 → r1 < 4 → 40 ≤ lo) ∧ (r1 < 10 → nest = 0 ∧ kd = if r1 = 0 then 2 else 1) ∧
    (4 ≤ r1 → 10 ≤ r1 ∧ r1 - 10 < 381 ∧ r1 - 10 ≠ 378 ∧ (nest = 0 ∨ nest = 1) ∧ qmF (r1 - 10) + 1 ≤ fr ∧ 8 + (qmL (r1 - 10) + 11) + qmG (r1 - 10) ≤ lo ∧
      (kd = 0 → qmS (r1 - 10) = 0 ∧ qmH (r1 - 10) = [] ∧ Cond.selects (qOwn (qmO (r1 - 10))) (qmY (r1 - 10)) (qmY (r1 - 10)) ∈ lw_tbl) ∧
      (kd = 1 → qmS (r1 - 10) = 1 ∧ (qmH (r1 - 10) = [] ∨ nest = 0)) ∧
      (kd = 2 → qmS (r1 - 10) = 0 ∧ qmH (r1 - 10) = [] ∧ (qmY (r1 - 10)).name = "<init>" ∧ qmR (r1 - 10) = none)) := by
  unfold qMok at h
  split at h
  · cases h
  · rename_i f hf
    obtain ⟨hw, hk⟩ := qML_word (List.mem_of_getElem? hf)
    simp only [Bool.and_eq_true, beq_iff_eq, Bool.or_eq_true, decide_eq_true_eq] at h
    obtain ⟨e1, e2, e3, e4, e5, h6⟩ := h
    refine ⟨f.2.2.2.1, e5, ?_, ?_, ?_, ?_, ?_, ?_⟩
    · unfold qMw at hw
      rw [e1, e2, e3] at hw
      exact hw
    · intro z
      rw [if_pos z] at h6
      exact of_decide_eq_true h6
    · intro z
      by_cases z0 : r1 = 0
      · rw [if_pos z0] at h6
        exact (of_decide_eq_true h6).1
      · rw [if_neg z0, if_pos z] at h6
        exact (of_decide_eq_true h6).1
    · intro z0 z
      rw [if_neg z0, if_pos z] at h6
      exact (of_decide_eq_true h6).2
    · intro z
      unfold qLinkOk at hk
      rw [if_pos (by rw [e3]; exact z)] at hk
      simp only [Bool.and_eq_true, beq_iff_eq, decide_eq_true_eq] at hk
      rw [e3, e4] at hk
      exact ⟨hk.1, hk.2.2⟩
    · intro z
      rw [if_neg (by omega), if_neg (by omega)] at h6
      simp only [Bool.and_eq_true, decide_eq_true_eq] at h6
      obtain ⟨h7, h8⟩ := h6
      unfold qLinkOk at hk
      rw [if_neg (by rw [e3]; omega), e3, e4] at hk
      simp only [Bool.and_eq_true, decide_eq_true_eq, Bool.or_eq_true, beq_iff_eq] at hk
      obtain ⟨⟨k1, k2⟩, k3⟩ := hk
      have hg := qMI_get k1.1
      rw [hg] at h8 k3
      dsimp only at h8 k3
      refine ⟨h7, k1.1, k1.2, k2, (of_decide_eq_true h8).1, (of_decide_eq_true h8).2, fun z => ?_, fun z => ?_, fun z => ?_⟩
      · rw [if_pos z] at k3
        simp only [Bool.and_eq_true, beq_iff_eq, List.isEmpty_iff, decide_eq_true_eq] at k3
        exact ⟨k3.1, k3.2.1, qGet_mem k3.2.2⟩
      · rw [if_neg (by omega), if_pos z] at k3
        simp only [Bool.and_eq_true, beq_iff_eq, List.isEmpty_iff, Bool.or_eq_true] at k3
        exact ⟨k3.1, k3.2⟩
      · rw [if_neg (by omega), if_neg (by omega)] at k3
        simp only [Bool.and_eq_true, beq_iff_eq, List.isEmpty_iff, decide_eq_true_eq] at k3
        exact ⟨k3.1, k3.2.1, k3.2.2.1, k3.2.2.2⟩
/-- the handlers: the law's methods alone have some -/
theorem qHd_own : (List.range 381).all (fun m => (qHd m).isEmpty || ((qMI m).1 == 12 && (decide (320 ≤ m) && decide (m ≠ 378)))) = true := by decide +kernel
theorem qHd_len : (List.range 381).all (fun m => ((qMI m).2.2.2.2.2.2.2.2.2.1.isEmpty == (qHd m).isEmpty)) = true := by decide +kernel
theorem qH_none {m : Nat} (h : m < 381) (hd : qHd m = []) : qmH m = [] := by
  have h1 := List.all_eq_true.mp qHd_len m (List.mem_range.mpr h)
  rw [hd] at h1
  simpa using h1
/-- which handler takes it -/
theorem qHandOk_spec {rows : List PRow} {pc e h0 : Nat} : ∀ {hh : List (Nat × Nat × Nat × Nat)} {hd : List PHd} {hx : List (Nat × Nat × Nat)}, qHandOk rows hh hd hx = true → pHand hd pc e = some h0 →
    ∃ (pre : List ExceptionTableEntry) (x : ExceptionTableEntry) (suf : List ExceptionTableEntry), tableOf hh = pre ++ x :: suf ∧ covers x pc = true ∧ x.catchType ≠ 0 ∧ e < 3 ∧ Cond.classLink RL x.catchType (qEx e) ∈ lw_tbl ∧ (rows[h0]?).map (fun r => r.1) = some x.handlerPc ∧
      ∀ z ∈ pre, covers z pc = false ∨ (z.catchType ≠ 0 ∧ ∃ e2, e2 < 3 ∧ e2 ≠ e ∧ Cond.classLink RL z.catchType (qEx e2) ∈ lw_tbl)
  | [], [], [], _, h2 => by cases h2
  | h :: hs, d :: ds, x :: xs, h1, h2 => by
    unfold qHandOk at h1
    simp only [Bool.and_eq_true, decide_eq_true_eq] at h1
    obtain ⟨a1, a2, a3, a4, a5⟩ := h1
    unfold pHand at h2
    have hcov : covers (⟨h.1, h.2.1, h.2.2.1, h.2.2.2⟩ : ExceptionTableEntry) pc = (decide (d.1 ≤ pc) && decide (pc < d.2.1)) := by rw [a1]
    by_cases hc : d.1 ≤ pc ∧ pc < d.2.1 ∧ d.2.2.2 = e
    · rw [if_pos hc] at h2
      have h3 := Option.some.inj h2
      subst h3
      refine ⟨[], ⟨h.1, h.2.1, h.2.2.1, h.2.2.2⟩, tableOf hs, rfl, ?_, ?_, ?_, ?_, ?_, fun z hz => by cases hz⟩
      · rw [hcov]
        simp only [Bool.and_eq_true, decide_eq_true_eq]
        exact ⟨hc.1, hc.2.1⟩
      · show h.2.2.2 ≠ 0
        rw [a1]; exact a4.2
      · rw [← hc.2.2]; exact a4.1
      · show Cond.classLink RL h.2.2.2 (qEx e) ∈ lw_tbl
        rw [a1, ← hc.2.2]
        exact qGet_mem a3
      · show _ = some h.2.2.1
        rw [a1]; exact a2
    · rw [if_neg hc] at h2
      obtain ⟨pre, y, suf, b1, b2, b3, b4, b5, b6, b7⟩ := qHandOk_spec a5 h2
      refine ⟨⟨h.1, h.2.1, h.2.2.1, h.2.2.2⟩ :: pre, y, suf, ?_, b2, b3, b4, b5, b6, fun z hz => ?_⟩
      · show _ :: tableOf hs = _
        rw [b1]; rfl
      · rcases List.mem_cons.mp hz with z1 | z1
        · rw [z1]
          by_cases hcv : d.1 ≤ pc ∧ pc < d.2.1
          · refine Or.inr ⟨?_, d.2.2.2, a4.1, fun z2 => hc ⟨hcv.1, hcv.2, z2⟩, ?_⟩
            · show h.2.2.2 ≠ 0
              rw [a1]; exact a4.2
            · show Cond.classLink RL h.2.2.2 _ ∈ lw_tbl
              rw [a1]; exact qGet_mem a3
          · refine Or.inl ?_
            rw [hcov]
            simp only [Bool.and_eq_false_iff, decide_eq_false_iff_not]
            by_cases z3 : d.1 ≤ pc
            · exact Or.inr (fun z4 => hcv ⟨z3, z4⟩)
            · exact Or.inl z3
        · exact b7 z z1
  | [], [], _ :: _, h1, _ => by simp [qHandOk] at h1
  | [], _ :: _, [], h1, _ => by simp [qHandOk] at h1
  | [], _ :: _, _ :: _, h1, _ => by simp [qHandOk] at h1
  | _ :: _, [], [], h1, _ => by simp [qHandOk] at h1
  | _ :: _, [], _ :: _, h1, _ => by simp [qHandOk] at h1
  | _ :: _, _ :: _, [], h1, _ => by simp [qHandOk] at h1
theorem qHands_of {m pc e h0 : Nat} (hm : m < 381) (h : pHand (qHd m) pc e = some h0) : qmO m = 12 ∧ qHandOk (qRows m) (qmH m) (qHd m) (qHh m) = true := by
  have hne : qHd m ≠ [] := fun z => by rw [z] at h; cases h
  have h1 := List.all_eq_true.mp qHd_own m (List.mem_range.mpr hm)
  simp only [Bool.or_eq_true, List.isEmpty_iff, Bool.and_eq_true, beq_iff_eq, decide_eq_true_eq] at h1
  rcases h1 with z | ⟨z1, z2, z3⟩
  · exact absurd z hne
  · have h2 := List.all_eq_true.mp qHands m (List.mem_range.mpr hm)
    rw [if_neg (by omega)] at h2
    exact ⟨z1, h2⟩
/-- THE ROWS ARE THE CODE'S: decided in parts 06 and 07, put together in part 16 -/
def qAllOk : Prop := ∀ m, m < 381 → (∀ (i : Nat) (r : PRow), (qRows m)[i]? = some r → qRowOk (qmO m) (decide ((qmY m).name = "<init>")) (qmF m) (qmG m) (qmB m) (qRows m) ((qRows m).drop (i + 1)) r = true) ∧ ∃ r, (qRows m)[0]? = some r ∧ r.1 = 0
