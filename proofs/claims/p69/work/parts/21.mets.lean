/-! ===== THE METHODS, AS THE INTERPRETER HAS THEM (printed by wip/whole/gen_mets.py) ===== -/
theorem M_0 : qPT 0 = (rw_0, 1, 1, [], none, 0) := rfl
theorem M_1 : qPT 1 = (rw_1, 1, 1, [], none, 0) := rfl
theorem M_3 : qPT 3 = (rw_3, 1, 1, [], (some FieldType.int), 0) := rfl
theorem M_4 : qPT 4 = (rw_4, 1, 1, [], (some FieldType.boolean), 0) := rfl
theorem M_5 : qPT 5 = (rw_5, 6, 6, [], (some FieldType.int), 0) := rfl
theorem M_6 : qPT 6 = (rw_6, 3, 1, [], none, 1) := rfl
theorem M_7 : qPT 7 = (rw_7, 1, 1, [], (some (FieldType.object "QuorumLog$Snapshot")), 1) := rfl
theorem M_8 : qPT 8 = (rw_8, 7, 2, [], none, 1) := rfl
theorem M_10 : qPT 10 = (rw_10, 6, 1, [], (some FieldType.int), 1) := rfl
theorem M_11 : qPT 11 = (rw_11, 6, 1, [], (some FieldType.int), 1) := rfl
theorem M_12 : qPT 12 = (rw_12, 6, 1, [], (some (FieldType.object "QuorumLog$Server")), 1) := rfl
theorem M_13 : qPT 13 = (rw_13, 9, 4, [], (some FieldType.int), 1) := rfl
theorem M_14 : qPT 14 = (rw_14, 10, 2, [], (some FieldType.boolean), 1) := rfl
theorem M_21 : qPT 21 = (rw_21, 5, 1, [], none, 1) := rfl
theorem M_22 : qPT 22 = (rw_22, 4, 3, [], none, 1) := rfl
theorem M_23 : qPT 23 = (rw_23, 2, 2, [], (some FieldType.int), 1) := rfl
theorem M_24 : qPT 24 = (rw_24, 2, 2, [], (some FieldType.int), 1) := rfl
theorem M_25 : qPT 25 = (rw_25, 6, 4, [], none, 1) := rfl
theorem M_26 : qPT 26 = (rw_26, 4, 2, [], (some FieldType.int), 1) := rfl
theorem M_27 : qPT 27 = (rw_27, 7, 3, [], none, 1) := rfl
theorem M_28 : qPT 28 = (rw_28, 3, 2, [], none, 1) := rfl
theorem M_29 : qPT 29 = (rw_29, 6, 3, [], none, 1) := rfl
theorem M_30 : qPT 30 = (rw_30, 5, 2, [], (some FieldType.boolean), 1) := rfl
theorem M_31 : qPT 31 = (rw_31, 7, 6, [], none, 1) := rfl
theorem M_32 : qPT 32 = (rw_32, 5, 3, [], none, 1) := rfl
theorem M_33 : qPT 33 = (rw_33, 5, 3, [], none, 1) := rfl
theorem M_34 : qPT 34 = (rw_34, 5, 5, [], (some FieldType.boolean), 1) := rfl
theorem M_35 : qPT 35 = (rw_35, 5, 3, [], none, 1) := rfl
theorem M_36 : qPT 36 = (rw_36, 4, 3, [], none, 1) := rfl
theorem M_37 : qPT 37 = (rw_37, 3, 3, [], none, 1) := rfl
theorem M_38 : qPT 38 = (rw_38, 3, 3, [], (some FieldType.boolean), 1) := rfl
theorem M_39 : qPT 39 = (rw_39, 5, 5, [], none, 2) := rfl
theorem M_40 : qPT 40 = (rw_40, 1, 1, [], (some FieldType.int), 2) := rfl
theorem M_41 : qPT 41 = (rw_41, 1, 1, [], (some FieldType.int), 2) := rfl
theorem M_42 : qPT 42 = (rw_42, 1, 1, [], (some FieldType.int), 2) := rfl
theorem M_43 : qPT 43 = (rw_43, 1, 1, [], none, 3) := rfl
theorem M_44 : qPT 44 = (rw_44, 3, 2, [], none, 3) := rfl
theorem M_45 : qPT 45 = (rw_45, 1, 1, [], (some FieldType.int), 3) := rfl
theorem M_46 : qPT 46 = (rw_46, 1, 1, [], (some FieldType.boolean), 3) := rfl
theorem M_47 : qPT 47 = (rw_47, 2, 1, [], none, 4) := rfl
theorem M_48 : qPT 48 = (rw_48, 1, 1, [], none, 4) := rfl
theorem M_50 : qPT 50 = (rw_50, 3, 3, [], (some FieldType.boolean), 4) := rfl
theorem M_51 : qPT 51 = (rw_51, 3, 3, [], (some FieldType.int), 4) := rfl
theorem M_52 : qPT 52 = (rw_52, 6, 5, [], (some (FieldType.object "QuorumLog$Message")), 4) := rfl
theorem M_53 : qPT 53 = (rw_53, 2, 2, [], (some FieldType.int), 4) := rfl
theorem M_54 : qPT 54 = (rw_54, 4, 2, [], (some (FieldType.object "QuorumLog$Message")), 4) := rfl
theorem M_55 : qPT 55 = (rw_55, 7, 7, [], none, 5) := rfl
theorem M_56 : qPT 56 = (rw_56, 3, 3, [], none, 6) := rfl
theorem M_57 : qPT 57 = (rw_57, 2, 2, [], none, 6) := rfl
theorem M_58 : qPT 58 = (rw_58, 1, 1, [], none, 6) := rfl
theorem M_59 : qPT 59 = (rw_59, 1, 1, [], none, 6) := rfl
theorem M_61 : qPT 61 = (rw_61, 1, 1, [], (some FieldType.int), 6) := rfl
theorem M_62 : qPT 62 = (rw_62, 1, 1, [], (some FieldType.int), 6) := rfl
theorem M_63 : qPT 63 = (rw_63, 1, 1, [], (some FieldType.int), 6) := rfl
theorem M_64 : qPT 64 = (rw_64, 2, 2, [], (some (FieldType.object "QuorumLog$Entry")), 6) := rfl
theorem M_65 : qPT 65 = (rw_65, 2, 2, [], (some FieldType.int), 6) := rfl
theorem M_66 : qPT 66 = (rw_66, 2, 2, [], (some FieldType.boolean), 6) := rfl
theorem M_67 : qPT 67 = (rw_67, 1, 1, [], (some FieldType.boolean), 6) := rfl
theorem M_68 : qPT 68 = (rw_68, 1, 1, [], (some FieldType.boolean), 6) := rfl
theorem M_69 : qPT 69 = (rw_69, 5, 2, [], (some FieldType.boolean), 6) := rfl
theorem M_70 : qPT 70 = (rw_70, 1, 1, [], (some FieldType.boolean), 6) := rfl
theorem M_71 : qPT 71 = (rw_71, 1, 1, [], (some FieldType.boolean), 6) := rfl
theorem M_72 : qPT 72 = (rw_72, 4, 3, [], (some FieldType.boolean), 6) := rfl
theorem M_73 : qPT 73 = (rw_73, 4, 2, [], (some FieldType.int), 6) := rfl
theorem M_74 : qPT 74 = (rw_74, 2, 2, [], none, 6) := rfl
theorem M_75 : qPT 75 = (rw_75, 3, 1, [], none, 6) := rfl
theorem M_76 : qPT 76 = (rw_76, 2, 1, [], none, 6) := rfl
theorem M_77 : qPT 77 = (rw_77, 3, 2, [], (some FieldType.int), 6) := rfl
theorem M_78 : qPT 78 = (rw_78, 2, 1, [], (some FieldType.int), 6) := rfl
theorem M_79 : qPT 79 = (rw_79, 3, 2, [], none, 6) := rfl
theorem M_80 : qPT 80 = (rw_80, 4, 3, [], none, 6) := rfl
theorem M_81 : qPT 81 = (rw_81, 4, 3, [], (some FieldType.boolean), 6) := rfl
theorem M_82 : qPT 82 = (rw_82, 3, 3, [], (some FieldType.boolean), 6) := rfl
theorem M_83 : qPT 83 = (rw_83, 4, 2, [], (some FieldType.int), 6) := rfl
theorem M_84 : qPT 84 = (rw_84, 3, 3, [], none, 6) := rfl
theorem M_85 : qPT 85 = (rw_85, 2, 2, [], none, 6) := rfl
theorem M_86 : qPT 86 = (rw_86, 2, 2, [], none, 6) := rfl
theorem M_87 : qPT 87 = (rw_87, 2, 2, [], none, 6) := rfl
theorem M_88 : qPT 88 = (rw_88, 1, 1, [], none, 6) := rfl
theorem M_89 : qPT 89 = (rw_89, 3, 3, [], none, 6) := rfl
theorem M_90 : qPT 90 = (rw_90, 5, 5, [], none, 7) := rfl
theorem M_91 : qPT 91 = (rw_91, 1, 1, [], none, 8) := rfl
theorem M_92 : qPT 92 = (rw_92, 2, 2, [], none, 8) := rfl
theorem M_93 : qPT 93 = (rw_93, 3, 2, [], none, 8) := rfl
theorem M_94 : qPT 94 = (rw_94, 1, 1, [], none, 9) := rfl
theorem M_95 : qPT 95 = (rw_95, 2, 2, [], (some FieldType.int), 9) := rfl
theorem M_96 : qPT 96 = (rw_96, 3, 2, [], (some FieldType.int), 9) := rfl
theorem M_97 : qPT 97 = (rw_97, 3, 2, [], (some FieldType.int), 9) := rfl
theorem M_98 : qPT 98 = (rw_98, 3, 3, [], (some FieldType.int), 9) := rfl
theorem M_99 : qPT 99 = (rw_99, 3, 3, [], (some FieldType.int), 9) := rfl
theorem M_100 : qPT 100 = (rw_100, 4, 2, [], (some FieldType.int), 9) := rfl
theorem M_101 : qPT 101 = (rw_101, 3, 2, [], (some FieldType.int), 9) := rfl
theorem M_102 : qPT 102 = (rw_102, 3, 2, [], (some FieldType.int), 9) := rfl
theorem M_103 : qPT 103 = (rw_103, 3, 2, [], (some FieldType.int), 9) := rfl
theorem M_104 : qPT 104 = (rw_104, 4, 3, [], (some FieldType.int), 9) := rfl
theorem M_105 : qPT 105 = (rw_105, 5, 3, [], (some FieldType.int), 9) := rfl
theorem M_106 : qPT 106 = (rw_106, 6, 3, [], (some FieldType.int), 9) := rfl
theorem M_107 : qPT 107 = (rw_107, 1, 1, [], (some FieldType.int), 9) := rfl
theorem M_108 : qPT 108 = (rw_108, 2, 2, [], (some FieldType.boolean), 9) := rfl
theorem M_109 : qPT 109 = (rw_109, 2, 2, [], (some FieldType.int), 9) := rfl
theorem M_110 : qPT 110 = (rw_110, 2, 2, [], (some FieldType.int), 9) := rfl
theorem M_116 : qPT 116 = (rw_116, 4, 4, [], (some FieldType.int), 9) := rfl
theorem M_117 : qPT 117 = (rw_117, 4, 4, [], (some FieldType.int), 9) := rfl
theorem M_119 : qPT 119 = (rw_119, 6, 3, [], (some FieldType.int), 9) := rfl
theorem M_120 : qPT 120 = (rw_120, 2, 2, [], (some FieldType.int), 9) := rfl
theorem M_123 : qPT 123 = (rw_123, 1, 1, [], (some FieldType.int), 9) := rfl
theorem M_124 : qPT 124 = (rw_124, 1, 1, [], (some FieldType.int), 9) := rfl
theorem M_125 : qPT 125 = (rw_125, 2, 2, [], (some FieldType.boolean), 9) := rfl
theorem M_126 : qPT 126 = (rw_126, 2, 2, [], (some FieldType.int), 9) := rfl
theorem M_127 : qPT 127 = (rw_127, 2, 2, [], (some FieldType.int), 9) := rfl
theorem M_128 : qPT 128 = (rw_128, 2, 2, [], (some FieldType.int), 9) := rfl
theorem M_129 : qPT 129 = (rw_129, 2, 2, [], (some FieldType.int), 9) := rfl
theorem M_130 : qPT 130 = (rw_130, 2, 2, [], (some FieldType.int), 9) := rfl
theorem M_132 : qPT 132 = (rw_132, 2, 2, [], (some FieldType.int), 9) := rfl
theorem M_133 : qPT 133 = (rw_133, 2, 2, [], (some FieldType.int), 9) := rfl
theorem M_134 : qPT 134 = (rw_134, 2, 2, [], (some FieldType.int), 9) := rfl
theorem M_135 : qPT 135 = (rw_135, 2, 2, [], (some FieldType.int), 9) := rfl
theorem M_136 : qPT 136 = (rw_136, 2, 2, [], (some FieldType.int), 9) := rfl
theorem M_138 : qPT 138 = (rw_138, 4, 3, [], (some FieldType.int), 9) := rfl
theorem M_139 : qPT 139 = (rw_139, 3, 3, [], (some FieldType.int), 9) := rfl
theorem M_140 : qPT 140 = (rw_140, 3, 3, [], (some FieldType.int), 9) := rfl
theorem M_141 : qPT 141 = (rw_141, 3, 3, [], (some FieldType.int), 9) := rfl
theorem M_142 : qPT 142 = (rw_142, 3, 3, [], (some FieldType.int), 9) := rfl
theorem M_143 : qPT 143 = (rw_143, 3, 3, [], (some FieldType.int), 9) := rfl
theorem M_144 : qPT 144 = (rw_144, 3, 3, [], (some FieldType.int), 9) := rfl
theorem M_145 : qPT 145 = (rw_145, 3, 3, [], (some FieldType.int), 9) := rfl
theorem M_146 : qPT 146 = (rw_146, 3, 3, [], (some FieldType.int), 9) := rfl
theorem M_147 : qPT 147 = (rw_147, 2, 1, [], (some FieldType.int), 9) := rfl
theorem M_148 : qPT 148 = (rw_148, 1, 1, [], (some FieldType.int), 9) := rfl
theorem M_149 : qPT 149 = (rw_149, 6, 1, [], (some FieldType.int), 9) := rfl
theorem M_150 : qPT 150 = (rw_150, 3, 3, [], (some FieldType.int), 9) := rfl
theorem M_160 : qPT 160 = (rw_160, 7, 1, [], (some FieldType.long), 9) := rfl
theorem M_161 : qPT 161 = (rw_161, 7, 2, [], (some FieldType.long), 9) := rfl
theorem M_162 : qPT 162 = (rw_162, 9, 2, [], (some FieldType.long), 9) := rfl
theorem M_163 : qPT 163 = (rw_163, 6, 3, [], (some FieldType.long), 9) := rfl
theorem M_164 : qPT 164 = (rw_164, 8, 3, [], (some FieldType.long), 9) := rfl
theorem M_165 : qPT 165 = (rw_165, 9, 2, [], (some FieldType.long), 9) := rfl
theorem M_166 : qPT 166 = (rw_166, 10, 3, [], (some FieldType.long), 9) := rfl
theorem M_168 : qPT 168 = (rw_168, 1, 1, [], none, 9) := rfl
theorem M_169 : qPT 169 = (rw_169, 1, 1, [], none, 9) := rfl
theorem M_170 : qPT 170 = (rw_170, 2, 2, [], none, 9) := rfl
theorem M_171 : qPT 171 = (rw_171, 1, 1, [], none, 9) := rfl
theorem M_172 : qPT 172 = (rw_172, 1, 1, [], none, 9) := rfl
theorem M_173 : qPT 173 = (rw_173, 2, 2, [], none, 9) := rfl
theorem M_174 : qPT 174 = (rw_174, 5, 5, [], none, 9) := rfl
theorem M_175 : qPT 175 = (rw_175, 1, 1, [], (some FieldType.boolean), 9) := rfl
theorem M_176 : qPT 176 = (rw_176, 2, 2, [], (some (FieldType.object "QuorumLog$Server")), 9) := rfl
theorem M_178 : qPT 178 = (rw_178, 4, 3, [], (some (FieldType.object "QuorumLog$Entry")), 9) := rfl
theorem M_322 : qPT 322 = (rw_322, 2, 2, [], (some FieldType.int), 12) := rfl
theorem M_323 : qPT 323 = (rw_323, 2, 2, [], (some FieldType.int), 12) := rfl
theorem M_324 : qPT 324 = (rw_324, 6, 2, [(29, 105, 136, 2), (29, 105, 136, 0), (29, 105, 136, 1), (106, 111, 136, 2), (106, 111, 136, 0), (106, 111, 136, 1), (112, 118, 136, 2), (112, 118, 136, 0), (112, 118, 136, 1), (119, 125, 136, 2), (119, 125, 136, 0), (119, 125, 136, 1), (126, 131, 136, 2), (126, 131, 136, 0), (126, 131, 136, 1), (132, 140, 136, 2), (132, 140, 136, 0), (132, 140, 136, 1), (141, 146, 136, 2), (141, 146, 136, 0), (141, 146, 136, 1), (147, 156, 136, 2), (147, 156, 136, 0), (147, 156, 136, 1), (157, 166, 136, 2), (157, 166, 136, 0), (157, 166, 136, 1), (167, 176, 136, 2), (167, 176, 136, 0), (167, 176, 136, 1), (177, 209, 136, 2), (177, 209, 136, 0), (177, 209, 136, 1), (210, 220, 136, 2), (210, 220, 136, 0), (210, 220, 136, 1), (221, 273, 136, 2), (221, 273, 136, 0), (221, 273, 136, 1), (274, 288, 136, 2), (274, 288, 136, 0), (274, 288, 136, 1)], (some FieldType.int), 12) := rfl
theorem M_325 : qPT 325 = (rw_325, 4, 3, [], (some FieldType.boolean), 12) := rfl
theorem M_326 : qPT 326 = (rw_326, 5, 2, [], (some FieldType.boolean), 12) := rfl
theorem M_327 : qPT 327 = (rw_327, 5, 3, [], (some FieldType.boolean), 12) := rfl
theorem M_378 : qPT 378 = (rw_378, 12, 1, [], (some .boolean), 12) := rfl
theorem M_379 : qPT 379 = (rw_379, 1, 1, [], (some FieldType.int), 13) := rfl
theorem M_380 : qPT 380 = (rw_380, 4, 2, [], none, 15) := rfl
