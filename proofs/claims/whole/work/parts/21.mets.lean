/-! ===== THE METHODS, AS THE INTERPRETER HAS THEM (printed by wip/whole/gen_mets.py) ===== -/
theorem M_0 : qPT 0 = (rw_0, 1, 1, [], none, 0) := rfl
theorem M_1 : qPT 1 = (rw_1, 1, 1, [], none, 0) := rfl
theorem M_2 : qPT 2 = (rw_2, 2, 2, [], none, 0) := rfl
theorem M_3 : qPT 3 = (rw_3, 1, 1, [], (some FieldType.int), 0) := rfl
theorem M_4 : qPT 4 = (rw_4, 1, 1, [], (some FieldType.boolean), 0) := rfl
theorem M_5 : qPT 5 = (rw_5, 6, 6, [], (some FieldType.int), 0) := rfl
theorem M_6 : qPT 6 = (rw_6, 3, 1, [], none, 1) := rfl
theorem M_7 : qPT 7 = (rw_7, 1, 1, [], (some (FieldType.object "QuorumLog$Snapshot")), 1) := rfl
theorem M_8 : qPT 8 = (rw_8, 7, 2, [], none, 1) := rfl
theorem M_9 : qPT 9 = (rw_9, 3, 2, [], none, 1) := rfl
theorem M_10 : qPT 10 = (rw_10, 6, 1, [], (some FieldType.int), 1) := rfl
theorem M_11 : qPT 11 = (rw_11, 6, 1, [], (some FieldType.int), 1) := rfl
theorem M_12 : qPT 12 = (rw_12, 6, 1, [], (some (FieldType.object "QuorumLog$Server")), 1) := rfl
theorem M_13 : qPT 13 = (rw_13, 9, 4, [], (some FieldType.int), 1) := rfl
theorem M_14 : qPT 14 = (rw_14, 10, 2, [], (some FieldType.boolean), 1) := rfl
theorem M_15 : qPT 15 = (rw_15, 4, 2, [], (some FieldType.int), 1) := rfl
theorem M_16 : qPT 16 = (rw_16, 4, 3, [], (some FieldType.boolean), 1) := rfl
theorem M_17 : qPT 17 = (rw_17, 3, 3, [], (some FieldType.boolean), 1) := rfl
theorem M_18 : qPT 18 = (rw_18, 5, 1, [], (some FieldType.boolean), 1) := rfl
theorem M_19 : qPT 19 = (rw_19, 6, 2, [], (some FieldType.boolean), 1) := rfl
theorem M_20 : qPT 20 = (rw_20, 7, 1, [], (some FieldType.boolean), 1) := rfl
theorem M_21 : qPT 21 = (rw_21, 5, 1, [], none, 1) := rfl
theorem M_22 : qPT 22 = (rw_22, 4, 3, [], none, 1) := rfl
theorem M_23 : qPT 23 = (rw_23, 2, 2, [], (some FieldType.int), 1) := rfl
theorem M_24 : qPT 24 = (rw_24, 2, 2, [], (some FieldType.int), 1) := rfl
theorem M_25 : qPT 25 = (rw_25, 6, 4, [], none, 1) := rfl
theorem M_26 : qPT 26 = (rw_26, 4, 2, [], (some FieldType.int), 1) := rfl
theorem M_27 : qPT 27 = (rw_27, 7, 3, [], none, 1) := rfl
theorem M_28 : qPT 28 = (rw_28, 3, 2, [], none, 1) := rfl
theorem M_29 : qPT 29 = (rw_29, 6, 3, [], none, 1) := rfl
theorem M_30 : qPT 30 = (rw_30, 5, 2, [], (some FieldType.boolean), 1) := rfl
theorem M_31 : qPT 31 = (rw_31, 7, 6, [], none, 1) := rfl
theorem M_32 : qPT 32 = (rw_32, 5, 3, [], none, 1) := rfl
theorem M_33 : qPT 33 = (rw_33, 5, 3, [], none, 1) := rfl
theorem M_34 : qPT 34 = (rw_34, 5, 5, [], (some FieldType.boolean), 1) := rfl
theorem M_35 : qPT 35 = (rw_35, 5, 3, [], none, 1) := rfl
theorem M_36 : qPT 36 = (rw_36, 4, 3, [], none, 1) := rfl
theorem M_37 : qPT 37 = (rw_37, 3, 3, [], none, 1) := rfl
theorem M_38 : qPT 38 = (rw_38, 3, 3, [], (some FieldType.boolean), 1) := rfl
theorem M_39 : qPT 39 = (rw_39, 5, 5, [], none, 2) := rfl
theorem M_40 : qPT 40 = (rw_40, 1, 1, [], (some FieldType.int), 2) := rfl
theorem M_41 : qPT 41 = (rw_41, 1, 1, [], (some FieldType.int), 2) := rfl
theorem M_42 : qPT 42 = (rw_42, 1, 1, [], (some FieldType.int), 2) := rfl
theorem M_43 : qPT 43 = (rw_43, 1, 1, [], none, 3) := rfl
theorem M_44 : qPT 44 = (rw_44, 3, 2, [], none, 3) := rfl
theorem M_45 : qPT 45 = (rw_45, 1, 1, [], (some FieldType.int), 3) := rfl
theorem M_46 : qPT 46 = (rw_46, 1, 1, [], (some FieldType.boolean), 3) := rfl
theorem M_47 : qPT 47 = (rw_47, 2, 1, [], none, 4) := rfl
theorem M_48 : qPT 48 = (rw_48, 1, 1, [], none, 4) := rfl
theorem M_49 : qPT 49 = (rw_49, 3, 2, [], none, 4) := rfl
theorem M_50 : qPT 50 = (rw_50, 3, 3, [], (some FieldType.boolean), 4) := rfl
theorem M_51 : qPT 51 = (rw_51, 3, 3, [], (some FieldType.int), 4) := rfl
theorem M_52 : qPT 52 = (rw_52, 6, 5, [], (some (FieldType.object "QuorumLog$Message")), 4) := rfl
theorem M_53 : qPT 53 = (rw_53, 2, 2, [], (some FieldType.int), 4) := rfl
theorem M_54 : qPT 54 = (rw_54, 4, 2, [], (some (FieldType.object "QuorumLog$Message")), 4) := rfl
theorem M_55 : qPT 55 = (rw_55, 7, 7, [], none, 5) := rfl
theorem M_56 : qPT 56 = (rw_56, 3, 3, [], none, 6) := rfl
theorem M_57 : qPT 57 = (rw_57, 2, 2, [], none, 6) := rfl
theorem M_58 : qPT 58 = (rw_58, 1, 1, [], none, 6) := rfl
theorem M_59 : qPT 59 = (rw_59, 1, 1, [], none, 6) := rfl
theorem M_60 : qPT 60 = (rw_60, 3, 2, [], none, 6) := rfl
theorem M_61 : qPT 61 = (rw_61, 1, 1, [], (some FieldType.int), 6) := rfl
theorem M_62 : qPT 62 = (rw_62, 1, 1, [], (some FieldType.int), 6) := rfl
theorem M_63 : qPT 63 = (rw_63, 1, 1, [], (some FieldType.int), 6) := rfl
theorem M_64 : qPT 64 = (rw_64, 2, 2, [], (some (FieldType.object "QuorumLog$Entry")), 6) := rfl
theorem M_65 : qPT 65 = (rw_65, 2, 2, [], (some FieldType.int), 6) := rfl
theorem M_66 : qPT 66 = (rw_66, 2, 2, [], (some FieldType.boolean), 6) := rfl
theorem M_67 : qPT 67 = (rw_67, 1, 1, [], (some FieldType.boolean), 6) := rfl
theorem M_68 : qPT 68 = (rw_68, 1, 1, [], (some FieldType.boolean), 6) := rfl
theorem M_69 : qPT 69 = (rw_69, 5, 2, [], (some FieldType.boolean), 6) := rfl
theorem M_70 : qPT 70 = (rw_70, 1, 1, [], (some FieldType.boolean), 6) := rfl
theorem M_71 : qPT 71 = (rw_71, 1, 1, [], (some FieldType.boolean), 6) := rfl
theorem M_72 : qPT 72 = (rw_72, 4, 3, [], (some FieldType.boolean), 6) := rfl
theorem M_73 : qPT 73 = (rw_73, 4, 2, [], (some FieldType.int), 6) := rfl
theorem M_74 : qPT 74 = (rw_74, 2, 2, [], none, 6) := rfl
theorem M_75 : qPT 75 = (rw_75, 3, 1, [], none, 6) := rfl
theorem M_76 : qPT 76 = (rw_76, 2, 1, [], none, 6) := rfl
theorem M_77 : qPT 77 = (rw_77, 3, 2, [], (some FieldType.int), 6) := rfl
theorem M_78 : qPT 78 = (rw_78, 2, 1, [], (some FieldType.int), 6) := rfl
theorem M_79 : qPT 79 = (rw_79, 3, 2, [], none, 6) := rfl
theorem M_80 : qPT 80 = (rw_80, 4, 3, [], none, 6) := rfl
theorem M_81 : qPT 81 = (rw_81, 4, 3, [], (some FieldType.boolean), 6) := rfl
theorem M_82 : qPT 82 = (rw_82, 3, 3, [], (some FieldType.boolean), 6) := rfl
theorem M_83 : qPT 83 = (rw_83, 4, 2, [], (some FieldType.int), 6) := rfl
theorem M_84 : qPT 84 = (rw_84, 3, 3, [], none, 6) := rfl
theorem M_85 : qPT 85 = (rw_85, 2, 2, [], none, 6) := rfl
theorem M_86 : qPT 86 = (rw_86, 2, 2, [], none, 6) := rfl
theorem M_87 : qPT 87 = (rw_87, 2, 2, [], none, 6) := rfl
theorem M_88 : qPT 88 = (rw_88, 1, 1, [], none, 6) := rfl
theorem M_89 : qPT 89 = (rw_89, 3, 3, [], none, 6) := rfl
theorem M_90 : qPT 90 = (rw_90, 5, 5, [], none, 7) := rfl
theorem M_91 : qPT 91 = (rw_91, 1, 1, [], none, 8) := rfl
theorem M_92 : qPT 92 = (rw_92, 2, 2, [], none, 8) := rfl
theorem M_93 : qPT 93 = (rw_93, 3, 2, [], none, 8) := rfl
theorem M_94 : qPT 94 = (rw_94, 1, 1, [], none, 9) := rfl
theorem M_95 : qPT 95 = (rw_95, 2, 2, [], (some FieldType.int), 9) := rfl
theorem M_96 : qPT 96 = (rw_96, 3, 2, [], (some FieldType.int), 9) := rfl
theorem M_97 : qPT 97 = (rw_97, 3, 2, [], (some FieldType.int), 9) := rfl
theorem M_98 : qPT 98 = (rw_98, 3, 3, [], (some FieldType.int), 9) := rfl
theorem M_99 : qPT 99 = (rw_99, 3, 3, [], (some FieldType.int), 9) := rfl
theorem M_100 : qPT 100 = (rw_100, 4, 2, [], (some FieldType.int), 9) := rfl
theorem M_101 : qPT 101 = (rw_101, 3, 2, [], (some FieldType.int), 9) := rfl
theorem M_102 : qPT 102 = (rw_102, 3, 2, [], (some FieldType.int), 9) := rfl
theorem M_103 : qPT 103 = (rw_103, 3, 2, [], (some FieldType.int), 9) := rfl
theorem M_104 : qPT 104 = (rw_104, 4, 3, [], (some FieldType.int), 9) := rfl
theorem M_105 : qPT 105 = (rw_105, 5, 3, [], (some FieldType.int), 9) := rfl
theorem M_106 : qPT 106 = (rw_106, 6, 3, [], (some FieldType.int), 9) := rfl
theorem M_107 : qPT 107 = (rw_107, 1, 1, [], (some FieldType.int), 9) := rfl
theorem M_108 : qPT 108 = (rw_108, 2, 2, [], (some FieldType.boolean), 9) := rfl
theorem M_109 : qPT 109 = (rw_109, 2, 2, [], (some FieldType.int), 9) := rfl
theorem M_110 : qPT 110 = (rw_110, 2, 2, [], (some FieldType.int), 9) := rfl
theorem M_111 : qPT 111 = (rw_111, 2, 2, [], (some FieldType.int), 9) := rfl
theorem M_112 : qPT 112 = (rw_112, 2, 2, [], (some FieldType.int), 9) := rfl
theorem M_113 : qPT 113 = (rw_113, 2, 2, [], (some FieldType.int), 9) := rfl
theorem M_114 : qPT 114 = (rw_114, 2, 2, [], (some FieldType.int), 9) := rfl
theorem M_115 : qPT 115 = (rw_115, 2, 2, [], (some FieldType.int), 9) := rfl
theorem M_116 : qPT 116 = (rw_116, 4, 4, [], (some FieldType.int), 9) := rfl
theorem M_117 : qPT 117 = (rw_117, 4, 4, [], (some FieldType.int), 9) := rfl
theorem M_118 : qPT 118 = (rw_118, 5, 5, [], (some FieldType.int), 9) := rfl
theorem M_119 : qPT 119 = (rw_119, 6, 3, [], (some FieldType.int), 9) := rfl
theorem M_120 : qPT 120 = (rw_120, 2, 2, [], (some FieldType.int), 9) := rfl
theorem M_121 : qPT 121 = (rw_121, 2, 2, [], (some FieldType.boolean), 9) := rfl
theorem M_122 : qPT 122 = (rw_122, 2, 2, [], (some FieldType.int), 9) := rfl
theorem M_123 : qPT 123 = (rw_123, 1, 1, [], (some FieldType.int), 9) := rfl
theorem M_124 : qPT 124 = (rw_124, 1, 1, [], (some FieldType.int), 9) := rfl
theorem M_125 : qPT 125 = (rw_125, 2, 2, [], (some FieldType.boolean), 9) := rfl
theorem M_126 : qPT 126 = (rw_126, 2, 2, [], (some FieldType.int), 9) := rfl
theorem M_127 : qPT 127 = (rw_127, 2, 2, [], (some FieldType.int), 9) := rfl
theorem M_128 : qPT 128 = (rw_128, 2, 2, [], (some FieldType.int), 9) := rfl
theorem M_129 : qPT 129 = (rw_129, 2, 2, [], (some FieldType.int), 9) := rfl
theorem M_130 : qPT 130 = (rw_130, 2, 2, [], (some FieldType.int), 9) := rfl
theorem M_131 : qPT 131 = (rw_131, 2, 2, [], (some FieldType.int), 9) := rfl
theorem M_132 : qPT 132 = (rw_132, 2, 2, [], (some FieldType.int), 9) := rfl
theorem M_133 : qPT 133 = (rw_133, 2, 2, [], (some FieldType.int), 9) := rfl
theorem M_134 : qPT 134 = (rw_134, 2, 2, [], (some FieldType.int), 9) := rfl
theorem M_135 : qPT 135 = (rw_135, 2, 2, [], (some FieldType.int), 9) := rfl
theorem M_136 : qPT 136 = (rw_136, 2, 2, [], (some FieldType.int), 9) := rfl
theorem M_137 : qPT 137 = (rw_137, 3, 3, [], (some FieldType.boolean), 9) := rfl
theorem M_138 : qPT 138 = (rw_138, 4, 3, [], (some FieldType.int), 9) := rfl
theorem M_139 : qPT 139 = (rw_139, 3, 3, [], (some FieldType.int), 9) := rfl
theorem M_140 : qPT 140 = (rw_140, 3, 3, [], (some FieldType.int), 9) := rfl
theorem M_141 : qPT 141 = (rw_141, 3, 3, [], (some FieldType.int), 9) := rfl
theorem M_142 : qPT 142 = (rw_142, 3, 3, [], (some FieldType.int), 9) := rfl
theorem M_143 : qPT 143 = (rw_143, 3, 3, [], (some FieldType.int), 9) := rfl
theorem M_144 : qPT 144 = (rw_144, 3, 3, [], (some FieldType.int), 9) := rfl
theorem M_145 : qPT 145 = (rw_145, 3, 3, [], (some FieldType.int), 9) := rfl
theorem M_146 : qPT 146 = (rw_146, 3, 3, [], (some FieldType.int), 9) := rfl
theorem M_147 : qPT 147 = (rw_147, 2, 1, [], (some FieldType.int), 9) := rfl
theorem M_148 : qPT 148 = (rw_148, 1, 1, [], (some FieldType.int), 9) := rfl
theorem M_149 : qPT 149 = (rw_149, 6, 1, [], (some FieldType.int), 9) := rfl
theorem M_150 : qPT 150 = (rw_150, 3, 3, [], (some FieldType.int), 9) := rfl
theorem M_151 : qPT 151 = (rw_151, 4, 3, [], (some FieldType.int), 9) := rfl
theorem M_152 : qPT 152 = (rw_152, 2, 2, [], (some FieldType.boolean), 9) := rfl
theorem M_153 : qPT 153 = (rw_153, 2, 2, [], (some FieldType.int), 9) := rfl
theorem M_154 : qPT 154 = (rw_154, 1, 1, [], (some FieldType.int), 9) := rfl
theorem M_155 : qPT 155 = (rw_155, 2, 2, [], (some FieldType.int), 9) := rfl
theorem M_156 : qPT 156 = (rw_156, 1, 1, [], (some FieldType.int), 9) := rfl
theorem M_157 : qPT 157 = (rw_157, 4, 2, [], (some FieldType.int), 9) := rfl
theorem M_158 : qPT 158 = (rw_158, 2, 2, [], (some FieldType.int), 9) := rfl
theorem M_159 : qPT 159 = (rw_159, 8, 1, [], (some FieldType.double), 9) := rfl
theorem M_160 : qPT 160 = (rw_160, 7, 1, [], (some FieldType.long), 9) := rfl
theorem M_161 : qPT 161 = (rw_161, 7, 2, [], (some FieldType.long), 9) := rfl
theorem M_162 : qPT 162 = (rw_162, 9, 2, [], (some FieldType.long), 9) := rfl
theorem M_163 : qPT 163 = (rw_163, 6, 3, [], (some FieldType.long), 9) := rfl
theorem M_164 : qPT 164 = (rw_164, 8, 3, [], (some FieldType.long), 9) := rfl
theorem M_165 : qPT 165 = (rw_165, 9, 2, [], (some FieldType.long), 9) := rfl
theorem M_166 : qPT 166 = (rw_166, 10, 3, [], (some FieldType.long), 9) := rfl
theorem M_167 : qPT 167 = (rw_167, 4, 3, [], (some FieldType.int), 9) := rfl
theorem M_168 : qPT 168 = (rw_168, 1, 1, [], none, 9) := rfl
theorem M_169 : qPT 169 = (rw_169, 1, 1, [], none, 9) := rfl
theorem M_170 : qPT 170 = (rw_170, 2, 2, [], none, 9) := rfl
theorem M_171 : qPT 171 = (rw_171, 1, 1, [], none, 9) := rfl
theorem M_172 : qPT 172 = (rw_172, 1, 1, [], none, 9) := rfl
theorem M_173 : qPT 173 = (rw_173, 2, 2, [], none, 9) := rfl
theorem M_174 : qPT 174 = (rw_174, 5, 5, [], none, 9) := rfl
theorem M_175 : qPT 175 = (rw_175, 1, 1, [], (some FieldType.boolean), 9) := rfl
theorem M_176 : qPT 176 = (rw_176, 2, 2, [], (some (FieldType.object "QuorumLog$Server")), 9) := rfl
theorem M_177 : qPT 177 = (rw_177, 2, 2, [], (some (FieldType.object "QuorumLog$Message")), 9) := rfl
theorem M_178 : qPT 178 = (rw_178, 4, 3, [], (some (FieldType.object "QuorumLog$Entry")), 9) := rfl
theorem M_179 : qPT 179 = (rw_179, 1, 1, [], none, 10) := rfl
theorem M_180 : qPT 180 = (rw_180, 2, 2, [], none, 10) := rfl
theorem M_181 : qPT 181 = (rw_181, 3, 2, [], none, 10) := rfl
theorem M_182 : qPT 182 = (rw_182, 4, 2, [], none, 10) := rfl
theorem M_183 : qPT 183 = (rw_183, 2, 2, [], none, 10) := rfl
theorem M_184 : qPT 184 = (rw_184, 4, 3, [], none, 10) := rfl
theorem M_185 : qPT 185 = (rw_185, 5, 5, [], none, 10) := rfl
theorem M_186 : qPT 186 = (rw_186, 5, 4, [], none, 10) := rfl
theorem M_187 : qPT 187 = (rw_187, 2, 2, [], (some FieldType.int), 10) := rfl
theorem M_188 : qPT 188 = (rw_188, 3, 3, [], (some FieldType.boolean), 10) := rfl
theorem M_189 : qPT 189 = (rw_189, 3, 3, [], (some FieldType.int), 10) := rfl
theorem M_190 : qPT 190 = (rw_190, 4, 4, [], (some FieldType.int), 10) := rfl
theorem M_191 : qPT 191 = (rw_191, 3, 3, [], (some FieldType.int), 10) := rfl
theorem M_192 : qPT 192 = (rw_192, 2, 2, [], (some FieldType.int), 10) := rfl
theorem M_193 : qPT 193 = (rw_193, 4, 3, [], (some FieldType.int), 10) := rfl
theorem M_194 : qPT 194 = (rw_194, 4, 3, [], (some FieldType.int), 10) := rfl
theorem M_195 : qPT 195 = (rw_195, 2, 2, [], (some FieldType.int), 10) := rfl
theorem M_196 : qPT 196 = (rw_196, 3, 3, [], (some FieldType.boolean), 10) := rfl
theorem M_197 : qPT 197 = (rw_197, 3, 1, [], (some FieldType.int), 10) := rfl
theorem M_198 : qPT 198 = (rw_198, 4, 3, [], (some FieldType.boolean), 10) := rfl
theorem M_199 : qPT 199 = (rw_199, 4, 4, [], (some FieldType.boolean), 10) := rfl
theorem M_200 : qPT 200 = (rw_200, 9, 7, [], (some FieldType.int), 10) := rfl
theorem M_201 : qPT 201 = (rw_201, 6, 3, [], none, 10) := rfl
theorem M_202 : qPT 202 = (rw_202, 5, 2, [], (some FieldType.int), 10) := rfl
theorem M_203 : qPT 203 = (rw_203, 6, 4, [], none, 10) := rfl
theorem M_204 : qPT 204 = (rw_204, 2, 2, [], none, 10) := rfl
theorem M_205 : qPT 205 = (rw_205, 2, 2, [], none, 10) := rfl
theorem M_206 : qPT 206 = (rw_206, 3, 2, [], none, 10) := rfl
theorem M_207 : qPT 207 = (rw_207, 6, 2, [], none, 10) := rfl
theorem M_208 : qPT 208 = (rw_208, 4, 2, [], none, 10) := rfl
theorem M_209 : qPT 209 = (rw_209, 10, 4, [], none, 10) := rfl
theorem M_210 : qPT 210 = (rw_210, 3, 2, [], (some FieldType.boolean), 10) := rfl
theorem M_211 : qPT 211 = (rw_211, 2, 2, [], none, 10) := rfl
theorem M_212 : qPT 212 = (rw_212, 10, 6, [], none, 10) := rfl
theorem M_213 : qPT 213 = (rw_213, 4, 4, [], (some FieldType.boolean), 10) := rfl
theorem M_214 : qPT 214 = (rw_214, 10, 6, [], none, 10) := rfl
theorem M_215 : qPT 215 = (rw_215, 4, 3, [], (some FieldType.int), 10) := rfl
theorem M_216 : qPT 216 = (rw_216, 6, 6, [], none, 10) := rfl
theorem M_217 : qPT 217 = (rw_217, 7, 6, [], none, 10) := rfl
theorem M_218 : qPT 218 = (rw_218, 3, 3, [], none, 10) := rfl
theorem M_219 : qPT 219 = (rw_219, 2, 2, [], (some FieldType.int), 10) := rfl
theorem M_220 : qPT 220 = (rw_220, 2, 1, [], none, 10) := rfl
theorem M_221 : qPT 221 = (rw_221, 2, 2, [], none, 10) := rfl
theorem M_222 : qPT 222 = (rw_222, 3, 1, [], (some FieldType.int), 10) := rfl
theorem M_223 : qPT 223 = (rw_223, 3, 2, [], (some FieldType.boolean), 10) := rfl
theorem M_224 : qPT 224 = (rw_224, 3, 1, [], (some FieldType.boolean), 10) := rfl
theorem M_225 : qPT 225 = (rw_225, 3, 1, [], (some FieldType.boolean), 10) := rfl
theorem M_226 : qPT 226 = (rw_226, 2, 2, [], (some FieldType.boolean), 10) := rfl
theorem M_227 : qPT 227 = (rw_227, 5, 3, [], (some FieldType.int), 10) := rfl
theorem M_228 : qPT 228 = (rw_228, 6, 3, [], (some FieldType.int), 10) := rfl
theorem M_229 : qPT 229 = (rw_229, 4, 2, [], (some FieldType.boolean), 10) := rfl
theorem M_230 : qPT 230 = (rw_230, 3, 1, [], (some FieldType.int), 10) := rfl
theorem M_231 : qPT 231 = (rw_231, 1, 1, [], none, 11) := rfl
theorem M_232 : qPT 232 = (rw_232, 1, 1, [], (some FieldType.int), 11) := rfl
theorem M_233 : qPT 233 = (rw_233, 2, 2, [], (some FieldType.int), 11) := rfl
theorem M_234 : qPT 234 = (rw_234, 1, 1, [], (some FieldType.boolean), 11) := rfl
theorem M_235 : qPT 235 = (rw_235, 1, 1, [], (some FieldType.boolean), 11) := rfl
theorem M_236 : qPT 236 = (rw_236, 1, 1, [], (some FieldType.boolean), 11) := rfl
theorem M_237 : qPT 237 = (rw_237, 1, 1, [], (some FieldType.boolean), 11) := rfl
theorem M_238 : qPT 238 = (rw_238, 2, 2, [], (some FieldType.boolean), 11) := rfl
theorem M_239 : qPT 239 = (rw_239, 6, 1, [], (some FieldType.int), 11) := rfl
theorem M_240 : qPT 240 = (rw_240, 6, 1, [], (some FieldType.int), 11) := rfl
theorem M_241 : qPT 241 = (rw_241, 2, 2, [], (some FieldType.boolean), 11) := rfl
theorem M_242 : qPT 242 = (rw_242, 2, 2, [], (some FieldType.int), 11) := rfl
theorem M_243 : qPT 243 = (rw_243, 2, 2, [], (some FieldType.int), 11) := rfl
theorem M_244 : qPT 244 = (rw_244, 2, 2, [], (some FieldType.int), 11) := rfl
theorem M_245 : qPT 245 = (rw_245, 4, 4, [], (some FieldType.int), 11) := rfl
theorem M_246 : qPT 246 = (rw_246, 3, 3, [], (some FieldType.int), 11) := rfl
theorem M_247 : qPT 247 = (rw_247, 3, 3, [], (some FieldType.int), 11) := rfl
theorem M_248 : qPT 248 = (rw_248, 4, 2, [], (some FieldType.int), 11) := rfl
theorem M_249 : qPT 249 = (rw_249, 2, 2, [], (some FieldType.int), 11) := rfl
theorem M_250 : qPT 250 = (rw_250, 2, 2, [], (some FieldType.int), 11) := rfl
theorem M_251 : qPT 251 = (rw_251, 6, 2, [], (some FieldType.int), 11) := rfl
theorem M_252 : qPT 252 = (rw_252, 3, 3, [], (some FieldType.int), 11) := rfl
theorem M_253 : qPT 253 = (rw_253, 2, 2, [], (some FieldType.boolean), 11) := rfl
theorem M_254 : qPT 254 = (rw_254, 4, 3, [], (some FieldType.int), 11) := rfl
theorem M_255 : qPT 255 = (rw_255, 3, 3, [], (some FieldType.int), 11) := rfl
theorem M_256 : qPT 256 = (rw_256, 3, 3, [], (some FieldType.int), 11) := rfl
theorem M_257 : qPT 257 = (rw_257, 1, 1, [], (some FieldType.int), 11) := rfl
theorem M_258 : qPT 258 = (rw_258, 2, 2, [], (some FieldType.boolean), 11) := rfl
theorem M_259 : qPT 259 = (rw_259, 2, 2, [], (some FieldType.int), 11) := rfl
theorem M_260 : qPT 260 = (rw_260, 2, 2, [], (some FieldType.int), 11) := rfl
theorem M_261 : qPT 261 = (rw_261, 3, 3, [], (some FieldType.int), 11) := rfl
theorem M_262 : qPT 262 = (rw_262, 2, 2, [], (some FieldType.int), 11) := rfl
theorem M_263 : qPT 263 = (rw_263, 2, 2, [], (some FieldType.int), 11) := rfl
theorem M_264 : qPT 264 = (rw_264, 2, 2, [], (some FieldType.int), 11) := rfl
theorem M_265 : qPT 265 = (rw_265, 2, 2, [], (some FieldType.int), 11) := rfl
theorem M_266 : qPT 266 = (rw_266, 2, 2, [], (some FieldType.int), 11) := rfl
theorem M_267 : qPT 267 = (rw_267, 8, 6, [], (some FieldType.int), 11) := rfl
theorem M_268 : qPT 268 = (rw_268, 4, 4, [], (some FieldType.int), 11) := rfl
theorem M_269 : qPT 269 = (rw_269, 4, 4, [], (some FieldType.int), 11) := rfl
theorem M_270 : qPT 270 = (rw_270, 5, 5, [], (some FieldType.int), 11) := rfl
theorem M_271 : qPT 271 = (rw_271, 2, 2, [], (some FieldType.boolean), 11) := rfl
theorem M_272 : qPT 272 = (rw_272, 4, 3, [], (some FieldType.int), 11) := rfl
theorem M_273 : qPT 273 = (rw_273, 2, 2, [], (some FieldType.int), 11) := rfl
theorem M_274 : qPT 274 = (rw_274, 2, 2, [], (some FieldType.boolean), 11) := rfl
theorem M_275 : qPT 275 = (rw_275, 2, 2, [], (some FieldType.int), 11) := rfl
theorem M_276 : qPT 276 = (rw_276, 1, 1, [], (some FieldType.int), 11) := rfl
theorem M_277 : qPT 277 = (rw_277, 1, 1, [], (some FieldType.int), 11) := rfl
theorem M_278 : qPT 278 = (rw_278, 3, 3, [], (some FieldType.int), 11) := rfl
theorem M_279 : qPT 279 = (rw_279, 2, 2, [], (some FieldType.boolean), 11) := rfl
theorem M_280 : qPT 280 = (rw_280, 2, 2, [], (some FieldType.int), 11) := rfl
theorem M_281 : qPT 281 = (rw_281, 2, 2, [], (some FieldType.int), 11) := rfl
theorem M_282 : qPT 282 = (rw_282, 2, 2, [], (some FieldType.int), 11) := rfl
theorem M_283 : qPT 283 = (rw_283, 2, 2, [], (some FieldType.int), 11) := rfl
theorem M_284 : qPT 284 = (rw_284, 2, 2, [], (some FieldType.int), 11) := rfl
theorem M_285 : qPT 285 = (rw_285, 2, 2, [], (some FieldType.int), 11) := rfl
theorem M_286 : qPT 286 = (rw_286, 2, 2, [], (some FieldType.int), 11) := rfl
theorem M_287 : qPT 287 = (rw_287, 2, 2, [], (some FieldType.int), 11) := rfl
theorem M_288 : qPT 288 = (rw_288, 2, 2, [], (some FieldType.int), 11) := rfl
theorem M_289 : qPT 289 = (rw_289, 2, 2, [], (some FieldType.int), 11) := rfl
theorem M_290 : qPT 290 = (rw_290, 2, 2, [], (some FieldType.int), 11) := rfl
theorem M_291 : qPT 291 = (rw_291, 3, 3, [], (some FieldType.boolean), 11) := rfl
theorem M_292 : qPT 292 = (rw_292, 3, 3, [], (some FieldType.int), 11) := rfl
theorem M_293 : qPT 293 = (rw_293, 4, 4, [], (some FieldType.int), 11) := rfl
theorem M_294 : qPT 294 = (rw_294, 3, 3, [], (some FieldType.int), 11) := rfl
theorem M_295 : qPT 295 = (rw_295, 3, 3, [], (some FieldType.int), 11) := rfl
theorem M_296 : qPT 296 = (rw_296, 3, 3, [], (some FieldType.int), 11) := rfl
theorem M_297 : qPT 297 = (rw_297, 3, 3, [], (some FieldType.int), 11) := rfl
theorem M_298 : qPT 298 = (rw_298, 3, 3, [], (some FieldType.int), 11) := rfl
theorem M_299 : qPT 299 = (rw_299, 3, 3, [], (some FieldType.int), 11) := rfl
theorem M_300 : qPT 300 = (rw_300, 4, 4, [], (some FieldType.int), 11) := rfl
theorem M_301 : qPT 301 = (rw_301, 3, 3, [], (some FieldType.int), 11) := rfl
theorem M_302 : qPT 302 = (rw_302, 3, 3, [], (some FieldType.int), 11) := rfl
theorem M_303 : qPT 303 = (rw_303, 1, 1, [], (some FieldType.int), 11) := rfl
theorem M_304 : qPT 304 = (rw_304, 6, 1, [], (some FieldType.int), 11) := rfl
theorem M_305 : qPT 305 = (rw_305, 1, 1, [], (some FieldType.int), 11) := rfl
theorem M_306 : qPT 306 = (rw_306, 1, 1, [], (some FieldType.int), 11) := rfl
theorem M_307 : qPT 307 = (rw_307, 3, 3, [], (some FieldType.int), 11) := rfl
theorem M_308 : qPT 308 = (rw_308, 3, 3, [], (some FieldType.int), 11) := rfl
theorem M_309 : qPT 309 = (rw_309, 2, 2, [], (some FieldType.boolean), 11) := rfl
theorem M_310 : qPT 310 = (rw_310, 6, 2, [], (some FieldType.int), 11) := rfl
theorem M_311 : qPT 311 = (rw_311, 3, 3, [], (some FieldType.boolean), 11) := rfl
theorem M_312 : qPT 312 = (rw_312, 4, 3, [], (some FieldType.int), 11) := rfl
theorem M_313 : qPT 313 = (rw_313, 1, 1, [], (some FieldType.int), 11) := rfl
theorem M_314 : qPT 314 = (rw_314, 2, 2, [], (some FieldType.int), 11) := rfl
theorem M_315 : qPT 315 = (rw_315, 1, 1, [], (some FieldType.int), 11) := rfl
theorem M_316 : qPT 316 = (rw_316, 3, 2, [], (some FieldType.int), 11) := rfl
theorem M_317 : qPT 317 = (rw_317, 2, 2, [], (some FieldType.int), 11) := rfl
theorem M_318 : qPT 318 = (rw_318, 3, 1, [], (some FieldType.double), 11) := rfl
theorem M_319 : qPT 319 = (rw_319, 2, 2, [], none, 11) := rfl
theorem M_320 : qPT 320 = (rw_320, 3, 2, [], none, 11) := rfl
theorem M_321 : qPT 321 = (rw_321, 3, 1, [], (some FieldType.long), 11) := rfl
theorem M_322 : qPT 322 = (rw_322, 4, 3, [(0, 9, 8, 0)], (some FieldType.int), 12) := rfl
theorem M_323 : qPT 323 = (rw_323, 4, 3, [(0, 9, 8, 2), (0, 9, 11, 1)], (some FieldType.int), 12) := rfl
theorem M_324 : qPT 324 = (rw_324, 4, 3, [(0, 9, 8, 2), (0, 9, 11, 1)], (some FieldType.int), 12) := rfl
theorem M_325 : qPT 325 = (rw_325, 5, 4, [(0, 10, 9, 2), (0, 10, 12, 0), (0, 10, 15, 1)], (some FieldType.int), 12) := rfl
theorem M_326 : qPT 326 = (rw_326, 5, 4, [(0, 10, 9, 2), (0, 10, 12, 0), (0, 10, 15, 1)], (some FieldType.int), 12) := rfl
theorem M_327 : qPT 327 = (rw_327, 4, 3, [(0, 9, 8, 0)], (some FieldType.int), 12) := rfl
theorem M_328 : qPT 328 = (rw_328, 4, 3, [(0, 9, 8, 2), (0, 9, 11, 1)], (some FieldType.int), 12) := rfl
theorem M_329 : qPT 329 = (rw_329, 4, 3, [(0, 9, 8, 2), (0, 9, 11, 1)], (some FieldType.int), 12) := rfl
theorem M_330 : qPT 330 = (rw_330, 4, 3, [(0, 9, 8, 2), (0, 9, 11, 1)], (some FieldType.int), 12) := rfl
theorem M_331 : qPT 331 = (rw_331, 5, 4, [(0, 10, 9, 2), (0, 10, 12, 0), (0, 10, 15, 1)], (some FieldType.int), 12) := rfl
theorem M_332 : qPT 332 = (rw_332, 5, 4, [(0, 10, 9, 2), (0, 10, 12, 1)], (some FieldType.int), 12) := rfl
theorem M_333 : qPT 333 = (rw_333, 5, 4, [(0, 10, 9, 2), (0, 10, 12, 1)], (some FieldType.int), 12) := rfl
theorem M_334 : qPT 334 = (rw_334, 4, 3, [(0, 16, 11, 2)], (some FieldType.int), 12) := rfl
theorem M_335 : qPT 335 = (rw_335, 4, 3, [(0, 9, 8, 2)], (some FieldType.int), 12) := rfl
theorem M_336 : qPT 336 = (rw_336, 4, 3, [(0, 9, 8, 2), (0, 9, 11, 1)], (some FieldType.int), 12) := rfl
theorem M_337 : qPT 337 = (rw_337, 4, 3, [(0, 9, 8, 2)], (some FieldType.int), 12) := rfl
theorem M_338 : qPT 338 = (rw_338, 4, 3, [(0, 9, 8, 2)], (some FieldType.int), 12) := rfl
theorem M_339 : qPT 339 = (rw_339, 4, 3, [(0, 9, 8, 2)], (some FieldType.int), 12) := rfl
theorem M_340 : qPT 340 = (rw_340, 4, 3, [(0, 9, 8, 2)], (some FieldType.int), 12) := rfl
theorem M_341 : qPT 341 = (rw_341, 4, 3, [(0, 9, 8, 2)], (some FieldType.int), 12) := rfl
theorem M_342 : qPT 342 = (rw_342, 6, 5, [(0, 12, 10, 2), (0, 12, 13, 0), (0, 12, 16, 1)], (some FieldType.int), 12) := rfl
theorem M_343 : qPT 343 = (rw_343, 6, 5, [(0, 12, 10, 2), (0, 12, 13, 0), (0, 12, 16, 1)], (some FieldType.int), 12) := rfl
theorem M_344 : qPT 344 = (rw_344, 7, 6, [(0, 14, 11, 2), (0, 14, 14, 0), (0, 14, 17, 1)], (some FieldType.int), 12) := rfl
theorem M_345 : qPT 345 = (rw_345, 5, 4, [(0, 10, 9, 2), (0, 10, 12, 1)], (some FieldType.int), 12) := rfl
theorem M_346 : qPT 346 = (rw_346, 4, 3, [(0, 9, 8, 2)], (some FieldType.int), 12) := rfl
theorem M_347 : qPT 347 = (rw_347, 4, 3, [(0, 16, 11, 2)], (some FieldType.int), 12) := rfl
theorem M_348 : qPT 348 = (rw_348, 4, 3, [(0, 9, 8, 2), (0, 9, 11, 1)], (some FieldType.int), 12) := rfl
theorem M_349 : qPT 349 = (rw_349, 4, 3, [(0, 16, 11, 2)], (some FieldType.int), 12) := rfl
theorem M_350 : qPT 350 = (rw_350, 4, 3, [(0, 9, 8, 2)], (some FieldType.int), 12) := rfl
theorem M_351 : qPT 351 = (rw_351, 4, 3, [(0, 9, 8, 2)], (some FieldType.int), 12) := rfl
theorem M_352 : qPT 352 = (rw_352, 4, 3, [(0, 9, 8, 2)], (some FieldType.int), 12) := rfl
theorem M_353 : qPT 353 = (rw_353, 4, 3, [(0, 9, 8, 2)], (some FieldType.int), 12) := rfl
theorem M_354 : qPT 354 = (rw_354, 4, 3, [(0, 9, 8, 2)], (some FieldType.int), 12) := rfl
theorem M_355 : qPT 355 = (rw_355, 4, 3, [(0, 9, 8, 2)], (some FieldType.int), 12) := rfl
theorem M_356 : qPT 356 = (rw_356, 4, 3, [(0, 9, 8, 2)], (some FieldType.int), 12) := rfl
theorem M_357 : qPT 357 = (rw_357, 4, 3, [(0, 9, 8, 2)], (some FieldType.int), 12) := rfl
theorem M_358 : qPT 358 = (rw_358, 4, 3, [(0, 9, 8, 2)], (some FieldType.int), 12) := rfl
theorem M_359 : qPT 359 = (rw_359, 4, 3, [(0, 9, 8, 2)], (some FieldType.int), 12) := rfl
theorem M_360 : qPT 360 = (rw_360, 4, 3, [(0, 9, 8, 2)], (some FieldType.int), 12) := rfl
theorem M_361 : qPT 361 = (rw_361, 5, 4, [(0, 17, 12, 2)], (some FieldType.int), 12) := rfl
theorem M_362 : qPT 362 = (rw_362, 5, 4, [(0, 10, 9, 2)], (some FieldType.int), 12) := rfl
theorem M_363 : qPT 363 = (rw_363, 5, 4, [(0, 10, 9, 2)], (some FieldType.int), 12) := rfl
theorem M_364 : qPT 364 = (rw_364, 5, 4, [(0, 10, 9, 2)], (some FieldType.int), 12) := rfl
theorem M_365 : qPT 365 = (rw_365, 5, 4, [(0, 10, 9, 2)], (some FieldType.int), 12) := rfl
theorem M_366 : qPT 366 = (rw_366, 5, 4, [(0, 10, 9, 2)], (some FieldType.int), 12) := rfl
theorem M_367 : qPT 367 = (rw_367, 5, 4, [(0, 10, 9, 2)], (some FieldType.int), 12) := rfl
theorem M_368 : qPT 368 = (rw_368, 5, 4, [(0, 10, 9, 2)], (some FieldType.int), 12) := rfl
theorem M_369 : qPT 369 = (rw_369, 5, 4, [(0, 10, 9, 2), (0, 10, 12, 0), (0, 10, 15, 1)], (some FieldType.int), 12) := rfl
theorem M_370 : qPT 370 = (rw_370, 5, 4, [(0, 10, 9, 2), (0, 10, 12, 0), (0, 10, 15, 1)], (some FieldType.int), 12) := rfl
theorem M_371 : qPT 371 = (rw_371, 5, 4, [(0, 10, 9, 2)], (some FieldType.int), 12) := rfl
theorem M_372 : qPT 372 = (rw_372, 5, 4, [(0, 10, 9, 2)], (some FieldType.int), 12) := rfl
theorem M_373 : qPT 373 = (rw_373, 4, 3, [(0, 16, 11, 2)], (some FieldType.int), 12) := rfl
theorem M_374 : qPT 374 = (rw_374, 4, 3, [(0, 9, 8, 2)], (some FieldType.int), 12) := rfl
theorem M_375 : qPT 375 = (rw_375, 4, 3, [(0, 9, 8, 2)], (some FieldType.int), 12) := rfl
theorem M_376 : qPT 376 = (rw_376, 4, 3, [(0, 9, 8, 2)], (some FieldType.int), 12) := rfl
theorem M_377 : qPT 377 = (rw_377, 4, 3, [(0, 9, 8, 2), (0, 9, 11, 1)], (some FieldType.int), 12) := rfl
theorem M_378 : qPT 378 = (rw_378, 9, 1, [], (some .boolean), 12) := rfl
theorem M_379 : qPT 379 = (rw_379, 1, 1, [], (some FieldType.int), 13) := rfl
theorem M_380 : qPT 380 = (rw_380, 4, 2, [], none, 15) := rfl
