set_option maxRecDepth 100000 in
theorem ck_0 : qMetOk 0 = true := by decide +kernel
set_option maxRecDepth 100000 in
theorem ck_1 : qMetOk 1 = true := by decide +kernel
set_option maxRecDepth 100000 in
theorem ck_2 : qMetOk 2 = true := by decide +kernel
set_option maxRecDepth 100000 in
theorem ck_3 : qMetOk 3 = true := by decide +kernel
set_option maxRecDepth 100000 in
theorem ck_4 : qMetOk 4 = true := by decide +kernel
set_option maxRecDepth 100000 in
theorem ck_5 : qMetOk 5 = true := by decide +kernel
set_option maxRecDepth 100000 in
theorem ck_6 : qMetOk 6 = true := by decide +kernel
set_option maxRecDepth 100000 in
theorem ck_7 : qMetOk 7 = true := by decide +kernel
set_option maxRecDepth 100000 in
theorem ck_8 : qMetOk 8 = true := by decide +kernel
set_option maxRecDepth 100000 in
theorem ck_9 : qMetOk 9 = true := by decide +kernel
set_option maxRecDepth 100000 in
theorem ck_10 : qMetOk 10 = true := by decide +kernel
set_option maxRecDepth 100000 in
theorem ck_11 : qMetOk 11 = true := by decide +kernel
set_option maxRecDepth 100000 in
theorem ck_12 : qMetOk 12 = true := by decide +kernel
set_option maxRecDepth 100000 in
theorem ck_13 : qMetOk 13 = true := by decide +kernel
set_option maxRecDepth 100000 in
theorem ck_14 : qMetOk 14 = true := by decide +kernel
set_option maxRecDepth 100000 in
theorem ck_15 : qMetOk 15 = true := by decide +kernel
set_option maxRecDepth 100000 in
theorem ck_16 : qMetOk 16 = true := by decide +kernel
set_option maxRecDepth 100000 in
theorem ck_17 : qMetOk 17 = true := by decide +kernel
set_option maxRecDepth 100000 in
theorem ck_18 : qMetOk 18 = true := by decide +kernel
set_option maxRecDepth 100000 in
theorem ck_19 : qMetOk 19 = true := by decide +kernel
set_option maxRecDepth 100000 in
theorem ck_20 : qMetOk 20 = true := by decide +kernel
set_option maxRecDepth 100000 in
theorem ck_21 : qMetOk 21 = true := by decide +kernel
set_option maxRecDepth 100000 in
theorem ck_22 : qMetOk 22 = true := by decide +kernel
set_option maxRecDepth 100000 in
theorem ck_23 : qMetOk 23 = true := by decide +kernel
set_option maxRecDepth 100000 in
theorem ck_24 : qMetOk 24 = true := by decide +kernel
set_option maxRecDepth 100000 in
theorem ck_25 : qMetOk 25 = true := by decide +kernel
set_option maxRecDepth 100000 in
theorem ck_26 : qMetOk 26 = true := by decide +kernel
set_option maxRecDepth 100000 in
theorem ck_27 : qMetOk 27 = true := by decide +kernel
set_option maxRecDepth 100000 in
theorem ck_28 : qMetOk 28 = true := by decide +kernel
set_option maxRecDepth 100000 in
theorem ck_29 : qMetOk 29 = true := by decide +kernel
set_option maxRecDepth 100000 in
theorem ck_30 : qMetOk 30 = true := by decide +kernel
set_option maxRecDepth 100000 in
theorem ck_31 : qMetOk 31 = true := by decide +kernel
set_option maxRecDepth 100000 in
theorem ck_32 : qMetOk 32 = true := by decide +kernel
set_option maxRecDepth 100000 in
theorem ck_33 : qMetOk 33 = true := by decide +kernel
set_option maxRecDepth 100000 in
theorem ck_34 : qMetOk 34 = true := by decide +kernel
set_option maxRecDepth 100000 in
theorem ck_35 : qMetOk 35 = true := by decide +kernel
set_option maxRecDepth 100000 in
theorem ck_36 : qMetOk 36 = true := by decide +kernel
set_option maxRecDepth 100000 in
theorem ck_37 : qMetOk 37 = true := by decide +kernel
set_option maxRecDepth 100000 in
theorem ck_38 : qMetOk 38 = true := by decide +kernel
set_option maxRecDepth 100000 in
theorem ck_39 : qMetOk 39 = true := by decide +kernel
set_option maxRecDepth 100000 in
theorem ck_40 : qMetOk 40 = true := by decide +kernel
set_option maxRecDepth 100000 in
theorem ck_41 : qMetOk 41 = true := by decide +kernel
set_option maxRecDepth 100000 in
theorem ck_42 : qMetOk 42 = true := by decide +kernel
set_option maxRecDepth 100000 in
theorem ck_43 : qMetOk 43 = true := by decide +kernel
set_option maxRecDepth 100000 in
theorem ck_44 : qMetOk 44 = true := by decide +kernel
set_option maxRecDepth 100000 in
theorem ck_45 : qMetOk 45 = true := by decide +kernel
set_option maxRecDepth 100000 in
theorem ck_46 : qMetOk 46 = true := by decide +kernel
set_option maxRecDepth 100000 in
theorem ck_47 : qMetOk 47 = true := by decide +kernel
set_option maxRecDepth 100000 in
theorem ck_48 : qMetOk 48 = true := by decide +kernel
set_option maxRecDepth 100000 in
theorem ck_49 : qMetOk 49 = true := by decide +kernel
set_option maxRecDepth 100000 in
theorem ck_50 : qMetOk 50 = true := by decide +kernel
set_option maxRecDepth 100000 in
theorem ck_51 : qMetOk 51 = true := by decide +kernel
set_option maxRecDepth 100000 in
theorem ck_52 : qMetOk 52 = true := by decide +kernel
set_option maxRecDepth 100000 in
theorem ck_53 : qMetOk 53 = true := by decide +kernel
set_option maxRecDepth 100000 in
theorem ck_54 : qMetOk 54 = true := by decide +kernel
set_option maxRecDepth 100000 in
theorem ck_55 : qMetOk 55 = true := by decide +kernel
set_option maxRecDepth 100000 in
theorem ck_56 : qMetOk 56 = true := by decide +kernel
set_option maxRecDepth 100000 in
theorem ck_57 : qMetOk 57 = true := by decide +kernel
set_option maxRecDepth 100000 in
theorem ck_58 : qMetOk 58 = true := by decide +kernel
set_option maxRecDepth 100000 in
theorem ck_59 : qMetOk 59 = true := by decide +kernel
set_option maxRecDepth 100000 in
theorem ck_60 : qMetOk 60 = true := by decide +kernel
set_option maxRecDepth 100000 in
theorem ck_61 : qMetOk 61 = true := by decide +kernel
set_option maxRecDepth 100000 in
theorem ck_62 : qMetOk 62 = true := by decide +kernel
set_option maxRecDepth 100000 in
theorem ck_63 : qMetOk 63 = true := by decide +kernel
set_option maxRecDepth 100000 in
theorem ck_64 : qMetOk 64 = true := by decide +kernel
set_option maxRecDepth 100000 in
theorem ck_65 : qMetOk 65 = true := by decide +kernel
set_option maxRecDepth 100000 in
theorem ck_66 : qMetOk 66 = true := by decide +kernel
set_option maxRecDepth 100000 in
theorem ck_67 : qMetOk 67 = true := by decide +kernel
set_option maxRecDepth 100000 in
theorem ck_68 : qMetOk 68 = true := by decide +kernel
set_option maxRecDepth 100000 in
theorem ck_69 : qMetOk 69 = true := by decide +kernel
set_option maxRecDepth 100000 in
theorem ck_70 : qMetOk 70 = true := by decide +kernel
set_option maxRecDepth 100000 in
theorem ck_71 : qMetOk 71 = true := by decide +kernel
set_option maxRecDepth 100000 in
theorem ck_72 : qMetOk 72 = true := by decide +kernel
set_option maxRecDepth 100000 in
theorem ck_73 : qMetOk 73 = true := by decide +kernel
set_option maxRecDepth 100000 in
theorem ck_74 : qMetOk 74 = true := by decide +kernel
set_option maxRecDepth 100000 in
theorem ck_75 : qMetOk 75 = true := by decide +kernel
set_option maxRecDepth 100000 in
theorem ck_76 : qMetOk 76 = true := by decide +kernel
set_option maxRecDepth 100000 in
theorem ck_77 : qMetOk 77 = true := by decide +kernel
set_option maxRecDepth 100000 in
theorem ck_78 : qMetOk 78 = true := by decide +kernel
set_option maxRecDepth 100000 in
theorem ck_79 : qMetOk 79 = true := by decide +kernel
set_option maxRecDepth 100000 in
theorem ck_80 : qMetOk 80 = true := by decide +kernel
set_option maxRecDepth 100000 in
theorem ck_81 : qMetOk 81 = true := by decide +kernel
set_option maxRecDepth 100000 in
theorem ck_82 : qMetOk 82 = true := by decide +kernel
set_option maxRecDepth 100000 in
theorem ck_83 : qMetOk 83 = true := by decide +kernel
set_option maxRecDepth 100000 in
theorem ck_84 : qMetOk 84 = true := by decide +kernel
set_option maxRecDepth 100000 in
theorem ck_85 : qMetOk 85 = true := by decide +kernel
set_option maxRecDepth 100000 in
theorem ck_86 : qMetOk 86 = true := by decide +kernel
set_option maxRecDepth 100000 in
theorem ck_87 : qMetOk 87 = true := by decide +kernel
set_option maxRecDepth 100000 in
theorem ck_88 : qMetOk 88 = true := by decide +kernel
set_option maxRecDepth 100000 in
theorem ck_89 : qMetOk 89 = true := by decide +kernel
set_option maxRecDepth 100000 in
theorem ck_90 : qMetOk 90 = true := by decide +kernel
set_option maxRecDepth 100000 in
theorem ck_91 : qMetOk 91 = true := by decide +kernel
set_option maxRecDepth 100000 in
theorem ck_92 : qMetOk 92 = true := by decide +kernel
set_option maxRecDepth 100000 in
theorem ck_93 : qMetOk 93 = true := by decide +kernel
set_option maxRecDepth 100000 in
theorem ck_94 : qMetOk 94 = true := by decide +kernel
set_option maxRecDepth 100000 in
theorem ck_95 : qMetOk 95 = true := by decide +kernel
set_option maxRecDepth 100000 in
theorem ck_96 : qMetOk 96 = true := by decide +kernel
set_option maxRecDepth 100000 in
theorem ck_97 : qMetOk 97 = true := by decide +kernel
set_option maxRecDepth 100000 in
theorem ck_98 : qMetOk 98 = true := by decide +kernel
set_option maxRecDepth 100000 in
theorem ck_99 : qMetOk 99 = true := by decide +kernel
set_option maxRecDepth 100000 in
theorem ck_100 : qMetOk 100 = true := by decide +kernel
set_option maxRecDepth 100000 in
theorem ck_101 : qMetOk 101 = true := by decide +kernel
set_option maxRecDepth 100000 in
theorem ck_102 : qMetOk 102 = true := by decide +kernel
set_option maxRecDepth 100000 in
theorem ck_103 : qMetOk 103 = true := by decide +kernel
set_option maxRecDepth 100000 in
theorem ck_104 : qMetOk 104 = true := by decide +kernel
set_option maxRecDepth 100000 in
theorem ck_105 : qMetOk 105 = true := by decide +kernel
set_option maxRecDepth 100000 in
theorem ck_106 : qMetOk 106 = true := by decide +kernel
set_option maxRecDepth 100000 in
theorem ck_107 : qMetOk 107 = true := by decide +kernel
set_option maxRecDepth 100000 in
theorem ck_108 : qMetOk 108 = true := by decide +kernel
set_option maxRecDepth 100000 in
theorem ck_109 : qMetOk 109 = true := by decide +kernel
set_option maxRecDepth 100000 in
theorem ck_110 : qMetOk 110 = true := by decide +kernel
set_option maxRecDepth 100000 in
theorem ck_111 : qMetOk 111 = true := by decide +kernel
set_option maxRecDepth 100000 in
theorem ck_112 : qMetOk 112 = true := by decide +kernel
set_option maxRecDepth 100000 in
theorem ck_113 : qMetOk 113 = true := by decide +kernel
set_option maxRecDepth 100000 in
theorem ck_114 : qMetOk 114 = true := by decide +kernel
set_option maxRecDepth 100000 in
theorem ck_115 : qMetOk 115 = true := by decide +kernel
set_option maxRecDepth 100000 in
theorem ck_116 : qMetOk 116 = true := by decide +kernel
set_option maxRecDepth 100000 in
theorem ck_117 : qMetOk 117 = true := by decide +kernel
set_option maxRecDepth 100000 in
theorem ck_118 : qMetOk 118 = true := by decide +kernel
set_option maxRecDepth 100000 in
theorem ck_119 : qMetOk 119 = true := by decide +kernel
set_option maxRecDepth 100000 in
theorem ck_120 : qMetOk 120 = true := by decide +kernel
set_option maxRecDepth 100000 in
theorem ck_121 : qMetOk 121 = true := by decide +kernel
set_option maxRecDepth 100000 in
theorem ck_122 : qMetOk 122 = true := by decide +kernel
set_option maxRecDepth 100000 in
theorem ck_123 : qMetOk 123 = true := by decide +kernel
set_option maxRecDepth 100000 in
theorem ck_124 : qMetOk 124 = true := by decide +kernel
set_option maxRecDepth 100000 in
theorem ck_125 : qMetOk 125 = true := by decide +kernel
set_option maxRecDepth 100000 in
theorem ck_126 : qMetOk 126 = true := by decide +kernel
set_option maxRecDepth 100000 in
theorem ck_127 : qMetOk 127 = true := by decide +kernel
set_option maxRecDepth 100000 in
theorem ck_128 : qMetOk 128 = true := by decide +kernel
set_option maxRecDepth 100000 in
theorem ck_129 : qMetOk 129 = true := by decide +kernel
set_option maxRecDepth 100000 in
theorem ck_130 : qMetOk 130 = true := by decide +kernel
set_option maxRecDepth 100000 in
theorem ck_131 : qMetOk 131 = true := by decide +kernel
set_option maxRecDepth 100000 in
theorem ck_132 : qMetOk 132 = true := by decide +kernel
set_option maxRecDepth 100000 in
theorem ck_133 : qMetOk 133 = true := by decide +kernel
set_option maxRecDepth 100000 in
theorem ck_134 : qMetOk 134 = true := by decide +kernel
set_option maxRecDepth 100000 in
theorem ck_135 : qMetOk 135 = true := by decide +kernel
set_option maxRecDepth 100000 in
theorem ck_136 : qMetOk 136 = true := by decide +kernel
set_option maxRecDepth 100000 in
theorem ck_137 : qMetOk 137 = true := by decide +kernel
set_option maxRecDepth 100000 in
theorem ck_138 : qMetOk 138 = true := by decide +kernel
set_option maxRecDepth 100000 in
theorem ck_139 : qMetOk 139 = true := by decide +kernel
set_option maxRecDepth 100000 in
theorem ck_140 : qMetOk 140 = true := by decide +kernel
set_option maxRecDepth 100000 in
theorem ck_141 : qMetOk 141 = true := by decide +kernel
set_option maxRecDepth 100000 in
theorem ck_142 : qMetOk 142 = true := by decide +kernel
set_option maxRecDepth 100000 in
theorem ck_143 : qMetOk 143 = true := by decide +kernel
set_option maxRecDepth 100000 in
theorem ck_144 : qMetOk 144 = true := by decide +kernel
set_option maxRecDepth 100000 in
theorem ck_145 : qMetOk 145 = true := by decide +kernel
set_option maxRecDepth 100000 in
theorem ck_146 : qMetOk 146 = true := by decide +kernel
set_option maxRecDepth 100000 in
theorem ck_147 : qMetOk 147 = true := by decide +kernel
set_option maxRecDepth 100000 in
theorem ck_148 : qMetOk 148 = true := by decide +kernel
set_option maxRecDepth 100000 in
theorem ck_149 : qMetOk 149 = true := by decide +kernel
set_option maxRecDepth 100000 in
theorem ck_150 : qMetOk 150 = true := by decide +kernel
set_option maxRecDepth 100000 in
theorem ck_151 : qMetOk 151 = true := by decide +kernel
set_option maxRecDepth 100000 in
theorem ck_152 : qMetOk 152 = true := by decide +kernel
set_option maxRecDepth 100000 in
theorem ck_153 : qMetOk 153 = true := by decide +kernel
set_option maxRecDepth 100000 in
theorem ck_154 : qMetOk 154 = true := by decide +kernel
set_option maxRecDepth 100000 in
theorem ck_155 : qMetOk 155 = true := by decide +kernel
set_option maxRecDepth 100000 in
theorem ck_156 : qMetOk 156 = true := by decide +kernel
set_option maxRecDepth 100000 in
theorem ck_157 : qMetOk 157 = true := by decide +kernel
set_option maxRecDepth 100000 in
theorem ck_158 : qMetOk 158 = true := by decide +kernel
set_option maxRecDepth 100000 in
theorem ck_159 : qMetOk 159 = true := by decide +kernel
set_option maxRecDepth 100000 in
theorem ck_160 : qMetOk 160 = true := by decide +kernel
set_option maxRecDepth 100000 in
theorem ck_161 : qMetOk 161 = true := by decide +kernel
set_option maxRecDepth 100000 in
theorem ck_162 : qMetOk 162 = true := by decide +kernel
set_option maxRecDepth 100000 in
theorem ck_163 : qMetOk 163 = true := by decide +kernel
set_option maxRecDepth 100000 in
theorem ck_164 : qMetOk 164 = true := by decide +kernel
set_option maxRecDepth 100000 in
theorem ck_165 : qMetOk 165 = true := by decide +kernel
set_option maxRecDepth 100000 in
theorem ck_166 : qMetOk 166 = true := by decide +kernel
set_option maxRecDepth 100000 in
theorem ck_167 : qMetOk 167 = true := by decide +kernel
set_option maxRecDepth 100000 in
theorem ck_168 : qMetOk 168 = true := by decide +kernel
set_option maxRecDepth 100000 in
theorem ck_169 : qMetOk 169 = true := by decide +kernel
set_option maxRecDepth 100000 in
theorem ck_170 : qMetOk 170 = true := by decide +kernel
set_option maxRecDepth 100000 in
theorem ck_171 : qMetOk 171 = true := by decide +kernel
set_option maxRecDepth 100000 in
theorem ck_172 : qMetOk 172 = true := by decide +kernel
set_option maxRecDepth 100000 in
theorem ck_173 : qMetOk 173 = true := by decide +kernel
set_option maxRecDepth 100000 in
theorem ck_174 : qMetOk 174 = true := by decide +kernel
set_option maxRecDepth 100000 in
theorem ck_175 : qMetOk 175 = true := by decide +kernel
set_option maxRecDepth 100000 in
theorem ck_176 : qMetOk 176 = true := by decide +kernel
set_option maxRecDepth 100000 in
theorem ck_177 : qMetOk 177 = true := by decide +kernel
set_option maxRecDepth 100000 in
theorem ck_178 : qMetOk 178 = true := by decide +kernel
set_option maxRecDepth 100000 in
theorem ck_179 : qMetOk 179 = true := by decide +kernel
set_option maxRecDepth 100000 in
theorem ck_180 : qMetOk 180 = true := by decide +kernel
set_option maxRecDepth 100000 in
theorem ck_181 : qMetOk 181 = true := by decide +kernel
set_option maxRecDepth 100000 in
theorem ck_182 : qMetOk 182 = true := by decide +kernel
set_option maxRecDepth 100000 in
theorem ck_183 : qMetOk 183 = true := by decide +kernel
set_option maxRecDepth 100000 in
theorem ck_184 : qMetOk 184 = true := by decide +kernel
set_option maxRecDepth 100000 in
theorem ck_185 : qMetOk 185 = true := by decide +kernel
set_option maxRecDepth 100000 in
theorem ck_186 : qMetOk 186 = true := by decide +kernel
set_option maxRecDepth 100000 in
theorem ck_187 : qMetOk 187 = true := by decide +kernel
set_option maxRecDepth 100000 in
theorem ck_188 : qMetOk 188 = true := by decide +kernel
set_option maxRecDepth 100000 in
theorem ck_189 : qMetOk 189 = true := by decide +kernel
set_option maxRecDepth 100000 in
theorem ck_190 : qMetOk 190 = true := by decide +kernel
set_option maxRecDepth 100000 in
theorem ck_191 : qMetOk 191 = true := by decide +kernel
set_option maxRecDepth 100000 in
theorem ck_192 : qMetOk 192 = true := by decide +kernel
set_option maxRecDepth 100000 in
theorem ck_193 : qMetOk 193 = true := by decide +kernel
set_option maxRecDepth 100000 in
theorem ck_194 : qMetOk 194 = true := by decide +kernel
set_option maxRecDepth 100000 in
theorem ck_195 : qMetOk 195 = true := by decide +kernel
set_option maxRecDepth 100000 in
theorem ck_196 : qMetOk 196 = true := by decide +kernel
set_option maxRecDepth 100000 in
theorem ck_197 : qMetOk 197 = true := by decide +kernel
set_option maxRecDepth 100000 in
theorem ck_198 : qMetOk 198 = true := by decide +kernel
set_option maxRecDepth 100000 in
theorem ck_199 : qMetOk 199 = true := by decide +kernel
set_option maxRecDepth 100000 in
theorem ck_200 : qMetOk 200 = true := by decide +kernel
set_option maxRecDepth 100000 in
theorem ck_201 : qMetOk 201 = true := by decide +kernel
set_option maxRecDepth 100000 in
theorem ck_202 : qMetOk 202 = true := by decide +kernel
set_option maxRecDepth 100000 in
theorem ck_203 : qMetOk 203 = true := by decide +kernel
set_option maxRecDepth 100000 in
theorem ck_204 : qMetOk 204 = true := by decide +kernel
set_option maxRecDepth 100000 in
theorem ck_205 : qMetOk 205 = true := by decide +kernel
set_option maxRecDepth 100000 in
theorem ck_206 : qMetOk 206 = true := by decide +kernel
set_option maxRecDepth 100000 in
theorem ck_207 : qMetOk 207 = true := by decide +kernel
set_option maxRecDepth 100000 in
theorem ck_208 : qMetOk 208 = true := by decide +kernel
set_option maxRecDepth 100000 in
theorem ck_209 : qMetOk 209 = true := by decide +kernel
set_option maxRecDepth 100000 in
theorem ck_210 : qMetOk 210 = true := by decide +kernel
set_option maxRecDepth 100000 in
theorem ck_211 : qMetOk 211 = true := by decide +kernel
set_option maxRecDepth 100000 in
theorem ck_212 : qMetOk 212 = true := by decide +kernel
set_option maxRecDepth 100000 in
theorem ck_213 : qMetOk 213 = true := by decide +kernel
set_option maxRecDepth 100000 in
theorem ck_214 : qMetOk 214 = true := by decide +kernel
set_option maxRecDepth 100000 in
theorem ck_215 : qMetOk 215 = true := by decide +kernel
set_option maxRecDepth 100000 in
theorem ck_216 : qMetOk 216 = true := by decide +kernel
set_option maxRecDepth 100000 in
theorem ck_217 : qMetOk 217 = true := by decide +kernel
set_option maxRecDepth 100000 in
theorem ck_218 : qMetOk 218 = true := by decide +kernel
set_option maxRecDepth 100000 in
theorem ck_219 : qMetOk 219 = true := by decide +kernel
set_option maxRecDepth 100000 in
theorem ck_220 : qMetOk 220 = true := by decide +kernel
set_option maxRecDepth 100000 in
theorem ck_221 : qMetOk 221 = true := by decide +kernel
set_option maxRecDepth 100000 in
theorem ck_222 : qMetOk 222 = true := by decide +kernel
set_option maxRecDepth 100000 in
theorem ck_223 : qMetOk 223 = true := by decide +kernel
set_option maxRecDepth 100000 in
theorem ck_224 : qMetOk 224 = true := by decide +kernel
set_option maxRecDepth 100000 in
theorem ck_225 : qMetOk 225 = true := by decide +kernel
set_option maxRecDepth 100000 in
theorem ck_226 : qMetOk 226 = true := by decide +kernel
set_option maxRecDepth 100000 in
theorem ck_227 : qMetOk 227 = true := by decide +kernel
set_option maxRecDepth 100000 in
theorem ck_228 : qMetOk 228 = true := by decide +kernel
set_option maxRecDepth 100000 in
theorem ck_229 : qMetOk 229 = true := by decide +kernel
set_option maxRecDepth 100000 in
theorem ck_230 : qMetOk 230 = true := by decide +kernel
set_option maxRecDepth 100000 in
theorem ck_231 : qMetOk 231 = true := by decide +kernel
set_option maxRecDepth 100000 in
theorem ck_232 : qMetOk 232 = true := by decide +kernel
set_option maxRecDepth 100000 in
theorem ck_233 : qMetOk 233 = true := by decide +kernel
set_option maxRecDepth 100000 in
theorem ck_234 : qMetOk 234 = true := by decide +kernel
set_option maxRecDepth 100000 in
theorem ck_235 : qMetOk 235 = true := by decide +kernel
set_option maxRecDepth 100000 in
theorem ck_236 : qMetOk 236 = true := by decide +kernel
set_option maxRecDepth 100000 in
theorem ck_237 : qMetOk 237 = true := by decide +kernel
set_option maxRecDepth 100000 in
theorem ck_238 : qMetOk 238 = true := by decide +kernel
set_option maxRecDepth 100000 in
theorem ck_239 : qMetOk 239 = true := by decide +kernel
set_option maxRecDepth 100000 in
theorem ck_240 : qMetOk 240 = true := by decide +kernel
set_option maxRecDepth 100000 in
theorem ck_241 : qMetOk 241 = true := by decide +kernel
set_option maxRecDepth 100000 in
theorem ck_242 : qMetOk 242 = true := by decide +kernel
set_option maxRecDepth 100000 in
theorem ck_243 : qMetOk 243 = true := by decide +kernel
set_option maxRecDepth 100000 in
theorem ck_244 : qMetOk 244 = true := by decide +kernel
set_option maxRecDepth 100000 in
theorem ck_245 : qMetOk 245 = true := by decide +kernel
set_option maxRecDepth 100000 in
theorem ck_246 : qMetOk 246 = true := by decide +kernel
set_option maxRecDepth 100000 in
theorem ck_247 : qMetOk 247 = true := by decide +kernel
set_option maxRecDepth 100000 in
theorem ck_248 : qMetOk 248 = true := by decide +kernel
set_option maxRecDepth 100000 in
theorem ck_249 : qMetOk 249 = true := by decide +kernel
set_option maxRecDepth 100000 in
theorem ck_250 : qMetOk 250 = true := by decide +kernel
set_option maxRecDepth 100000 in
theorem ck_251 : qMetOk 251 = true := by decide +kernel
set_option maxRecDepth 100000 in
theorem ck_252 : qMetOk 252 = true := by decide +kernel
set_option maxRecDepth 100000 in
theorem ck_253 : qMetOk 253 = true := by decide +kernel
set_option maxRecDepth 100000 in
theorem ck_254 : qMetOk 254 = true := by decide +kernel
set_option maxRecDepth 100000 in
theorem ck_255 : qMetOk 255 = true := by decide +kernel
set_option maxRecDepth 100000 in
theorem ck_256 : qMetOk 256 = true := by decide +kernel
set_option maxRecDepth 100000 in
theorem ck_257 : qMetOk 257 = true := by decide +kernel
set_option maxRecDepth 100000 in
theorem ck_258 : qMetOk 258 = true := by decide +kernel
set_option maxRecDepth 100000 in
theorem ck_259 : qMetOk 259 = true := by decide +kernel
set_option maxRecDepth 100000 in
theorem ck_260 : qMetOk 260 = true := by decide +kernel
set_option maxRecDepth 100000 in
theorem ck_261 : qMetOk 261 = true := by decide +kernel
set_option maxRecDepth 100000 in
theorem ck_262 : qMetOk 262 = true := by decide +kernel
set_option maxRecDepth 100000 in
theorem ck_263 : qMetOk 263 = true := by decide +kernel
set_option maxRecDepth 100000 in
theorem ck_264 : qMetOk 264 = true := by decide +kernel
set_option maxRecDepth 100000 in
theorem ck_265 : qMetOk 265 = true := by decide +kernel
set_option maxRecDepth 100000 in
theorem ck_266 : qMetOk 266 = true := by decide +kernel
set_option maxRecDepth 100000 in
theorem ck_267 : qMetOk 267 = true := by decide +kernel
set_option maxRecDepth 100000 in
theorem ck_268 : qMetOk 268 = true := by decide +kernel
set_option maxRecDepth 100000 in
theorem ck_269 : qMetOk 269 = true := by decide +kernel
set_option maxRecDepth 100000 in
theorem ck_270 : qMetOk 270 = true := by decide +kernel
set_option maxRecDepth 100000 in
theorem ck_271 : qMetOk 271 = true := by decide +kernel
set_option maxRecDepth 100000 in
theorem ck_272 : qMetOk 272 = true := by decide +kernel
set_option maxRecDepth 100000 in
theorem ck_273 : qMetOk 273 = true := by decide +kernel
set_option maxRecDepth 100000 in
theorem ck_274 : qMetOk 274 = true := by decide +kernel
set_option maxRecDepth 100000 in
theorem ck_275 : qMetOk 275 = true := by decide +kernel
set_option maxRecDepth 100000 in
theorem ck_276 : qMetOk 276 = true := by decide +kernel
set_option maxRecDepth 100000 in
theorem ck_277 : qMetOk 277 = true := by decide +kernel
set_option maxRecDepth 100000 in
theorem ck_278 : qMetOk 278 = true := by decide +kernel
set_option maxRecDepth 100000 in
theorem ck_279 : qMetOk 279 = true := by decide +kernel
set_option maxRecDepth 100000 in
theorem ck_280 : qMetOk 280 = true := by decide +kernel
set_option maxRecDepth 100000 in
theorem ck_281 : qMetOk 281 = true := by decide +kernel
set_option maxRecDepth 100000 in
theorem ck_282 : qMetOk 282 = true := by decide +kernel
set_option maxRecDepth 100000 in
theorem ck_283 : qMetOk 283 = true := by decide +kernel
set_option maxRecDepth 100000 in
theorem ck_284 : qMetOk 284 = true := by decide +kernel
set_option maxRecDepth 100000 in
theorem ck_285 : qMetOk 285 = true := by decide +kernel
set_option maxRecDepth 100000 in
theorem ck_286 : qMetOk 286 = true := by decide +kernel
set_option maxRecDepth 100000 in
theorem ck_287 : qMetOk 287 = true := by decide +kernel
set_option maxRecDepth 100000 in
theorem ck_288 : qMetOk 288 = true := by decide +kernel
set_option maxRecDepth 100000 in
theorem ck_289 : qMetOk 289 = true := by decide +kernel
set_option maxRecDepth 100000 in
theorem ck_290 : qMetOk 290 = true := by decide +kernel
set_option maxRecDepth 100000 in
theorem ck_291 : qMetOk 291 = true := by decide +kernel
set_option maxRecDepth 100000 in
theorem ck_292 : qMetOk 292 = true := by decide +kernel
set_option maxRecDepth 100000 in
theorem ck_293 : qMetOk 293 = true := by decide +kernel
set_option maxRecDepth 100000 in
theorem ck_294 : qMetOk 294 = true := by decide +kernel
set_option maxRecDepth 100000 in
theorem ck_295 : qMetOk 295 = true := by decide +kernel
set_option maxRecDepth 100000 in
theorem ck_296 : qMetOk 296 = true := by decide +kernel
set_option maxRecDepth 100000 in
theorem ck_297 : qMetOk 297 = true := by decide +kernel
set_option maxRecDepth 100000 in
theorem ck_298 : qMetOk 298 = true := by decide +kernel
set_option maxRecDepth 100000 in
theorem ck_299 : qMetOk 299 = true := by decide +kernel
set_option maxRecDepth 100000 in
theorem ck_300 : qMetOk 300 = true := by decide +kernel
set_option maxRecDepth 100000 in
theorem ck_301 : qMetOk 301 = true := by decide +kernel
set_option maxRecDepth 100000 in
theorem ck_302 : qMetOk 302 = true := by decide +kernel
set_option maxRecDepth 100000 in
theorem ck_303 : qMetOk 303 = true := by decide +kernel
set_option maxRecDepth 100000 in
theorem ck_304 : qMetOk 304 = true := by decide +kernel
set_option maxRecDepth 100000 in
theorem ck_305 : qMetOk 305 = true := by decide +kernel
set_option maxRecDepth 100000 in
theorem ck_306 : qMetOk 306 = true := by decide +kernel
set_option maxRecDepth 100000 in
theorem ck_307 : qMetOk 307 = true := by decide +kernel
set_option maxRecDepth 100000 in
theorem ck_308 : qMetOk 308 = true := by decide +kernel
set_option maxRecDepth 100000 in
theorem ck_309 : qMetOk 309 = true := by decide +kernel
set_option maxRecDepth 100000 in
theorem ck_310 : qMetOk 310 = true := by decide +kernel
set_option maxRecDepth 100000 in
theorem ck_311 : qMetOk 311 = true := by decide +kernel
set_option maxRecDepth 100000 in
theorem ck_312 : qMetOk 312 = true := by decide +kernel
set_option maxRecDepth 100000 in
theorem ck_313 : qMetOk 313 = true := by decide +kernel
set_option maxRecDepth 100000 in
theorem ck_314 : qMetOk 314 = true := by decide +kernel
set_option maxRecDepth 100000 in
theorem ck_315 : qMetOk 315 = true := by decide +kernel
set_option maxRecDepth 100000 in
theorem ck_316 : qMetOk 316 = true := by decide +kernel
set_option maxRecDepth 100000 in
theorem ck_317 : qMetOk 317 = true := by decide +kernel
set_option maxRecDepth 100000 in
theorem ck_318 : qMetOk 318 = true := by decide +kernel
set_option maxRecDepth 100000 in
theorem ck_319 : qMetOk 319 = true := by decide +kernel
set_option maxRecDepth 100000 in
theorem ck_320 : qMetOk 320 = true := by decide +kernel
set_option maxRecDepth 100000 in
theorem ck_321 : qMetOk 321 = true := by decide +kernel
set_option maxRecDepth 100000 in
theorem ck_322 : qMetOk 322 = true := by decide +kernel
set_option maxRecDepth 100000 in
theorem ck_323 : qMetOk 323 = true := by decide +kernel
set_option maxRecDepth 100000 in
theorem ck_324 : qMetOk 324 = true := by decide +kernel
set_option maxRecDepth 100000 in
theorem ck_325 : qMetOk 325 = true := by decide +kernel
set_option maxRecDepth 100000 in
theorem ck_326 : qMetOk 326 = true := by decide +kernel
set_option maxRecDepth 100000 in
theorem ck_327 : qMetOk 327 = true := by decide +kernel
set_option maxRecDepth 100000 in
theorem ck_328 : qMetOk 328 = true := by decide +kernel
set_option maxRecDepth 100000 in
theorem ck_329 : qMetOk 329 = true := by decide +kernel
set_option maxRecDepth 100000 in
theorem ck_330 : qMetOk 330 = true := by decide +kernel
set_option maxRecDepth 100000 in
theorem ck_331 : qMetOk 331 = true := by decide +kernel
set_option maxRecDepth 100000 in
theorem ck_332 : qMetOk 332 = true := by decide +kernel
set_option maxRecDepth 100000 in
theorem ck_333 : qMetOk 333 = true := by decide +kernel
set_option maxRecDepth 100000 in
theorem ck_334 : qMetOk 334 = true := by decide +kernel
set_option maxRecDepth 100000 in
theorem ck_335 : qMetOk 335 = true := by decide +kernel
set_option maxRecDepth 100000 in
theorem ck_336 : qMetOk 336 = true := by decide +kernel
set_option maxRecDepth 100000 in
theorem ck_337 : qMetOk 337 = true := by decide +kernel
set_option maxRecDepth 100000 in
theorem ck_338 : qMetOk 338 = true := by decide +kernel
set_option maxRecDepth 100000 in
theorem ck_339 : qMetOk 339 = true := by decide +kernel
set_option maxRecDepth 100000 in
theorem ck_340 : qMetOk 340 = true := by decide +kernel
set_option maxRecDepth 100000 in
theorem ck_341 : qMetOk 341 = true := by decide +kernel
set_option maxRecDepth 100000 in
theorem ck_342 : qMetOk 342 = true := by decide +kernel
set_option maxRecDepth 100000 in
theorem ck_343 : qMetOk 343 = true := by decide +kernel
set_option maxRecDepth 100000 in
theorem ck_344 : qMetOk 344 = true := by decide +kernel
set_option maxRecDepth 100000 in
theorem ck_345 : qMetOk 345 = true := by decide +kernel
set_option maxRecDepth 100000 in
theorem ck_346 : qMetOk 346 = true := by decide +kernel
set_option maxRecDepth 100000 in
theorem ck_347 : qMetOk 347 = true := by decide +kernel
set_option maxRecDepth 100000 in
theorem ck_348 : qMetOk 348 = true := by decide +kernel
set_option maxRecDepth 100000 in
theorem ck_349 : qMetOk 349 = true := by decide +kernel
set_option maxRecDepth 100000 in
theorem ck_350 : qMetOk 350 = true := by decide +kernel
set_option maxRecDepth 100000 in
theorem ck_351 : qMetOk 351 = true := by decide +kernel
set_option maxRecDepth 100000 in
theorem ck_352 : qMetOk 352 = true := by decide +kernel
set_option maxRecDepth 100000 in
theorem ck_353 : qMetOk 353 = true := by decide +kernel
set_option maxRecDepth 100000 in
theorem ck_354 : qMetOk 354 = true := by decide +kernel
set_option maxRecDepth 100000 in
theorem ck_355 : qMetOk 355 = true := by decide +kernel
set_option maxRecDepth 100000 in
theorem ck_356 : qMetOk 356 = true := by decide +kernel
set_option maxRecDepth 100000 in
theorem ck_357 : qMetOk 357 = true := by decide +kernel
set_option maxRecDepth 100000 in
theorem ck_358 : qMetOk 358 = true := by decide +kernel
set_option maxRecDepth 100000 in
theorem ck_359 : qMetOk 359 = true := by decide +kernel
set_option maxRecDepth 100000 in
theorem ck_360 : qMetOk 360 = true := by decide +kernel
set_option maxRecDepth 100000 in
theorem ck_361 : qMetOk 361 = true := by decide +kernel
set_option maxRecDepth 100000 in
theorem ck_362 : qMetOk 362 = true := by decide +kernel
set_option maxRecDepth 100000 in
theorem ck_363 : qMetOk 363 = true := by decide +kernel
set_option maxRecDepth 100000 in
theorem ck_364 : qMetOk 364 = true := by decide +kernel
set_option maxRecDepth 100000 in
theorem ck_365 : qMetOk 365 = true := by decide +kernel
set_option maxRecDepth 100000 in
theorem ck_366 : qMetOk 366 = true := by decide +kernel
set_option maxRecDepth 100000 in
theorem ck_367 : qMetOk 367 = true := by decide +kernel
set_option maxRecDepth 100000 in
theorem ck_368 : qMetOk 368 = true := by decide +kernel
set_option maxRecDepth 100000 in
theorem ck_369 : qMetOk 369 = true := by decide +kernel
set_option maxRecDepth 100000 in
theorem ck_370 : qMetOk 370 = true := by decide +kernel
set_option maxRecDepth 100000 in
theorem ck_371 : qMetOk 371 = true := by decide +kernel
set_option maxRecDepth 100000 in
theorem ck_372 : qMetOk 372 = true := by decide +kernel
set_option maxRecDepth 100000 in
theorem ck_373 : qMetOk 373 = true := by decide +kernel
set_option maxRecDepth 100000 in
theorem ck_374 : qMetOk 374 = true := by decide +kernel
set_option maxRecDepth 100000 in
theorem ck_375 : qMetOk 375 = true := by decide +kernel
set_option maxRecDepth 100000 in
theorem ck_376 : qMetOk 376 = true := by decide +kernel
set_option maxRecDepth 100000 in
theorem ck_377 : qMetOk 377 = true := by decide +kernel
set_option maxRecDepth 100000 in
theorem ck_379 : qMetOk 379 = true := by decide +kernel
set_option maxRecDepth 100000 in
theorem ck_380 : qMetOk 380 = true := by decide +kernel
