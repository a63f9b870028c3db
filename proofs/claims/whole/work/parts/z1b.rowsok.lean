set_option maxRecDepth 100000 in
theorem ck_100 : qMetOk 100 = true := by decide +kernel
set_option maxRecDepth 100000 in
theorem ck_101 : qMetOk 101 = true := by decide +kernel
set_option maxRecDepth 100000 in
theorem ck_102 : qMetOk 102 = true := by decide +kernel
set_option maxRecDepth 100000 in
theorem ck_103 : qMetOk 103 = true := by decide +kernel
set_option maxRecDepth 100000 in
theorem ck_104 : qMetOk 104 = true := by decide +kernel
set_option maxRecDepth 100000 in
theorem ck_105 : qMetOk 105 = true := by decide +kernel
set_option maxRecDepth 100000 in
theorem ck_106 : qMetOk 106 = true := by decide +kernel
set_option maxRecDepth 100000 in
theorem ck_107 : qMetOk 107 = true := by decide +kernel
set_option maxRecDepth 100000 in
theorem ck_108 : qMetOk 108 = true := by decide +kernel
set_option maxRecDepth 100000 in
theorem ck_109 : qMetOk 109 = true := by decide +kernel
set_option maxRecDepth 100000 in
theorem ck_110 : qMetOk 110 = true := by decide +kernel
set_option maxRecDepth 100000 in
theorem ck_111 : qMetOk 111 = true := by decide +kernel
set_option maxRecDepth 100000 in
theorem ck_112 : qMetOk 112 = true := by decide +kernel
set_option maxRecDepth 100000 in
theorem ck_113 : qMetOk 113 = true := by decide +kernel
set_option maxRecDepth 100000 in
theorem ck_114 : qMetOk 114 = true := by decide +kernel
set_option maxRecDepth 100000 in
theorem ck_115 : qMetOk 115 = true := by decide +kernel
set_option maxRecDepth 100000 in
theorem ck_116 : qMetOk 116 = true := by decide +kernel
set_option maxRecDepth 100000 in
theorem ck_117 : qMetOk 117 = true := by decide +kernel
set_option maxRecDepth 100000 in
theorem ck_118 : qMetOk 118 = true := by decide +kernel
set_option maxRecDepth 100000 in
theorem ck_119 : qMetOk 119 = true := by decide +kernel
set_option maxRecDepth 100000 in
theorem ck_120 : qMetOk 120 = true := by decide +kernel
set_option maxRecDepth 100000 in
theorem ck_121 : qMetOk 121 = true := by decide +kernel
set_option maxRecDepth 100000 in
theorem ck_122 : qMetOk 122 = true := by decide +kernel
set_option maxRecDepth 100000 in
theorem ck_123 : qMetOk 123 = true := by decide +kernel
set_option maxRecDepth 100000 in
theorem ck_124 : qMetOk 124 = true := by decide +kernel
set_option maxRecDepth 100000 in
theorem ck_125 : qMetOk 125 = true := by decide +kernel
set_option maxRecDepth 100000 in
theorem ck_126 : qMetOk 126 = true := by decide +kernel
set_option maxRecDepth 100000 in
theorem ck_127 : qMetOk 127 = true := by decide +kernel
set_option maxRecDepth 100000 in
theorem ck_128 : qMetOk 128 = true := by decide +kernel
set_option maxRecDepth 100000 in
theorem ck_129 : qMetOk 129 = true := by decide +kernel
set_option maxRecDepth 100000 in
theorem ck_130 : qMetOk 130 = true := by decide +kernel
set_option maxRecDepth 100000 in
theorem ck_131 : qMetOk 131 = true := by decide +kernel
set_option maxRecDepth 100000 in
theorem ck_132 : qMetOk 132 = true := by decide +kernel
set_option maxRecDepth 100000 in
theorem ck_133 : qMetOk 133 = true := by decide +kernel
set_option maxRecDepth 100000 in
theorem ck_134 : qMetOk 134 = true := by decide +kernel
set_option maxRecDepth 100000 in
theorem ck_135 : qMetOk 135 = true := by decide +kernel
set_option maxRecDepth 100000 in
theorem ck_136 : qMetOk 136 = true := by decide +kernel
set_option maxRecDepth 100000 in
theorem ck_137 : qMetOk 137 = true := by decide +kernel
set_option maxRecDepth 100000 in
theorem ck_138 : qMetOk 138 = true := by decide +kernel
set_option maxRecDepth 100000 in
theorem ck_139 : qMetOk 139 = true := by decide +kernel
set_option maxRecDepth 100000 in
theorem ck_140 : qMetOk 140 = true := by decide +kernel
set_option maxRecDepth 100000 in
theorem ck_141 : qMetOk 141 = true := by decide +kernel
set_option maxRecDepth 100000 in
theorem ck_142 : qMetOk 142 = true := by decide +kernel
set_option maxRecDepth 100000 in
theorem ck_143 : qMetOk 143 = true := by decide +kernel
set_option maxRecDepth 100000 in
theorem ck_144 : qMetOk 144 = true := by decide +kernel
set_option maxRecDepth 100000 in
theorem ck_145 : qMetOk 145 = true := by decide +kernel
set_option maxRecDepth 100000 in
theorem ck_146 : qMetOk 146 = true := by decide +kernel
set_option maxRecDepth 100000 in
theorem ck_147 : qMetOk 147 = true := by decide +kernel
set_option maxRecDepth 100000 in
theorem ck_148 : qMetOk 148 = true := by decide +kernel
set_option maxRecDepth 100000 in
theorem ck_149 : qMetOk 149 = true := by decide +kernel
set_option maxRecDepth 100000 in
theorem ck_150 : qMetOk 150 = true := by decide +kernel
set_option maxRecDepth 100000 in
theorem ck_151 : qMetOk 151 = true := by decide +kernel
set_option maxRecDepth 100000 in
theorem ck_152 : qMetOk 152 = true := by decide +kernel
set_option maxRecDepth 100000 in
theorem ck_153 : qMetOk 153 = true := by decide +kernel
set_option maxRecDepth 100000 in
theorem ck_154 : qMetOk 154 = true := by decide +kernel
set_option maxRecDepth 100000 in
theorem ck_155 : qMetOk 155 = true := by decide +kernel
set_option maxRecDepth 100000 in
theorem ck_156 : qMetOk 156 = true := by decide +kernel
set_option maxRecDepth 100000 in
theorem ck_157 : qMetOk 157 = true := by decide +kernel
set_option maxRecDepth 100000 in
theorem ck_158 : qMetOk 158 = true := by decide +kernel
set_option maxRecDepth 100000 in
theorem ck_159 : qMetOk 159 = true := by decide +kernel
set_option maxRecDepth 100000 in
theorem ck_160 : qMetOk 160 = true := by decide +kernel
set_option maxRecDepth 100000 in
theorem ck_161 : qMetOk 161 = true := by decide +kernel
set_option maxRecDepth 100000 in
theorem ck_162 : qMetOk 162 = true := by decide +kernel
set_option maxRecDepth 100000 in
theorem ck_163 : qMetOk 163 = true := by decide +kernel
set_option maxRecDepth 100000 in
theorem ck_164 : qMetOk 164 = true := by decide +kernel
set_option maxRecDepth 100000 in
theorem ck_165 : qMetOk 165 = true := by decide +kernel
set_option maxRecDepth 100000 in
theorem ck_166 : qMetOk 166 = true := by decide +kernel
set_option maxRecDepth 100000 in
theorem ck_167 : qMetOk 167 = true := by decide +kernel
set_option maxRecDepth 100000 in
theorem ck_168 : qMetOk 168 = true := by decide +kernel
set_option maxRecDepth 100000 in
theorem ck_169 : qMetOk 169 = true := by decide +kernel
set_option maxRecDepth 100000 in
theorem ck_170 : qMetOk 170 = true := by decide +kernel
set_option maxRecDepth 100000 in
theorem ck_171 : qMetOk 171 = true := by decide +kernel
set_option maxRecDepth 100000 in
theorem ck_172 : qMetOk 172 = true := by decide +kernel
set_option maxRecDepth 100000 in
theorem ck_173 : qMetOk 173 = true := by decide +kernel
set_option maxRecDepth 100000 in
theorem ck_174 : qMetOk 174 = true := by decide +kernel
set_option maxRecDepth 100000 in
theorem ck_175 : qMetOk 175 = true := by decide +kernel
set_option maxRecDepth 100000 in
theorem ck_176 : qMetOk 176 = true := by decide +kernel
set_option maxRecDepth 100000 in
theorem ck_177 : qMetOk 177 = true := by decide +kernel
set_option maxRecDepth 100000 in
theorem ck_178 : qMetOk 178 = true := by decide +kernel
set_option maxRecDepth 100000 in
theorem ck_179 : qMetOk 179 = true := by decide +kernel
set_option maxRecDepth 100000 in
theorem ck_180 : qMetOk 180 = true := by decide +kernel
set_option maxRecDepth 100000 in
theorem ck_181 : qMetOk 181 = true := by decide +kernel
set_option maxRecDepth 100000 in
theorem ck_182 : qMetOk 182 = true := by decide +kernel
set_option maxRecDepth 100000 in
theorem ck_183 : qMetOk 183 = true := by decide +kernel
set_option maxRecDepth 100000 in
theorem ck_184 : qMetOk 184 = true := by decide +kernel
set_option maxRecDepth 100000 in
theorem ck_185 : qMetOk 185 = true := by decide +kernel
set_option maxRecDepth 100000 in
theorem ck_186 : qMetOk 186 = true := by decide +kernel
set_option maxRecDepth 100000 in
theorem ck_187 : qMetOk 187 = true := by decide +kernel
set_option maxRecDepth 100000 in
theorem ck_188 : qMetOk 188 = true := by decide +kernel
set_option maxRecDepth 100000 in
theorem ck_189 : qMetOk 189 = true := by decide +kernel
set_option maxRecDepth 100000 in
theorem ck_190 : qMetOk 190 = true := by decide +kernel
set_option maxRecDepth 100000 in
theorem ck_191 : qMetOk 191 = true := by decide +kernel
set_option maxRecDepth 100000 in
theorem ck_192 : qMetOk 192 = true := by decide +kernel
set_option maxRecDepth 100000 in
theorem ck_193 : qMetOk 193 = true := by decide +kernel
set_option maxRecDepth 100000 in
theorem ck_194 : qMetOk 194 = true := by decide +kernel
set_option maxRecDepth 100000 in
theorem ck_195 : qMetOk 195 = true := by decide +kernel
set_option maxRecDepth 100000 in
theorem ck_196 : qMetOk 196 = true := by decide +kernel
set_option maxRecDepth 100000 in
theorem ck_197 : qMetOk 197 = true := by decide +kernel
set_option maxRecDepth 100000 in
theorem ck_198 : qMetOk 198 = true := by decide +kernel
set_option maxRecDepth 100000 in
theorem ck_199 : qMetOk 199 = true := by decide +kernel
