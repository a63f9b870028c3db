set_option maxRecDepth 100000 in
theorem ck_140 : qMetOk 140 = true := by decide +kernel
set_option maxRecDepth 100000 in
theorem ck_141 : qMetOk 141 = true := by decide +kernel
set_option maxRecDepth 100000 in
theorem ck_142 : qMetOk 142 = true := by decide +kernel
set_option maxRecDepth 100000 in
theorem ck_143 : qMetOk 143 = true := by decide +kernel
set_option maxRecDepth 100000 in
theorem ck_144 : qMetOk 144 = true := by decide +kernel
set_option maxRecDepth 100000 in
theorem ck_145 : qMetOk 145 = true := by decide +kernel
set_option maxRecDepth 100000 in
theorem ck_146 : qMetOk 146 = true := by decide +kernel
set_option maxRecDepth 100000 in
theorem ck_147 : qMetOk 147 = true := by decide +kernel
set_option maxRecDepth 100000 in
theorem ck_148 : qMetOk 148 = true := by decide +kernel
set_option maxRecDepth 100000 in
theorem ck_149 : qMetOk 149 = true := by decide +kernel
set_option maxRecDepth 100000 in
theorem ck_150 : qMetOk 150 = true := by decide +kernel
set_option maxRecDepth 100000 in
theorem ck_160 : qMetOk 160 = true := by decide +kernel
set_option maxRecDepth 100000 in
theorem ck_161 : qMetOk 161 = true := by decide +kernel
set_option maxRecDepth 100000 in
theorem ck_162 : qMetOk 162 = true := by decide +kernel
set_option maxRecDepth 100000 in
theorem ck_163 : qMetOk 163 = true := by decide +kernel
set_option maxRecDepth 100000 in
theorem ck_164 : qMetOk 164 = true := by decide +kernel
set_option maxRecDepth 100000 in
theorem ck_165 : qMetOk 165 = true := by decide +kernel
set_option maxRecDepth 100000 in
theorem ck_166 : qMetOk 166 = true := by decide +kernel
set_option maxRecDepth 100000 in
theorem ck_168 : qMetOk 168 = true := by decide +kernel
set_option maxRecDepth 100000 in
theorem ck_169 : qMetOk 169 = true := by decide +kernel
set_option maxRecDepth 100000 in
theorem ck_170 : qMetOk 170 = true := by decide +kernel
set_option maxRecDepth 100000 in
theorem ck_171 : qMetOk 171 = true := by decide +kernel
set_option maxRecDepth 100000 in
theorem ck_172 : qMetOk 172 = true := by decide +kernel
set_option maxRecDepth 100000 in
theorem ck_173 : qMetOk 173 = true := by decide +kernel
set_option maxRecDepth 100000 in
theorem ck_174 : qMetOk 174 = true := by decide +kernel
set_option maxRecDepth 100000 in
theorem ck_175 : qMetOk 175 = true := by decide +kernel
set_option maxRecDepth 100000 in
theorem ck_176 : qMetOk 176 = true := by decide +kernel
set_option maxRecDepth 100000 in
theorem ck_178 : qMetOk 178 = true := by decide +kernel
set_option maxRecDepth 100000 in
theorem ck_322 : qMetOk 322 = true := by decide +kernel
set_option maxRecDepth 100000 in
theorem ck_323 : qMetOk 323 = true := by decide +kernel
set_option maxRecDepth 100000 in
theorem ck_324 : qMetOk 324 = true := by decide +kernel
set_option maxRecDepth 100000 in
theorem ck_325 : qMetOk 325 = true := by decide +kernel
set_option maxRecDepth 100000 in
theorem ck_326 : qMetOk 326 = true := by decide +kernel
set_option maxRecDepth 100000 in
theorem ck_327 : qMetOk 327 = true := by decide +kernel
set_option maxRecDepth 100000 in
theorem ck_378 : qMetOk 378 = true := by decide +kernel
set_option maxRecDepth 100000 in
theorem ck_379 : qMetOk 379 = true := by decide +kernel
set_option maxRecDepth 100000 in
theorem ck_380 : qMetOk 380 = true := by decide +kernel
