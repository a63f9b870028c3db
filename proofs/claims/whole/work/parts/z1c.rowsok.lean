set_option maxRecDepth 100000 in
theorem ck_200 : qMetOk 200 = true := by decide +kernel
set_option maxRecDepth 100000 in
theorem ck_201 : qMetOk 201 = true := by decide +kernel
set_option maxRecDepth 100000 in
theorem ck_202 : qMetOk 202 = true := by decide +kernel
set_option maxRecDepth 100000 in
theorem ck_203 : qMetOk 203 = true := by decide +kernel
set_option maxRecDepth 100000 in
theorem ck_204 : qMetOk 204 = true := by decide +kernel
set_option maxRecDepth 100000 in
theorem ck_205 : qMetOk 205 = true := by decide +kernel
set_option maxRecDepth 100000 in
theorem ck_206 : qMetOk 206 = true := by decide +kernel
set_option maxRecDepth 100000 in
theorem ck_207 : qMetOk 207 = true := by decide +kernel
set_option maxRecDepth 100000 in
theorem ck_208 : qMetOk 208 = true := by decide +kernel
set_option maxRecDepth 100000 in
theorem ck_209 : qMetOk 209 = true := by decide +kernel
set_option maxRecDepth 100000 in
theorem ck_210 : qMetOk 210 = true := by decide +kernel
set_option maxRecDepth 100000 in
theorem ck_211 : qMetOk 211 = true := by decide +kernel
set_option maxRecDepth 100000 in
theorem ck_212 : qMetOk 212 = true := by decide +kernel
set_option maxRecDepth 100000 in
theorem ck_213 : qMetOk 213 = true := by decide +kernel
set_option maxRecDepth 100000 in
theorem ck_214 : qMetOk 214 = true := by decide +kernel
set_option maxRecDepth 100000 in
theorem ck_215 : qMetOk 215 = true := by decide +kernel
set_option maxRecDepth 100000 in
theorem ck_216 : qMetOk 216 = true := by decide +kernel
set_option maxRecDepth 100000 in
theorem ck_217 : qMetOk 217 = true := by decide +kernel
set_option maxRecDepth 100000 in
theorem ck_218 : qMetOk 218 = true := by decide +kernel
set_option maxRecDepth 100000 in
theorem ck_219 : qMetOk 219 = true := by decide +kernel
set_option maxRecDepth 100000 in
theorem ck_220 : qMetOk 220 = true := by decide +kernel
set_option maxRecDepth 100000 in
theorem ck_221 : qMetOk 221 = true := by decide +kernel
set_option maxRecDepth 100000 in
theorem ck_222 : qMetOk 222 = true := by decide +kernel
set_option maxRecDepth 100000 in
theorem ck_223 : qMetOk 223 = true := by decide +kernel
set_option maxRecDepth 100000 in
theorem ck_224 : qMetOk 224 = true := by decide +kernel
set_option maxRecDepth 100000 in
theorem ck_225 : qMetOk 225 = true := by decide +kernel
set_option maxRecDepth 100000 in
theorem ck_226 : qMetOk 226 = true := by decide +kernel
set_option maxRecDepth 100000 in
theorem ck_227 : qMetOk 227 = true := by decide +kernel
set_option maxRecDepth 100000 in
theorem ck_228 : qMetOk 228 = true := by decide +kernel
set_option maxRecDepth 100000 in
theorem ck_229 : qMetOk 229 = true := by decide +kernel
set_option maxRecDepth 100000 in
theorem ck_230 : qMetOk 230 = true := by decide +kernel
set_option maxRecDepth 100000 in
theorem ck_231 : qMetOk 231 = true := by decide +kernel
set_option maxRecDepth 100000 in
theorem ck_232 : qMetOk 232 = true := by decide +kernel
set_option maxRecDepth 100000 in
theorem ck_233 : qMetOk 233 = true := by decide +kernel
set_option maxRecDepth 100000 in
theorem ck_234 : qMetOk 234 = true := by decide +kernel
set_option maxRecDepth 100000 in
theorem ck_235 : qMetOk 235 = true := by decide +kernel
set_option maxRecDepth 100000 in
theorem ck_236 : qMetOk 236 = true := by decide +kernel
set_option maxRecDepth 100000 in
theorem ck_237 : qMetOk 237 = true := by decide +kernel
set_option maxRecDepth 100000 in
theorem ck_238 : qMetOk 238 = true := by decide +kernel
set_option maxRecDepth 100000 in
theorem ck_239 : qMetOk 239 = true := by decide +kernel
set_option maxRecDepth 100000 in
theorem ck_240 : qMetOk 240 = true := by decide +kernel
set_option maxRecDepth 100000 in
theorem ck_241 : qMetOk 241 = true := by decide +kernel
set_option maxRecDepth 100000 in
theorem ck_242 : qMetOk 242 = true := by decide +kernel
set_option maxRecDepth 100000 in
theorem ck_243 : qMetOk 243 = true := by decide +kernel
set_option maxRecDepth 100000 in
theorem ck_244 : qMetOk 244 = true := by decide +kernel
set_option maxRecDepth 100000 in
theorem ck_245 : qMetOk 245 = true := by decide +kernel
set_option maxRecDepth 100000 in
theorem ck_246 : qMetOk 246 = true := by decide +kernel
set_option maxRecDepth 100000 in
theorem ck_247 : qMetOk 247 = true := by decide +kernel
set_option maxRecDepth 100000 in
theorem ck_248 : qMetOk 248 = true := by decide +kernel
set_option maxRecDepth 100000 in
theorem ck_249 : qMetOk 249 = true := by decide +kernel
set_option maxRecDepth 100000 in
theorem ck_250 : qMetOk 250 = true := by decide +kernel
set_option maxRecDepth 100000 in
theorem ck_251 : qMetOk 251 = true := by decide +kernel
set_option maxRecDepth 100000 in
theorem ck_252 : qMetOk 252 = true := by decide +kernel
set_option maxRecDepth 100000 in
theorem ck_253 : qMetOk 253 = true := by decide +kernel
set_option maxRecDepth 100000 in
theorem ck_254 : qMetOk 254 = true := by decide +kernel
set_option maxRecDepth 100000 in
theorem ck_255 : qMetOk 255 = true := by decide +kernel
set_option maxRecDepth 100000 in
theorem ck_256 : qMetOk 256 = true := by decide +kernel
set_option maxRecDepth 100000 in
theorem ck_257 : qMetOk 257 = true := by decide +kernel
set_option maxRecDepth 100000 in
theorem ck_258 : qMetOk 258 = true := by decide +kernel
set_option maxRecDepth 100000 in
theorem ck_259 : qMetOk 259 = true := by decide +kernel
set_option maxRecDepth 100000 in
theorem ck_260 : qMetOk 260 = true := by decide +kernel
set_option maxRecDepth 100000 in
theorem ck_261 : qMetOk 261 = true := by decide +kernel
set_option maxRecDepth 100000 in
theorem ck_262 : qMetOk 262 = true := by decide +kernel
set_option maxRecDepth 100000 in
theorem ck_263 : qMetOk 263 = true := by decide +kernel
set_option maxRecDepth 100000 in
theorem ck_264 : qMetOk 264 = true := by decide +kernel
set_option maxRecDepth 100000 in
theorem ck_265 : qMetOk 265 = true := by decide +kernel
set_option maxRecDepth 100000 in
theorem ck_266 : qMetOk 266 = true := by decide +kernel
set_option maxRecDepth 100000 in
theorem ck_267 : qMetOk 267 = true := by decide +kernel
set_option maxRecDepth 100000 in
theorem ck_268 : qMetOk 268 = true := by decide +kernel
set_option maxRecDepth 100000 in
theorem ck_269 : qMetOk 269 = true := by decide +kernel
set_option maxRecDepth 100000 in
theorem ck_270 : qMetOk 270 = true := by decide +kernel
set_option maxRecDepth 100000 in
theorem ck_271 : qMetOk 271 = true := by decide +kernel
set_option maxRecDepth 100000 in
theorem ck_272 : qMetOk 272 = true := by decide +kernel
set_option maxRecDepth 100000 in
theorem ck_273 : qMetOk 273 = true := by decide +kernel
set_option maxRecDepth 100000 in
theorem ck_274 : qMetOk 274 = true := by decide +kernel
set_option maxRecDepth 100000 in
theorem ck_275 : qMetOk 275 = true := by decide +kernel
set_option maxRecDepth 100000 in
theorem ck_276 : qMetOk 276 = true := by decide +kernel
set_option maxRecDepth 100000 in
theorem ck_277 : qMetOk 277 = true := by decide +kernel
set_option maxRecDepth 100000 in
theorem ck_278 : qMetOk 278 = true := by decide +kernel
set_option maxRecDepth 100000 in
theorem ck_279 : qMetOk 279 = true := by decide +kernel
set_option maxRecDepth 100000 in
theorem ck_280 : qMetOk 280 = true := by decide +kernel
set_option maxRecDepth 100000 in
theorem ck_281 : qMetOk 281 = true := by decide +kernel
set_option maxRecDepth 100000 in
theorem ck_282 : qMetOk 282 = true := by decide +kernel
set_option maxRecDepth 100000 in
theorem ck_283 : qMetOk 283 = true := by decide +kernel
set_option maxRecDepth 100000 in
theorem ck_284 : qMetOk 284 = true := by decide +kernel
set_option maxRecDepth 100000 in
theorem ck_285 : qMetOk 285 = true := by decide +kernel
set_option maxRecDepth 100000 in
theorem ck_286 : qMetOk 286 = true := by decide +kernel
set_option maxRecDepth 100000 in
theorem ck_287 : qMetOk 287 = true := by decide +kernel
set_option maxRecDepth 100000 in
theorem ck_288 : qMetOk 288 = true := by decide +kernel
set_option maxRecDepth 100000 in
theorem ck_289 : qMetOk 289 = true := by decide +kernel
set_option maxRecDepth 100000 in
theorem ck_290 : qMetOk 290 = true := by decide +kernel
set_option maxRecDepth 100000 in
theorem ck_291 : qMetOk 291 = true := by decide +kernel
set_option maxRecDepth 100000 in
theorem ck_292 : qMetOk 292 = true := by decide +kernel
set_option maxRecDepth 100000 in
theorem ck_293 : qMetOk 293 = true := by decide +kernel
set_option maxRecDepth 100000 in
theorem ck_294 : qMetOk 294 = true := by decide +kernel
set_option maxRecDepth 100000 in
theorem ck_295 : qMetOk 295 = true := by decide +kernel
set_option maxRecDepth 100000 in
theorem ck_296 : qMetOk 296 = true := by decide +kernel
set_option maxRecDepth 100000 in
theorem ck_297 : qMetOk 297 = true := by decide +kernel
set_option maxRecDepth 100000 in
theorem ck_298 : qMetOk 298 = true := by decide +kernel
set_option maxRecDepth 100000 in
theorem ck_299 : qMetOk 299 = true := by decide +kernel
