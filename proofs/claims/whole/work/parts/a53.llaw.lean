/-! ===== THE LAW: the switch, the loop ===== -/
theorem i32_and127 (v : Int32) : ∃ n : Nat, n < 128 ∧ v &&& 127 = Int32.ofNat n := by
  refine ⟨(v.toBitVec &&& 127#32).toNat, ?_, ?_⟩
  · rw [BitVec.toNat_and]
    exact Nat.lt_of_le_of_lt Nat.and_le_right (by decide)
  · refine Int32.toBitVec_inj.mp ?_
    show v.toBitVec &&& 127#32 = BitVec.ofNat 32 _
    rw [BitVec.ofNat_toNat, BitVec.setWidth_eq]
theorem i32_left {n c : Nat} (hn : n ≤ 2560) (hc : 5 * c ≤ n) : Int32.ofNat n - 5 < Int32.ofNat (5 * c) ↔ n < 5 * c + 5 := by
  by_cases h : 5 ≤ n
  · rw [show (5 : Int32) = Int32.ofNat 5 from rfl, i32_sub0 h, i32_lt (by omega) (by omega)]
    omega
  · have e : c = 0 := by omega
    subst e
    rcases (by omega : n = 0 ∨ n = 1 ∨ n = 2 ∨ n = 3 ∨ n = 4) with rfl | rfl | rfl | rfl | rfl <;> decide
def pr_0 (L : Nat → XS → Prop) (c : Nat) (X : XS) : Prop := qPair 322 242 [some (.ref 1), some (.int ((xC X).2 (5 * c + 1))), some (.ref 511), none] [some (.ref 388), some (.int ((xC X).2 (5 * c + 1)))] X (L (c + 1))
def pr_1 (L : Nat → XS → Prop) (c : Nat) (X : XS) : Prop := qPair 323 243 [some (.ref 1), some (.int ((xC X).2 (5 * c + 1))), some (.ref 511), none] [some (.ref 388), some (.int ((xC X).2 (5 * c + 1)))] X (L (c + 1))
def pr_2 (L : Nat → XS → Prop) (c : Nat) (X : XS) : Prop := qPair 324 244 [some (.ref 1), some (.int ((xC X).2 (5 * c + 1))), some (.ref 511), none] [some (.ref 388), some (.int ((xC X).2 (5 * c + 1)))] X (L (c + 1))
def pr_3 (L : Nat → XS → Prop) (c : Nat) (X : XS) : Prop := qPair 325 246 [some (.ref 1), some (.int ((xC X).2 (5 * c + 1))), some (.int ((xC X).2 (5 * c + 2))), some (.ref 511), none] [some (.ref 388), some (.int ((xC X).2 (5 * c + 1))), some (.int ((xC X).2 (5 * c + 2)))] X (L (c + 1))
def pr_4 (L : Nat → XS → Prop) (c : Nat) (X : XS) : Prop := qPair 326 247 [some (.ref 1), some (.int ((xC X).2 (5 * c + 1))), some (.int ((xC X).2 (5 * c + 2))), some (.ref 511), none] [some (.ref 388), some (.int ((xC X).2 (5 * c + 1))), some (.int ((xC X).2 (5 * c + 2)))] X (L (c + 1))
def pr_5 (L : Nat → XS → Prop) (c : Nat) (X : XS) : Prop := qPair 327 248 [some (.ref 1), some (.int ((xC X).2 (5 * c + 1))), some (.ref 511), none] [some (.ref 388), some (.int ((xC X).2 (5 * c + 1))), none, none] X (L (c + 1))
def pr_6 (L : Nat → XS → Prop) (c : Nat) (X : XS) : Prop := qPair 328 249 [some (.ref 1), some (.int ((xC X).2 (5 * c + 1))), some (.ref 511), none] [some (.ref 388), some (.int ((xC X).2 (5 * c + 1)))] X (L (c + 1))
def pr_7 (L : Nat → XS → Prop) (c : Nat) (X : XS) : Prop := qPair 329 250 [some (.ref 1), some (.int ((xC X).2 (5 * c + 1))), some (.ref 511), none] [some (.ref 388), some (.int ((xC X).2 (5 * c + 1)))] X (L (c + 1))
def pr_8 (L : Nat → XS → Prop) (c : Nat) (X : XS) : Prop := qPair 330 251 [some (.ref 1), some (.int ((xC X).2 (5 * c + 1))), some (.ref 511), none] [some (.ref 388), some (.int ((xC X).2 (5 * c + 1))), none, none, none, none] X (L (c + 1))
def pr_9 (L : Nat → XS → Prop) (c : Nat) (X : XS) : Prop := qPair 331 252 [some (.ref 1), some (.int ((xC X).2 (5 * c + 1))), some (.int ((xC X).2 (5 * c + 2))), some (.ref 511), none] [some (.ref 388), some (.int ((xC X).2 (5 * c + 1))), some (.int ((xC X).2 (5 * c + 2)))] X (L (c + 1))
def pr_10 (L : Nat → XS → Prop) (c : Nat) (X : XS) : Prop := qPair 332 255 [some (.ref 1), some (.int ((xC X).2 (5 * c + 1))), some (.int ((xC X).2 (5 * c + 2))), some (.ref 511), none] [some (.ref 388), some (.int ((xC X).2 (5 * c + 1))), some (.int ((xC X).2 (5 * c + 2)))] X (L (c + 1))
def pr_11 (L : Nat → XS → Prop) (c : Nat) (X : XS) : Prop := qPair 333 256 [some (.ref 1), some (.int ((xC X).2 (5 * c + 1))), some (.int ((xC X).2 (5 * c + 2))), some (.ref 511), none] [some (.ref 388), some (.int ((xC X).2 (5 * c + 1))), some (.int ((xC X).2 (5 * c + 2)))] X (L (c + 1))
def pr_12 (L : Nat → XS → Prop) (c : Nat) (X : XS) : Prop := ∃ v : Int32, RU 107 [some (.ref 1)] X (some (.int v)) (fun Y => RU 257 [some (.ref 388)] Y (some (.int v)) (L (c + 1)))
def pr_13 (L : Nat → XS → Prop) (c : Nat) (X : XS) : Prop := qPairB 334 258 [some (.ref 1), some (.int ((xC X).2 (5 * c + 1))), some (.ref 511), none] [some (.ref 388), some (.int ((xC X).2 (5 * c + 1)))] X (L (c + 1))
def pr_14 (L : Nat → XS → Prop) (c : Nat) (X : XS) : Prop := qPair 335 259 [some (.ref 1), some (.int ((xC X).2 (5 * c + 1))), some (.ref 511), none] [some (.ref 388), some (.int ((xC X).2 (5 * c + 1)))] X (L (c + 1))
def pr_15 (L : Nat → XS → Prop) (c : Nat) (X : XS) : Prop := qPair 336 260 [some (.ref 1), some (.int ((xC X).2 (5 * c + 1))), some (.ref 511), none] [some (.ref 388), some (.int ((xC X).2 (5 * c + 1)))] X (L (c + 1))
def pr_16 (L : Nat → XS → Prop) (c : Nat) (X : XS) : Prop := qPair 337 262 [some (.ref 1), some (.int ((xC X).2 (5 * c + 1))), some (.ref 511), none] [some (.ref 388), some (.int ((xC X).2 (5 * c + 1)))] X (L (c + 1))
def pr_17 (L : Nat → XS → Prop) (c : Nat) (X : XS) : Prop := qPair 338 263 [some (.ref 1), some (.int ((xC X).2 (5 * c + 1))), some (.ref 511), none] [some (.ref 388), some (.int ((xC X).2 (5 * c + 1)))] X (L (c + 1))
def pr_18 (L : Nat → XS → Prop) (c : Nat) (X : XS) : Prop := qPair 339 264 [some (.ref 1), some (.int ((xC X).2 (5 * c + 1))), some (.ref 511), none] [some (.ref 388), some (.int ((xC X).2 (5 * c + 1)))] X (L (c + 1))
def pr_19 (L : Nat → XS → Prop) (c : Nat) (X : XS) : Prop := qPair 340 265 [some (.ref 1), some (.int ((xC X).2 (5 * c + 1))), some (.ref 511), none] [some (.ref 388), some (.int ((xC X).2 (5 * c + 1)))] X (L (c + 1))
def pr_20 (L : Nat → XS → Prop) (c : Nat) (X : XS) : Prop := qPair 341 266 [some (.ref 1), some (.int ((xC X).2 (5 * c + 1))), some (.ref 511), none] [some (.ref 388), some (.int ((xC X).2 (5 * c + 1)))] X (L (c + 1))
def pr_21 (L : Nat → XS → Prop) (c : Nat) (X : XS) : Prop := qPair 342 268 [some (.ref 1), some (.int ((xC X).2 (5 * c + 1))), some (.int ((xC X).2 (5 * c + 2))), some (.int ((xC X).2 (5 * c + 3))), some (.ref 511), none] [some (.ref 388), some (.int ((xC X).2 (5 * c + 1))), some (.int ((xC X).2 (5 * c + 2))), some (.int ((xC X).2 (5 * c + 3)))] X (L (c + 1))
def pr_22 (L : Nat → XS → Prop) (c : Nat) (X : XS) : Prop := qPair 343 269 [some (.ref 1), some (.int ((xC X).2 (5 * c + 1))), some (.int ((xC X).2 (5 * c + 2))), some (.int ((xC X).2 (5 * c + 3))), some (.ref 511), none] [some (.ref 388), some (.int ((xC X).2 (5 * c + 1))), some (.int ((xC X).2 (5 * c + 2))), some (.int ((xC X).2 (5 * c + 3)))] X (L (c + 1))
def pr_23 (L : Nat → XS → Prop) (c : Nat) (X : XS) : Prop := qPair 344 270 [some (.ref 1), some (.int ((xC X).2 (5 * c + 1))), some (.int ((xC X).2 (5 * c + 2))), some (.int ((xC X).2 (5 * c + 3))), some (.int ((xC X).2 (5 * c + 4))), some (.ref 511), none] [some (.ref 388), some (.int ((xC X).2 (5 * c + 1))), some (.int ((xC X).2 (5 * c + 2))), some (.int ((xC X).2 (5 * c + 3))), some (.int ((xC X).2 (5 * c + 4)))] X (L (c + 1))
def pr_24 (L : Nat → XS → Prop) (c : Nat) (X : XS) : Prop := qPair 345 272 [some (.ref 1), some (.int ((xC X).2 (5 * c + 1))), some (.int ((xC X).2 (5 * c + 2))), some (.ref 511), none] [some (.ref 388), some (.int ((xC X).2 (5 * c + 1))), some (.int ((xC X).2 (5 * c + 2))), none] X (L (c + 1))
def pr_25 (L : Nat → XS → Prop) (c : Nat) (X : XS) : Prop := qPair 346 273 [some (.ref 1), some (.int ((xC X).2 (5 * c + 1))), some (.ref 511), none] [some (.ref 388), some (.int ((xC X).2 (5 * c + 1)))] X (L (c + 1))
def pr_26 (L : Nat → XS → Prop) (c : Nat) (X : XS) : Prop := qPairB 347 274 [some (.ref 1), some (.int ((xC X).2 (5 * c + 1))), some (.ref 511), none] [some (.ref 388), some (.int ((xC X).2 (5 * c + 1)))] X (L (c + 1))
def pr_27 (L : Nat → XS → Prop) (c : Nat) (X : XS) : Prop := qPair 348 275 [some (.ref 1), some (.int ((xC X).2 (5 * c + 1))), some (.ref 511), none] [some (.ref 388), some (.int ((xC X).2 (5 * c + 1)))] X (L (c + 1))
def pr_28 (L : Nat → XS → Prop) (c : Nat) (X : XS) : Prop := ∃ v : Int32, RU 123 [some (.ref 1)] X (some (.int v)) (fun Y => RU 276 [some (.ref 388)] Y (some (.int v)) (L (c + 1)))
def pr_29 (L : Nat → XS → Prop) (c : Nat) (X : XS) : Prop := ∃ v : Int32, RU 124 [some (.ref 1)] X (some (.int v)) (fun Y => RU 277 [some (.ref 388)] Y (some (.int v)) (L (c + 1)))
def pr_30 (L : Nat → XS → Prop) (c : Nat) (X : XS) : Prop := qPairB 349 279 [some (.ref 1), some (.int ((xC X).2 (5 * c + 1))), some (.ref 511), none] [some (.ref 388), some (.int ((xC X).2 (5 * c + 1)))] X (L (c + 1))
def pr_31 (L : Nat → XS → Prop) (c : Nat) (X : XS) : Prop := qPair 350 280 [some (.ref 1), some (.int ((xC X).2 (5 * c + 1))), some (.ref 511), none] [some (.ref 388), some (.int ((xC X).2 (5 * c + 1)))] X (L (c + 1))
def pr_32 (L : Nat → XS → Prop) (c : Nat) (X : XS) : Prop := qPair 351 281 [some (.ref 1), some (.int ((xC X).2 (5 * c + 1))), some (.ref 511), none] [some (.ref 388), some (.int ((xC X).2 (5 * c + 1)))] X (L (c + 1))
def pr_33 (L : Nat → XS → Prop) (c : Nat) (X : XS) : Prop := qPair 352 282 [some (.ref 1), some (.int ((xC X).2 (5 * c + 1))), some (.ref 511), none] [some (.ref 388), some (.int ((xC X).2 (5 * c + 1)))] X (L (c + 1))
def pr_34 (L : Nat → XS → Prop) (c : Nat) (X : XS) : Prop := qPair 353 283 [some (.ref 1), some (.int ((xC X).2 (5 * c + 1))), some (.ref 511), none] [some (.ref 388), some (.int ((xC X).2 (5 * c + 1)))] X (L (c + 1))
def pr_35 (L : Nat → XS → Prop) (c : Nat) (X : XS) : Prop := qPair 354 284 [some (.ref 1), some (.int ((xC X).2 (5 * c + 1))), some (.ref 511), none] [some (.ref 388), some (.int ((xC X).2 (5 * c + 1)))] X (L (c + 1))
def pr_36 (L : Nat → XS → Prop) (c : Nat) (X : XS) : Prop := qPair 355 285 [some (.ref 1), some (.int ((xC X).2 (5 * c + 1))), some (.ref 511), none] [some (.ref 388), some (.int ((xC X).2 (5 * c + 1)))] X (L (c + 1))
def pr_37 (L : Nat → XS → Prop) (c : Nat) (X : XS) : Prop := qPair 356 286 [some (.ref 1), some (.int ((xC X).2 (5 * c + 1))), some (.ref 511), none] [some (.ref 388), some (.int ((xC X).2 (5 * c + 1)))] X (L (c + 1))
def pr_38 (L : Nat → XS → Prop) (c : Nat) (X : XS) : Prop := qPair 357 287 [some (.ref 1), some (.int ((xC X).2 (5 * c + 1))), some (.ref 511), none] [some (.ref 388), some (.int ((xC X).2 (5 * c + 1)))] X (L (c + 1))
def pr_39 (L : Nat → XS → Prop) (c : Nat) (X : XS) : Prop := qPair 358 288 [some (.ref 1), some (.int ((xC X).2 (5 * c + 1))), some (.ref 511), none] [some (.ref 388), some (.int ((xC X).2 (5 * c + 1)))] X (L (c + 1))
def pr_40 (L : Nat → XS → Prop) (c : Nat) (X : XS) : Prop := qPair 359 289 [some (.ref 1), some (.int ((xC X).2 (5 * c + 1))), some (.ref 511), none] [some (.ref 388), some (.int ((xC X).2 (5 * c + 1)))] X (L (c + 1))
def pr_41 (L : Nat → XS → Prop) (c : Nat) (X : XS) : Prop := qPair 360 290 [some (.ref 1), some (.int ((xC X).2 (5 * c + 1))), some (.ref 511), none] [some (.ref 388), some (.int ((xC X).2 (5 * c + 1)))] X (L (c + 1))
def pr_42 (L : Nat → XS → Prop) (c : Nat) (X : XS) : Prop := qPairB 361 291 [some (.ref 1), some (.int ((xC X).2 (5 * c + 1))), some (.int ((xC X).2 (5 * c + 2))), some (.ref 511), none] [some (.ref 388), some (.int ((xC X).2 (5 * c + 1))), some (.int ((xC X).2 (5 * c + 2)))] X (L (c + 1))
def pr_43 (L : Nat → XS → Prop) (c : Nat) (X : XS) : Prop := qPair 362 292 [some (.ref 1), some (.int ((xC X).2 (5 * c + 1))), some (.int ((xC X).2 (5 * c + 2))), some (.ref 511), none] [some (.ref 388), some (.int ((xC X).2 (5 * c + 1))), some (.int ((xC X).2 (5 * c + 2)))] X (L (c + 1))
def pr_44 (L : Nat → XS → Prop) (c : Nat) (X : XS) : Prop := qPair 363 294 [some (.ref 1), some (.int ((xC X).2 (5 * c + 1))), some (.int ((xC X).2 (5 * c + 2))), some (.ref 511), none] [some (.ref 388), some (.int ((xC X).2 (5 * c + 1))), some (.int ((xC X).2 (5 * c + 2)))] X (L (c + 1))
def pr_45 (L : Nat → XS → Prop) (c : Nat) (X : XS) : Prop := qPair 364 295 [some (.ref 1), some (.int ((xC X).2 (5 * c + 1))), some (.int ((xC X).2 (5 * c + 2))), some (.ref 511), none] [some (.ref 388), some (.int ((xC X).2 (5 * c + 1))), some (.int ((xC X).2 (5 * c + 2)))] X (L (c + 1))
def pr_46 (L : Nat → XS → Prop) (c : Nat) (X : XS) : Prop := qPair 365 296 [some (.ref 1), some (.int ((xC X).2 (5 * c + 1))), some (.int ((xC X).2 (5 * c + 2))), some (.ref 511), none] [some (.ref 388), some (.int ((xC X).2 (5 * c + 1))), some (.int ((xC X).2 (5 * c + 2)))] X (L (c + 1))
def pr_47 (L : Nat → XS → Prop) (c : Nat) (X : XS) : Prop := qPair 366 297 [some (.ref 1), some (.int ((xC X).2 (5 * c + 1))), some (.int ((xC X).2 (5 * c + 2))), some (.ref 511), none] [some (.ref 388), some (.int ((xC X).2 (5 * c + 1))), some (.int ((xC X).2 (5 * c + 2)))] X (L (c + 1))
def pr_48 (L : Nat → XS → Prop) (c : Nat) (X : XS) : Prop := qPair 367 298 [some (.ref 1), some (.int ((xC X).2 (5 * c + 1))), some (.int ((xC X).2 (5 * c + 2))), some (.ref 511), none] [some (.ref 388), some (.int ((xC X).2 (5 * c + 1))), some (.int ((xC X).2 (5 * c + 2)))] X (L (c + 1))
def pr_49 (L : Nat → XS → Prop) (c : Nat) (X : XS) : Prop := qPair 368 299 [some (.ref 1), some (.int ((xC X).2 (5 * c + 1))), some (.int ((xC X).2 (5 * c + 2))), some (.ref 511), none] [some (.ref 388), some (.int ((xC X).2 (5 * c + 1))), some (.int ((xC X).2 (5 * c + 2)))] X (L (c + 1))
def pr_50 (L : Nat → XS → Prop) (c : Nat) (X : XS) : Prop := qPair 369 301 [some (.ref 1), some (.int ((xC X).2 (5 * c + 1))), some (.int ((xC X).2 (5 * c + 2))), some (.ref 511), none] [some (.ref 388), some (.int ((xC X).2 (5 * c + 1))), some (.int ((xC X).2 (5 * c + 2)))] X (L (c + 1))
def pr_51 (L : Nat → XS → Prop) (c : Nat) (X : XS) : Prop := qPair 370 302 [some (.ref 1), some (.int ((xC X).2 (5 * c + 1))), some (.int ((xC X).2 (5 * c + 2))), some (.ref 511), none] [some (.ref 388), some (.int ((xC X).2 (5 * c + 1))), some (.int ((xC X).2 (5 * c + 2)))] X (L (c + 1))
def pr_52 (L : Nat → XS → Prop) (c : Nat) (X : XS) : Prop := ∃ v : Int32, RU 147 [some (.ref 1), none] X (some (.int v)) (fun Y => RU 303 [some (.ref 388)] Y (some (.int v)) (L (c + 1)))
def pr_53 (L : Nat → XS → Prop) (c : Nat) (X : XS) : Prop := ∃ v : Int32, RU 148 [some (.ref 1)] X (some (.int v)) (fun Y => RU 305 [some (.ref 388)] Y (some (.int v)) (L (c + 1)))
def pr_54 (L : Nat → XS → Prop) (c : Nat) (X : XS) : Prop := ∃ v : Int32, RU 149 [some (.ref 1), none, none, none, none, none] X (some (.int v)) (fun Y => RU 306 [some (.ref 388)] Y (some (.int v)) (L (c + 1)))
def pr_55 (L : Nat → XS → Prop) (c : Nat) (X : XS) : Prop := qPair 371 307 [some (.ref 1), some (.int ((xC X).2 (5 * c + 1))), some (.int ((xC X).2 (5 * c + 2))), some (.ref 511), none] [some (.ref 388), some (.int ((xC X).2 (5 * c + 1))), some (.int ((xC X).2 (5 * c + 2)))] X (L (c + 1))
def pr_56 (L : Nat → XS → Prop) (c : Nat) (X : XS) : Prop := qPair 372 308 [some (.ref 1), some (.int ((xC X).2 (5 * c + 1))), some (.int ((xC X).2 (5 * c + 2))), some (.ref 511), none] [some (.ref 388), some (.int ((xC X).2 (5 * c + 1))), some (.int ((xC X).2 (5 * c + 2)))] X (L (c + 1))
def pr_57 (L : Nat → XS → Prop) (c : Nat) (X : XS) : Prop := qPairB 373 309 [some (.ref 1), some (.int ((xC X).2 (5 * c + 1))), some (.ref 511), none] [some (.ref 388), some (.int ((xC X).2 (5 * c + 1)))] X (L (c + 1))
def pr_58 (L : Nat → XS → Prop) (c : Nat) (X : XS) : Prop := qPair 374 310 [some (.ref 1), some (.int ((xC X).2 (5 * c + 1))), some (.ref 511), none] [some (.ref 388), some (.int ((xC X).2 (5 * c + 1))), none, none, none, none] X (L (c + 1))
def pr_59 (L : Nat → XS → Prop) (c : Nat) (X : XS) : Prop := ∃ v : Int32, RU 154 [some (.ref 1)] X (some (.int v)) (fun Y => RU 313 [some (.ref 388)] Y (some (.int v)) (L (c + 1)))
def pr_60 (L : Nat → XS → Prop) (c : Nat) (X : XS) : Prop := qPair 375 314 [some (.ref 1), some (.int ((xC X).2 (5 * c + 1))), some (.ref 511), none] [some (.ref 388), some (.int ((xC X).2 (5 * c + 1)))] X (L (c + 1))
def pr_61 (L : Nat → XS → Prop) (c : Nat) (X : XS) : Prop := ∃ v : Int32, RU 156 [some (.ref 1)] X (some (.int v)) (fun Y => RU 315 [some (.ref 388)] Y (some (.int v)) (L (c + 1)))
def pr_62 (L : Nat → XS → Prop) (c : Nat) (X : XS) : Prop := qPair 376 316 [some (.ref 1), some (.int ((xC X).2 (5 * c + 1))), some (.ref 511), none] [some (.ref 388), some (.int ((xC X).2 (5 * c + 1))), none] X (L (c + 1))
def pr_63 (L : Nat → XS → Prop) (c : Nat) (X : XS) : Prop := qPair 377 317 [some (.ref 1), some (.int ((xC X).2 (5 * c + 1))), some (.ref 511), none] [some (.ref 388), some (.int ((xC X).2 (5 * c + 1)))] X (L (c + 1))
def pr_64 (L : Nat → XS → Prop) (c : Nat) (X : XS) : Prop := ∃ v : UInt64, RU 159 [some (.ref 1), none, none, none, none, none, none, none] X (some (.double v)) (fun Y => RU 318 [some (.ref 388), none, none] Y (some (.double v)) (L (c + 1)))
def pr_65 (L : Nat → XS → Prop) (c : Nat) (X : XS) : Prop := ∃ v : Int64, RU 160 [some (.ref 1), none, none, none, none, none, none] X (some (.long v)) (fun Y => RU 321 [some (.ref 388), none, none] Y (some (.long v)) (L (c + 1)))
/-- every call comes to the same, and leads on -/
def lawOk (L : Nat → XS → Prop) : Prop := ∀ c X, L c X → 5 * c + 5 ≤ (xC X).1 → (xC X).1 ≤ 2560 →
  pr_0 L c X ∧ pr_1 L c X ∧ pr_2 L c X ∧ pr_3 L c X ∧ pr_4 L c X ∧ pr_5 L c X ∧ pr_6 L c X ∧ pr_7 L c X ∧ pr_8 L c X ∧ pr_9 L c X ∧ pr_10 L c X ∧ pr_11 L c X ∧ pr_12 L c X ∧ pr_13 L c X ∧ pr_14 L c X ∧ pr_15 L c X ∧ pr_16 L c X ∧ pr_17 L c X ∧ pr_18 L c X ∧ pr_19 L c X ∧ pr_20 L c X ∧ pr_21 L c X ∧ pr_22 L c X ∧ pr_23 L c X ∧ pr_24 L c X ∧ pr_25 L c X ∧ pr_26 L c X ∧ pr_27 L c X ∧ pr_28 L c X ∧ pr_29 L c X ∧ pr_30 L c X ∧ pr_31 L c X ∧ pr_32 L c X ∧ pr_33 L c X ∧ pr_34 L c X ∧ pr_35 L c X ∧ pr_36 L c X ∧ pr_37 L c X ∧ pr_38 L c X ∧ pr_39 L c X ∧ pr_40 L c X ∧ pr_41 L c X ∧ pr_42 L c X ∧ pr_43 L c X ∧ pr_44 L c X ∧ pr_45 L c X ∧ pr_46 L c X ∧ pr_47 L c X ∧ pr_48 L c X ∧ pr_49 L c X ∧ pr_50 L c X ∧ pr_51 L c X ∧ pr_52 L c X ∧ pr_53 L c X ∧ pr_54 L c X ∧ pr_55 L c X ∧ pr_56 L c X ∧ pr_57 L c X ∧ pr_58 L c X ∧ pr_59 L c X ∧ pr_60 L c X ∧ pr_61 L c X ∧ pr_62 L c X ∧ pr_63 L c X ∧ pr_64 L c X ∧ pr_65 L c X
set_option maxRecDepth 100000 in
theorem l_378x {X : XS} {Q : PO → XS → Prop} {c : Nat} {x5 x6 x7 x8 : Option Value} (hk : AT 378 13 (qLoc (c + 1) x5 x6 x7 x8) [] X Q) : AT 378 2335 (qLoc c x5 x6 x7 x8) [] X Q := by
  refine AT.iinc4 M_378 rfl rfl (show Int32.ofNat (5 * c) + Int32.ofInt 5 = Int32.ofNat (5 * (c + 1)) from by rw [show 5 * (c + 1) = 5 * c + 5 by omega, Int32.ofNat_add]; rfl) ?_
  refine AT.goto M_378 rfl ?_
  exact hk
set_option maxRecDepth 100000 in
theorem l_378s {L : Nat → XS → Prop} {n : Nat} (hP : lawOk L) (hm : ∀ c X, L c X → L (c + 1) X) (hs : ∀ c X, L c X → (xC X).1 = n) (hn : n ≤ 2560) {c : Nat} {X : XS} {x5 x6 x7 x8 : Option Value} (hX : L c X) (hc5 : 5 * c + 5 ≤ n) (hk : ∀ Z y5 y6 y7 y8, L (c + 1) Z → AT 378 2335 (qLoc c y5 y6 y7 y8) [] Z (fun o' Y => o' = .inl (some (.int 1)) ∧ ∃ c', c' ≤ 512 ∧ L c' Y)) : AT 378 19 (qLoc c x5 x6 x7 x8) [] X (fun o' Y => o' = .inl (some (.int 1)) ∧ ∃ c', c' ≤ 512 ∧ L c' Y) := by
  have hL : (xC X).1 ≤ 2560 := by rw [hs c X hX]; exact hn
  have hc6 : 5 * c + 5 ≤ (xC X).1 := by rw [hs c X hX]; exact hc5
  have h := hP c X hX hc6 hL
  refine AT.aload_n M_378 rfl rfl ?_
  refine AT.iload M_378 rfl rfl ?_
  refine AT.scr M_378 rfl rfl (by omega) (by omega) ?_
  refine AT.bipush M_378 rfl (v := 127) (by decide) ?_
  refine AT.iand M_378 rfl rfl ?_
  obtain ⟨v, v1, v2⟩ := i32_and127 ((xC X).2 (5 * c))
  rw [v2]
  rcases (by omega : v = 0 ∨ v = 1 ∨ v = 2 ∨ v = 3 ∨ v = 4 ∨ v = 5 ∨ v = 6 ∨ v = 7 ∨ v = 8 ∨ v = 9 ∨ v = 10 ∨ v = 11 ∨ v = 12 ∨ v = 13 ∨ v = 14 ∨ v = 15 ∨ v = 16 ∨ v = 17 ∨ v = 18 ∨ v = 19 ∨ v = 20 ∨ v = 21 ∨ v = 22 ∨ v = 23 ∨ v = 24 ∨ v = 25 ∨ v = 26 ∨ v = 27 ∨ v = 28 ∨ v = 29 ∨ v = 30 ∨ v = 31 ∨ v = 32 ∨ v = 33 ∨ v = 34 ∨ v = 35 ∨ v = 36 ∨ v = 37 ∨ v = 38 ∨ v = 39 ∨ v = 40 ∨ v = 41 ∨ v = 42 ∨ v = 43 ∨ v = 44 ∨ v = 45 ∨ v = 46 ∨ v = 47 ∨ v = 48 ∨ v = 49 ∨ v = 50 ∨ v = 51 ∨ v = 52 ∨ v = 53 ∨ v = 54 ∨ v = 55 ∨ v = 56 ∨ v = 57 ∨ v = 58 ∨ v = 59 ∨ v = 60 ∨ v = 61 ∨ v = 62 ∨ v = 63 ∨ v = 64 ∨ v = 65 ∨ 66 ≤ v) with rfl | rfl | rfl | rfl | rfl | rfl | rfl | rfl | rfl | rfl | rfl | rfl | rfl | rfl | rfl | rfl | rfl | rfl | rfl | rfl | rfl | rfl | rfl | rfl | rfl | rfl | rfl | rfl | rfl | rfl | rfl | rfl | rfl | rfl | rfl | rfl | rfl | rfl | rfl | rfl | rfl | rfl | rfl | rfl | rfl | rfl | rfl | rfl | rfl | rfl | rfl | rfl | rfl | rfl | rfl | rfl | rfl | rfl | rfl | rfl | rfl | rfl | rfl | rfl | rfl | rfl | h66
  · exact AT.sw (q := (316, [])) (h0 := 25) M_378 rfl rfl rfl (by decide +kernel) (b_0 hc6 hL h.1 hk)
  · exact AT.sw (q := (372, [])) (h0 := 60) M_378 rfl rfl rfl (by decide +kernel) (b_1 hc6 hL h.2.1 hk)
  · exact AT.sw (q := (428, [])) (h0 := 95) M_378 rfl rfl rfl (by decide +kernel) (b_2 hc6 hL h.2.2.1 hk)
  · exact AT.sw (q := (484, [])) (h0 := 130) M_378 rfl rfl rfl (by decide +kernel) (b_3 hc6 hL h.2.2.2.1 hk)
  · exact AT.sw (q := (552, [])) (h0 := 175) M_378 rfl rfl rfl (by decide +kernel) (b_4 hc6 hL h.2.2.2.2.1 hk)
  · exact AT.sw (q := (620, [])) (h0 := 220) M_378 rfl rfl rfl (by decide +kernel) (b_5 hc6 hL h.2.2.2.2.2.1 hk)
  · exact AT.sw (q := (676, [])) (h0 := 255) M_378 rfl rfl rfl (by decide +kernel) (b_6 hc6 hL h.2.2.2.2.2.2.1 hk)
  · exact AT.sw (q := (732, [])) (h0 := 290) M_378 rfl rfl rfl (by decide +kernel) (b_7 hc6 hL h.2.2.2.2.2.2.2.1 hk)
  · exact AT.sw (q := (788, [])) (h0 := 325) M_378 rfl rfl rfl (by decide +kernel) (b_8 hc6 hL h.2.2.2.2.2.2.2.2.1 hk)
  · exact AT.sw (q := (844, [])) (h0 := 360) M_378 rfl rfl rfl (by decide +kernel) (b_9 hc6 hL h.2.2.2.2.2.2.2.2.2.1 hk)
  · exact AT.sw (q := (912, [])) (h0 := 405) M_378 rfl rfl rfl (by decide +kernel) (b_10 hc6 hL h.2.2.2.2.2.2.2.2.2.2.1 hk)
  · exact AT.sw (q := (980, [])) (h0 := 450) M_378 rfl rfl rfl (by decide +kernel) (b_11 hc6 hL h.2.2.2.2.2.2.2.2.2.2.2.1 hk)
  · exact AT.sw (q := (1048, [])) (h0 := 495) M_378 rfl rfl rfl (by decide +kernel) (b_12 hc6 hL h.2.2.2.2.2.2.2.2.2.2.2.2.1 hk)
  · exact AT.sw (q := (1061, [])) (h0 := 502) M_378 rfl rfl rfl (by decide +kernel) (b_13 hc6 hL h.2.2.2.2.2.2.2.2.2.2.2.2.2.1 hk)
  · exact AT.sw (q := (1124, [])) (h0 := 540) M_378 rfl rfl rfl (by decide +kernel) (b_14 hc6 hL h.2.2.2.2.2.2.2.2.2.2.2.2.2.2.1 hk)
  · exact AT.sw (q := (1180, [])) (h0 := 575) M_378 rfl rfl rfl (by decide +kernel) (b_15 hc6 hL h.2.2.2.2.2.2.2.2.2.2.2.2.2.2.2.1 hk)
  · exact AT.sw (q := (1236, [])) (h0 := 610) M_378 rfl rfl rfl (by decide +kernel) (b_16 hc6 hL h.2.2.2.2.2.2.2.2.2.2.2.2.2.2.2.2.1 hk)
  · exact AT.sw (q := (1292, [])) (h0 := 645) M_378 rfl rfl rfl (by decide +kernel) (b_17 hc6 hL h.2.2.2.2.2.2.2.2.2.2.2.2.2.2.2.2.2.1 hk)
  · exact AT.sw (q := (1348, [])) (h0 := 680) M_378 rfl rfl rfl (by decide +kernel) (b_18 hc6 hL h.2.2.2.2.2.2.2.2.2.2.2.2.2.2.2.2.2.2.1 hk)
  · exact AT.sw (q := (1404, [])) (h0 := 715) M_378 rfl rfl rfl (by decide +kernel) (b_19 hc6 hL h.2.2.2.2.2.2.2.2.2.2.2.2.2.2.2.2.2.2.2.1 hk)
  · exact AT.sw (q := (1460, [])) (h0 := 750) M_378 rfl rfl rfl (by decide +kernel) (b_20 hc6 hL h.2.2.2.2.2.2.2.2.2.2.2.2.2.2.2.2.2.2.2.2.1 hk)
  · exact AT.sw (q := (1516, [])) (h0 := 785) M_378 rfl rfl rfl (by decide +kernel) (b_21 hc6 hL h.2.2.2.2.2.2.2.2.2.2.2.2.2.2.2.2.2.2.2.2.2.1 hk)
  · exact AT.sw (q := (1596, [])) (h0 := 840) M_378 rfl rfl rfl (by decide +kernel) (b_22 hc6 hL h.2.2.2.2.2.2.2.2.2.2.2.2.2.2.2.2.2.2.2.2.2.2.1 hk)
  · exact AT.sw (q := (1676, [])) (h0 := 895) M_378 rfl rfl rfl (by decide +kernel) (b_23 hc6 hL h.2.2.2.2.2.2.2.2.2.2.2.2.2.2.2.2.2.2.2.2.2.2.2.1 hk)
  · exact AT.sw (q := (1768, [])) (h0 := 960) M_378 rfl rfl rfl (by decide +kernel) (b_24 hc6 hL h.2.2.2.2.2.2.2.2.2.2.2.2.2.2.2.2.2.2.2.2.2.2.2.2.1 hk)
  · exact AT.sw (q := (1836, [])) (h0 := 1005) M_378 rfl rfl rfl (by decide +kernel) (b_25 hc6 hL h.2.2.2.2.2.2.2.2.2.2.2.2.2.2.2.2.2.2.2.2.2.2.2.2.2.1 hk)
  · exact AT.sw (q := (1892, [])) (h0 := 1040) M_378 rfl rfl rfl (by decide +kernel) (b_26 hc6 hL h.2.2.2.2.2.2.2.2.2.2.2.2.2.2.2.2.2.2.2.2.2.2.2.2.2.2.1 hk)
  · exact AT.sw (q := (1955, [])) (h0 := 1078) M_378 rfl rfl rfl (by decide +kernel) (b_27 hc6 hL h.2.2.2.2.2.2.2.2.2.2.2.2.2.2.2.2.2.2.2.2.2.2.2.2.2.2.2.1 hk)
  · exact AT.sw (q := (2011, [])) (h0 := 1113) M_378 rfl rfl rfl (by decide +kernel) (b_28 hc6 hL h.2.2.2.2.2.2.2.2.2.2.2.2.2.2.2.2.2.2.2.2.2.2.2.2.2.2.2.2.1 hk)
  · exact AT.sw (q := (2024, [])) (h0 := 1120) M_378 rfl rfl rfl (by decide +kernel) (b_29 hc6 hL h.2.2.2.2.2.2.2.2.2.2.2.2.2.2.2.2.2.2.2.2.2.2.2.2.2.2.2.2.2.1 hk)
  · exact AT.sw (q := (2037, [])) (h0 := 1127) M_378 rfl rfl rfl (by decide +kernel) (b_30 hc6 hL h.2.2.2.2.2.2.2.2.2.2.2.2.2.2.2.2.2.2.2.2.2.2.2.2.2.2.2.2.2.2.1 hk)
  · exact AT.sw (q := (2100, [])) (h0 := 1165) M_378 rfl rfl rfl (by decide +kernel) (b_31 hc6 hL h.2.2.2.2.2.2.2.2.2.2.2.2.2.2.2.2.2.2.2.2.2.2.2.2.2.2.2.2.2.2.2.1 hk)
  · exact AT.sw (q := (2156, [])) (h0 := 1200) M_378 rfl rfl rfl (by decide +kernel) (b_32 hc6 hL h.2.2.2.2.2.2.2.2.2.2.2.2.2.2.2.2.2.2.2.2.2.2.2.2.2.2.2.2.2.2.2.2.1 hk)
  · exact AT.sw (q := (2212, [])) (h0 := 1235) M_378 rfl rfl rfl (by decide +kernel) (b_33 hc6 hL h.2.2.2.2.2.2.2.2.2.2.2.2.2.2.2.2.2.2.2.2.2.2.2.2.2.2.2.2.2.2.2.2.2.1 hk)
  · exact AT.sw (q := (2268, [])) (h0 := 1270) M_378 rfl rfl rfl (by decide +kernel) (b_34 hc6 hL h.2.2.2.2.2.2.2.2.2.2.2.2.2.2.2.2.2.2.2.2.2.2.2.2.2.2.2.2.2.2.2.2.2.2.1 hk)
  · exact AT.sw (q := (2324, [])) (h0 := 1305) M_378 rfl rfl rfl (by decide +kernel) (b_35 hc6 hL h.2.2.2.2.2.2.2.2.2.2.2.2.2.2.2.2.2.2.2.2.2.2.2.2.2.2.2.2.2.2.2.2.2.2.2.1 hk)
  · exact AT.sw (q := (2380, [])) (h0 := 1340) M_378 rfl rfl rfl (by decide +kernel) (b_36 hc6 hL h.2.2.2.2.2.2.2.2.2.2.2.2.2.2.2.2.2.2.2.2.2.2.2.2.2.2.2.2.2.2.2.2.2.2.2.2.1 hk)
  · exact AT.sw (q := (2436, [])) (h0 := 1375) M_378 rfl rfl rfl (by decide +kernel) (b_37 hc6 hL h.2.2.2.2.2.2.2.2.2.2.2.2.2.2.2.2.2.2.2.2.2.2.2.2.2.2.2.2.2.2.2.2.2.2.2.2.2.1 hk)
  · exact AT.sw (q := (2492, [])) (h0 := 1410) M_378 rfl rfl rfl (by decide +kernel) (b_38 hc6 hL h.2.2.2.2.2.2.2.2.2.2.2.2.2.2.2.2.2.2.2.2.2.2.2.2.2.2.2.2.2.2.2.2.2.2.2.2.2.2.1 hk)
  · exact AT.sw (q := (2548, [])) (h0 := 1445) M_378 rfl rfl rfl (by decide +kernel) (b_39 hc6 hL h.2.2.2.2.2.2.2.2.2.2.2.2.2.2.2.2.2.2.2.2.2.2.2.2.2.2.2.2.2.2.2.2.2.2.2.2.2.2.2.1 hk)
  · exact AT.sw (q := (2604, [])) (h0 := 1480) M_378 rfl rfl rfl (by decide +kernel) (b_40 hc6 hL h.2.2.2.2.2.2.2.2.2.2.2.2.2.2.2.2.2.2.2.2.2.2.2.2.2.2.2.2.2.2.2.2.2.2.2.2.2.2.2.2.1 hk)
  · exact AT.sw (q := (2660, [])) (h0 := 1515) M_378 rfl rfl rfl (by decide +kernel) (b_41 hc6 hL h.2.2.2.2.2.2.2.2.2.2.2.2.2.2.2.2.2.2.2.2.2.2.2.2.2.2.2.2.2.2.2.2.2.2.2.2.2.2.2.2.2.1 hk)
  · exact AT.sw (q := (2716, [])) (h0 := 1550) M_378 rfl rfl rfl (by decide +kernel) (b_42 hc6 hL h.2.2.2.2.2.2.2.2.2.2.2.2.2.2.2.2.2.2.2.2.2.2.2.2.2.2.2.2.2.2.2.2.2.2.2.2.2.2.2.2.2.2.1 hk)
  · exact AT.sw (q := (2791, [])) (h0 := 1598) M_378 rfl rfl rfl (by decide +kernel) (b_43 hc6 hL h.2.2.2.2.2.2.2.2.2.2.2.2.2.2.2.2.2.2.2.2.2.2.2.2.2.2.2.2.2.2.2.2.2.2.2.2.2.2.2.2.2.2.2.1 hk)
  · exact AT.sw (q := (2859, [])) (h0 := 1643) M_378 rfl rfl rfl (by decide +kernel) (b_44 hc6 hL h.2.2.2.2.2.2.2.2.2.2.2.2.2.2.2.2.2.2.2.2.2.2.2.2.2.2.2.2.2.2.2.2.2.2.2.2.2.2.2.2.2.2.2.2.1 hk)
  · exact AT.sw (q := (2927, [])) (h0 := 1688) M_378 rfl rfl rfl (by decide +kernel) (b_45 hc6 hL h.2.2.2.2.2.2.2.2.2.2.2.2.2.2.2.2.2.2.2.2.2.2.2.2.2.2.2.2.2.2.2.2.2.2.2.2.2.2.2.2.2.2.2.2.2.1 hk)
  · exact AT.sw (q := (2995, [])) (h0 := 1733) M_378 rfl rfl rfl (by decide +kernel) (b_46 hc6 hL h.2.2.2.2.2.2.2.2.2.2.2.2.2.2.2.2.2.2.2.2.2.2.2.2.2.2.2.2.2.2.2.2.2.2.2.2.2.2.2.2.2.2.2.2.2.2.1 hk)
  · exact AT.sw (q := (3063, [])) (h0 := 1778) M_378 rfl rfl rfl (by decide +kernel) (b_47 hc6 hL h.2.2.2.2.2.2.2.2.2.2.2.2.2.2.2.2.2.2.2.2.2.2.2.2.2.2.2.2.2.2.2.2.2.2.2.2.2.2.2.2.2.2.2.2.2.2.2.1 hk)
  · exact AT.sw (q := (3131, [])) (h0 := 1823) M_378 rfl rfl rfl (by decide +kernel) (b_48 hc6 hL h.2.2.2.2.2.2.2.2.2.2.2.2.2.2.2.2.2.2.2.2.2.2.2.2.2.2.2.2.2.2.2.2.2.2.2.2.2.2.2.2.2.2.2.2.2.2.2.2.1 hk)
  · exact AT.sw (q := (3199, [])) (h0 := 1868) M_378 rfl rfl rfl (by decide +kernel) (b_49 hc6 hL h.2.2.2.2.2.2.2.2.2.2.2.2.2.2.2.2.2.2.2.2.2.2.2.2.2.2.2.2.2.2.2.2.2.2.2.2.2.2.2.2.2.2.2.2.2.2.2.2.2.1 hk)
  · exact AT.sw (q := (3267, [])) (h0 := 1913) M_378 rfl rfl rfl (by decide +kernel) (b_50 hc6 hL h.2.2.2.2.2.2.2.2.2.2.2.2.2.2.2.2.2.2.2.2.2.2.2.2.2.2.2.2.2.2.2.2.2.2.2.2.2.2.2.2.2.2.2.2.2.2.2.2.2.2.1 hk)
  · exact AT.sw (q := (3335, [])) (h0 := 1958) M_378 rfl rfl rfl (by decide +kernel) (b_51 hc6 hL h.2.2.2.2.2.2.2.2.2.2.2.2.2.2.2.2.2.2.2.2.2.2.2.2.2.2.2.2.2.2.2.2.2.2.2.2.2.2.2.2.2.2.2.2.2.2.2.2.2.2.2.1 hk)
  · exact AT.sw (q := (3403, [])) (h0 := 2003) M_378 rfl rfl rfl (by decide +kernel) (b_52 hc6 hL h.2.2.2.2.2.2.2.2.2.2.2.2.2.2.2.2.2.2.2.2.2.2.2.2.2.2.2.2.2.2.2.2.2.2.2.2.2.2.2.2.2.2.2.2.2.2.2.2.2.2.2.2.1 hk)
  · exact AT.sw (q := (3416, [])) (h0 := 2010) M_378 rfl rfl rfl (by decide +kernel) (b_53 hc6 hL h.2.2.2.2.2.2.2.2.2.2.2.2.2.2.2.2.2.2.2.2.2.2.2.2.2.2.2.2.2.2.2.2.2.2.2.2.2.2.2.2.2.2.2.2.2.2.2.2.2.2.2.2.2.1 hk)
  · exact AT.sw (q := (3429, [])) (h0 := 2017) M_378 rfl rfl rfl (by decide +kernel) (b_54 hc6 hL h.2.2.2.2.2.2.2.2.2.2.2.2.2.2.2.2.2.2.2.2.2.2.2.2.2.2.2.2.2.2.2.2.2.2.2.2.2.2.2.2.2.2.2.2.2.2.2.2.2.2.2.2.2.2.1 hk)
  · exact AT.sw (q := (3442, [])) (h0 := 2024) M_378 rfl rfl rfl (by decide +kernel) (b_55 hc6 hL h.2.2.2.2.2.2.2.2.2.2.2.2.2.2.2.2.2.2.2.2.2.2.2.2.2.2.2.2.2.2.2.2.2.2.2.2.2.2.2.2.2.2.2.2.2.2.2.2.2.2.2.2.2.2.2.1 hk)
  · exact AT.sw (q := (3510, [])) (h0 := 2069) M_378 rfl rfl rfl (by decide +kernel) (b_56 hc6 hL h.2.2.2.2.2.2.2.2.2.2.2.2.2.2.2.2.2.2.2.2.2.2.2.2.2.2.2.2.2.2.2.2.2.2.2.2.2.2.2.2.2.2.2.2.2.2.2.2.2.2.2.2.2.2.2.2.1 hk)
  · exact AT.sw (q := (3578, [])) (h0 := 2114) M_378 rfl rfl rfl (by decide +kernel) (b_57 hc6 hL h.2.2.2.2.2.2.2.2.2.2.2.2.2.2.2.2.2.2.2.2.2.2.2.2.2.2.2.2.2.2.2.2.2.2.2.2.2.2.2.2.2.2.2.2.2.2.2.2.2.2.2.2.2.2.2.2.2.1 hk)
  · exact AT.sw (q := (3641, [])) (h0 := 2152) M_378 rfl rfl rfl (by decide +kernel) (b_58 hc6 hL h.2.2.2.2.2.2.2.2.2.2.2.2.2.2.2.2.2.2.2.2.2.2.2.2.2.2.2.2.2.2.2.2.2.2.2.2.2.2.2.2.2.2.2.2.2.2.2.2.2.2.2.2.2.2.2.2.2.2.1 hk)
  · exact AT.sw (q := (3697, [])) (h0 := 2187) M_378 rfl rfl rfl (by decide +kernel) (b_59 hc6 hL h.2.2.2.2.2.2.2.2.2.2.2.2.2.2.2.2.2.2.2.2.2.2.2.2.2.2.2.2.2.2.2.2.2.2.2.2.2.2.2.2.2.2.2.2.2.2.2.2.2.2.2.2.2.2.2.2.2.2.2.1 hk)
  · exact AT.sw (q := (3710, [])) (h0 := 2194) M_378 rfl rfl rfl (by decide +kernel) (b_60 hc6 hL h.2.2.2.2.2.2.2.2.2.2.2.2.2.2.2.2.2.2.2.2.2.2.2.2.2.2.2.2.2.2.2.2.2.2.2.2.2.2.2.2.2.2.2.2.2.2.2.2.2.2.2.2.2.2.2.2.2.2.2.2.1 hk)
  · exact AT.sw (q := (3766, [])) (h0 := 2229) M_378 rfl rfl rfl (by decide +kernel) (b_61 hc6 hL h.2.2.2.2.2.2.2.2.2.2.2.2.2.2.2.2.2.2.2.2.2.2.2.2.2.2.2.2.2.2.2.2.2.2.2.2.2.2.2.2.2.2.2.2.2.2.2.2.2.2.2.2.2.2.2.2.2.2.2.2.2.1 hk)
  · exact AT.sw (q := (3779, [])) (h0 := 2236) M_378 rfl rfl rfl (by decide +kernel) (b_62 hc6 hL h.2.2.2.2.2.2.2.2.2.2.2.2.2.2.2.2.2.2.2.2.2.2.2.2.2.2.2.2.2.2.2.2.2.2.2.2.2.2.2.2.2.2.2.2.2.2.2.2.2.2.2.2.2.2.2.2.2.2.2.2.2.2.1 hk)
  · exact AT.sw (q := (3835, [])) (h0 := 2271) M_378 rfl rfl rfl (by decide +kernel) (b_63 hc6 hL h.2.2.2.2.2.2.2.2.2.2.2.2.2.2.2.2.2.2.2.2.2.2.2.2.2.2.2.2.2.2.2.2.2.2.2.2.2.2.2.2.2.2.2.2.2.2.2.2.2.2.2.2.2.2.2.2.2.2.2.2.2.2.2.1 hk)
  · exact AT.sw (q := (3891, [])) (h0 := 2306) M_378 rfl rfl rfl (by decide +kernel) (b_64 hc6 hL h.2.2.2.2.2.2.2.2.2.2.2.2.2.2.2.2.2.2.2.2.2.2.2.2.2.2.2.2.2.2.2.2.2.2.2.2.2.2.2.2.2.2.2.2.2.2.2.2.2.2.2.2.2.2.2.2.2.2.2.2.2.2.2.2.1 hk)
  · exact AT.sw (q := (3932, [])) (h0 := 2327) M_378 rfl rfl rfl (by decide +kernel) (b_65 hc6 hL h.2.2.2.2.2.2.2.2.2.2.2.2.2.2.2.2.2.2.2.2.2.2.2.2.2.2.2.2.2.2.2.2.2.2.2.2.2.2.2.2.2.2.2.2.2.2.2.2.2.2.2.2.2.2.2.2.2.2.2.2.2.2.2.2.2 hk)
  · refine AT.sw (q := (3946, [])) (h0 := 2335) M_378 rfl rfl ?_ (by decide +kernel) (hk X _ _ _ _ (hm c X hX))
    show (if (Int32.ofNat v).toInt < 0 ∨ 65 < (Int32.ofNat v).toInt then (if ((39 : Nat) : Int) + 3907 < 0 then none else some (((39 : Nat) + 3907 : Int).toNat, [])) else _) = _
    rw [if_pos (Or.inr (by rw [i32_int (by omega)]; omega))]
    rfl
set_option maxRecDepth 100000 in
theorem l_378 {L : Nat → XS → Prop} {n : Nat} (hP : lawOk L) (hm : ∀ c X, L c X → L (c + 1) X) (hs : ∀ c X, L c X → (xC X).1 = n) (hn : n ≤ 2560) : ∀ d c : Nat, c + d = n / 5 → ∀ (X : XS) (x5 x6 x7 x8 : Option Value), L c X → AT 378 13 (qLoc c x5 x6 x7 x8) [] X (fun o' Y => o' = .inl (some (.int 1)) ∧ ∃ c', c' ≤ 512 ∧ L c' Y)
  | 0, c, hc, X, x5, x6, x7, x8, hX => by
    have e := hs c X hX
    refine AT.iload M_378 rfl rfl ?_
    refine AT.aload_n M_378 rfl rfl ?_
    refine AT.scl M_378 rfl ?_
    rw [e]
    refine AT.iconst M_378 rfl (v := 5) (by decide) ?_
    refine AT.isub M_378 rfl rfl ?_
    refine AT.icmp_gt M_378 rfl (fun b18 => ?_) (fun b18 => absurd ((i32_left hn (by omega)).mpr (by omega)) b18)
    refine AT.iconst M_378 rfl (v := 1) (by decide) ?_
    refine AT.zret M_378 rfl rfl (Or.inr rfl) ?_
    exact ⟨rfl, c, by omega, hX⟩
  | d + 1, c, hc, X, x5, x6, x7, x8, hX => by
    have e := hs c X hX
    refine AT.iload M_378 rfl rfl ?_
    refine AT.aload_n M_378 rfl rfl ?_
    refine AT.scl M_378 rfl ?_
    rw [e]
    refine AT.iconst M_378 rfl (v := 5) (by decide) ?_
    refine AT.isub M_378 rfl rfl ?_
    refine AT.icmp_gt M_378 rfl (fun b18 => absurd ((i32_left hn (by omega)).mp b18) (by omega)) (fun b18 => ?_)
    exact l_378s hP hm hs hn hX (by omega) (fun Z y5 y6 y7 y8 hZ => l_378x (l_378 hP hm hs hn d (c + 1) (by omega) Z y5 y6 y7 y8 hZ))
