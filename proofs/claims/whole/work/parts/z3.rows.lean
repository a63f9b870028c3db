/-! ===== THE ROWS ARE THE CODE'S, put together ===== -/
set_option maxRecDepth 100000 in
theorem qCk_all : qAllI (fun m _ => m ≠ 378 → qMetOk m = true) 0 qMIL := And.intro (fun _ => ck_0) (And.intro (fun _ => ck_1) (And.intro (fun _ => ck_2) (And.intro (fun _ => ck_3) (And.intro (fun _ => ck_4) (And.intro (fun _ => ck_5) (And.intro (fun _ => ck_6) (And.intro (fun _ => ck_7) (And.intro (fun _ => ck_8) (And.intro (fun _ => ck_9) (And.intro (fun _ => ck_10) (And.intro (fun _ => ck_11) (And.intro (fun _ => ck_12) (And.intro (fun _ => ck_13) (And.intro (fun _ => ck_14) (And.intro (fun _ => ck_15) (And.intro (fun _ => ck_16) (And.intro (fun _ => ck_17) (And.intro (fun _ => ck_18) (And.intro (fun _ => ck_19) (And.intro (fun _ => ck_20) (And.intro (fun _ => ck_21) (And.intro (fun _ => ck_22) (And.intro (fun _ => ck_23) (And.intro (fun _ => ck_24) (And.intro (fun _ => ck_25) (And.intro (fun _ => ck_26) (And.intro (fun _ => ck_27) (And.intro (fun _ => ck_28) (And.intro (fun _ => ck_29) (And.intro (fun _ => ck_30) (And.intro (fun _ => ck_31) (And.intro (fun _ => ck_32) (And.intro (fun _ => ck_33) (And.intro (fun _ => ck_34) (And.intro (fun _ => ck_35) (And.intro (fun _ => ck_36) (And.intro (fun _ => ck_37) (And.intro (fun _ => ck_38) (And.intro (fun _ => ck_39) (And.intro (fun _ => ck_40) (And.intro (fun _ => ck_41) (And.intro (fun _ => ck_42) (And.intro (fun _ => ck_43) (And.intro (fun _ => ck_44) (And.intro (fun _ => ck_45) (And.intro (fun _ => ck_46) (And.intro (fun _ => ck_47) (And.intro (fun _ => ck_48) (And.intro (fun _ => ck_49) (And.intro (fun _ => ck_50) (And.intro (fun _ => ck_51) (And.intro (fun _ => ck_52) (And.intro (fun _ => ck_53) (And.intro (fun _ => ck_54) (And.intro (fun _ => ck_55) (And.intro (fun _ => ck_56) (And.intro (fun _ => ck_57) (And.intro (fun _ => ck_58) (And.intro (fun _ => ck_59) (And.intro (fun _ => ck_60) (And.intro (fun _ => ck_61) (And.intro (fun _ => ck_62) (And.intro (fun _ => ck_63) (And.intro (fun _ => ck_64) (And.intro (fun _ => ck_65) (And.intro (fun _ => ck_66) (And.intro (fun _ => ck_67) (And.intro (fun _ => ck_68) (And.intro (fun _ => ck_69) (And.intro (fun _ => ck_70) (And.intro (fun _ => ck_71) (And.intro (fun _ => ck_72) (And.intro (fun _ => ck_73) (And.intro (fun _ => ck_74) (And.intro (fun _ => ck_75) (And.intro (fun _ => ck_76) (And.intro (fun _ => ck_77) (And.intro (fun _ => ck_78) (And.intro (fun _ => ck_79) (And.intro (fun _ => ck_80) (And.intro (fun _ => ck_81) (And.intro (fun _ => ck_82) (And.intro (fun _ => ck_83) (And.intro (fun _ => ck_84) (And.intro (fun _ => ck_85) (And.intro (fun _ => ck_86) (And.intro (fun _ => ck_87) (And.intro (fun _ => ck_88) (And.intro (fun _ => ck_89) (And.intro (fun _ => ck_90) (And.intro (fun _ => ck_91) (And.intro (fun _ => ck_92) (And.intro (fun _ => ck_93) (And.intro (fun _ => ck_94) (And.intro (fun _ => ck_95) (And.intro (fun _ => ck_96) (And.intro (fun _ => ck_97) (And.intro (fun _ => ck_98) (And.intro (fun _ => ck_99) (And.intro (fun _ => ck_100) (And.intro (fun _ => ck_101) (And.intro (fun _ => ck_102) (And.intro (fun _ => ck_103) (And.intro (fun _ => ck_104) (And.intro (fun _ => ck_105) (And.intro (fun _ => ck_106) (And.intro (fun _ => ck_107) (And.intro (fun _ => ck_108) (And.intro (fun _ => ck_109) (And.intro (fun _ => ck_110) (And.intro (fun _ => ck_111) (And.intro (fun _ => ck_112) (And.intro (fun _ => ck_113) (And.intro (fun _ => ck_114) (And.intro (fun _ => ck_115) (And.intro (fun _ => ck_116) (And.intro (fun _ => ck_117) (And.intro (fun _ => ck_118) (And.intro (fun _ => ck_119) (And.intro (fun _ => ck_120) (And.intro (fun _ => ck_121) (And.intro (fun _ => ck_122) (And.intro (fun _ => ck_123) (And.intro (fun _ => ck_124) (And.intro (fun _ => ck_125) (And.intro (fun _ => ck_126) (And.intro (fun _ => ck_127) (And.intro (fun _ => ck_128) (And.intro (fun _ => ck_129) (And.intro (fun _ => ck_130) (And.intro (fun _ => ck_131) (And.intro (fun _ => ck_132) (And.intro (fun _ => ck_133) (And.intro (fun _ => ck_134) (And.intro (fun _ => ck_135) (And.intro (fun _ => ck_136) (And.intro (fun _ => ck_137) (And.intro (fun _ => ck_138) (And.intro (fun _ => ck_139) (And.intro (fun _ => ck_140) (And.intro (fun _ => ck_141) (And.intro (fun _ => ck_142) (And.intro (fun _ => ck_143) (And.intro (fun _ => ck_144) (And.intro (fun _ => ck_145) (And.intro (fun _ => ck_146) (And.intro (fun _ => ck_147) (And.intro (fun _ => ck_148) (And.intro (fun _ => ck_149) (And.intro (fun _ => ck_150) (And.intro (fun _ => ck_151) (And.intro (fun _ => ck_152) (And.intro (fun _ => ck_153) (And.intro (fun _ => ck_154) (And.intro (fun _ => ck_155) (And.intro (fun _ => ck_156) (And.intro (fun _ => ck_157) (And.intro (fun _ => ck_158) (And.intro (fun _ => ck_159) (And.intro (fun _ => ck_160) (And.intro (fun _ => ck_161) (And.intro (fun _ => ck_162) (And.intro (fun _ => ck_163) (And.intro (fun _ => ck_164) (And.intro (fun _ => ck_165) (And.intro (fun _ => ck_166) (And.intro (fun _ => ck_167) (And.intro (fun _ => ck_168) (And.intro (fun _ => ck_169) (And.intro (fun _ => ck_170) (And.intro (fun _ => ck_171) (And.intro (fun _ => ck_172) (And.intro (fun _ => ck_173) (And.intro (fun _ => ck_174) (And.intro (fun _ => ck_175) (And.intro (fun _ => ck_176) (And.intro (fun _ => ck_177) (And.intro (fun _ => ck_178) (And.intro (fun _ => ck_179) (And.intro (fun _ => ck_180) (And.intro (fun _ => ck_181) (And.intro (fun _ => ck_182) (And.intro (fun _ => ck_183) (And.intro (fun _ => ck_184) (And.intro (fun _ => ck_185) (And.intro (fun _ => ck_186) (And.intro (fun _ => ck_187) (And.intro (fun _ => ck_188) (And.intro (fun _ => ck_189) (And.intro (fun _ => ck_190) (And.intro (fun _ => ck_191) (And.intro (fun _ => ck_192) (And.intro (fun _ => ck_193) (And.intro (fun _ => ck_194) (And.intro (fun _ => ck_195) (And.intro (fun _ => ck_196) (And.intro (fun _ => ck_197) (And.intro (fun _ => ck_198) (And.intro (fun _ => ck_199) (And.intro (fun _ => ck_200) (And.intro (fun _ => ck_201) (And.intro (fun _ => ck_202) (And.intro (fun _ => ck_203) (And.intro (fun _ => ck_204) (And.intro (fun _ => ck_205) (And.intro (fun _ => ck_206) (And.intro (fun _ => ck_207) (And.intro (fun _ => ck_208) (And.intro (fun _ => ck_209) (And.intro (fun _ => ck_210) (And.intro (fun _ => ck_211) (And.intro (fun _ => ck_212) (And.intro (fun _ => ck_213) (And.intro (fun _ => ck_214) (And.intro (fun _ => ck_215) (And.intro (fun _ => ck_216) (And.intro (fun _ => ck_217) (And.intro (fun _ => ck_218) (And.intro (fun _ => ck_219) (And.intro (fun _ => ck_220) (And.intro (fun _ => ck_221) (And.intro (fun _ => ck_222) (And.intro (fun _ => ck_223) (And.intro (fun _ => ck_224) (And.intro (fun _ => ck_225) (And.intro (fun _ => ck_226) (And.intro (fun _ => ck_227) (And.intro (fun _ => ck_228) (And.intro (fun _ => ck_229) (And.intro (fun _ => ck_230) (And.intro (fun _ => ck_231) (And.intro (fun _ => ck_232) (And.intro (fun _ => ck_233) (And.intro (fun _ => ck_234) (And.intro (fun _ => ck_235) (And.intro (fun _ => ck_236) (And.intro (fun _ => ck_237) (And.intro (fun _ => ck_238) (And.intro (fun _ => ck_239) (And.intro (fun _ => ck_240) (And.intro (fun _ => ck_241) (And.intro (fun _ => ck_242) (And.intro (fun _ => ck_243) (And.intro (fun _ => ck_244) (And.intro (fun _ => ck_245) (And.intro (fun _ => ck_246) (And.intro (fun _ => ck_247) (And.intro (fun _ => ck_248) (And.intro (fun _ => ck_249) (And.intro (fun _ => ck_250) (And.intro (fun _ => ck_251) (And.intro (fun _ => ck_252) (And.intro (fun _ => ck_253) (And.intro (fun _ => ck_254) (And.intro (fun _ => ck_255) (And.intro (fun _ => ck_256) (And.intro (fun _ => ck_257) (And.intro (fun _ => ck_258) (And.intro (fun _ => ck_259) (And.intro (fun _ => ck_260) (And.intro (fun _ => ck_261) (And.intro (fun _ => ck_262) (And.intro (fun _ => ck_263) (And.intro (fun _ => ck_264) (And.intro (fun _ => ck_265) (And.intro (fun _ => ck_266) (And.intro (fun _ => ck_267) (And.intro (fun _ => ck_268) (And.intro (fun _ => ck_269) (And.intro (fun _ => ck_270) (And.intro (fun _ => ck_271) (And.intro (fun _ => ck_272) (And.intro (fun _ => ck_273) (And.intro (fun _ => ck_274) (And.intro (fun _ => ck_275) (And.intro (fun _ => ck_276) (And.intro (fun _ => ck_277) (And.intro (fun _ => ck_278) (And.intro (fun _ => ck_279) (And.intro (fun _ => ck_280) (And.intro (fun _ => ck_281) (And.intro (fun _ => ck_282) (And.intro (fun _ => ck_283) (And.intro (fun _ => ck_284) (And.intro (fun _ => ck_285) (And.intro (fun _ => ck_286) (And.intro (fun _ => ck_287) (And.intro (fun _ => ck_288) (And.intro (fun _ => ck_289) (And.intro (fun _ => ck_290) (And.intro (fun _ => ck_291) (And.intro (fun _ => ck_292) (And.intro (fun _ => ck_293) (And.intro (fun _ => ck_294) (And.intro (fun _ => ck_295) (And.intro (fun _ => ck_296) (And.intro (fun _ => ck_297) (And.intro (fun _ => ck_298) (And.intro (fun _ => ck_299) (And.intro (fun _ => ck_300) (And.intro (fun _ => ck_301) (And.intro (fun _ => ck_302) (And.intro (fun _ => ck_303) (And.intro (fun _ => ck_304) (And.intro (fun _ => ck_305) (And.intro (fun _ => ck_306) (And.intro (fun _ => ck_307) (And.intro (fun _ => ck_308) (And.intro (fun _ => ck_309) (And.intro (fun _ => ck_310) (And.intro (fun _ => ck_311) (And.intro (fun _ => ck_312) (And.intro (fun _ => ck_313) (And.intro (fun _ => ck_314) (And.intro (fun _ => ck_315) (And.intro (fun _ => ck_316) (And.intro (fun _ => ck_317) (And.intro (fun _ => ck_318) (And.intro (fun _ => ck_319) (And.intro (fun _ => ck_320) (And.intro (fun _ => ck_321) (And.intro (fun _ => ck_322) (And.intro (fun _ => ck_323) (And.intro (fun _ => ck_324) (And.intro (fun _ => ck_325) (And.intro (fun _ => ck_326) (And.intro (fun _ => ck_327) (And.intro (fun _ => ck_328) (And.intro (fun _ => ck_329) (And.intro (fun _ => ck_330) (And.intro (fun _ => ck_331) (And.intro (fun _ => ck_332) (And.intro (fun _ => ck_333) (And.intro (fun _ => ck_334) (And.intro (fun _ => ck_335) (And.intro (fun _ => ck_336) (And.intro (fun _ => ck_337) (And.intro (fun _ => ck_338) (And.intro (fun _ => ck_339) (And.intro (fun _ => ck_340) (And.intro (fun _ => ck_341) (And.intro (fun _ => ck_342) (And.intro (fun _ => ck_343) (And.intro (fun _ => ck_344) (And.intro (fun _ => ck_345) (And.intro (fun _ => ck_346) (And.intro (fun _ => ck_347) (And.intro (fun _ => ck_348) (And.intro (fun _ => ck_349) (And.intro (fun _ => ck_350) (And.intro (fun _ => ck_351) (And.intro (fun _ => ck_352) (And.intro (fun _ => ck_353) (And.intro (fun _ => ck_354) (And.intro (fun _ => ck_355) (And.intro (fun _ => ck_356) (And.intro (fun _ => ck_357) (And.intro (fun _ => ck_358) (And.intro (fun _ => ck_359) (And.intro (fun _ => ck_360) (And.intro (fun _ => ck_361) (And.intro (fun _ => ck_362) (And.intro (fun _ => ck_363) (And.intro (fun _ => ck_364) (And.intro (fun _ => ck_365) (And.intro (fun _ => ck_366) (And.intro (fun _ => ck_367) (And.intro (fun _ => ck_368) (And.intro (fun _ => ck_369) (And.intro (fun _ => ck_370) (And.intro (fun _ => ck_371) (And.intro (fun _ => ck_372) (And.intro (fun _ => ck_373) (And.intro (fun _ => ck_374) (And.intro (fun _ => ck_375) (And.intro (fun _ => ck_376) (And.intro (fun _ => ck_377) (And.intro (fun h => absurd rfl h) (And.intro (fun _ => ck_379) (And.intro (fun _ => ck_380) (trivial)))))))))))))))))))))))))))))))))))))))))))))))))))))))))))))))))))))))))))))))))))))))))))))))))))))))))))))))))))))))))))))))))))))))))))))))))))))))))))))))))))))))))))))))))))))))))))))))))))))))))))))))))))))))))))))))))))))))))))))))))))))))))))))))))))))))))))))))))))))))))))))))))))))))))))))))))))))))))))))))))))))))))))))))))))))))))))))))))))))))))))))))))))))))))))))
theorem qRowsOk_spec {o : Nat} {init : Bool} {fr lo : Nat} {bc : ByteArray} {all : List PRow} : ∀ {L : List PRow}, qRowsOk o init fr lo bc all L = true → ∀ (i : Nat) (r : PRow), L[i]? = some r → qRowOk o init fr lo bc all (L.drop (i + 1)) r = true
  | [], _, i, r, hi => by simp at hi
  | a :: t, h, 0, r, hi => by
    unfold qRowsOk at h
    simp only [Bool.and_eq_true] at h
    simp at hi
    subst hi
    exact h.1
  | a :: t, h, i + 1, r, hi => by
    unfold qRowsOk at h
    simp only [Bool.and_eq_true] at h
    exact qRowsOk_spec h.2 i r (by simpa using hi)
theorem qSpan_spec {m a : Nat} : ∀ {n : Nat}, qSpan m a n = true → ∀ j, j < n → qAt m (a + j) = true
  | 0, _, j, hj => absurd hj (Nat.not_lt_zero j)
  | n + 1, h, j, hj => by
    unfold qSpan at h
    simp only [Bool.and_eq_true] at h
    by_cases e : j = n
    · rw [e]; exact h.1
    · exact qSpan_spec h.2 j (by omega)
theorem qAt_spec {m i : Nat} {r : PRow} (hm : m < 381) (h : qAt m i = true) (hr : (qRows m)[i]? = some r) : qRowOk (qmO m) (decide ((qmY m).name = "<init>")) (qmF m) (qmG m) (qmB m) (qRows m) ((qRows m).drop (i + 1)) r = true := by
  have hlt : i < (qRows m).length := (List.getElem?_eq_some_iff.mp hr).1
  have hd : (qRows m).drop i = r :: (qRows m).drop (i + 1) := by
    rw [List.drop_eq_getElem_cons hlt]
    rw [List.getElem?_eq_getElem hlt] at hr
    rw [Option.some.inj hr]
  unfold qAt at h
  rw [qMI_get hm] at h
  dsimp only at h
  rw [hd] at h
  exact h
set_option maxRecDepth 100000 in
theorem qLaw_len : (qRows 378).length = 2339 := rfl
theorem qLaw_at {i : Nat} (h : i < 2339) : qAt 378 i = true := by
  by_cases z0 : i < 60
  · have := qSpan_spec cl_0 (i - 0) (by omega)
    rwa [show 0 + (i - 0) = i by omega] at this
  by_cases z60 : i < 120
  · have := qSpan_spec cl_60 (i - 60) (by omega)
    rwa [show 60 + (i - 60) = i by omega] at this
  by_cases z120 : i < 180
  · have := qSpan_spec cl_120 (i - 120) (by omega)
    rwa [show 120 + (i - 120) = i by omega] at this
  by_cases z180 : i < 240
  · have := qSpan_spec cl_180 (i - 180) (by omega)
    rwa [show 180 + (i - 180) = i by omega] at this
  by_cases z240 : i < 300
  · have := qSpan_spec cl_240 (i - 240) (by omega)
    rwa [show 240 + (i - 240) = i by omega] at this
  by_cases z300 : i < 360
  · have := qSpan_spec cl_300 (i - 300) (by omega)
    rwa [show 300 + (i - 300) = i by omega] at this
  by_cases z360 : i < 420
  · have := qSpan_spec cl_360 (i - 360) (by omega)
    rwa [show 360 + (i - 360) = i by omega] at this
  by_cases z420 : i < 480
  · have := qSpan_spec cl_420 (i - 420) (by omega)
    rwa [show 420 + (i - 420) = i by omega] at this
  by_cases z480 : i < 540
  · have := qSpan_spec cl_480 (i - 480) (by omega)
    rwa [show 480 + (i - 480) = i by omega] at this
  by_cases z540 : i < 600
  · have := qSpan_spec cl_540 (i - 540) (by omega)
    rwa [show 540 + (i - 540) = i by omega] at this
  by_cases z600 : i < 660
  · have := qSpan_spec cl_600 (i - 600) (by omega)
    rwa [show 600 + (i - 600) = i by omega] at this
  by_cases z660 : i < 720
  · have := qSpan_spec cl_660 (i - 660) (by omega)
    rwa [show 660 + (i - 660) = i by omega] at this
  by_cases z720 : i < 780
  · have := qSpan_spec cl_720 (i - 720) (by omega)
    rwa [show 720 + (i - 720) = i by omega] at this
  by_cases z780 : i < 840
  · have := qSpan_spec cl_780 (i - 780) (by omega)
    rwa [show 780 + (i - 780) = i by omega] at this
  by_cases z840 : i < 900
  · have := qSpan_spec cl_840 (i - 840) (by omega)
    rwa [show 840 + (i - 840) = i by omega] at this
  by_cases z900 : i < 960
  · have := qSpan_spec cl_900 (i - 900) (by omega)
    rwa [show 900 + (i - 900) = i by omega] at this
  by_cases z960 : i < 1020
  · have := qSpan_spec cl_960 (i - 960) (by omega)
    rwa [show 960 + (i - 960) = i by omega] at this
  by_cases z1020 : i < 1080
  · have := qSpan_spec cl_1020 (i - 1020) (by omega)
    rwa [show 1020 + (i - 1020) = i by omega] at this
  by_cases z1080 : i < 1140
  · have := qSpan_spec cl_1080 (i - 1080) (by omega)
    rwa [show 1080 + (i - 1080) = i by omega] at this
  by_cases z1140 : i < 1200
  · have := qSpan_spec cl_1140 (i - 1140) (by omega)
    rwa [show 1140 + (i - 1140) = i by omega] at this
  by_cases z1200 : i < 1260
  · have := qSpan_spec cl_1200 (i - 1200) (by omega)
    rwa [show 1200 + (i - 1200) = i by omega] at this
  by_cases z1260 : i < 1320
  · have := qSpan_spec cl_1260 (i - 1260) (by omega)
    rwa [show 1260 + (i - 1260) = i by omega] at this
  by_cases z1320 : i < 1380
  · have := qSpan_spec cl_1320 (i - 1320) (by omega)
    rwa [show 1320 + (i - 1320) = i by omega] at this
  by_cases z1380 : i < 1440
  · have := qSpan_spec cl_1380 (i - 1380) (by omega)
    rwa [show 1380 + (i - 1380) = i by omega] at this
  by_cases z1440 : i < 1500
  · have := qSpan_spec cl_1440 (i - 1440) (by omega)
    rwa [show 1440 + (i - 1440) = i by omega] at this
  by_cases z1500 : i < 1560
  · have := qSpan_spec cl_1500 (i - 1500) (by omega)
    rwa [show 1500 + (i - 1500) = i by omega] at this
  by_cases z1560 : i < 1620
  · have := qSpan_spec cl_1560 (i - 1560) (by omega)
    rwa [show 1560 + (i - 1560) = i by omega] at this
  by_cases z1620 : i < 1680
  · have := qSpan_spec cl_1620 (i - 1620) (by omega)
    rwa [show 1620 + (i - 1620) = i by omega] at this
  by_cases z1680 : i < 1740
  · have := qSpan_spec cl_1680 (i - 1680) (by omega)
    rwa [show 1680 + (i - 1680) = i by omega] at this
  by_cases z1740 : i < 1800
  · have := qSpan_spec cl_1740 (i - 1740) (by omega)
    rwa [show 1740 + (i - 1740) = i by omega] at this
  by_cases z1800 : i < 1860
  · have := qSpan_spec cl_1800 (i - 1800) (by omega)
    rwa [show 1800 + (i - 1800) = i by omega] at this
  by_cases z1860 : i < 1920
  · have := qSpan_spec cl_1860 (i - 1860) (by omega)
    rwa [show 1860 + (i - 1860) = i by omega] at this
  by_cases z1920 : i < 1980
  · have := qSpan_spec cl_1920 (i - 1920) (by omega)
    rwa [show 1920 + (i - 1920) = i by omega] at this
  by_cases z1980 : i < 2040
  · have := qSpan_spec cl_1980 (i - 1980) (by omega)
    rwa [show 1980 + (i - 1980) = i by omega] at this
  by_cases z2040 : i < 2100
  · have := qSpan_spec cl_2040 (i - 2040) (by omega)
    rwa [show 2040 + (i - 2040) = i by omega] at this
  by_cases z2100 : i < 2160
  · have := qSpan_spec cl_2100 (i - 2100) (by omega)
    rwa [show 2100 + (i - 2100) = i by omega] at this
  by_cases z2160 : i < 2220
  · have := qSpan_spec cl_2160 (i - 2160) (by omega)
    rwa [show 2160 + (i - 2160) = i by omega] at this
  by_cases z2220 : i < 2280
  · have := qSpan_spec cl_2220 (i - 2220) (by omega)
    rwa [show 2220 + (i - 2220) = i by omega] at this
  have := qSpan_spec cl_2280 (i - 2280) (by omega)
  rwa [show 2280 + (i - 2280) = i by omega] at this
set_option maxRecDepth 100000 in
theorem qLaw_0 : ∃ r, (qRows 378)[0]? = some r ∧ r.1 = 0 := ⟨_, rfl, rfl⟩
/-- THE ROWS ARE THE CODE'S -/
theorem qOK : qAllOk := by
  intro m hm
  by_cases h : m = 378
  · subst h
    refine ⟨fun i r hr => ?_, qLaw_0⟩
    have hlt : i < (qRows 378).length := (List.getElem?_eq_some_iff.mp hr).1
    rw [qLaw_len] at hlt
    exact qAt_spec hm (qLaw_at hlt) hr
  · have h1 := qAllI_get qCk_all (qMI_get hm)
    rw [Nat.zero_add] at h1
    have h2 := h1 h
    unfold qMetOk at h2
    rw [qMI_get hm] at h2
    simp only [Bool.and_eq_true] at h2
    refine ⟨fun i r hr => qRowsOk_spec h2.1 i r hr, ?_⟩
    have h3 := h2.2
    split at h3
    · cases h3
    · rename_i r t e
      rw [e]
      exact ⟨r, rfl, by simpa using h3⟩
