theorem cw_0 : qGet mi_0.2.2.2.2.2.2.2.2.2.2.1 = some (qCw mi_0) := by rfl
set_option maxRecDepth 100000 in
theorem mo_0 : qMiOk mi_0 = true := by decide +kernel
theorem cw_1 : qGet mi_1.2.2.2.2.2.2.2.2.2.2.1 = some (qCw mi_1) := by rfl
set_option maxRecDepth 100000 in
theorem mo_1 : qMiOk mi_1 = true := by decide +kernel
theorem cw_2 : qGet mi_2.2.2.2.2.2.2.2.2.2.2.1 = some (qCw mi_2) := by rfl
set_option maxRecDepth 100000 in
theorem mo_2 : qMiOk mi_2 = true := by decide +kernel
theorem cw_3 : qGet mi_3.2.2.2.2.2.2.2.2.2.2.1 = some (qCw mi_3) := by rfl
set_option maxRecDepth 100000 in
theorem mo_3 : qMiOk mi_3 = true := by decide +kernel
theorem cw_4 : qGet mi_4.2.2.2.2.2.2.2.2.2.2.1 = some (qCw mi_4) := by rfl
set_option maxRecDepth 100000 in
theorem mo_4 : qMiOk mi_4 = true := by decide +kernel
theorem cw_5 : qGet mi_5.2.2.2.2.2.2.2.2.2.2.1 = some (qCw mi_5) := by rfl
set_option maxRecDepth 100000 in
theorem mo_5 : qMiOk mi_5 = true := by decide +kernel
theorem cw_6 : qGet mi_6.2.2.2.2.2.2.2.2.2.2.1 = some (qCw mi_6) := by rfl
set_option maxRecDepth 100000 in
theorem mo_6 : qMiOk mi_6 = true := by decide +kernel
theorem cw_7 : qGet mi_7.2.2.2.2.2.2.2.2.2.2.1 = some (qCw mi_7) := by rfl
set_option maxRecDepth 100000 in
theorem mo_7 : qMiOk mi_7 = true := by decide +kernel
theorem cw_8 : qGet mi_8.2.2.2.2.2.2.2.2.2.2.1 = some (qCw mi_8) := by rfl
set_option maxRecDepth 100000 in
theorem mo_8 : qMiOk mi_8 = true := by decide +kernel
theorem cw_9 : qGet mi_9.2.2.2.2.2.2.2.2.2.2.1 = some (qCw mi_9) := by rfl
set_option maxRecDepth 100000 in
theorem mo_9 : qMiOk mi_9 = true := by decide +kernel
theorem cw_10 : qGet mi_10.2.2.2.2.2.2.2.2.2.2.1 = some (qCw mi_10) := by rfl
set_option maxRecDepth 100000 in
theorem mo_10 : qMiOk mi_10 = true := by decide +kernel
theorem cw_11 : qGet mi_11.2.2.2.2.2.2.2.2.2.2.1 = some (qCw mi_11) := by rfl
set_option maxRecDepth 100000 in
theorem mo_11 : qMiOk mi_11 = true := by decide +kernel
theorem cw_12 : qGet mi_12.2.2.2.2.2.2.2.2.2.2.1 = some (qCw mi_12) := by rfl
set_option maxRecDepth 100000 in
theorem mo_12 : qMiOk mi_12 = true := by decide +kernel
theorem cw_13 : qGet mi_13.2.2.2.2.2.2.2.2.2.2.1 = some (qCw mi_13) := by rfl
set_option maxRecDepth 100000 in
theorem mo_13 : qMiOk mi_13 = true := by decide +kernel
theorem cw_14 : qGet mi_14.2.2.2.2.2.2.2.2.2.2.1 = some (qCw mi_14) := by rfl
set_option maxRecDepth 100000 in
theorem mo_14 : qMiOk mi_14 = true := by decide +kernel
theorem cw_15 : qGet mi_15.2.2.2.2.2.2.2.2.2.2.1 = some (qCw mi_15) := by rfl
set_option maxRecDepth 100000 in
theorem mo_15 : qMiOk mi_15 = true := by decide +kernel
theorem cw_16 : qGet mi_16.2.2.2.2.2.2.2.2.2.2.1 = some (qCw mi_16) := by rfl
set_option maxRecDepth 100000 in
theorem mo_16 : qMiOk mi_16 = true := by decide +kernel
theorem cw_17 : qGet mi_17.2.2.2.2.2.2.2.2.2.2.1 = some (qCw mi_17) := by rfl
set_option maxRecDepth 100000 in
theorem mo_17 : qMiOk mi_17 = true := by decide +kernel
theorem cw_18 : qGet mi_18.2.2.2.2.2.2.2.2.2.2.1 = some (qCw mi_18) := by rfl
set_option maxRecDepth 100000 in
theorem mo_18 : qMiOk mi_18 = true := by decide +kernel
theorem cw_19 : qGet mi_19.2.2.2.2.2.2.2.2.2.2.1 = some (qCw mi_19) := by rfl
set_option maxRecDepth 100000 in
theorem mo_19 : qMiOk mi_19 = true := by decide +kernel
theorem cw_20 : qGet mi_20.2.2.2.2.2.2.2.2.2.2.1 = some (qCw mi_20) := by rfl
set_option maxRecDepth 100000 in
theorem mo_20 : qMiOk mi_20 = true := by decide +kernel
theorem cw_21 : qGet mi_21.2.2.2.2.2.2.2.2.2.2.1 = some (qCw mi_21) := by rfl
set_option maxRecDepth 100000 in
theorem mo_21 : qMiOk mi_21 = true := by decide +kernel
theorem cw_22 : qGet mi_22.2.2.2.2.2.2.2.2.2.2.1 = some (qCw mi_22) := by rfl
set_option maxRecDepth 100000 in
theorem mo_22 : qMiOk mi_22 = true := by decide +kernel
theorem cw_23 : qGet mi_23.2.2.2.2.2.2.2.2.2.2.1 = some (qCw mi_23) := by rfl
set_option maxRecDepth 100000 in
theorem mo_23 : qMiOk mi_23 = true := by decide +kernel
theorem cw_24 : qGet mi_24.2.2.2.2.2.2.2.2.2.2.1 = some (qCw mi_24) := by rfl
set_option maxRecDepth 100000 in
theorem mo_24 : qMiOk mi_24 = true := by decide +kernel
theorem cw_25 : qGet mi_25.2.2.2.2.2.2.2.2.2.2.1 = some (qCw mi_25) := by rfl
set_option maxRecDepth 100000 in
theorem mo_25 : qMiOk mi_25 = true := by decide +kernel
theorem cw_26 : qGet mi_26.2.2.2.2.2.2.2.2.2.2.1 = some (qCw mi_26) := by rfl
set_option maxRecDepth 100000 in
theorem mo_26 : qMiOk mi_26 = true := by decide +kernel
theorem cw_27 : qGet mi_27.2.2.2.2.2.2.2.2.2.2.1 = some (qCw mi_27) := by rfl
set_option maxRecDepth 100000 in
theorem mo_27 : qMiOk mi_27 = true := by decide +kernel
theorem cw_28 : qGet mi_28.2.2.2.2.2.2.2.2.2.2.1 = some (qCw mi_28) := by rfl
set_option maxRecDepth 100000 in
theorem mo_28 : qMiOk mi_28 = true := by decide +kernel
theorem cw_29 : qGet mi_29.2.2.2.2.2.2.2.2.2.2.1 = some (qCw mi_29) := by rfl
set_option maxRecDepth 100000 in
theorem mo_29 : qMiOk mi_29 = true := by decide +kernel
theorem cw_30 : qGet mi_30.2.2.2.2.2.2.2.2.2.2.1 = some (qCw mi_30) := by rfl
set_option maxRecDepth 100000 in
theorem mo_30 : qMiOk mi_30 = true := by decide +kernel
theorem cw_31 : qGet mi_31.2.2.2.2.2.2.2.2.2.2.1 = some (qCw mi_31) := by rfl
set_option maxRecDepth 100000 in
theorem mo_31 : qMiOk mi_31 = true := by decide +kernel
theorem cw_32 : qGet mi_32.2.2.2.2.2.2.2.2.2.2.1 = some (qCw mi_32) := by rfl
set_option maxRecDepth 100000 in
theorem mo_32 : qMiOk mi_32 = true := by decide +kernel
theorem cw_33 : qGet mi_33.2.2.2.2.2.2.2.2.2.2.1 = some (qCw mi_33) := by rfl
set_option maxRecDepth 100000 in
theorem mo_33 : qMiOk mi_33 = true := by decide +kernel
theorem cw_34 : qGet mi_34.2.2.2.2.2.2.2.2.2.2.1 = some (qCw mi_34) := by rfl
set_option maxRecDepth 100000 in
theorem mo_34 : qMiOk mi_34 = true := by decide +kernel
theorem cw_35 : qGet mi_35.2.2.2.2.2.2.2.2.2.2.1 = some (qCw mi_35) := by rfl
set_option maxRecDepth 100000 in
theorem mo_35 : qMiOk mi_35 = true := by decide +kernel
theorem cw_36 : qGet mi_36.2.2.2.2.2.2.2.2.2.2.1 = some (qCw mi_36) := by rfl
set_option maxRecDepth 100000 in
theorem mo_36 : qMiOk mi_36 = true := by decide +kernel
theorem cw_37 : qGet mi_37.2.2.2.2.2.2.2.2.2.2.1 = some (qCw mi_37) := by rfl
set_option maxRecDepth 100000 in
theorem mo_37 : qMiOk mi_37 = true := by decide +kernel
theorem cw_38 : qGet mi_38.2.2.2.2.2.2.2.2.2.2.1 = some (qCw mi_38) := by rfl
set_option maxRecDepth 100000 in
theorem mo_38 : qMiOk mi_38 = true := by decide +kernel
theorem cw_39 : qGet mi_39.2.2.2.2.2.2.2.2.2.2.1 = some (qCw mi_39) := by rfl
set_option maxRecDepth 100000 in
theorem mo_39 : qMiOk mi_39 = true := by decide +kernel
theorem cw_40 : qGet mi_40.2.2.2.2.2.2.2.2.2.2.1 = some (qCw mi_40) := by rfl
set_option maxRecDepth 100000 in
theorem mo_40 : qMiOk mi_40 = true := by decide +kernel
theorem cw_41 : qGet mi_41.2.2.2.2.2.2.2.2.2.2.1 = some (qCw mi_41) := by rfl
set_option maxRecDepth 100000 in
theorem mo_41 : qMiOk mi_41 = true := by decide +kernel
theorem cw_42 : qGet mi_42.2.2.2.2.2.2.2.2.2.2.1 = some (qCw mi_42) := by rfl
set_option maxRecDepth 100000 in
theorem mo_42 : qMiOk mi_42 = true := by decide +kernel
theorem cw_43 : qGet mi_43.2.2.2.2.2.2.2.2.2.2.1 = some (qCw mi_43) := by rfl
set_option maxRecDepth 100000 in
theorem mo_43 : qMiOk mi_43 = true := by decide +kernel
theorem cw_44 : qGet mi_44.2.2.2.2.2.2.2.2.2.2.1 = some (qCw mi_44) := by rfl
set_option maxRecDepth 100000 in
theorem mo_44 : qMiOk mi_44 = true := by decide +kernel
theorem cw_45 : qGet mi_45.2.2.2.2.2.2.2.2.2.2.1 = some (qCw mi_45) := by rfl
set_option maxRecDepth 100000 in
theorem mo_45 : qMiOk mi_45 = true := by decide +kernel
theorem cw_46 : qGet mi_46.2.2.2.2.2.2.2.2.2.2.1 = some (qCw mi_46) := by rfl
set_option maxRecDepth 100000 in
theorem mo_46 : qMiOk mi_46 = true := by decide +kernel
theorem cw_47 : qGet mi_47.2.2.2.2.2.2.2.2.2.2.1 = some (qCw mi_47) := by rfl
set_option maxRecDepth 100000 in
theorem mo_47 : qMiOk mi_47 = true := by decide +kernel
theorem cw_48 : qGet mi_48.2.2.2.2.2.2.2.2.2.2.1 = some (qCw mi_48) := by rfl
set_option maxRecDepth 100000 in
theorem mo_48 : qMiOk mi_48 = true := by decide +kernel
theorem cw_49 : qGet mi_49.2.2.2.2.2.2.2.2.2.2.1 = some (qCw mi_49) := by rfl
set_option maxRecDepth 100000 in
theorem mo_49 : qMiOk mi_49 = true := by decide +kernel
theorem cw_50 : qGet mi_50.2.2.2.2.2.2.2.2.2.2.1 = some (qCw mi_50) := by rfl
set_option maxRecDepth 100000 in
theorem mo_50 : qMiOk mi_50 = true := by decide +kernel
theorem cw_51 : qGet mi_51.2.2.2.2.2.2.2.2.2.2.1 = some (qCw mi_51) := by rfl
set_option maxRecDepth 100000 in
theorem mo_51 : qMiOk mi_51 = true := by decide +kernel
theorem cw_52 : qGet mi_52.2.2.2.2.2.2.2.2.2.2.1 = some (qCw mi_52) := by rfl
set_option maxRecDepth 100000 in
theorem mo_52 : qMiOk mi_52 = true := by decide +kernel
theorem cw_53 : qGet mi_53.2.2.2.2.2.2.2.2.2.2.1 = some (qCw mi_53) := by rfl
set_option maxRecDepth 100000 in
theorem mo_53 : qMiOk mi_53 = true := by decide +kernel
theorem cw_54 : qGet mi_54.2.2.2.2.2.2.2.2.2.2.1 = some (qCw mi_54) := by rfl
set_option maxRecDepth 100000 in
theorem mo_54 : qMiOk mi_54 = true := by decide +kernel
theorem cw_55 : qGet mi_55.2.2.2.2.2.2.2.2.2.2.1 = some (qCw mi_55) := by rfl
set_option maxRecDepth 100000 in
theorem mo_55 : qMiOk mi_55 = true := by decide +kernel
theorem cw_56 : qGet mi_56.2.2.2.2.2.2.2.2.2.2.1 = some (qCw mi_56) := by rfl
set_option maxRecDepth 100000 in
theorem mo_56 : qMiOk mi_56 = true := by decide +kernel
theorem cw_57 : qGet mi_57.2.2.2.2.2.2.2.2.2.2.1 = some (qCw mi_57) := by rfl
set_option maxRecDepth 100000 in
theorem mo_57 : qMiOk mi_57 = true := by decide +kernel
theorem cw_58 : qGet mi_58.2.2.2.2.2.2.2.2.2.2.1 = some (qCw mi_58) := by rfl
set_option maxRecDepth 100000 in
theorem mo_58 : qMiOk mi_58 = true := by decide +kernel
theorem cw_59 : qGet mi_59.2.2.2.2.2.2.2.2.2.2.1 = some (qCw mi_59) := by rfl
set_option maxRecDepth 100000 in
theorem mo_59 : qMiOk mi_59 = true := by decide +kernel
theorem cw_60 : qGet mi_60.2.2.2.2.2.2.2.2.2.2.1 = some (qCw mi_60) := by rfl
set_option maxRecDepth 100000 in
theorem mo_60 : qMiOk mi_60 = true := by decide +kernel
theorem cw_61 : qGet mi_61.2.2.2.2.2.2.2.2.2.2.1 = some (qCw mi_61) := by rfl
set_option maxRecDepth 100000 in
theorem mo_61 : qMiOk mi_61 = true := by decide +kernel
theorem cw_62 : qGet mi_62.2.2.2.2.2.2.2.2.2.2.1 = some (qCw mi_62) := by rfl
set_option maxRecDepth 100000 in
theorem mo_62 : qMiOk mi_62 = true := by decide +kernel
theorem cw_63 : qGet mi_63.2.2.2.2.2.2.2.2.2.2.1 = some (qCw mi_63) := by rfl
set_option maxRecDepth 100000 in
theorem mo_63 : qMiOk mi_63 = true := by decide +kernel
theorem cw_64 : qGet mi_64.2.2.2.2.2.2.2.2.2.2.1 = some (qCw mi_64) := by rfl
set_option maxRecDepth 100000 in
theorem mo_64 : qMiOk mi_64 = true := by decide +kernel
theorem cw_65 : qGet mi_65.2.2.2.2.2.2.2.2.2.2.1 = some (qCw mi_65) := by rfl
set_option maxRecDepth 100000 in
theorem mo_65 : qMiOk mi_65 = true := by decide +kernel
theorem cw_66 : qGet mi_66.2.2.2.2.2.2.2.2.2.2.1 = some (qCw mi_66) := by rfl
set_option maxRecDepth 100000 in
theorem mo_66 : qMiOk mi_66 = true := by decide +kernel
theorem cw_67 : qGet mi_67.2.2.2.2.2.2.2.2.2.2.1 = some (qCw mi_67) := by rfl
set_option maxRecDepth 100000 in
theorem mo_67 : qMiOk mi_67 = true := by decide +kernel
theorem cw_68 : qGet mi_68.2.2.2.2.2.2.2.2.2.2.1 = some (qCw mi_68) := by rfl
set_option maxRecDepth 100000 in
theorem mo_68 : qMiOk mi_68 = true := by decide +kernel
theorem cw_69 : qGet mi_69.2.2.2.2.2.2.2.2.2.2.1 = some (qCw mi_69) := by rfl
set_option maxRecDepth 100000 in
theorem mo_69 : qMiOk mi_69 = true := by decide +kernel
theorem cw_70 : qGet mi_70.2.2.2.2.2.2.2.2.2.2.1 = some (qCw mi_70) := by rfl
set_option maxRecDepth 100000 in
theorem mo_70 : qMiOk mi_70 = true := by decide +kernel
theorem cw_71 : qGet mi_71.2.2.2.2.2.2.2.2.2.2.1 = some (qCw mi_71) := by rfl
set_option maxRecDepth 100000 in
theorem mo_71 : qMiOk mi_71 = true := by decide +kernel
theorem cw_72 : qGet mi_72.2.2.2.2.2.2.2.2.2.2.1 = some (qCw mi_72) := by rfl
set_option maxRecDepth 100000 in
theorem mo_72 : qMiOk mi_72 = true := by decide +kernel
theorem cw_73 : qGet mi_73.2.2.2.2.2.2.2.2.2.2.1 = some (qCw mi_73) := by rfl
set_option maxRecDepth 100000 in
theorem mo_73 : qMiOk mi_73 = true := by decide +kernel
theorem cw_74 : qGet mi_74.2.2.2.2.2.2.2.2.2.2.1 = some (qCw mi_74) := by rfl
set_option maxRecDepth 100000 in
theorem mo_74 : qMiOk mi_74 = true := by decide +kernel
theorem cw_75 : qGet mi_75.2.2.2.2.2.2.2.2.2.2.1 = some (qCw mi_75) := by rfl
set_option maxRecDepth 100000 in
theorem mo_75 : qMiOk mi_75 = true := by decide +kernel
theorem cw_76 : qGet mi_76.2.2.2.2.2.2.2.2.2.2.1 = some (qCw mi_76) := by rfl
set_option maxRecDepth 100000 in
theorem mo_76 : qMiOk mi_76 = true := by decide +kernel
theorem cw_77 : qGet mi_77.2.2.2.2.2.2.2.2.2.2.1 = some (qCw mi_77) := by rfl
set_option maxRecDepth 100000 in
theorem mo_77 : qMiOk mi_77 = true := by decide +kernel
theorem cw_78 : qGet mi_78.2.2.2.2.2.2.2.2.2.2.1 = some (qCw mi_78) := by rfl
set_option maxRecDepth 100000 in
theorem mo_78 : qMiOk mi_78 = true := by decide +kernel
theorem cw_79 : qGet mi_79.2.2.2.2.2.2.2.2.2.2.1 = some (qCw mi_79) := by rfl
set_option maxRecDepth 100000 in
theorem mo_79 : qMiOk mi_79 = true := by decide +kernel
theorem cw_80 : qGet mi_80.2.2.2.2.2.2.2.2.2.2.1 = some (qCw mi_80) := by rfl
set_option maxRecDepth 100000 in
theorem mo_80 : qMiOk mi_80 = true := by decide +kernel
theorem cw_81 : qGet mi_81.2.2.2.2.2.2.2.2.2.2.1 = some (qCw mi_81) := by rfl
set_option maxRecDepth 100000 in
theorem mo_81 : qMiOk mi_81 = true := by decide +kernel
theorem cw_82 : qGet mi_82.2.2.2.2.2.2.2.2.2.2.1 = some (qCw mi_82) := by rfl
set_option maxRecDepth 100000 in
theorem mo_82 : qMiOk mi_82 = true := by decide +kernel
theorem cw_83 : qGet mi_83.2.2.2.2.2.2.2.2.2.2.1 = some (qCw mi_83) := by rfl
set_option maxRecDepth 100000 in
theorem mo_83 : qMiOk mi_83 = true := by decide +kernel
theorem cw_84 : qGet mi_84.2.2.2.2.2.2.2.2.2.2.1 = some (qCw mi_84) := by rfl
set_option maxRecDepth 100000 in
theorem mo_84 : qMiOk mi_84 = true := by decide +kernel
theorem cw_85 : qGet mi_85.2.2.2.2.2.2.2.2.2.2.1 = some (qCw mi_85) := by rfl
set_option maxRecDepth 100000 in
theorem mo_85 : qMiOk mi_85 = true := by decide +kernel
theorem cw_86 : qGet mi_86.2.2.2.2.2.2.2.2.2.2.1 = some (qCw mi_86) := by rfl
set_option maxRecDepth 100000 in
theorem mo_86 : qMiOk mi_86 = true := by decide +kernel
theorem cw_87 : qGet mi_87.2.2.2.2.2.2.2.2.2.2.1 = some (qCw mi_87) := by rfl
set_option maxRecDepth 100000 in
theorem mo_87 : qMiOk mi_87 = true := by decide +kernel
theorem cw_88 : qGet mi_88.2.2.2.2.2.2.2.2.2.2.1 = some (qCw mi_88) := by rfl
set_option maxRecDepth 100000 in
theorem mo_88 : qMiOk mi_88 = true := by decide +kernel
theorem cw_89 : qGet mi_89.2.2.2.2.2.2.2.2.2.2.1 = some (qCw mi_89) := by rfl
set_option maxRecDepth 100000 in
theorem mo_89 : qMiOk mi_89 = true := by decide +kernel
theorem cw_90 : qGet mi_90.2.2.2.2.2.2.2.2.2.2.1 = some (qCw mi_90) := by rfl
set_option maxRecDepth 100000 in
theorem mo_90 : qMiOk mi_90 = true := by decide +kernel
theorem cw_91 : qGet mi_91.2.2.2.2.2.2.2.2.2.2.1 = some (qCw mi_91) := by rfl
set_option maxRecDepth 100000 in
theorem mo_91 : qMiOk mi_91 = true := by decide +kernel
theorem cw_92 : qGet mi_92.2.2.2.2.2.2.2.2.2.2.1 = some (qCw mi_92) := by rfl
set_option maxRecDepth 100000 in
theorem mo_92 : qMiOk mi_92 = true := by decide +kernel
theorem cw_93 : qGet mi_93.2.2.2.2.2.2.2.2.2.2.1 = some (qCw mi_93) := by rfl
set_option maxRecDepth 100000 in
theorem mo_93 : qMiOk mi_93 = true := by decide +kernel
theorem cw_94 : qGet mi_94.2.2.2.2.2.2.2.2.2.2.1 = some (qCw mi_94) := by rfl
set_option maxRecDepth 100000 in
theorem mo_94 : qMiOk mi_94 = true := by decide +kernel
theorem cw_95 : qGet mi_95.2.2.2.2.2.2.2.2.2.2.1 = some (qCw mi_95) := by rfl
set_option maxRecDepth 100000 in
theorem mo_95 : qMiOk mi_95 = true := by decide +kernel
theorem cw_96 : qGet mi_96.2.2.2.2.2.2.2.2.2.2.1 = some (qCw mi_96) := by rfl
set_option maxRecDepth 100000 in
theorem mo_96 : qMiOk mi_96 = true := by decide +kernel
theorem cw_97 : qGet mi_97.2.2.2.2.2.2.2.2.2.2.1 = some (qCw mi_97) := by rfl
set_option maxRecDepth 100000 in
theorem mo_97 : qMiOk mi_97 = true := by decide +kernel
theorem cw_98 : qGet mi_98.2.2.2.2.2.2.2.2.2.2.1 = some (qCw mi_98) := by rfl
set_option maxRecDepth 100000 in
theorem mo_98 : qMiOk mi_98 = true := by decide +kernel
theorem cw_99 : qGet mi_99.2.2.2.2.2.2.2.2.2.2.1 = some (qCw mi_99) := by rfl
set_option maxRecDepth 100000 in
theorem mo_99 : qMiOk mi_99 = true := by decide +kernel
theorem cw_100 : qGet mi_100.2.2.2.2.2.2.2.2.2.2.1 = some (qCw mi_100) := by rfl
set_option maxRecDepth 100000 in
theorem mo_100 : qMiOk mi_100 = true := by decide +kernel
theorem cw_101 : qGet mi_101.2.2.2.2.2.2.2.2.2.2.1 = some (qCw mi_101) := by rfl
set_option maxRecDepth 100000 in
theorem mo_101 : qMiOk mi_101 = true := by decide +kernel
theorem cw_102 : qGet mi_102.2.2.2.2.2.2.2.2.2.2.1 = some (qCw mi_102) := by rfl
set_option maxRecDepth 100000 in
theorem mo_102 : qMiOk mi_102 = true := by decide +kernel
theorem cw_103 : qGet mi_103.2.2.2.2.2.2.2.2.2.2.1 = some (qCw mi_103) := by rfl
set_option maxRecDepth 100000 in
theorem mo_103 : qMiOk mi_103 = true := by decide +kernel
theorem cw_104 : qGet mi_104.2.2.2.2.2.2.2.2.2.2.1 = some (qCw mi_104) := by rfl
set_option maxRecDepth 100000 in
theorem mo_104 : qMiOk mi_104 = true := by decide +kernel
theorem cw_105 : qGet mi_105.2.2.2.2.2.2.2.2.2.2.1 = some (qCw mi_105) := by rfl
set_option maxRecDepth 100000 in
theorem mo_105 : qMiOk mi_105 = true := by decide +kernel
theorem cw_106 : qGet mi_106.2.2.2.2.2.2.2.2.2.2.1 = some (qCw mi_106) := by rfl
set_option maxRecDepth 100000 in
theorem mo_106 : qMiOk mi_106 = true := by decide +kernel
theorem cw_107 : qGet mi_107.2.2.2.2.2.2.2.2.2.2.1 = some (qCw mi_107) := by rfl
set_option maxRecDepth 100000 in
theorem mo_107 : qMiOk mi_107 = true := by decide +kernel
theorem cw_108 : qGet mi_108.2.2.2.2.2.2.2.2.2.2.1 = some (qCw mi_108) := by rfl
set_option maxRecDepth 100000 in
theorem mo_108 : qMiOk mi_108 = true := by decide +kernel
theorem cw_109 : qGet mi_109.2.2.2.2.2.2.2.2.2.2.1 = some (qCw mi_109) := by rfl
set_option maxRecDepth 100000 in
theorem mo_109 : qMiOk mi_109 = true := by decide +kernel
theorem cw_110 : qGet mi_110.2.2.2.2.2.2.2.2.2.2.1 = some (qCw mi_110) := by rfl
set_option maxRecDepth 100000 in
theorem mo_110 : qMiOk mi_110 = true := by decide +kernel
theorem cw_111 : qGet mi_111.2.2.2.2.2.2.2.2.2.2.1 = some (qCw mi_111) := by rfl
set_option maxRecDepth 100000 in
theorem mo_111 : qMiOk mi_111 = true := by decide +kernel
theorem cw_112 : qGet mi_112.2.2.2.2.2.2.2.2.2.2.1 = some (qCw mi_112) := by rfl
set_option maxRecDepth 100000 in
theorem mo_112 : qMiOk mi_112 = true := by decide +kernel
theorem cw_113 : qGet mi_113.2.2.2.2.2.2.2.2.2.2.1 = some (qCw mi_113) := by rfl
set_option maxRecDepth 100000 in
theorem mo_113 : qMiOk mi_113 = true := by decide +kernel
theorem cw_114 : qGet mi_114.2.2.2.2.2.2.2.2.2.2.1 = some (qCw mi_114) := by rfl
set_option maxRecDepth 100000 in
theorem mo_114 : qMiOk mi_114 = true := by decide +kernel
theorem cw_115 : qGet mi_115.2.2.2.2.2.2.2.2.2.2.1 = some (qCw mi_115) := by rfl
set_option maxRecDepth 100000 in
theorem mo_115 : qMiOk mi_115 = true := by decide +kernel
theorem cw_116 : qGet mi_116.2.2.2.2.2.2.2.2.2.2.1 = some (qCw mi_116) := by rfl
set_option maxRecDepth 100000 in
theorem mo_116 : qMiOk mi_116 = true := by decide +kernel
theorem cw_117 : qGet mi_117.2.2.2.2.2.2.2.2.2.2.1 = some (qCw mi_117) := by rfl
set_option maxRecDepth 100000 in
theorem mo_117 : qMiOk mi_117 = true := by decide +kernel
theorem cw_118 : qGet mi_118.2.2.2.2.2.2.2.2.2.2.1 = some (qCw mi_118) := by rfl
set_option maxRecDepth 100000 in
theorem mo_118 : qMiOk mi_118 = true := by decide +kernel
theorem cw_119 : qGet mi_119.2.2.2.2.2.2.2.2.2.2.1 = some (qCw mi_119) := by rfl
set_option maxRecDepth 100000 in
theorem mo_119 : qMiOk mi_119 = true := by decide +kernel
theorem cw_120 : qGet mi_120.2.2.2.2.2.2.2.2.2.2.1 = some (qCw mi_120) := by rfl
set_option maxRecDepth 100000 in
theorem mo_120 : qMiOk mi_120 = true := by decide +kernel
theorem cw_121 : qGet mi_121.2.2.2.2.2.2.2.2.2.2.1 = some (qCw mi_121) := by rfl
set_option maxRecDepth 100000 in
theorem mo_121 : qMiOk mi_121 = true := by decide +kernel
theorem cw_122 : qGet mi_122.2.2.2.2.2.2.2.2.2.2.1 = some (qCw mi_122) := by rfl
set_option maxRecDepth 100000 in
theorem mo_122 : qMiOk mi_122 = true := by decide +kernel
theorem cw_123 : qGet mi_123.2.2.2.2.2.2.2.2.2.2.1 = some (qCw mi_123) := by rfl
set_option maxRecDepth 100000 in
theorem mo_123 : qMiOk mi_123 = true := by decide +kernel
theorem cw_124 : qGet mi_124.2.2.2.2.2.2.2.2.2.2.1 = some (qCw mi_124) := by rfl
set_option maxRecDepth 100000 in
theorem mo_124 : qMiOk mi_124 = true := by decide +kernel
theorem cw_125 : qGet mi_125.2.2.2.2.2.2.2.2.2.2.1 = some (qCw mi_125) := by rfl
set_option maxRecDepth 100000 in
theorem mo_125 : qMiOk mi_125 = true := by decide +kernel
theorem cw_126 : qGet mi_126.2.2.2.2.2.2.2.2.2.2.1 = some (qCw mi_126) := by rfl
set_option maxRecDepth 100000 in
theorem mo_126 : qMiOk mi_126 = true := by decide +kernel
theorem cw_127 : qGet mi_127.2.2.2.2.2.2.2.2.2.2.1 = some (qCw mi_127) := by rfl
set_option maxRecDepth 100000 in
theorem mo_127 : qMiOk mi_127 = true := by decide +kernel
theorem cw_128 : qGet mi_128.2.2.2.2.2.2.2.2.2.2.1 = some (qCw mi_128) := by rfl
set_option maxRecDepth 100000 in
theorem mo_128 : qMiOk mi_128 = true := by decide +kernel
theorem cw_129 : qGet mi_129.2.2.2.2.2.2.2.2.2.2.1 = some (qCw mi_129) := by rfl
set_option maxRecDepth 100000 in
theorem mo_129 : qMiOk mi_129 = true := by decide +kernel
theorem cw_130 : qGet mi_130.2.2.2.2.2.2.2.2.2.2.1 = some (qCw mi_130) := by rfl
set_option maxRecDepth 100000 in
theorem mo_130 : qMiOk mi_130 = true := by decide +kernel
theorem cw_131 : qGet mi_131.2.2.2.2.2.2.2.2.2.2.1 = some (qCw mi_131) := by rfl
set_option maxRecDepth 100000 in
theorem mo_131 : qMiOk mi_131 = true := by decide +kernel
theorem cw_132 : qGet mi_132.2.2.2.2.2.2.2.2.2.2.1 = some (qCw mi_132) := by rfl
set_option maxRecDepth 100000 in
theorem mo_132 : qMiOk mi_132 = true := by decide +kernel
theorem cw_133 : qGet mi_133.2.2.2.2.2.2.2.2.2.2.1 = some (qCw mi_133) := by rfl
set_option maxRecDepth 100000 in
theorem mo_133 : qMiOk mi_133 = true := by decide +kernel
theorem cw_134 : qGet mi_134.2.2.2.2.2.2.2.2.2.2.1 = some (qCw mi_134) := by rfl
set_option maxRecDepth 100000 in
theorem mo_134 : qMiOk mi_134 = true := by decide +kernel
theorem cw_135 : qGet mi_135.2.2.2.2.2.2.2.2.2.2.1 = some (qCw mi_135) := by rfl
set_option maxRecDepth 100000 in
theorem mo_135 : qMiOk mi_135 = true := by decide +kernel
theorem cw_136 : qGet mi_136.2.2.2.2.2.2.2.2.2.2.1 = some (qCw mi_136) := by rfl
set_option maxRecDepth 100000 in
theorem mo_136 : qMiOk mi_136 = true := by decide +kernel
theorem cw_137 : qGet mi_137.2.2.2.2.2.2.2.2.2.2.1 = some (qCw mi_137) := by rfl
set_option maxRecDepth 100000 in
theorem mo_137 : qMiOk mi_137 = true := by decide +kernel
theorem cw_138 : qGet mi_138.2.2.2.2.2.2.2.2.2.2.1 = some (qCw mi_138) := by rfl
set_option maxRecDepth 100000 in
theorem mo_138 : qMiOk mi_138 = true := by decide +kernel
theorem cw_139 : qGet mi_139.2.2.2.2.2.2.2.2.2.2.1 = some (qCw mi_139) := by rfl
set_option maxRecDepth 100000 in
theorem mo_139 : qMiOk mi_139 = true := by decide +kernel
theorem cw_140 : qGet mi_140.2.2.2.2.2.2.2.2.2.2.1 = some (qCw mi_140) := by rfl
set_option maxRecDepth 100000 in
theorem mo_140 : qMiOk mi_140 = true := by decide +kernel
theorem cw_141 : qGet mi_141.2.2.2.2.2.2.2.2.2.2.1 = some (qCw mi_141) := by rfl
set_option maxRecDepth 100000 in
theorem mo_141 : qMiOk mi_141 = true := by decide +kernel
theorem cw_142 : qGet mi_142.2.2.2.2.2.2.2.2.2.2.1 = some (qCw mi_142) := by rfl
set_option maxRecDepth 100000 in
theorem mo_142 : qMiOk mi_142 = true := by decide +kernel
theorem cw_143 : qGet mi_143.2.2.2.2.2.2.2.2.2.2.1 = some (qCw mi_143) := by rfl
set_option maxRecDepth 100000 in
theorem mo_143 : qMiOk mi_143 = true := by decide +kernel
theorem cw_144 : qGet mi_144.2.2.2.2.2.2.2.2.2.2.1 = some (qCw mi_144) := by rfl
set_option maxRecDepth 100000 in
theorem mo_144 : qMiOk mi_144 = true := by decide +kernel
theorem cw_145 : qGet mi_145.2.2.2.2.2.2.2.2.2.2.1 = some (qCw mi_145) := by rfl
set_option maxRecDepth 100000 in
theorem mo_145 : qMiOk mi_145 = true := by decide +kernel
theorem cw_146 : qGet mi_146.2.2.2.2.2.2.2.2.2.2.1 = some (qCw mi_146) := by rfl
set_option maxRecDepth 100000 in
theorem mo_146 : qMiOk mi_146 = true := by decide +kernel
theorem cw_147 : qGet mi_147.2.2.2.2.2.2.2.2.2.2.1 = some (qCw mi_147) := by rfl
set_option maxRecDepth 100000 in
theorem mo_147 : qMiOk mi_147 = true := by decide +kernel
theorem cw_148 : qGet mi_148.2.2.2.2.2.2.2.2.2.2.1 = some (qCw mi_148) := by rfl
set_option maxRecDepth 100000 in
theorem mo_148 : qMiOk mi_148 = true := by decide +kernel
theorem cw_149 : qGet mi_149.2.2.2.2.2.2.2.2.2.2.1 = some (qCw mi_149) := by rfl
set_option maxRecDepth 100000 in
theorem mo_149 : qMiOk mi_149 = true := by decide +kernel
theorem cw_150 : qGet mi_150.2.2.2.2.2.2.2.2.2.2.1 = some (qCw mi_150) := by rfl
set_option maxRecDepth 100000 in
theorem mo_150 : qMiOk mi_150 = true := by decide +kernel
theorem cw_151 : qGet mi_151.2.2.2.2.2.2.2.2.2.2.1 = some (qCw mi_151) := by rfl
set_option maxRecDepth 100000 in
theorem mo_151 : qMiOk mi_151 = true := by decide +kernel
theorem cw_152 : qGet mi_152.2.2.2.2.2.2.2.2.2.2.1 = some (qCw mi_152) := by rfl
set_option maxRecDepth 100000 in
theorem mo_152 : qMiOk mi_152 = true := by decide +kernel
theorem cw_153 : qGet mi_153.2.2.2.2.2.2.2.2.2.2.1 = some (qCw mi_153) := by rfl
set_option maxRecDepth 100000 in
theorem mo_153 : qMiOk mi_153 = true := by decide +kernel
theorem cw_154 : qGet mi_154.2.2.2.2.2.2.2.2.2.2.1 = some (qCw mi_154) := by rfl
set_option maxRecDepth 100000 in
theorem mo_154 : qMiOk mi_154 = true := by decide +kernel
theorem cw_155 : qGet mi_155.2.2.2.2.2.2.2.2.2.2.1 = some (qCw mi_155) := by rfl
set_option maxRecDepth 100000 in
theorem mo_155 : qMiOk mi_155 = true := by decide +kernel
theorem cw_156 : qGet mi_156.2.2.2.2.2.2.2.2.2.2.1 = some (qCw mi_156) := by rfl
set_option maxRecDepth 100000 in
theorem mo_156 : qMiOk mi_156 = true := by decide +kernel
theorem cw_157 : qGet mi_157.2.2.2.2.2.2.2.2.2.2.1 = some (qCw mi_157) := by rfl
set_option maxRecDepth 100000 in
theorem mo_157 : qMiOk mi_157 = true := by decide +kernel
theorem cw_158 : qGet mi_158.2.2.2.2.2.2.2.2.2.2.1 = some (qCw mi_158) := by rfl
set_option maxRecDepth 100000 in
theorem mo_158 : qMiOk mi_158 = true := by decide +kernel
theorem cw_159 : qGet mi_159.2.2.2.2.2.2.2.2.2.2.1 = some (qCw mi_159) := by rfl
set_option maxRecDepth 100000 in
theorem mo_159 : qMiOk mi_159 = true := by decide +kernel
theorem cw_160 : qGet mi_160.2.2.2.2.2.2.2.2.2.2.1 = some (qCw mi_160) := by rfl
set_option maxRecDepth 100000 in
theorem mo_160 : qMiOk mi_160 = true := by decide +kernel
theorem cw_161 : qGet mi_161.2.2.2.2.2.2.2.2.2.2.1 = some (qCw mi_161) := by rfl
set_option maxRecDepth 100000 in
theorem mo_161 : qMiOk mi_161 = true := by decide +kernel
theorem cw_162 : qGet mi_162.2.2.2.2.2.2.2.2.2.2.1 = some (qCw mi_162) := by rfl
set_option maxRecDepth 100000 in
theorem mo_162 : qMiOk mi_162 = true := by decide +kernel
theorem cw_163 : qGet mi_163.2.2.2.2.2.2.2.2.2.2.1 = some (qCw mi_163) := by rfl
set_option maxRecDepth 100000 in
theorem mo_163 : qMiOk mi_163 = true := by decide +kernel
theorem cw_164 : qGet mi_164.2.2.2.2.2.2.2.2.2.2.1 = some (qCw mi_164) := by rfl
set_option maxRecDepth 100000 in
theorem mo_164 : qMiOk mi_164 = true := by decide +kernel
theorem cw_165 : qGet mi_165.2.2.2.2.2.2.2.2.2.2.1 = some (qCw mi_165) := by rfl
set_option maxRecDepth 100000 in
theorem mo_165 : qMiOk mi_165 = true := by decide +kernel
theorem cw_166 : qGet mi_166.2.2.2.2.2.2.2.2.2.2.1 = some (qCw mi_166) := by rfl
set_option maxRecDepth 100000 in
theorem mo_166 : qMiOk mi_166 = true := by decide +kernel
theorem cw_167 : qGet mi_167.2.2.2.2.2.2.2.2.2.2.1 = some (qCw mi_167) := by rfl
set_option maxRecDepth 100000 in
theorem mo_167 : qMiOk mi_167 = true := by decide +kernel
theorem cw_168 : qGet mi_168.2.2.2.2.2.2.2.2.2.2.1 = some (qCw mi_168) := by rfl
set_option maxRecDepth 100000 in
theorem mo_168 : qMiOk mi_168 = true := by decide +kernel
theorem cw_169 : qGet mi_169.2.2.2.2.2.2.2.2.2.2.1 = some (qCw mi_169) := by rfl
set_option maxRecDepth 100000 in
theorem mo_169 : qMiOk mi_169 = true := by decide +kernel
theorem cw_170 : qGet mi_170.2.2.2.2.2.2.2.2.2.2.1 = some (qCw mi_170) := by rfl
set_option maxRecDepth 100000 in
theorem mo_170 : qMiOk mi_170 = true := by decide +kernel
theorem cw_171 : qGet mi_171.2.2.2.2.2.2.2.2.2.2.1 = some (qCw mi_171) := by rfl
set_option maxRecDepth 100000 in
theorem mo_171 : qMiOk mi_171 = true := by decide +kernel
theorem cw_172 : qGet mi_172.2.2.2.2.2.2.2.2.2.2.1 = some (qCw mi_172) := by rfl
set_option maxRecDepth 100000 in
theorem mo_172 : qMiOk mi_172 = true := by decide +kernel
theorem cw_173 : qGet mi_173.2.2.2.2.2.2.2.2.2.2.1 = some (qCw mi_173) := by rfl
set_option maxRecDepth 100000 in
theorem mo_173 : qMiOk mi_173 = true := by decide +kernel
theorem cw_174 : qGet mi_174.2.2.2.2.2.2.2.2.2.2.1 = some (qCw mi_174) := by rfl
set_option maxRecDepth 100000 in
theorem mo_174 : qMiOk mi_174 = true := by decide +kernel
theorem cw_175 : qGet mi_175.2.2.2.2.2.2.2.2.2.2.1 = some (qCw mi_175) := by rfl
set_option maxRecDepth 100000 in
theorem mo_175 : qMiOk mi_175 = true := by decide +kernel
theorem cw_176 : qGet mi_176.2.2.2.2.2.2.2.2.2.2.1 = some (qCw mi_176) := by rfl
set_option maxRecDepth 100000 in
theorem mo_176 : qMiOk mi_176 = true := by decide +kernel
theorem cw_177 : qGet mi_177.2.2.2.2.2.2.2.2.2.2.1 = some (qCw mi_177) := by rfl
set_option maxRecDepth 100000 in
theorem mo_177 : qMiOk mi_177 = true := by decide +kernel
theorem cw_178 : qGet mi_178.2.2.2.2.2.2.2.2.2.2.1 = some (qCw mi_178) := by rfl
set_option maxRecDepth 100000 in
theorem mo_178 : qMiOk mi_178 = true := by decide +kernel
theorem cw_179 : qGet mi_179.2.2.2.2.2.2.2.2.2.2.1 = some (qCw mi_179) := by rfl
set_option maxRecDepth 100000 in
theorem mo_179 : qMiOk mi_179 = true := by decide +kernel
theorem cw_180 : qGet mi_180.2.2.2.2.2.2.2.2.2.2.1 = some (qCw mi_180) := by rfl
set_option maxRecDepth 100000 in
theorem mo_180 : qMiOk mi_180 = true := by decide +kernel
theorem cw_181 : qGet mi_181.2.2.2.2.2.2.2.2.2.2.1 = some (qCw mi_181) := by rfl
set_option maxRecDepth 100000 in
theorem mo_181 : qMiOk mi_181 = true := by decide +kernel
theorem cw_182 : qGet mi_182.2.2.2.2.2.2.2.2.2.2.1 = some (qCw mi_182) := by rfl
set_option maxRecDepth 100000 in
theorem mo_182 : qMiOk mi_182 = true := by decide +kernel
theorem cw_183 : qGet mi_183.2.2.2.2.2.2.2.2.2.2.1 = some (qCw mi_183) := by rfl
set_option maxRecDepth 100000 in
theorem mo_183 : qMiOk mi_183 = true := by decide +kernel
theorem cw_184 : qGet mi_184.2.2.2.2.2.2.2.2.2.2.1 = some (qCw mi_184) := by rfl
set_option maxRecDepth 100000 in
theorem mo_184 : qMiOk mi_184 = true := by decide +kernel
theorem cw_185 : qGet mi_185.2.2.2.2.2.2.2.2.2.2.1 = some (qCw mi_185) := by rfl
set_option maxRecDepth 100000 in
theorem mo_185 : qMiOk mi_185 = true := by decide +kernel
theorem cw_186 : qGet mi_186.2.2.2.2.2.2.2.2.2.2.1 = some (qCw mi_186) := by rfl
set_option maxRecDepth 100000 in
theorem mo_186 : qMiOk mi_186 = true := by decide +kernel
theorem cw_187 : qGet mi_187.2.2.2.2.2.2.2.2.2.2.1 = some (qCw mi_187) := by rfl
set_option maxRecDepth 100000 in
theorem mo_187 : qMiOk mi_187 = true := by decide +kernel
theorem cw_188 : qGet mi_188.2.2.2.2.2.2.2.2.2.2.1 = some (qCw mi_188) := by rfl
set_option maxRecDepth 100000 in
theorem mo_188 : qMiOk mi_188 = true := by decide +kernel
theorem cw_189 : qGet mi_189.2.2.2.2.2.2.2.2.2.2.1 = some (qCw mi_189) := by rfl
set_option maxRecDepth 100000 in
theorem mo_189 : qMiOk mi_189 = true := by decide +kernel
theorem cw_190 : qGet mi_190.2.2.2.2.2.2.2.2.2.2.1 = some (qCw mi_190) := by rfl
set_option maxRecDepth 100000 in
theorem mo_190 : qMiOk mi_190 = true := by decide +kernel
theorem cw_191 : qGet mi_191.2.2.2.2.2.2.2.2.2.2.1 = some (qCw mi_191) := by rfl
set_option maxRecDepth 100000 in
theorem mo_191 : qMiOk mi_191 = true := by decide +kernel
theorem cw_192 : qGet mi_192.2.2.2.2.2.2.2.2.2.2.1 = some (qCw mi_192) := by rfl
set_option maxRecDepth 100000 in
theorem mo_192 : qMiOk mi_192 = true := by decide +kernel
theorem cw_193 : qGet mi_193.2.2.2.2.2.2.2.2.2.2.1 = some (qCw mi_193) := by rfl
set_option maxRecDepth 100000 in
theorem mo_193 : qMiOk mi_193 = true := by decide +kernel
theorem cw_194 : qGet mi_194.2.2.2.2.2.2.2.2.2.2.1 = some (qCw mi_194) := by rfl
set_option maxRecDepth 100000 in
theorem mo_194 : qMiOk mi_194 = true := by decide +kernel
theorem cw_195 : qGet mi_195.2.2.2.2.2.2.2.2.2.2.1 = some (qCw mi_195) := by rfl
set_option maxRecDepth 100000 in
theorem mo_195 : qMiOk mi_195 = true := by decide +kernel
theorem cw_196 : qGet mi_196.2.2.2.2.2.2.2.2.2.2.1 = some (qCw mi_196) := by rfl
set_option maxRecDepth 100000 in
theorem mo_196 : qMiOk mi_196 = true := by decide +kernel
theorem cw_197 : qGet mi_197.2.2.2.2.2.2.2.2.2.2.1 = some (qCw mi_197) := by rfl
set_option maxRecDepth 100000 in
theorem mo_197 : qMiOk mi_197 = true := by decide +kernel
theorem cw_198 : qGet mi_198.2.2.2.2.2.2.2.2.2.2.1 = some (qCw mi_198) := by rfl
set_option maxRecDepth 100000 in
theorem mo_198 : qMiOk mi_198 = true := by decide +kernel
theorem cw_199 : qGet mi_199.2.2.2.2.2.2.2.2.2.2.1 = some (qCw mi_199) := by rfl
set_option maxRecDepth 100000 in
theorem mo_199 : qMiOk mi_199 = true := by decide +kernel
theorem cw_200 : qGet mi_200.2.2.2.2.2.2.2.2.2.2.1 = some (qCw mi_200) := by rfl
set_option maxRecDepth 100000 in
theorem mo_200 : qMiOk mi_200 = true := by decide +kernel
theorem cw_201 : qGet mi_201.2.2.2.2.2.2.2.2.2.2.1 = some (qCw mi_201) := by rfl
set_option maxRecDepth 100000 in
theorem mo_201 : qMiOk mi_201 = true := by decide +kernel
theorem cw_202 : qGet mi_202.2.2.2.2.2.2.2.2.2.2.1 = some (qCw mi_202) := by rfl
set_option maxRecDepth 100000 in
theorem mo_202 : qMiOk mi_202 = true := by decide +kernel
theorem cw_203 : qGet mi_203.2.2.2.2.2.2.2.2.2.2.1 = some (qCw mi_203) := by rfl
set_option maxRecDepth 100000 in
theorem mo_203 : qMiOk mi_203 = true := by decide +kernel
theorem cw_204 : qGet mi_204.2.2.2.2.2.2.2.2.2.2.1 = some (qCw mi_204) := by rfl
set_option maxRecDepth 100000 in
theorem mo_204 : qMiOk mi_204 = true := by decide +kernel
theorem cw_205 : qGet mi_205.2.2.2.2.2.2.2.2.2.2.1 = some (qCw mi_205) := by rfl
set_option maxRecDepth 100000 in
theorem mo_205 : qMiOk mi_205 = true := by decide +kernel
theorem cw_206 : qGet mi_206.2.2.2.2.2.2.2.2.2.2.1 = some (qCw mi_206) := by rfl
set_option maxRecDepth 100000 in
theorem mo_206 : qMiOk mi_206 = true := by decide +kernel
theorem cw_207 : qGet mi_207.2.2.2.2.2.2.2.2.2.2.1 = some (qCw mi_207) := by rfl
set_option maxRecDepth 100000 in
theorem mo_207 : qMiOk mi_207 = true := by decide +kernel
theorem cw_208 : qGet mi_208.2.2.2.2.2.2.2.2.2.2.1 = some (qCw mi_208) := by rfl
set_option maxRecDepth 100000 in
theorem mo_208 : qMiOk mi_208 = true := by decide +kernel
theorem cw_209 : qGet mi_209.2.2.2.2.2.2.2.2.2.2.1 = some (qCw mi_209) := by rfl
set_option maxRecDepth 100000 in
theorem mo_209 : qMiOk mi_209 = true := by decide +kernel
theorem cw_210 : qGet mi_210.2.2.2.2.2.2.2.2.2.2.1 = some (qCw mi_210) := by rfl
set_option maxRecDepth 100000 in
theorem mo_210 : qMiOk mi_210 = true := by decide +kernel
theorem cw_211 : qGet mi_211.2.2.2.2.2.2.2.2.2.2.1 = some (qCw mi_211) := by rfl
set_option maxRecDepth 100000 in
theorem mo_211 : qMiOk mi_211 = true := by decide +kernel
theorem cw_212 : qGet mi_212.2.2.2.2.2.2.2.2.2.2.1 = some (qCw mi_212) := by rfl
set_option maxRecDepth 100000 in
theorem mo_212 : qMiOk mi_212 = true := by decide +kernel
theorem cw_213 : qGet mi_213.2.2.2.2.2.2.2.2.2.2.1 = some (qCw mi_213) := by rfl
set_option maxRecDepth 100000 in
theorem mo_213 : qMiOk mi_213 = true := by decide +kernel
theorem cw_214 : qGet mi_214.2.2.2.2.2.2.2.2.2.2.1 = some (qCw mi_214) := by rfl
set_option maxRecDepth 100000 in
theorem mo_214 : qMiOk mi_214 = true := by decide +kernel
theorem cw_215 : qGet mi_215.2.2.2.2.2.2.2.2.2.2.1 = some (qCw mi_215) := by rfl
set_option maxRecDepth 100000 in
theorem mo_215 : qMiOk mi_215 = true := by decide +kernel
theorem cw_216 : qGet mi_216.2.2.2.2.2.2.2.2.2.2.1 = some (qCw mi_216) := by rfl
set_option maxRecDepth 100000 in
theorem mo_216 : qMiOk mi_216 = true := by decide +kernel
theorem cw_217 : qGet mi_217.2.2.2.2.2.2.2.2.2.2.1 = some (qCw mi_217) := by rfl
set_option maxRecDepth 100000 in
theorem mo_217 : qMiOk mi_217 = true := by decide +kernel
theorem cw_218 : qGet mi_218.2.2.2.2.2.2.2.2.2.2.1 = some (qCw mi_218) := by rfl
set_option maxRecDepth 100000 in
theorem mo_218 : qMiOk mi_218 = true := by decide +kernel
theorem cw_219 : qGet mi_219.2.2.2.2.2.2.2.2.2.2.1 = some (qCw mi_219) := by rfl
set_option maxRecDepth 100000 in
theorem mo_219 : qMiOk mi_219 = true := by decide +kernel
theorem cw_220 : qGet mi_220.2.2.2.2.2.2.2.2.2.2.1 = some (qCw mi_220) := by rfl
set_option maxRecDepth 100000 in
theorem mo_220 : qMiOk mi_220 = true := by decide +kernel
theorem cw_221 : qGet mi_221.2.2.2.2.2.2.2.2.2.2.1 = some (qCw mi_221) := by rfl
set_option maxRecDepth 100000 in
theorem mo_221 : qMiOk mi_221 = true := by decide +kernel
theorem cw_222 : qGet mi_222.2.2.2.2.2.2.2.2.2.2.1 = some (qCw mi_222) := by rfl
set_option maxRecDepth 100000 in
theorem mo_222 : qMiOk mi_222 = true := by decide +kernel
theorem cw_223 : qGet mi_223.2.2.2.2.2.2.2.2.2.2.1 = some (qCw mi_223) := by rfl
set_option maxRecDepth 100000 in
theorem mo_223 : qMiOk mi_223 = true := by decide +kernel
theorem cw_224 : qGet mi_224.2.2.2.2.2.2.2.2.2.2.1 = some (qCw mi_224) := by rfl
set_option maxRecDepth 100000 in
theorem mo_224 : qMiOk mi_224 = true := by decide +kernel
theorem cw_225 : qGet mi_225.2.2.2.2.2.2.2.2.2.2.1 = some (qCw mi_225) := by rfl
set_option maxRecDepth 100000 in
theorem mo_225 : qMiOk mi_225 = true := by decide +kernel
theorem cw_226 : qGet mi_226.2.2.2.2.2.2.2.2.2.2.1 = some (qCw mi_226) := by rfl
set_option maxRecDepth 100000 in
theorem mo_226 : qMiOk mi_226 = true := by decide +kernel
theorem cw_227 : qGet mi_227.2.2.2.2.2.2.2.2.2.2.1 = some (qCw mi_227) := by rfl
set_option maxRecDepth 100000 in
theorem mo_227 : qMiOk mi_227 = true := by decide +kernel
theorem cw_228 : qGet mi_228.2.2.2.2.2.2.2.2.2.2.1 = some (qCw mi_228) := by rfl
set_option maxRecDepth 100000 in
theorem mo_228 : qMiOk mi_228 = true := by decide +kernel
theorem cw_229 : qGet mi_229.2.2.2.2.2.2.2.2.2.2.1 = some (qCw mi_229) := by rfl
set_option maxRecDepth 100000 in
theorem mo_229 : qMiOk mi_229 = true := by decide +kernel
theorem cw_230 : qGet mi_230.2.2.2.2.2.2.2.2.2.2.1 = some (qCw mi_230) := by rfl
set_option maxRecDepth 100000 in
theorem mo_230 : qMiOk mi_230 = true := by decide +kernel
theorem cw_231 : qGet mi_231.2.2.2.2.2.2.2.2.2.2.1 = some (qCw mi_231) := by rfl
set_option maxRecDepth 100000 in
theorem mo_231 : qMiOk mi_231 = true := by decide +kernel
theorem cw_232 : qGet mi_232.2.2.2.2.2.2.2.2.2.2.1 = some (qCw mi_232) := by rfl
set_option maxRecDepth 100000 in
theorem mo_232 : qMiOk mi_232 = true := by decide +kernel
theorem cw_233 : qGet mi_233.2.2.2.2.2.2.2.2.2.2.1 = some (qCw mi_233) := by rfl
set_option maxRecDepth 100000 in
theorem mo_233 : qMiOk mi_233 = true := by decide +kernel
theorem cw_234 : qGet mi_234.2.2.2.2.2.2.2.2.2.2.1 = some (qCw mi_234) := by rfl
set_option maxRecDepth 100000 in
theorem mo_234 : qMiOk mi_234 = true := by decide +kernel
theorem cw_235 : qGet mi_235.2.2.2.2.2.2.2.2.2.2.1 = some (qCw mi_235) := by rfl
set_option maxRecDepth 100000 in
theorem mo_235 : qMiOk mi_235 = true := by decide +kernel
theorem cw_236 : qGet mi_236.2.2.2.2.2.2.2.2.2.2.1 = some (qCw mi_236) := by rfl
set_option maxRecDepth 100000 in
theorem mo_236 : qMiOk mi_236 = true := by decide +kernel
theorem cw_237 : qGet mi_237.2.2.2.2.2.2.2.2.2.2.1 = some (qCw mi_237) := by rfl
set_option maxRecDepth 100000 in
theorem mo_237 : qMiOk mi_237 = true := by decide +kernel
theorem cw_238 : qGet mi_238.2.2.2.2.2.2.2.2.2.2.1 = some (qCw mi_238) := by rfl
set_option maxRecDepth 100000 in
theorem mo_238 : qMiOk mi_238 = true := by decide +kernel
theorem cw_239 : qGet mi_239.2.2.2.2.2.2.2.2.2.2.1 = some (qCw mi_239) := by rfl
set_option maxRecDepth 100000 in
theorem mo_239 : qMiOk mi_239 = true := by decide +kernel
theorem cw_240 : qGet mi_240.2.2.2.2.2.2.2.2.2.2.1 = some (qCw mi_240) := by rfl
set_option maxRecDepth 100000 in
theorem mo_240 : qMiOk mi_240 = true := by decide +kernel
theorem cw_241 : qGet mi_241.2.2.2.2.2.2.2.2.2.2.1 = some (qCw mi_241) := by rfl
set_option maxRecDepth 100000 in
theorem mo_241 : qMiOk mi_241 = true := by decide +kernel
theorem cw_242 : qGet mi_242.2.2.2.2.2.2.2.2.2.2.1 = some (qCw mi_242) := by rfl
set_option maxRecDepth 100000 in
theorem mo_242 : qMiOk mi_242 = true := by decide +kernel
theorem cw_243 : qGet mi_243.2.2.2.2.2.2.2.2.2.2.1 = some (qCw mi_243) := by rfl
set_option maxRecDepth 100000 in
theorem mo_243 : qMiOk mi_243 = true := by decide +kernel
theorem cw_244 : qGet mi_244.2.2.2.2.2.2.2.2.2.2.1 = some (qCw mi_244) := by rfl
set_option maxRecDepth 100000 in
theorem mo_244 : qMiOk mi_244 = true := by decide +kernel
theorem cw_245 : qGet mi_245.2.2.2.2.2.2.2.2.2.2.1 = some (qCw mi_245) := by rfl
set_option maxRecDepth 100000 in
theorem mo_245 : qMiOk mi_245 = true := by decide +kernel
theorem cw_246 : qGet mi_246.2.2.2.2.2.2.2.2.2.2.1 = some (qCw mi_246) := by rfl
set_option maxRecDepth 100000 in
theorem mo_246 : qMiOk mi_246 = true := by decide +kernel
theorem cw_247 : qGet mi_247.2.2.2.2.2.2.2.2.2.2.1 = some (qCw mi_247) := by rfl
set_option maxRecDepth 100000 in
theorem mo_247 : qMiOk mi_247 = true := by decide +kernel
theorem cw_248 : qGet mi_248.2.2.2.2.2.2.2.2.2.2.1 = some (qCw mi_248) := by rfl
set_option maxRecDepth 100000 in
theorem mo_248 : qMiOk mi_248 = true := by decide +kernel
theorem cw_249 : qGet mi_249.2.2.2.2.2.2.2.2.2.2.1 = some (qCw mi_249) := by rfl
set_option maxRecDepth 100000 in
theorem mo_249 : qMiOk mi_249 = true := by decide +kernel
theorem cw_250 : qGet mi_250.2.2.2.2.2.2.2.2.2.2.1 = some (qCw mi_250) := by rfl
set_option maxRecDepth 100000 in
theorem mo_250 : qMiOk mi_250 = true := by decide +kernel
theorem cw_251 : qGet mi_251.2.2.2.2.2.2.2.2.2.2.1 = some (qCw mi_251) := by rfl
set_option maxRecDepth 100000 in
theorem mo_251 : qMiOk mi_251 = true := by decide +kernel
theorem cw_252 : qGet mi_252.2.2.2.2.2.2.2.2.2.2.1 = some (qCw mi_252) := by rfl
set_option maxRecDepth 100000 in
theorem mo_252 : qMiOk mi_252 = true := by decide +kernel
theorem cw_253 : qGet mi_253.2.2.2.2.2.2.2.2.2.2.1 = some (qCw mi_253) := by rfl
set_option maxRecDepth 100000 in
theorem mo_253 : qMiOk mi_253 = true := by decide +kernel
theorem cw_254 : qGet mi_254.2.2.2.2.2.2.2.2.2.2.1 = some (qCw mi_254) := by rfl
set_option maxRecDepth 100000 in
theorem mo_254 : qMiOk mi_254 = true := by decide +kernel
theorem cw_255 : qGet mi_255.2.2.2.2.2.2.2.2.2.2.1 = some (qCw mi_255) := by rfl
set_option maxRecDepth 100000 in
theorem mo_255 : qMiOk mi_255 = true := by decide +kernel
theorem cw_256 : qGet mi_256.2.2.2.2.2.2.2.2.2.2.1 = some (qCw mi_256) := by rfl
set_option maxRecDepth 100000 in
theorem mo_256 : qMiOk mi_256 = true := by decide +kernel
theorem cw_257 : qGet mi_257.2.2.2.2.2.2.2.2.2.2.1 = some (qCw mi_257) := by rfl
set_option maxRecDepth 100000 in
theorem mo_257 : qMiOk mi_257 = true := by decide +kernel
theorem cw_258 : qGet mi_258.2.2.2.2.2.2.2.2.2.2.1 = some (qCw mi_258) := by rfl
set_option maxRecDepth 100000 in
theorem mo_258 : qMiOk mi_258 = true := by decide +kernel
theorem cw_259 : qGet mi_259.2.2.2.2.2.2.2.2.2.2.1 = some (qCw mi_259) := by rfl
set_option maxRecDepth 100000 in
theorem mo_259 : qMiOk mi_259 = true := by decide +kernel
theorem cw_260 : qGet mi_260.2.2.2.2.2.2.2.2.2.2.1 = some (qCw mi_260) := by rfl
set_option maxRecDepth 100000 in
theorem mo_260 : qMiOk mi_260 = true := by decide +kernel
theorem cw_261 : qGet mi_261.2.2.2.2.2.2.2.2.2.2.1 = some (qCw mi_261) := by rfl
set_option maxRecDepth 100000 in
theorem mo_261 : qMiOk mi_261 = true := by decide +kernel
theorem cw_262 : qGet mi_262.2.2.2.2.2.2.2.2.2.2.1 = some (qCw mi_262) := by rfl
set_option maxRecDepth 100000 in
theorem mo_262 : qMiOk mi_262 = true := by decide +kernel
theorem cw_263 : qGet mi_263.2.2.2.2.2.2.2.2.2.2.1 = some (qCw mi_263) := by rfl
set_option maxRecDepth 100000 in
theorem mo_263 : qMiOk mi_263 = true := by decide +kernel
theorem cw_264 : qGet mi_264.2.2.2.2.2.2.2.2.2.2.1 = some (qCw mi_264) := by rfl
set_option maxRecDepth 100000 in
theorem mo_264 : qMiOk mi_264 = true := by decide +kernel
theorem cw_265 : qGet mi_265.2.2.2.2.2.2.2.2.2.2.1 = some (qCw mi_265) := by rfl
set_option maxRecDepth 100000 in
theorem mo_265 : qMiOk mi_265 = true := by decide +kernel
theorem cw_266 : qGet mi_266.2.2.2.2.2.2.2.2.2.2.1 = some (qCw mi_266) := by rfl
set_option maxRecDepth 100000 in
theorem mo_266 : qMiOk mi_266 = true := by decide +kernel
theorem cw_267 : qGet mi_267.2.2.2.2.2.2.2.2.2.2.1 = some (qCw mi_267) := by rfl
set_option maxRecDepth 100000 in
theorem mo_267 : qMiOk mi_267 = true := by decide +kernel
theorem cw_268 : qGet mi_268.2.2.2.2.2.2.2.2.2.2.1 = some (qCw mi_268) := by rfl
set_option maxRecDepth 100000 in
theorem mo_268 : qMiOk mi_268 = true := by decide +kernel
theorem cw_269 : qGet mi_269.2.2.2.2.2.2.2.2.2.2.1 = some (qCw mi_269) := by rfl
set_option maxRecDepth 100000 in
theorem mo_269 : qMiOk mi_269 = true := by decide +kernel
theorem cw_270 : qGet mi_270.2.2.2.2.2.2.2.2.2.2.1 = some (qCw mi_270) := by rfl
set_option maxRecDepth 100000 in
theorem mo_270 : qMiOk mi_270 = true := by decide +kernel
theorem cw_271 : qGet mi_271.2.2.2.2.2.2.2.2.2.2.1 = some (qCw mi_271) := by rfl
set_option maxRecDepth 100000 in
theorem mo_271 : qMiOk mi_271 = true := by decide +kernel
theorem cw_272 : qGet mi_272.2.2.2.2.2.2.2.2.2.2.1 = some (qCw mi_272) := by rfl
set_option maxRecDepth 100000 in
theorem mo_272 : qMiOk mi_272 = true := by decide +kernel
theorem cw_273 : qGet mi_273.2.2.2.2.2.2.2.2.2.2.1 = some (qCw mi_273) := by rfl
set_option maxRecDepth 100000 in
theorem mo_273 : qMiOk mi_273 = true := by decide +kernel
theorem cw_274 : qGet mi_274.2.2.2.2.2.2.2.2.2.2.1 = some (qCw mi_274) := by rfl
set_option maxRecDepth 100000 in
theorem mo_274 : qMiOk mi_274 = true := by decide +kernel
theorem cw_275 : qGet mi_275.2.2.2.2.2.2.2.2.2.2.1 = some (qCw mi_275) := by rfl
set_option maxRecDepth 100000 in
theorem mo_275 : qMiOk mi_275 = true := by decide +kernel
theorem cw_276 : qGet mi_276.2.2.2.2.2.2.2.2.2.2.1 = some (qCw mi_276) := by rfl
set_option maxRecDepth 100000 in
theorem mo_276 : qMiOk mi_276 = true := by decide +kernel
theorem cw_277 : qGet mi_277.2.2.2.2.2.2.2.2.2.2.1 = some (qCw mi_277) := by rfl
set_option maxRecDepth 100000 in
theorem mo_277 : qMiOk mi_277 = true := by decide +kernel
theorem cw_278 : qGet mi_278.2.2.2.2.2.2.2.2.2.2.1 = some (qCw mi_278) := by rfl
set_option maxRecDepth 100000 in
theorem mo_278 : qMiOk mi_278 = true := by decide +kernel
theorem cw_279 : qGet mi_279.2.2.2.2.2.2.2.2.2.2.1 = some (qCw mi_279) := by rfl
set_option maxRecDepth 100000 in
theorem mo_279 : qMiOk mi_279 = true := by decide +kernel
theorem cw_280 : qGet mi_280.2.2.2.2.2.2.2.2.2.2.1 = some (qCw mi_280) := by rfl
set_option maxRecDepth 100000 in
theorem mo_280 : qMiOk mi_280 = true := by decide +kernel
theorem cw_281 : qGet mi_281.2.2.2.2.2.2.2.2.2.2.1 = some (qCw mi_281) := by rfl
set_option maxRecDepth 100000 in
theorem mo_281 : qMiOk mi_281 = true := by decide +kernel
theorem cw_282 : qGet mi_282.2.2.2.2.2.2.2.2.2.2.1 = some (qCw mi_282) := by rfl
set_option maxRecDepth 100000 in
theorem mo_282 : qMiOk mi_282 = true := by decide +kernel
theorem cw_283 : qGet mi_283.2.2.2.2.2.2.2.2.2.2.1 = some (qCw mi_283) := by rfl
set_option maxRecDepth 100000 in
theorem mo_283 : qMiOk mi_283 = true := by decide +kernel
theorem cw_284 : qGet mi_284.2.2.2.2.2.2.2.2.2.2.1 = some (qCw mi_284) := by rfl
set_option maxRecDepth 100000 in
theorem mo_284 : qMiOk mi_284 = true := by decide +kernel
theorem cw_285 : qGet mi_285.2.2.2.2.2.2.2.2.2.2.1 = some (qCw mi_285) := by rfl
set_option maxRecDepth 100000 in
theorem mo_285 : qMiOk mi_285 = true := by decide +kernel
theorem cw_286 : qGet mi_286.2.2.2.2.2.2.2.2.2.2.1 = some (qCw mi_286) := by rfl
set_option maxRecDepth 100000 in
theorem mo_286 : qMiOk mi_286 = true := by decide +kernel
theorem cw_287 : qGet mi_287.2.2.2.2.2.2.2.2.2.2.1 = some (qCw mi_287) := by rfl
set_option maxRecDepth 100000 in
theorem mo_287 : qMiOk mi_287 = true := by decide +kernel
theorem cw_288 : qGet mi_288.2.2.2.2.2.2.2.2.2.2.1 = some (qCw mi_288) := by rfl
set_option maxRecDepth 100000 in
theorem mo_288 : qMiOk mi_288 = true := by decide +kernel
theorem cw_289 : qGet mi_289.2.2.2.2.2.2.2.2.2.2.1 = some (qCw mi_289) := by rfl
set_option maxRecDepth 100000 in
theorem mo_289 : qMiOk mi_289 = true := by decide +kernel
theorem cw_290 : qGet mi_290.2.2.2.2.2.2.2.2.2.2.1 = some (qCw mi_290) := by rfl
set_option maxRecDepth 100000 in
theorem mo_290 : qMiOk mi_290 = true := by decide +kernel
theorem cw_291 : qGet mi_291.2.2.2.2.2.2.2.2.2.2.1 = some (qCw mi_291) := by rfl
set_option maxRecDepth 100000 in
theorem mo_291 : qMiOk mi_291 = true := by decide +kernel
theorem cw_292 : qGet mi_292.2.2.2.2.2.2.2.2.2.2.1 = some (qCw mi_292) := by rfl
set_option maxRecDepth 100000 in
theorem mo_292 : qMiOk mi_292 = true := by decide +kernel
theorem cw_293 : qGet mi_293.2.2.2.2.2.2.2.2.2.2.1 = some (qCw mi_293) := by rfl
set_option maxRecDepth 100000 in
theorem mo_293 : qMiOk mi_293 = true := by decide +kernel
theorem cw_294 : qGet mi_294.2.2.2.2.2.2.2.2.2.2.1 = some (qCw mi_294) := by rfl
set_option maxRecDepth 100000 in
theorem mo_294 : qMiOk mi_294 = true := by decide +kernel
theorem cw_295 : qGet mi_295.2.2.2.2.2.2.2.2.2.2.1 = some (qCw mi_295) := by rfl
set_option maxRecDepth 100000 in
theorem mo_295 : qMiOk mi_295 = true := by decide +kernel
theorem cw_296 : qGet mi_296.2.2.2.2.2.2.2.2.2.2.1 = some (qCw mi_296) := by rfl
set_option maxRecDepth 100000 in
theorem mo_296 : qMiOk mi_296 = true := by decide +kernel
theorem cw_297 : qGet mi_297.2.2.2.2.2.2.2.2.2.2.1 = some (qCw mi_297) := by rfl
set_option maxRecDepth 100000 in
theorem mo_297 : qMiOk mi_297 = true := by decide +kernel
theorem cw_298 : qGet mi_298.2.2.2.2.2.2.2.2.2.2.1 = some (qCw mi_298) := by rfl
set_option maxRecDepth 100000 in
theorem mo_298 : qMiOk mi_298 = true := by decide +kernel
theorem cw_299 : qGet mi_299.2.2.2.2.2.2.2.2.2.2.1 = some (qCw mi_299) := by rfl
set_option maxRecDepth 100000 in
theorem mo_299 : qMiOk mi_299 = true := by decide +kernel
theorem cw_300 : qGet mi_300.2.2.2.2.2.2.2.2.2.2.1 = some (qCw mi_300) := by rfl
set_option maxRecDepth 100000 in
theorem mo_300 : qMiOk mi_300 = true := by decide +kernel
theorem cw_301 : qGet mi_301.2.2.2.2.2.2.2.2.2.2.1 = some (qCw mi_301) := by rfl
set_option maxRecDepth 100000 in
theorem mo_301 : qMiOk mi_301 = true := by decide +kernel
theorem cw_302 : qGet mi_302.2.2.2.2.2.2.2.2.2.2.1 = some (qCw mi_302) := by rfl
set_option maxRecDepth 100000 in
theorem mo_302 : qMiOk mi_302 = true := by decide +kernel
theorem cw_303 : qGet mi_303.2.2.2.2.2.2.2.2.2.2.1 = some (qCw mi_303) := by rfl
set_option maxRecDepth 100000 in
theorem mo_303 : qMiOk mi_303 = true := by decide +kernel
theorem cw_304 : qGet mi_304.2.2.2.2.2.2.2.2.2.2.1 = some (qCw mi_304) := by rfl
set_option maxRecDepth 100000 in
theorem mo_304 : qMiOk mi_304 = true := by decide +kernel
theorem cw_305 : qGet mi_305.2.2.2.2.2.2.2.2.2.2.1 = some (qCw mi_305) := by rfl
set_option maxRecDepth 100000 in
theorem mo_305 : qMiOk mi_305 = true := by decide +kernel
theorem cw_306 : qGet mi_306.2.2.2.2.2.2.2.2.2.2.1 = some (qCw mi_306) := by rfl
set_option maxRecDepth 100000 in
theorem mo_306 : qMiOk mi_306 = true := by decide +kernel
theorem cw_307 : qGet mi_307.2.2.2.2.2.2.2.2.2.2.1 = some (qCw mi_307) := by rfl
set_option maxRecDepth 100000 in
theorem mo_307 : qMiOk mi_307 = true := by decide +kernel
theorem cw_308 : qGet mi_308.2.2.2.2.2.2.2.2.2.2.1 = some (qCw mi_308) := by rfl
set_option maxRecDepth 100000 in
theorem mo_308 : qMiOk mi_308 = true := by decide +kernel
theorem cw_309 : qGet mi_309.2.2.2.2.2.2.2.2.2.2.1 = some (qCw mi_309) := by rfl
set_option maxRecDepth 100000 in
theorem mo_309 : qMiOk mi_309 = true := by decide +kernel
theorem cw_310 : qGet mi_310.2.2.2.2.2.2.2.2.2.2.1 = some (qCw mi_310) := by rfl
set_option maxRecDepth 100000 in
theorem mo_310 : qMiOk mi_310 = true := by decide +kernel
theorem cw_311 : qGet mi_311.2.2.2.2.2.2.2.2.2.2.1 = some (qCw mi_311) := by rfl
set_option maxRecDepth 100000 in
theorem mo_311 : qMiOk mi_311 = true := by decide +kernel
theorem cw_312 : qGet mi_312.2.2.2.2.2.2.2.2.2.2.1 = some (qCw mi_312) := by rfl
set_option maxRecDepth 100000 in
theorem mo_312 : qMiOk mi_312 = true := by decide +kernel
theorem cw_313 : qGet mi_313.2.2.2.2.2.2.2.2.2.2.1 = some (qCw mi_313) := by rfl
set_option maxRecDepth 100000 in
theorem mo_313 : qMiOk mi_313 = true := by decide +kernel
theorem cw_314 : qGet mi_314.2.2.2.2.2.2.2.2.2.2.1 = some (qCw mi_314) := by rfl
set_option maxRecDepth 100000 in
theorem mo_314 : qMiOk mi_314 = true := by decide +kernel
theorem cw_315 : qGet mi_315.2.2.2.2.2.2.2.2.2.2.1 = some (qCw mi_315) := by rfl
set_option maxRecDepth 100000 in
theorem mo_315 : qMiOk mi_315 = true := by decide +kernel
theorem cw_316 : qGet mi_316.2.2.2.2.2.2.2.2.2.2.1 = some (qCw mi_316) := by rfl
set_option maxRecDepth 100000 in
theorem mo_316 : qMiOk mi_316 = true := by decide +kernel
theorem cw_317 : qGet mi_317.2.2.2.2.2.2.2.2.2.2.1 = some (qCw mi_317) := by rfl
set_option maxRecDepth 100000 in
theorem mo_317 : qMiOk mi_317 = true := by decide +kernel
theorem cw_318 : qGet mi_318.2.2.2.2.2.2.2.2.2.2.1 = some (qCw mi_318) := by rfl
set_option maxRecDepth 100000 in
theorem mo_318 : qMiOk mi_318 = true := by decide +kernel
theorem cw_319 : qGet mi_319.2.2.2.2.2.2.2.2.2.2.1 = some (qCw mi_319) := by rfl
set_option maxRecDepth 100000 in
theorem mo_319 : qMiOk mi_319 = true := by decide +kernel
theorem cw_320 : qGet mi_320.2.2.2.2.2.2.2.2.2.2.1 = some (qCw mi_320) := by rfl
set_option maxRecDepth 100000 in
theorem mo_320 : qMiOk mi_320 = true := by decide +kernel
theorem cw_321 : qGet mi_321.2.2.2.2.2.2.2.2.2.2.1 = some (qCw mi_321) := by rfl
set_option maxRecDepth 100000 in
theorem mo_321 : qMiOk mi_321 = true := by decide +kernel
theorem cw_322 : qGet mi_322.2.2.2.2.2.2.2.2.2.2.1 = some (qCw mi_322) := by rfl
set_option maxRecDepth 100000 in
theorem mo_322 : qMiOk mi_322 = true := by decide +kernel
theorem cw_323 : qGet mi_323.2.2.2.2.2.2.2.2.2.2.1 = some (qCw mi_323) := by rfl
set_option maxRecDepth 100000 in
theorem mo_323 : qMiOk mi_323 = true := by decide +kernel
theorem cw_324 : qGet mi_324.2.2.2.2.2.2.2.2.2.2.1 = some (qCw mi_324) := by rfl
set_option maxRecDepth 100000 in
theorem mo_324 : qMiOk mi_324 = true := by decide +kernel
theorem cw_325 : qGet mi_325.2.2.2.2.2.2.2.2.2.2.1 = some (qCw mi_325) := by rfl
set_option maxRecDepth 100000 in
theorem mo_325 : qMiOk mi_325 = true := by decide +kernel
theorem cw_326 : qGet mi_326.2.2.2.2.2.2.2.2.2.2.1 = some (qCw mi_326) := by rfl
set_option maxRecDepth 100000 in
theorem mo_326 : qMiOk mi_326 = true := by decide +kernel
theorem cw_327 : qGet mi_327.2.2.2.2.2.2.2.2.2.2.1 = some (qCw mi_327) := by rfl
set_option maxRecDepth 100000 in
theorem mo_327 : qMiOk mi_327 = true := by decide +kernel
theorem cw_328 : qGet mi_328.2.2.2.2.2.2.2.2.2.2.1 = some (qCw mi_328) := by rfl
set_option maxRecDepth 100000 in
theorem mo_328 : qMiOk mi_328 = true := by decide +kernel
theorem cw_329 : qGet mi_329.2.2.2.2.2.2.2.2.2.2.1 = some (qCw mi_329) := by rfl
set_option maxRecDepth 100000 in
theorem mo_329 : qMiOk mi_329 = true := by decide +kernel
theorem cw_330 : qGet mi_330.2.2.2.2.2.2.2.2.2.2.1 = some (qCw mi_330) := by rfl
set_option maxRecDepth 100000 in
theorem mo_330 : qMiOk mi_330 = true := by decide +kernel
theorem cw_331 : qGet mi_331.2.2.2.2.2.2.2.2.2.2.1 = some (qCw mi_331) := by rfl
set_option maxRecDepth 100000 in
theorem mo_331 : qMiOk mi_331 = true := by decide +kernel
theorem cw_332 : qGet mi_332.2.2.2.2.2.2.2.2.2.2.1 = some (qCw mi_332) := by rfl
set_option maxRecDepth 100000 in
theorem mo_332 : qMiOk mi_332 = true := by decide +kernel
theorem cw_333 : qGet mi_333.2.2.2.2.2.2.2.2.2.2.1 = some (qCw mi_333) := by rfl
set_option maxRecDepth 100000 in
theorem mo_333 : qMiOk mi_333 = true := by decide +kernel
theorem cw_334 : qGet mi_334.2.2.2.2.2.2.2.2.2.2.1 = some (qCw mi_334) := by rfl
set_option maxRecDepth 100000 in
theorem mo_334 : qMiOk mi_334 = true := by decide +kernel
theorem cw_335 : qGet mi_335.2.2.2.2.2.2.2.2.2.2.1 = some (qCw mi_335) := by rfl
set_option maxRecDepth 100000 in
theorem mo_335 : qMiOk mi_335 = true := by decide +kernel
theorem cw_336 : qGet mi_336.2.2.2.2.2.2.2.2.2.2.1 = some (qCw mi_336) := by rfl
set_option maxRecDepth 100000 in
theorem mo_336 : qMiOk mi_336 = true := by decide +kernel
theorem cw_337 : qGet mi_337.2.2.2.2.2.2.2.2.2.2.1 = some (qCw mi_337) := by rfl
set_option maxRecDepth 100000 in
theorem mo_337 : qMiOk mi_337 = true := by decide +kernel
theorem cw_338 : qGet mi_338.2.2.2.2.2.2.2.2.2.2.1 = some (qCw mi_338) := by rfl
set_option maxRecDepth 100000 in
theorem mo_338 : qMiOk mi_338 = true := by decide +kernel
theorem cw_339 : qGet mi_339.2.2.2.2.2.2.2.2.2.2.1 = some (qCw mi_339) := by rfl
set_option maxRecDepth 100000 in
theorem mo_339 : qMiOk mi_339 = true := by decide +kernel
theorem cw_340 : qGet mi_340.2.2.2.2.2.2.2.2.2.2.1 = some (qCw mi_340) := by rfl
set_option maxRecDepth 100000 in
theorem mo_340 : qMiOk mi_340 = true := by decide +kernel
theorem cw_341 : qGet mi_341.2.2.2.2.2.2.2.2.2.2.1 = some (qCw mi_341) := by rfl
set_option maxRecDepth 100000 in
theorem mo_341 : qMiOk mi_341 = true := by decide +kernel
theorem cw_342 : qGet mi_342.2.2.2.2.2.2.2.2.2.2.1 = some (qCw mi_342) := by rfl
set_option maxRecDepth 100000 in
theorem mo_342 : qMiOk mi_342 = true := by decide +kernel
theorem cw_343 : qGet mi_343.2.2.2.2.2.2.2.2.2.2.1 = some (qCw mi_343) := by rfl
set_option maxRecDepth 100000 in
theorem mo_343 : qMiOk mi_343 = true := by decide +kernel
theorem cw_344 : qGet mi_344.2.2.2.2.2.2.2.2.2.2.1 = some (qCw mi_344) := by rfl
set_option maxRecDepth 100000 in
theorem mo_344 : qMiOk mi_344 = true := by decide +kernel
theorem cw_345 : qGet mi_345.2.2.2.2.2.2.2.2.2.2.1 = some (qCw mi_345) := by rfl
set_option maxRecDepth 100000 in
theorem mo_345 : qMiOk mi_345 = true := by decide +kernel
theorem cw_346 : qGet mi_346.2.2.2.2.2.2.2.2.2.2.1 = some (qCw mi_346) := by rfl
set_option maxRecDepth 100000 in
theorem mo_346 : qMiOk mi_346 = true := by decide +kernel
theorem cw_347 : qGet mi_347.2.2.2.2.2.2.2.2.2.2.1 = some (qCw mi_347) := by rfl
set_option maxRecDepth 100000 in
theorem mo_347 : qMiOk mi_347 = true := by decide +kernel
theorem cw_348 : qGet mi_348.2.2.2.2.2.2.2.2.2.2.1 = some (qCw mi_348) := by rfl
set_option maxRecDepth 100000 in
theorem mo_348 : qMiOk mi_348 = true := by decide +kernel
theorem cw_349 : qGet mi_349.2.2.2.2.2.2.2.2.2.2.1 = some (qCw mi_349) := by rfl
set_option maxRecDepth 100000 in
theorem mo_349 : qMiOk mi_349 = true := by decide +kernel
theorem cw_350 : qGet mi_350.2.2.2.2.2.2.2.2.2.2.1 = some (qCw mi_350) := by rfl
set_option maxRecDepth 100000 in
theorem mo_350 : qMiOk mi_350 = true := by decide +kernel
theorem cw_351 : qGet mi_351.2.2.2.2.2.2.2.2.2.2.1 = some (qCw mi_351) := by rfl
set_option maxRecDepth 100000 in
theorem mo_351 : qMiOk mi_351 = true := by decide +kernel
theorem cw_352 : qGet mi_352.2.2.2.2.2.2.2.2.2.2.1 = some (qCw mi_352) := by rfl
set_option maxRecDepth 100000 in
theorem mo_352 : qMiOk mi_352 = true := by decide +kernel
theorem cw_353 : qGet mi_353.2.2.2.2.2.2.2.2.2.2.1 = some (qCw mi_353) := by rfl
set_option maxRecDepth 100000 in
theorem mo_353 : qMiOk mi_353 = true := by decide +kernel
theorem cw_354 : qGet mi_354.2.2.2.2.2.2.2.2.2.2.1 = some (qCw mi_354) := by rfl
set_option maxRecDepth 100000 in
theorem mo_354 : qMiOk mi_354 = true := by decide +kernel
theorem cw_355 : qGet mi_355.2.2.2.2.2.2.2.2.2.2.1 = some (qCw mi_355) := by rfl
set_option maxRecDepth 100000 in
theorem mo_355 : qMiOk mi_355 = true := by decide +kernel
theorem cw_356 : qGet mi_356.2.2.2.2.2.2.2.2.2.2.1 = some (qCw mi_356) := by rfl
set_option maxRecDepth 100000 in
theorem mo_356 : qMiOk mi_356 = true := by decide +kernel
theorem cw_357 : qGet mi_357.2.2.2.2.2.2.2.2.2.2.1 = some (qCw mi_357) := by rfl
set_option maxRecDepth 100000 in
theorem mo_357 : qMiOk mi_357 = true := by decide +kernel
theorem cw_358 : qGet mi_358.2.2.2.2.2.2.2.2.2.2.1 = some (qCw mi_358) := by rfl
set_option maxRecDepth 100000 in
theorem mo_358 : qMiOk mi_358 = true := by decide +kernel
theorem cw_359 : qGet mi_359.2.2.2.2.2.2.2.2.2.2.1 = some (qCw mi_359) := by rfl
set_option maxRecDepth 100000 in
theorem mo_359 : qMiOk mi_359 = true := by decide +kernel
theorem cw_360 : qGet mi_360.2.2.2.2.2.2.2.2.2.2.1 = some (qCw mi_360) := by rfl
set_option maxRecDepth 100000 in
theorem mo_360 : qMiOk mi_360 = true := by decide +kernel
theorem cw_361 : qGet mi_361.2.2.2.2.2.2.2.2.2.2.1 = some (qCw mi_361) := by rfl
set_option maxRecDepth 100000 in
theorem mo_361 : qMiOk mi_361 = true := by decide +kernel
theorem cw_362 : qGet mi_362.2.2.2.2.2.2.2.2.2.2.1 = some (qCw mi_362) := by rfl
set_option maxRecDepth 100000 in
theorem mo_362 : qMiOk mi_362 = true := by decide +kernel
theorem cw_363 : qGet mi_363.2.2.2.2.2.2.2.2.2.2.1 = some (qCw mi_363) := by rfl
set_option maxRecDepth 100000 in
theorem mo_363 : qMiOk mi_363 = true := by decide +kernel
theorem cw_364 : qGet mi_364.2.2.2.2.2.2.2.2.2.2.1 = some (qCw mi_364) := by rfl
set_option maxRecDepth 100000 in
theorem mo_364 : qMiOk mi_364 = true := by decide +kernel
theorem cw_365 : qGet mi_365.2.2.2.2.2.2.2.2.2.2.1 = some (qCw mi_365) := by rfl
set_option maxRecDepth 100000 in
theorem mo_365 : qMiOk mi_365 = true := by decide +kernel
theorem cw_366 : qGet mi_366.2.2.2.2.2.2.2.2.2.2.1 = some (qCw mi_366) := by rfl
set_option maxRecDepth 100000 in
theorem mo_366 : qMiOk mi_366 = true := by decide +kernel
theorem cw_367 : qGet mi_367.2.2.2.2.2.2.2.2.2.2.1 = some (qCw mi_367) := by rfl
set_option maxRecDepth 100000 in
theorem mo_367 : qMiOk mi_367 = true := by decide +kernel
theorem cw_368 : qGet mi_368.2.2.2.2.2.2.2.2.2.2.1 = some (qCw mi_368) := by rfl
set_option maxRecDepth 100000 in
theorem mo_368 : qMiOk mi_368 = true := by decide +kernel
theorem cw_369 : qGet mi_369.2.2.2.2.2.2.2.2.2.2.1 = some (qCw mi_369) := by rfl
set_option maxRecDepth 100000 in
theorem mo_369 : qMiOk mi_369 = true := by decide +kernel
theorem cw_370 : qGet mi_370.2.2.2.2.2.2.2.2.2.2.1 = some (qCw mi_370) := by rfl
set_option maxRecDepth 100000 in
theorem mo_370 : qMiOk mi_370 = true := by decide +kernel
theorem cw_371 : qGet mi_371.2.2.2.2.2.2.2.2.2.2.1 = some (qCw mi_371) := by rfl
set_option maxRecDepth 100000 in
theorem mo_371 : qMiOk mi_371 = true := by decide +kernel
theorem cw_372 : qGet mi_372.2.2.2.2.2.2.2.2.2.2.1 = some (qCw mi_372) := by rfl
set_option maxRecDepth 100000 in
theorem mo_372 : qMiOk mi_372 = true := by decide +kernel
theorem cw_373 : qGet mi_373.2.2.2.2.2.2.2.2.2.2.1 = some (qCw mi_373) := by rfl
set_option maxRecDepth 100000 in
theorem mo_373 : qMiOk mi_373 = true := by decide +kernel
theorem cw_374 : qGet mi_374.2.2.2.2.2.2.2.2.2.2.1 = some (qCw mi_374) := by rfl
set_option maxRecDepth 100000 in
theorem mo_374 : qMiOk mi_374 = true := by decide +kernel
theorem cw_375 : qGet mi_375.2.2.2.2.2.2.2.2.2.2.1 = some (qCw mi_375) := by rfl
set_option maxRecDepth 100000 in
theorem mo_375 : qMiOk mi_375 = true := by decide +kernel
theorem cw_376 : qGet mi_376.2.2.2.2.2.2.2.2.2.2.1 = some (qCw mi_376) := by rfl
set_option maxRecDepth 100000 in
theorem mo_376 : qMiOk mi_376 = true := by decide +kernel
theorem cw_377 : qGet mi_377.2.2.2.2.2.2.2.2.2.2.1 = some (qCw mi_377) := by rfl
set_option maxRecDepth 100000 in
theorem mo_377 : qMiOk mi_377 = true := by decide +kernel
theorem cw_379 : qGet mi_379.2.2.2.2.2.2.2.2.2.2.1 = some (qCw mi_379) := by rfl
set_option maxRecDepth 100000 in
theorem mo_379 : qMiOk mi_379 = true := by decide +kernel
theorem cw_380 : qGet mi_380.2.2.2.2.2.2.2.2.2.2.1 = some (qCw mi_380) := by rfl
set_option maxRecDepth 100000 in
theorem mo_380 : qMiOk mi_380 = true := by decide +kernel
