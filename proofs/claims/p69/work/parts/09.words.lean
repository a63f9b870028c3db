theorem cw_0 : qGet mi_0.2.2.2.2.2.2.2.2.2.2.1 = some (qCw mi_0) := by rfl
set_option maxRecDepth 100000 in
theorem mo_0 : qMiOk mi_0 = true := by decide +kernel
theorem cw_1 : qGet mi_1.2.2.2.2.2.2.2.2.2.2.1 = some (qCw mi_1) := by rfl
set_option maxRecDepth 100000 in
theorem mo_1 : qMiOk mi_1 = true := by decide +kernel
theorem cw_3 : qGet mi_3.2.2.2.2.2.2.2.2.2.2.1 = some (qCw mi_3) := by rfl
set_option maxRecDepth 100000 in
theorem mo_3 : qMiOk mi_3 = true := by decide +kernel
theorem cw_4 : qGet mi_4.2.2.2.2.2.2.2.2.2.2.1 = some (qCw mi_4) := by rfl
set_option maxRecDepth 100000 in
theorem mo_4 : qMiOk mi_4 = true := by decide +kernel
theorem cw_5 : qGet mi_5.2.2.2.2.2.2.2.2.2.2.1 = some (qCw mi_5) := by rfl
set_option maxRecDepth 100000 in
theorem mo_5 : qMiOk mi_5 = true := by decide +kernel
theorem cw_6 : qGet mi_6.2.2.2.2.2.2.2.2.2.2.1 = some (qCw mi_6) := by rfl
set_option maxRecDepth 100000 in
theorem mo_6 : qMiOk mi_6 = true := by decide +kernel
theorem cw_7 : qGet mi_7.2.2.2.2.2.2.2.2.2.2.1 = some (qCw mi_7) := by rfl
set_option maxRecDepth 100000 in
theorem mo_7 : qMiOk mi_7 = true := by decide +kernel
theorem cw_8 : qGet mi_8.2.2.2.2.2.2.2.2.2.2.1 = some (qCw mi_8) := by rfl
set_option maxRecDepth 100000 in
theorem mo_8 : qMiOk mi_8 = true := by decide +kernel
theorem cw_10 : qGet mi_10.2.2.2.2.2.2.2.2.2.2.1 = some (qCw mi_10) := by rfl
set_option maxRecDepth 100000 in
theorem mo_10 : qMiOk mi_10 = true := by decide +kernel
theorem cw_11 : qGet mi_11.2.2.2.2.2.2.2.2.2.2.1 = some (qCw mi_11) := by rfl
set_option maxRecDepth 100000 in
theorem mo_11 : qMiOk mi_11 = true := by decide +kernel
theorem cw_12 : qGet mi_12.2.2.2.2.2.2.2.2.2.2.1 = some (qCw mi_12) := by rfl
set_option maxRecDepth 100000 in
theorem mo_12 : qMiOk mi_12 = true := by decide +kernel
theorem cw_13 : qGet mi_13.2.2.2.2.2.2.2.2.2.2.1 = some (qCw mi_13) := by rfl
set_option maxRecDepth 100000 in
theorem mo_13 : qMiOk mi_13 = true := by decide +kernel
theorem cw_14 : qGet mi_14.2.2.2.2.2.2.2.2.2.2.1 = some (qCw mi_14) := by rfl
set_option maxRecDepth 100000 in
theorem mo_14 : qMiOk mi_14 = true := by decide +kernel
theorem cw_21 : qGet mi_21.2.2.2.2.2.2.2.2.2.2.1 = some (qCw mi_21) := by rfl
set_option maxRecDepth 100000 in
theorem mo_21 : qMiOk mi_21 = true := by decide +kernel
theorem cw_22 : qGet mi_22.2.2.2.2.2.2.2.2.2.2.1 = some (qCw mi_22) := by rfl
set_option maxRecDepth 100000 in
theorem mo_22 : qMiOk mi_22 = true := by decide +kernel
theorem cw_23 : qGet mi_23.2.2.2.2.2.2.2.2.2.2.1 = some (qCw mi_23) := by rfl
set_option maxRecDepth 100000 in
theorem mo_23 : qMiOk mi_23 = true := by decide +kernel
theorem cw_24 : qGet mi_24.2.2.2.2.2.2.2.2.2.2.1 = some (qCw mi_24) := by rfl
set_option maxRecDepth 100000 in
theorem mo_24 : qMiOk mi_24 = true := by decide +kernel
theorem cw_25 : qGet mi_25.2.2.2.2.2.2.2.2.2.2.1 = some (qCw mi_25) := by rfl
set_option maxRecDepth 100000 in
theorem mo_25 : qMiOk mi_25 = true := by decide +kernel
theorem cw_26 : qGet mi_26.2.2.2.2.2.2.2.2.2.2.1 = some (qCw mi_26) := by rfl
set_option maxRecDepth 100000 in
theorem mo_26 : qMiOk mi_26 = true := by decide +kernel
theorem cw_27 : qGet mi_27.2.2.2.2.2.2.2.2.2.2.1 = some (qCw mi_27) := by rfl
set_option maxRecDepth 100000 in
theorem mo_27 : qMiOk mi_27 = true := by decide +kernel
theorem cw_28 : qGet mi_28.2.2.2.2.2.2.2.2.2.2.1 = some (qCw mi_28) := by rfl
set_option maxRecDepth 100000 in
theorem mo_28 : qMiOk mi_28 = true := by decide +kernel
theorem cw_29 : qGet mi_29.2.2.2.2.2.2.2.2.2.2.1 = some (qCw mi_29) := by rfl
set_option maxRecDepth 100000 in
theorem mo_29 : qMiOk mi_29 = true := by decide +kernel
theorem cw_30 : qGet mi_30.2.2.2.2.2.2.2.2.2.2.1 = some (qCw mi_30) := by rfl
set_option maxRecDepth 100000 in
theorem mo_30 : qMiOk mi_30 = true := by decide +kernel
theorem cw_31 : qGet mi_31.2.2.2.2.2.2.2.2.2.2.1 = some (qCw mi_31) := by rfl
set_option maxRecDepth 100000 in
theorem mo_31 : qMiOk mi_31 = true := by decide +kernel
theorem cw_32 : qGet mi_32.2.2.2.2.2.2.2.2.2.2.1 = some (qCw mi_32) := by rfl
set_option maxRecDepth 100000 in
theorem mo_32 : qMiOk mi_32 = true := by decide +kernel
theorem cw_33 : qGet mi_33.2.2.2.2.2.2.2.2.2.2.1 = some (qCw mi_33) := by rfl
set_option maxRecDepth 100000 in
theorem mo_33 : qMiOk mi_33 = true := by decide +kernel
theorem cw_34 : qGet mi_34.2.2.2.2.2.2.2.2.2.2.1 = some (qCw mi_34) := by rfl
set_option maxRecDepth 100000 in
theorem mo_34 : qMiOk mi_34 = true := by decide +kernel
theorem cw_35 : qGet mi_35.2.2.2.2.2.2.2.2.2.2.1 = some (qCw mi_35) := by rfl
set_option maxRecDepth 100000 in
theorem mo_35 : qMiOk mi_35 = true := by decide +kernel
theorem cw_36 : qGet mi_36.2.2.2.2.2.2.2.2.2.2.1 = some (qCw mi_36) := by rfl
set_option maxRecDepth 100000 in
theorem mo_36 : qMiOk mi_36 = true := by decide +kernel
theorem cw_37 : qGet mi_37.2.2.2.2.2.2.2.2.2.2.1 = some (qCw mi_37) := by rfl
set_option maxRecDepth 100000 in
theorem mo_37 : qMiOk mi_37 = true := by decide +kernel
theorem cw_38 : qGet mi_38.2.2.2.2.2.2.2.2.2.2.1 = some (qCw mi_38) := by rfl
set_option maxRecDepth 100000 in
theorem mo_38 : qMiOk mi_38 = true := by decide +kernel
theorem cw_39 : qGet mi_39.2.2.2.2.2.2.2.2.2.2.1 = some (qCw mi_39) := by rfl
set_option maxRecDepth 100000 in
theorem mo_39 : qMiOk mi_39 = true := by decide +kernel
theorem cw_40 : qGet mi_40.2.2.2.2.2.2.2.2.2.2.1 = some (qCw mi_40) := by rfl
set_option maxRecDepth 100000 in
theorem mo_40 : qMiOk mi_40 = true := by decide +kernel
theorem cw_41 : qGet mi_41.2.2.2.2.2.2.2.2.2.2.1 = some (qCw mi_41) := by rfl
set_option maxRecDepth 100000 in
theorem mo_41 : qMiOk mi_41 = true := by decide +kernel
theorem cw_42 : qGet mi_42.2.2.2.2.2.2.2.2.2.2.1 = some (qCw mi_42) := by rfl
set_option maxRecDepth 100000 in
theorem mo_42 : qMiOk mi_42 = true := by decide +kernel
theorem cw_43 : qGet mi_43.2.2.2.2.2.2.2.2.2.2.1 = some (qCw mi_43) := by rfl
set_option maxRecDepth 100000 in
theorem mo_43 : qMiOk mi_43 = true := by decide +kernel
theorem cw_44 : qGet mi_44.2.2.2.2.2.2.2.2.2.2.1 = some (qCw mi_44) := by rfl
set_option maxRecDepth 100000 in
theorem mo_44 : qMiOk mi_44 = true := by decide +kernel
theorem cw_45 : qGet mi_45.2.2.2.2.2.2.2.2.2.2.1 = some (qCw mi_45) := by rfl
set_option maxRecDepth 100000 in
theorem mo_45 : qMiOk mi_45 = true := by decide +kernel
theorem cw_46 : qGet mi_46.2.2.2.2.2.2.2.2.2.2.1 = some (qCw mi_46) := by rfl
set_option maxRecDepth 100000 in
theorem mo_46 : qMiOk mi_46 = true := by decide +kernel
theorem cw_47 : qGet mi_47.2.2.2.2.2.2.2.2.2.2.1 = some (qCw mi_47) := by rfl
set_option maxRecDepth 100000 in
theorem mo_47 : qMiOk mi_47 = true := by decide +kernel
theorem cw_48 : qGet mi_48.2.2.2.2.2.2.2.2.2.2.1 = some (qCw mi_48) := by rfl
set_option maxRecDepth 100000 in
theorem mo_48 : qMiOk mi_48 = true := by decide +kernel
theorem cw_50 : qGet mi_50.2.2.2.2.2.2.2.2.2.2.1 = some (qCw mi_50) := by rfl
set_option maxRecDepth 100000 in
theorem mo_50 : qMiOk mi_50 = true := by decide +kernel
theorem cw_51 : qGet mi_51.2.2.2.2.2.2.2.2.2.2.1 = some (qCw mi_51) := by rfl
set_option maxRecDepth 100000 in
theorem mo_51 : qMiOk mi_51 = true := by decide +kernel
theorem cw_52 : qGet mi_52.2.2.2.2.2.2.2.2.2.2.1 = some (qCw mi_52) := by rfl
set_option maxRecDepth 100000 in
theorem mo_52 : qMiOk mi_52 = true := by decide +kernel
theorem cw_53 : qGet mi_53.2.2.2.2.2.2.2.2.2.2.1 = some (qCw mi_53) := by rfl
set_option maxRecDepth 100000 in
theorem mo_53 : qMiOk mi_53 = true := by decide +kernel
theorem cw_54 : qGet mi_54.2.2.2.2.2.2.2.2.2.2.1 = some (qCw mi_54) := by rfl
set_option maxRecDepth 100000 in
theorem mo_54 : qMiOk mi_54 = true := by decide +kernel
theorem cw_55 : qGet mi_55.2.2.2.2.2.2.2.2.2.2.1 = some (qCw mi_55) := by rfl
set_option maxRecDepth 100000 in
theorem mo_55 : qMiOk mi_55 = true := by decide +kernel
theorem cw_56 : qGet mi_56.2.2.2.2.2.2.2.2.2.2.1 = some (qCw mi_56) := by rfl
set_option maxRecDepth 100000 in
theorem mo_56 : qMiOk mi_56 = true := by decide +kernel
theorem cw_57 : qGet mi_57.2.2.2.2.2.2.2.2.2.2.1 = some (qCw mi_57) := by rfl
set_option maxRecDepth 100000 in
theorem mo_57 : qMiOk mi_57 = true := by decide +kernel
theorem cw_58 : qGet mi_58.2.2.2.2.2.2.2.2.2.2.1 = some (qCw mi_58) := by rfl
set_option maxRecDepth 100000 in
theorem mo_58 : qMiOk mi_58 = true := by decide +kernel
theorem cw_59 : qGet mi_59.2.2.2.2.2.2.2.2.2.2.1 = some (qCw mi_59) := by rfl
set_option maxRecDepth 100000 in
theorem mo_59 : qMiOk mi_59 = true := by decide +kernel
theorem cw_61 : qGet mi_61.2.2.2.2.2.2.2.2.2.2.1 = some (qCw mi_61) := by rfl
set_option maxRecDepth 100000 in
theorem mo_61 : qMiOk mi_61 = true := by decide +kernel
theorem cw_62 : qGet mi_62.2.2.2.2.2.2.2.2.2.2.1 = some (qCw mi_62) := by rfl
set_option maxRecDepth 100000 in
theorem mo_62 : qMiOk mi_62 = true := by decide +kernel
theorem cw_63 : qGet mi_63.2.2.2.2.2.2.2.2.2.2.1 = some (qCw mi_63) := by rfl
set_option maxRecDepth 100000 in
theorem mo_63 : qMiOk mi_63 = true := by decide +kernel
theorem cw_64 : qGet mi_64.2.2.2.2.2.2.2.2.2.2.1 = some (qCw mi_64) := by rfl
set_option maxRecDepth 100000 in
theorem mo_64 : qMiOk mi_64 = true := by decide +kernel
theorem cw_65 : qGet mi_65.2.2.2.2.2.2.2.2.2.2.1 = some (qCw mi_65) := by rfl
set_option maxRecDepth 100000 in
theorem mo_65 : qMiOk mi_65 = true := by decide +kernel
theorem cw_66 : qGet mi_66.2.2.2.2.2.2.2.2.2.2.1 = some (qCw mi_66) := by rfl
set_option maxRecDepth 100000 in
theorem mo_66 : qMiOk mi_66 = true := by decide +kernel
theorem cw_67 : qGet mi_67.2.2.2.2.2.2.2.2.2.2.1 = some (qCw mi_67) := by rfl
set_option maxRecDepth 100000 in
theorem mo_67 : qMiOk mi_67 = true := by decide +kernel
theorem cw_68 : qGet mi_68.2.2.2.2.2.2.2.2.2.2.1 = some (qCw mi_68) := by rfl
set_option maxRecDepth 100000 in
theorem mo_68 : qMiOk mi_68 = true := by decide +kernel
theorem cw_69 : qGet mi_69.2.2.2.2.2.2.2.2.2.2.1 = some (qCw mi_69) := by rfl
set_option maxRecDepth 100000 in
theorem mo_69 : qMiOk mi_69 = true := by decide +kernel
theorem cw_70 : qGet mi_70.2.2.2.2.2.2.2.2.2.2.1 = some (qCw mi_70) := by rfl
set_option maxRecDepth 100000 in
theorem mo_70 : qMiOk mi_70 = true := by decide +kernel
theorem cw_71 : qGet mi_71.2.2.2.2.2.2.2.2.2.2.1 = some (qCw mi_71) := by rfl
set_option maxRecDepth 100000 in
theorem mo_71 : qMiOk mi_71 = true := by decide +kernel
theorem cw_72 : qGet mi_72.2.2.2.2.2.2.2.2.2.2.1 = some (qCw mi_72) := by rfl
set_option maxRecDepth 100000 in
theorem mo_72 : qMiOk mi_72 = true := by decide +kernel
theorem cw_73 : qGet mi_73.2.2.2.2.2.2.2.2.2.2.1 = some (qCw mi_73) := by rfl
set_option maxRecDepth 100000 in
theorem mo_73 : qMiOk mi_73 = true := by decide +kernel
theorem cw_74 : qGet mi_74.2.2.2.2.2.2.2.2.2.2.1 = some (qCw mi_74) := by rfl
set_option maxRecDepth 100000 in
theorem mo_74 : qMiOk mi_74 = true := by decide +kernel
theorem cw_75 : qGet mi_75.2.2.2.2.2.2.2.2.2.2.1 = some (qCw mi_75) := by rfl
set_option maxRecDepth 100000 in
theorem mo_75 : qMiOk mi_75 = true := by decide +kernel
theorem cw_76 : qGet mi_76.2.2.2.2.2.2.2.2.2.2.1 = some (qCw mi_76) := by rfl
set_option maxRecDepth 100000 in
theorem mo_76 : qMiOk mi_76 = true := by decide +kernel
theorem cw_77 : qGet mi_77.2.2.2.2.2.2.2.2.2.2.1 = some (qCw mi_77) := by rfl
set_option maxRecDepth 100000 in
theorem mo_77 : qMiOk mi_77 = true := by decide +kernel
theorem cw_78 : qGet mi_78.2.2.2.2.2.2.2.2.2.2.1 = some (qCw mi_78) := by rfl
set_option maxRecDepth 100000 in
theorem mo_78 : qMiOk mi_78 = true := by decide +kernel
theorem cw_79 : qGet mi_79.2.2.2.2.2.2.2.2.2.2.1 = some (qCw mi_79) := by rfl
set_option maxRecDepth 100000 in
theorem mo_79 : qMiOk mi_79 = true := by decide +kernel
theorem cw_80 : qGet mi_80.2.2.2.2.2.2.2.2.2.2.1 = some (qCw mi_80) := by rfl
set_option maxRecDepth 100000 in
theorem mo_80 : qMiOk mi_80 = true := by decide +kernel
theorem cw_81 : qGet mi_81.2.2.2.2.2.2.2.2.2.2.1 = some (qCw mi_81) := by rfl
set_option maxRecDepth 100000 in
theorem mo_81 : qMiOk mi_81 = true := by decide +kernel
theorem cw_82 : qGet mi_82.2.2.2.2.2.2.2.2.2.2.1 = some (qCw mi_82) := by rfl
set_option maxRecDepth 100000 in
theorem mo_82 : qMiOk mi_82 = true := by decide +kernel
theorem cw_83 : qGet mi_83.2.2.2.2.2.2.2.2.2.2.1 = some (qCw mi_83) := by rfl
set_option maxRecDepth 100000 in
theorem mo_83 : qMiOk mi_83 = true := by decide +kernel
theorem cw_84 : qGet mi_84.2.2.2.2.2.2.2.2.2.2.1 = some (qCw mi_84) := by rfl
set_option maxRecDepth 100000 in
theorem mo_84 : qMiOk mi_84 = true := by decide +kernel
theorem cw_85 : qGet mi_85.2.2.2.2.2.2.2.2.2.2.1 = some (qCw mi_85) := by rfl
set_option maxRecDepth 100000 in
theorem mo_85 : qMiOk mi_85 = true := by decide +kernel
theorem cw_86 : qGet mi_86.2.2.2.2.2.2.2.2.2.2.1 = some (qCw mi_86) := by rfl
set_option maxRecDepth 100000 in
theorem mo_86 : qMiOk mi_86 = true := by decide +kernel
theorem cw_87 : qGet mi_87.2.2.2.2.2.2.2.2.2.2.1 = some (qCw mi_87) := by rfl
set_option maxRecDepth 100000 in
theorem mo_87 : qMiOk mi_87 = true := by decide +kernel
theorem cw_88 : qGet mi_88.2.2.2.2.2.2.2.2.2.2.1 = some (qCw mi_88) := by rfl
set_option maxRecDepth 100000 in
theorem mo_88 : qMiOk mi_88 = true := by decide +kernel
theorem cw_89 : qGet mi_89.2.2.2.2.2.2.2.2.2.2.1 = some (qCw mi_89) := by rfl
set_option maxRecDepth 100000 in
theorem mo_89 : qMiOk mi_89 = true := by decide +kernel
theorem cw_90 : qGet mi_90.2.2.2.2.2.2.2.2.2.2.1 = some (qCw mi_90) := by rfl
set_option maxRecDepth 100000 in
theorem mo_90 : qMiOk mi_90 = true := by decide +kernel
theorem cw_91 : qGet mi_91.2.2.2.2.2.2.2.2.2.2.1 = some (qCw mi_91) := by rfl
set_option maxRecDepth 100000 in
theorem mo_91 : qMiOk mi_91 = true := by decide +kernel
theorem cw_92 : qGet mi_92.2.2.2.2.2.2.2.2.2.2.1 = some (qCw mi_92) := by rfl
set_option maxRecDepth 100000 in
theorem mo_92 : qMiOk mi_92 = true := by decide +kernel
theorem cw_93 : qGet mi_93.2.2.2.2.2.2.2.2.2.2.1 = some (qCw mi_93) := by rfl
set_option maxRecDepth 100000 in
theorem mo_93 : qMiOk mi_93 = true := by decide +kernel
theorem cw_94 : qGet mi_94.2.2.2.2.2.2.2.2.2.2.1 = some (qCw mi_94) := by rfl
set_option maxRecDepth 100000 in
theorem mo_94 : qMiOk mi_94 = true := by decide +kernel
theorem cw_95 : qGet mi_95.2.2.2.2.2.2.2.2.2.2.1 = some (qCw mi_95) := by rfl
set_option maxRecDepth 100000 in
theorem mo_95 : qMiOk mi_95 = true := by decide +kernel
theorem cw_96 : qGet mi_96.2.2.2.2.2.2.2.2.2.2.1 = some (qCw mi_96) := by rfl
set_option maxRecDepth 100000 in
theorem mo_96 : qMiOk mi_96 = true := by decide +kernel
theorem cw_97 : qGet mi_97.2.2.2.2.2.2.2.2.2.2.1 = some (qCw mi_97) := by rfl
set_option maxRecDepth 100000 in
theorem mo_97 : qMiOk mi_97 = true := by decide +kernel
theorem cw_98 : qGet mi_98.2.2.2.2.2.2.2.2.2.2.1 = some (qCw mi_98) := by rfl
set_option maxRecDepth 100000 in
theorem mo_98 : qMiOk mi_98 = true := by decide +kernel
theorem cw_99 : qGet mi_99.2.2.2.2.2.2.2.2.2.2.1 = some (qCw mi_99) := by rfl
set_option maxRecDepth 100000 in
theorem mo_99 : qMiOk mi_99 = true := by decide +kernel
theorem cw_100 : qGet mi_100.2.2.2.2.2.2.2.2.2.2.1 = some (qCw mi_100) := by rfl
set_option maxRecDepth 100000 in
theorem mo_100 : qMiOk mi_100 = true := by decide +kernel
theorem cw_101 : qGet mi_101.2.2.2.2.2.2.2.2.2.2.1 = some (qCw mi_101) := by rfl
set_option maxRecDepth 100000 in
theorem mo_101 : qMiOk mi_101 = true := by decide +kernel
theorem cw_102 : qGet mi_102.2.2.2.2.2.2.2.2.2.2.1 = some (qCw mi_102) := by rfl
set_option maxRecDepth 100000 in
theorem mo_102 : qMiOk mi_102 = true := by decide +kernel
theorem cw_103 : qGet mi_103.2.2.2.2.2.2.2.2.2.2.1 = some (qCw mi_103) := by rfl
set_option maxRecDepth 100000 in
theorem mo_103 : qMiOk mi_103 = true := by decide +kernel
theorem cw_104 : qGet mi_104.2.2.2.2.2.2.2.2.2.2.1 = some (qCw mi_104) := by rfl
set_option maxRecDepth 100000 in
theorem mo_104 : qMiOk mi_104 = true := by decide +kernel
theorem cw_105 : qGet mi_105.2.2.2.2.2.2.2.2.2.2.1 = some (qCw mi_105) := by rfl
set_option maxRecDepth 100000 in
theorem mo_105 : qMiOk mi_105 = true := by decide +kernel
theorem cw_106 : qGet mi_106.2.2.2.2.2.2.2.2.2.2.1 = some (qCw mi_106) := by rfl
set_option maxRecDepth 100000 in
theorem mo_106 : qMiOk mi_106 = true := by decide +kernel
theorem cw_107 : qGet mi_107.2.2.2.2.2.2.2.2.2.2.1 = some (qCw mi_107) := by rfl
set_option maxRecDepth 100000 in
theorem mo_107 : qMiOk mi_107 = true := by decide +kernel
theorem cw_108 : qGet mi_108.2.2.2.2.2.2.2.2.2.2.1 = some (qCw mi_108) := by rfl
set_option maxRecDepth 100000 in
theorem mo_108 : qMiOk mi_108 = true := by decide +kernel
theorem cw_109 : qGet mi_109.2.2.2.2.2.2.2.2.2.2.1 = some (qCw mi_109) := by rfl
set_option maxRecDepth 100000 in
theorem mo_109 : qMiOk mi_109 = true := by decide +kernel
theorem cw_110 : qGet mi_110.2.2.2.2.2.2.2.2.2.2.1 = some (qCw mi_110) := by rfl
set_option maxRecDepth 100000 in
theorem mo_110 : qMiOk mi_110 = true := by decide +kernel
theorem cw_116 : qGet mi_116.2.2.2.2.2.2.2.2.2.2.1 = some (qCw mi_116) := by rfl
set_option maxRecDepth 100000 in
theorem mo_116 : qMiOk mi_116 = true := by decide +kernel
theorem cw_117 : qGet mi_117.2.2.2.2.2.2.2.2.2.2.1 = some (qCw mi_117) := by rfl
set_option maxRecDepth 100000 in
theorem mo_117 : qMiOk mi_117 = true := by decide +kernel
theorem cw_119 : qGet mi_119.2.2.2.2.2.2.2.2.2.2.1 = some (qCw mi_119) := by rfl
set_option maxRecDepth 100000 in
theorem mo_119 : qMiOk mi_119 = true := by decide +kernel
theorem cw_120 : qGet mi_120.2.2.2.2.2.2.2.2.2.2.1 = some (qCw mi_120) := by rfl
set_option maxRecDepth 100000 in
theorem mo_120 : qMiOk mi_120 = true := by decide +kernel
theorem cw_123 : qGet mi_123.2.2.2.2.2.2.2.2.2.2.1 = some (qCw mi_123) := by rfl
set_option maxRecDepth 100000 in
theorem mo_123 : qMiOk mi_123 = true := by decide +kernel
theorem cw_124 : qGet mi_124.2.2.2.2.2.2.2.2.2.2.1 = some (qCw mi_124) := by rfl
set_option maxRecDepth 100000 in
theorem mo_124 : qMiOk mi_124 = true := by decide +kernel
theorem cw_125 : qGet mi_125.2.2.2.2.2.2.2.2.2.2.1 = some (qCw mi_125) := by rfl
set_option maxRecDepth 100000 in
theorem mo_125 : qMiOk mi_125 = true := by decide +kernel
theorem cw_126 : qGet mi_126.2.2.2.2.2.2.2.2.2.2.1 = some (qCw mi_126) := by rfl
set_option maxRecDepth 100000 in
theorem mo_126 : qMiOk mi_126 = true := by decide +kernel
theorem cw_127 : qGet mi_127.2.2.2.2.2.2.2.2.2.2.1 = some (qCw mi_127) := by rfl
set_option maxRecDepth 100000 in
theorem mo_127 : qMiOk mi_127 = true := by decide +kernel
theorem cw_128 : qGet mi_128.2.2.2.2.2.2.2.2.2.2.1 = some (qCw mi_128) := by rfl
set_option maxRecDepth 100000 in
theorem mo_128 : qMiOk mi_128 = true := by decide +kernel
theorem cw_129 : qGet mi_129.2.2.2.2.2.2.2.2.2.2.1 = some (qCw mi_129) := by rfl
set_option maxRecDepth 100000 in
theorem mo_129 : qMiOk mi_129 = true := by decide +kernel
theorem cw_130 : qGet mi_130.2.2.2.2.2.2.2.2.2.2.1 = some (qCw mi_130) := by rfl
set_option maxRecDepth 100000 in
theorem mo_130 : qMiOk mi_130 = true := by decide +kernel
theorem cw_132 : qGet mi_132.2.2.2.2.2.2.2.2.2.2.1 = some (qCw mi_132) := by rfl
set_option maxRecDepth 100000 in
theorem mo_132 : qMiOk mi_132 = true := by decide +kernel
theorem cw_133 : qGet mi_133.2.2.2.2.2.2.2.2.2.2.1 = some (qCw mi_133) := by rfl
set_option maxRecDepth 100000 in
theorem mo_133 : qMiOk mi_133 = true := by decide +kernel
theorem cw_134 : qGet mi_134.2.2.2.2.2.2.2.2.2.2.1 = some (qCw mi_134) := by rfl
set_option maxRecDepth 100000 in
theorem mo_134 : qMiOk mi_134 = true := by decide +kernel
theorem cw_135 : qGet mi_135.2.2.2.2.2.2.2.2.2.2.1 = some (qCw mi_135) := by rfl
set_option maxRecDepth 100000 in
theorem mo_135 : qMiOk mi_135 = true := by decide +kernel
theorem cw_136 : qGet mi_136.2.2.2.2.2.2.2.2.2.2.1 = some (qCw mi_136) := by rfl
set_option maxRecDepth 100000 in
theorem mo_136 : qMiOk mi_136 = true := by decide +kernel
theorem cw_138 : qGet mi_138.2.2.2.2.2.2.2.2.2.2.1 = some (qCw mi_138) := by rfl
set_option maxRecDepth 100000 in
theorem mo_138 : qMiOk mi_138 = true := by decide +kernel
theorem cw_139 : qGet mi_139.2.2.2.2.2.2.2.2.2.2.1 = some (qCw mi_139) := by rfl
set_option maxRecDepth 100000 in
theorem mo_139 : qMiOk mi_139 = true := by decide +kernel
theorem cw_140 : qGet mi_140.2.2.2.2.2.2.2.2.2.2.1 = some (qCw mi_140) := by rfl
set_option maxRecDepth 100000 in
theorem mo_140 : qMiOk mi_140 = true := by decide +kernel
theorem cw_141 : qGet mi_141.2.2.2.2.2.2.2.2.2.2.1 = some (qCw mi_141) := by rfl
set_option maxRecDepth 100000 in
theorem mo_141 : qMiOk mi_141 = true := by decide +kernel
theorem cw_142 : qGet mi_142.2.2.2.2.2.2.2.2.2.2.1 = some (qCw mi_142) := by rfl
set_option maxRecDepth 100000 in
theorem mo_142 : qMiOk mi_142 = true := by decide +kernel
theorem cw_143 : qGet mi_143.2.2.2.2.2.2.2.2.2.2.1 = some (qCw mi_143) := by rfl
set_option maxRecDepth 100000 in
theorem mo_143 : qMiOk mi_143 = true := by decide +kernel
theorem cw_144 : qGet mi_144.2.2.2.2.2.2.2.2.2.2.1 = some (qCw mi_144) := by rfl
set_option maxRecDepth 100000 in
theorem mo_144 : qMiOk mi_144 = true := by decide +kernel
theorem cw_145 : qGet mi_145.2.2.2.2.2.2.2.2.2.2.1 = some (qCw mi_145) := by rfl
set_option maxRecDepth 100000 in
theorem mo_145 : qMiOk mi_145 = true := by decide +kernel
theorem cw_146 : qGet mi_146.2.2.2.2.2.2.2.2.2.2.1 = some (qCw mi_146) := by rfl
set_option maxRecDepth 100000 in
theorem mo_146 : qMiOk mi_146 = true := by decide +kernel
theorem cw_147 : qGet mi_147.2.2.2.2.2.2.2.2.2.2.1 = some (qCw mi_147) := by rfl
set_option maxRecDepth 100000 in
theorem mo_147 : qMiOk mi_147 = true := by decide +kernel
theorem cw_148 : qGet mi_148.2.2.2.2.2.2.2.2.2.2.1 = some (qCw mi_148) := by rfl
set_option maxRecDepth 100000 in
theorem mo_148 : qMiOk mi_148 = true := by decide +kernel
theorem cw_149 : qGet mi_149.2.2.2.2.2.2.2.2.2.2.1 = some (qCw mi_149) := by rfl
set_option maxRecDepth 100000 in
theorem mo_149 : qMiOk mi_149 = true := by decide +kernel
theorem cw_150 : qGet mi_150.2.2.2.2.2.2.2.2.2.2.1 = some (qCw mi_150) := by rfl
set_option maxRecDepth 100000 in
theorem mo_150 : qMiOk mi_150 = true := by decide +kernel
theorem cw_160 : qGet mi_160.2.2.2.2.2.2.2.2.2.2.1 = some (qCw mi_160) := by rfl
set_option maxRecDepth 100000 in
theorem mo_160 : qMiOk mi_160 = true := by decide +kernel
theorem cw_161 : qGet mi_161.2.2.2.2.2.2.2.2.2.2.1 = some (qCw mi_161) := by rfl
set_option maxRecDepth 100000 in
theorem mo_161 : qMiOk mi_161 = true := by decide +kernel
theorem cw_162 : qGet mi_162.2.2.2.2.2.2.2.2.2.2.1 = some (qCw mi_162) := by rfl
set_option maxRecDepth 100000 in
theorem mo_162 : qMiOk mi_162 = true := by decide +kernel
theorem cw_163 : qGet mi_163.2.2.2.2.2.2.2.2.2.2.1 = some (qCw mi_163) := by rfl
set_option maxRecDepth 100000 in
theorem mo_163 : qMiOk mi_163 = true := by decide +kernel
theorem cw_164 : qGet mi_164.2.2.2.2.2.2.2.2.2.2.1 = some (qCw mi_164) := by rfl
set_option maxRecDepth 100000 in
theorem mo_164 : qMiOk mi_164 = true := by decide +kernel
theorem cw_165 : qGet mi_165.2.2.2.2.2.2.2.2.2.2.1 = some (qCw mi_165) := by rfl
set_option maxRecDepth 100000 in
theorem mo_165 : qMiOk mi_165 = true := by decide +kernel
theorem cw_166 : qGet mi_166.2.2.2.2.2.2.2.2.2.2.1 = some (qCw mi_166) := by rfl
set_option maxRecDepth 100000 in
theorem mo_166 : qMiOk mi_166 = true := by decide +kernel
theorem cw_168 : qGet mi_168.2.2.2.2.2.2.2.2.2.2.1 = some (qCw mi_168) := by rfl
set_option maxRecDepth 100000 in
theorem mo_168 : qMiOk mi_168 = true := by decide +kernel
theorem cw_169 : qGet mi_169.2.2.2.2.2.2.2.2.2.2.1 = some (qCw mi_169) := by rfl
set_option maxRecDepth 100000 in
theorem mo_169 : qMiOk mi_169 = true := by decide +kernel
theorem cw_170 : qGet mi_170.2.2.2.2.2.2.2.2.2.2.1 = some (qCw mi_170) := by rfl
set_option maxRecDepth 100000 in
theorem mo_170 : qMiOk mi_170 = true := by decide +kernel
theorem cw_171 : qGet mi_171.2.2.2.2.2.2.2.2.2.2.1 = some (qCw mi_171) := by rfl
set_option maxRecDepth 100000 in
theorem mo_171 : qMiOk mi_171 = true := by decide +kernel
theorem cw_172 : qGet mi_172.2.2.2.2.2.2.2.2.2.2.1 = some (qCw mi_172) := by rfl
set_option maxRecDepth 100000 in
theorem mo_172 : qMiOk mi_172 = true := by decide +kernel
theorem cw_173 : qGet mi_173.2.2.2.2.2.2.2.2.2.2.1 = some (qCw mi_173) := by rfl
set_option maxRecDepth 100000 in
theorem mo_173 : qMiOk mi_173 = true := by decide +kernel
theorem cw_174 : qGet mi_174.2.2.2.2.2.2.2.2.2.2.1 = some (qCw mi_174) := by rfl
set_option maxRecDepth 100000 in
theorem mo_174 : qMiOk mi_174 = true := by decide +kernel
theorem cw_175 : qGet mi_175.2.2.2.2.2.2.2.2.2.2.1 = some (qCw mi_175) := by rfl
set_option maxRecDepth 100000 in
theorem mo_175 : qMiOk mi_175 = true := by decide +kernel
theorem cw_176 : qGet mi_176.2.2.2.2.2.2.2.2.2.2.1 = some (qCw mi_176) := by rfl
set_option maxRecDepth 100000 in
theorem mo_176 : qMiOk mi_176 = true := by decide +kernel
theorem cw_178 : qGet mi_178.2.2.2.2.2.2.2.2.2.2.1 = some (qCw mi_178) := by rfl
set_option maxRecDepth 100000 in
theorem mo_178 : qMiOk mi_178 = true := by decide +kernel
theorem cw_322 : qGet mi_322.2.2.2.2.2.2.2.2.2.2.1 = some (qCw mi_322) := by rfl
set_option maxRecDepth 100000 in
theorem mo_322 : qMiOk mi_322 = true := by decide +kernel
theorem cw_323 : qGet mi_323.2.2.2.2.2.2.2.2.2.2.1 = some (qCw mi_323) := by rfl
set_option maxRecDepth 100000 in
theorem mo_323 : qMiOk mi_323 = true := by decide +kernel
theorem cw_324 : qGet mi_324.2.2.2.2.2.2.2.2.2.2.1 = some (qCw mi_324) := by rfl
set_option maxRecDepth 100000 in
theorem mo_324 : qMiOk mi_324 = true := by decide +kernel
theorem cw_325 : qGet mi_325.2.2.2.2.2.2.2.2.2.2.1 = some (qCw mi_325) := by rfl
set_option maxRecDepth 100000 in
theorem mo_325 : qMiOk mi_325 = true := by decide +kernel
theorem cw_326 : qGet mi_326.2.2.2.2.2.2.2.2.2.2.1 = some (qCw mi_326) := by rfl
set_option maxRecDepth 100000 in
theorem mo_326 : qMiOk mi_326 = true := by decide +kernel
theorem cw_327 : qGet mi_327.2.2.2.2.2.2.2.2.2.2.1 = some (qCw mi_327) := by rfl
set_option maxRecDepth 100000 in
theorem mo_327 : qMiOk mi_327 = true := by decide +kernel
theorem cw_379 : qGet mi_379.2.2.2.2.2.2.2.2.2.2.1 = some (qCw mi_379) := by rfl
set_option maxRecDepth 100000 in
theorem mo_379 : qMiOk mi_379 = true := by decide +kernel
theorem cw_380 : qGet mi_380.2.2.2.2.2.2.2.2.2.2.1 = some (qCw mi_380) := by rfl
set_option maxRecDepth 100000 in
theorem mo_380 : qMiOk mi_380 = true := by decide +kernel
