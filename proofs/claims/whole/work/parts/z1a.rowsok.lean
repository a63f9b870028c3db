set_option maxRecDepth 100000 in
theorem ck_0 : qMetOk 0 = true := by decide +kernel
set_option maxRecDepth 100000 in
theorem ck_1 : qMetOk 1 = true := by decide +kernel
set_option maxRecDepth 100000 in
theorem ck_2 : qMetOk 2 = true := by decide +kernel
set_option maxRecDepth 100000 in
theorem ck_3 : qMetOk 3 = true := by decide +kernel
set_option maxRecDepth 100000 in
theorem ck_4 : qMetOk 4 = true := by decide +kernel
set_option maxRecDepth 100000 in
theorem ck_5 : qMetOk 5 = true := by decide +kernel
set_option maxRecDepth 100000 in
theorem ck_6 : qMetOk 6 = true := by decide +kernel
set_option maxRecDepth 100000 in
theorem ck_7 : qMetOk 7 = true := by decide +kernel
set_option maxRecDepth 100000 in
theorem ck_8 : qMetOk 8 = true := by decide +kernel
set_option maxRecDepth 100000 in
theorem ck_9 : qMetOk 9 = true := by decide +kernel
set_option maxRecDepth 100000 in
theorem ck_10 : qMetOk 10 = true := by decide +kernel
set_option maxRecDepth 100000 in
theorem ck_11 : qMetOk 11 = true := by decide +kernel
set_option maxRecDepth 100000 in
theorem ck_12 : qMetOk 12 = true := by decide +kernel
set_option maxRecDepth 100000 in
theorem ck_13 : qMetOk 13 = true := by decide +kernel
set_option maxRecDepth 100000 in
theorem ck_14 : qMetOk 14 = true := by decide +kernel
set_option maxRecDepth 100000 in
theorem ck_15 : qMetOk 15 = true := by decide +kernel
set_option maxRecDepth 100000 in
theorem ck_16 : qMetOk 16 = true := by decide +kernel
set_option maxRecDepth 100000 in
theorem ck_17 : qMetOk 17 = true := by decide +kernel
set_option maxRecDepth 100000 in
theorem ck_18 : qMetOk 18 = true := by decide +kernel
set_option maxRecDepth 100000 in
theorem ck_19 : qMetOk 19 = true := by decide +kernel
set_option maxRecDepth 100000 in
theorem ck_20 : qMetOk 20 = true := by decide +kernel
set_option maxRecDepth 100000 in
theorem ck_21 : qMetOk 21 = true := by decide +kernel
set_option maxRecDepth 100000 in
theorem ck_22 : qMetOk 22 = true := by decide +kernel
set_option maxRecDepth 100000 in
theorem ck_23 : qMetOk 23 = true := by decide +kernel
set_option maxRecDepth 100000 in
theorem ck_24 : qMetOk 24 = true := by decide +kernel
set_option maxRecDepth 100000 in
theorem ck_25 : qMetOk 25 = true := by decide +kernel
set_option maxRecDepth 100000 in
theorem ck_26 : qMetOk 26 = true := by decide +kernel
set_option maxRecDepth 100000 in
theorem ck_27 : qMetOk 27 = true := by decide +kernel
set_option maxRecDepth 100000 in
theorem ck_28 : qMetOk 28 = true := by decide +kernel
set_option maxRecDepth 100000 in
theorem ck_29 : qMetOk 29 = true := by decide +kernel
set_option maxRecDepth 100000 in
theorem ck_30 : qMetOk 30 = true := by decide +kernel
set_option maxRecDepth 100000 in
theorem ck_31 : qMetOk 31 = true := by decide +kernel
set_option maxRecDepth 100000 in
theorem ck_32 : qMetOk 32 = true := by decide +kernel
set_option maxRecDepth 100000 in
theorem ck_33 : qMetOk 33 = true := by decide +kernel
set_option maxRecDepth 100000 in
theorem ck_34 : qMetOk 34 = true := by decide +kernel
set_option maxRecDepth 100000 in
theorem ck_35 : qMetOk 35 = true := by decide +kernel
set_option maxRecDepth 100000 in
theorem ck_36 : qMetOk 36 = true := by decide +kernel
set_option maxRecDepth 100000 in
theorem ck_37 : qMetOk 37 = true := by decide +kernel
set_option maxRecDepth 100000 in
theorem ck_38 : qMetOk 38 = true := by decide +kernel
set_option maxRecDepth 100000 in
theorem ck_39 : qMetOk 39 = true := by decide +kernel
set_option maxRecDepth 100000 in
theorem ck_40 : qMetOk 40 = true := by decide +kernel
set_option maxRecDepth 100000 in
theorem ck_41 : qMetOk 41 = true := by decide +kernel
set_option maxRecDepth 100000 in
theorem ck_42 : qMetOk 42 = true := by decide +kernel
set_option maxRecDepth 100000 in
theorem ck_43 : qMetOk 43 = true := by decide +kernel
set_option maxRecDepth 100000 in
theorem ck_44 : qMetOk 44 = true := by decide +kernel
set_option maxRecDepth 100000 in
theorem ck_45 : qMetOk 45 = true := by decide +kernel
set_option maxRecDepth 100000 in
theorem ck_46 : qMetOk 46 = true := by decide +kernel
set_option maxRecDepth 100000 in
theorem ck_47 : qMetOk 47 = true := by decide +kernel
set_option maxRecDepth 100000 in
theorem ck_48 : qMetOk 48 = true := by decide +kernel
set_option maxRecDepth 100000 in
theorem ck_49 : qMetOk 49 = true := by decide +kernel
set_option maxRecDepth 100000 in
theorem ck_50 : qMetOk 50 = true := by decide +kernel
set_option maxRecDepth 100000 in
theorem ck_51 : qMetOk 51 = true := by decide +kernel
set_option maxRecDepth 100000 in
theorem ck_52 : qMetOk 52 = true := by decide +kernel
set_option maxRecDepth 100000 in
theorem ck_53 : qMetOk 53 = true := by decide +kernel
set_option maxRecDepth 100000 in
theorem ck_54 : qMetOk 54 = true := by decide +kernel
set_option maxRecDepth 100000 in
theorem ck_55 : qMetOk 55 = true := by decide +kernel
set_option maxRecDepth 100000 in
theorem ck_56 : qMetOk 56 = true := by decide +kernel
set_option maxRecDepth 100000 in
theorem ck_57 : qMetOk 57 = true := by decide +kernel
set_option maxRecDepth 100000 in
theorem ck_58 : qMetOk 58 = true := by decide +kernel
set_option maxRecDepth 100000 in
theorem ck_59 : qMetOk 59 = true := by decide +kernel
set_option maxRecDepth 100000 in
theorem ck_60 : qMetOk 60 = true := by decide +kernel
set_option maxRecDepth 100000 in
theorem ck_61 : qMetOk 61 = true := by decide +kernel
set_option maxRecDepth 100000 in
theorem ck_62 : qMetOk 62 = true := by decide +kernel
set_option maxRecDepth 100000 in
theorem ck_63 : qMetOk 63 = true := by decide +kernel
set_option maxRecDepth 100000 in
theorem ck_64 : qMetOk 64 = true := by decide +kernel
set_option maxRecDepth 100000 in
theorem ck_65 : qMetOk 65 = true := by decide +kernel
set_option maxRecDepth 100000 in
theorem ck_66 : qMetOk 66 = true := by decide +kernel
set_option maxRecDepth 100000 in
theorem ck_67 : qMetOk 67 = true := by decide +kernel
set_option maxRecDepth 100000 in
theorem ck_68 : qMetOk 68 = true := by decide +kernel
set_option maxRecDepth 100000 in
theorem ck_69 : qMetOk 69 = true := by decide +kernel
set_option maxRecDepth 100000 in
theorem ck_70 : qMetOk 70 = true := by decide +kernel
set_option maxRecDepth 100000 in
theorem ck_71 : qMetOk 71 = true := by decide +kernel
set_option maxRecDepth 100000 in
theorem ck_72 : qMetOk 72 = true := by decide +kernel
set_option maxRecDepth 100000 in
theorem ck_73 : qMetOk 73 = true := by decide +kernel
set_option maxRecDepth 100000 in
theorem ck_74 : qMetOk 74 = true := by decide +kernel
set_option maxRecDepth 100000 in
theorem ck_75 : qMetOk 75 = true := by decide +kernel
set_option maxRecDepth 100000 in
theorem ck_76 : qMetOk 76 = true := by decide +kernel
set_option maxRecDepth 100000 in
theorem ck_77 : qMetOk 77 = true := by decide +kernel
set_option maxRecDepth 100000 in
theorem ck_78 : qMetOk 78 = true := by decide +kernel
set_option maxRecDepth 100000 in
theorem ck_79 : qMetOk 79 = true := by decide +kernel
set_option maxRecDepth 100000 in
theorem ck_80 : qMetOk 80 = true := by decide +kernel
set_option maxRecDepth 100000 in
theorem ck_81 : qMetOk 81 = true := by decide +kernel
set_option maxRecDepth 100000 in
theorem ck_82 : qMetOk 82 = true := by decide +kernel
set_option maxRecDepth 100000 in
theorem ck_83 : qMetOk 83 = true := by decide +kernel
set_option maxRecDepth 100000 in
theorem ck_84 : qMetOk 84 = true := by decide +kernel
set_option maxRecDepth 100000 in
theorem ck_85 : qMetOk 85 = true := by decide +kernel
set_option maxRecDepth 100000 in
theorem ck_86 : qMetOk 86 = true := by decide +kernel
set_option maxRecDepth 100000 in
theorem ck_87 : qMetOk 87 = true := by decide +kernel
set_option maxRecDepth 100000 in
theorem ck_88 : qMetOk 88 = true := by decide +kernel
set_option maxRecDepth 100000 in
theorem ck_89 : qMetOk 89 = true := by decide +kernel
set_option maxRecDepth 100000 in
theorem ck_90 : qMetOk 90 = true := by decide +kernel
set_option maxRecDepth 100000 in
theorem ck_91 : qMetOk 91 = true := by decide +kernel
set_option maxRecDepth 100000 in
theorem ck_92 : qMetOk 92 = true := by decide +kernel
set_option maxRecDepth 100000 in
theorem ck_93 : qMetOk 93 = true := by decide +kernel
set_option maxRecDepth 100000 in
theorem ck_94 : qMetOk 94 = true := by decide +kernel
set_option maxRecDepth 100000 in
theorem ck_95 : qMetOk 95 = true := by decide +kernel
set_option maxRecDepth 100000 in
theorem ck_96 : qMetOk 96 = true := by decide +kernel
set_option maxRecDepth 100000 in
theorem ck_97 : qMetOk 97 = true := by decide +kernel
set_option maxRecDepth 100000 in
theorem ck_98 : qMetOk 98 = true := by decide +kernel
set_option maxRecDepth 100000 in
theorem ck_99 : qMetOk 99 = true := by decide +kernel
