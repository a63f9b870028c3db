set_option maxRecDepth 100000 in
theorem ck_48 : qMetOk 48 = true := by decide +kernel
set_option maxRecDepth 100000 in
theorem ck_50 : qMetOk 50 = true := by decide +kernel
set_option maxRecDepth 100000 in
theorem ck_51 : qMetOk 51 = true := by decide +kernel
set_option maxRecDepth 100000 in
theorem ck_52 : qMetOk 52 = true := by decide +kernel
set_option maxRecDepth 100000 in
theorem ck_53 : qMetOk 53 = true := by decide +kernel
set_option maxRecDepth 100000 in
theorem ck_54 : qMetOk 54 = true := by decide +kernel
set_option maxRecDepth 100000 in
theorem ck_55 : qMetOk 55 = true := by decide +kernel
set_option maxRecDepth 100000 in
theorem ck_56 : qMetOk 56 = true := by decide +kernel
set_option maxRecDepth 100000 in
theorem ck_57 : qMetOk 57 = true := by decide +kernel
set_option maxRecDepth 100000 in
theorem ck_58 : qMetOk 58 = true := by decide +kernel
set_option maxRecDepth 100000 in
theorem ck_59 : qMetOk 59 = true := by decide +kernel
set_option maxRecDepth 100000 in
theorem ck_61 : qMetOk 61 = true := by decide +kernel
set_option maxRecDepth 100000 in
theorem ck_62 : qMetOk 62 = true := by decide +kernel
set_option maxRecDepth 100000 in
theorem ck_63 : qMetOk 63 = true := by decide +kernel
set_option maxRecDepth 100000 in
theorem ck_64 : qMetOk 64 = true := by decide +kernel
set_option maxRecDepth 100000 in
theorem ck_65 : qMetOk 65 = true := by decide +kernel
set_option maxRecDepth 100000 in
theorem ck_66 : qMetOk 66 = true := by decide +kernel
set_option maxRecDepth 100000 in
theorem ck_67 : qMetOk 67 = true := by decide +kernel
set_option maxRecDepth 100000 in
theorem ck_68 : qMetOk 68 = true := by decide +kernel
set_option maxRecDepth 100000 in
theorem ck_69 : qMetOk 69 = true := by decide +kernel
set_option maxRecDepth 100000 in
theorem ck_70 : qMetOk 70 = true := by decide +kernel
set_option maxRecDepth 100000 in
theorem ck_71 : qMetOk 71 = true := by decide +kernel
set_option maxRecDepth 100000 in
theorem ck_72 : qMetOk 72 = true := by decide +kernel
set_option maxRecDepth 100000 in
theorem ck_73 : qMetOk 73 = true := by decide +kernel
set_option maxRecDepth 100000 in
theorem ck_74 : qMetOk 74 = true := by decide +kernel
set_option maxRecDepth 100000 in
theorem ck_75 : qMetOk 75 = true := by decide +kernel
set_option maxRecDepth 100000 in
theorem ck_76 : qMetOk 76 = true := by decide +kernel
set_option maxRecDepth 100000 in
theorem ck_77 : qMetOk 77 = true := by decide +kernel
set_option maxRecDepth 100000 in
theorem ck_78 : qMetOk 78 = true := by decide +kernel
set_option maxRecDepth 100000 in
theorem ck_79 : qMetOk 79 = true := by decide +kernel
set_option maxRecDepth 100000 in
theorem ck_80 : qMetOk 80 = true := by decide +kernel
set_option maxRecDepth 100000 in
theorem ck_81 : qMetOk 81 = true := by decide +kernel
set_option maxRecDepth 100000 in
theorem ck_82 : qMetOk 82 = true := by decide +kernel
set_option maxRecDepth 100000 in
theorem ck_83 : qMetOk 83 = true := by decide +kernel
set_option maxRecDepth 100000 in
theorem ck_84 : qMetOk 84 = true := by decide +kernel
set_option maxRecDepth 100000 in
theorem ck_85 : qMetOk 85 = true := by decide +kernel
set_option maxRecDepth 100000 in
theorem ck_86 : qMetOk 86 = true := by decide +kernel
set_option maxRecDepth 100000 in
theorem ck_87 : qMetOk 87 = true := by decide +kernel
set_option maxRecDepth 100000 in
theorem ck_88 : qMetOk 88 = true := by decide +kernel
set_option maxRecDepth 100000 in
theorem ck_89 : qMetOk 89 = true := by decide +kernel
