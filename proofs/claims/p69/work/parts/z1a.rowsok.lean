set_option maxRecDepth 100000 in
theorem ck_0 : qMetOk 0 = true := by decide +kernel
set_option maxRecDepth 100000 in
theorem ck_1 : qMetOk 1 = true := by decide +kernel
set_option maxRecDepth 100000 in
theorem ck_3 : qMetOk 3 = true := by decide +kernel
set_option maxRecDepth 100000 in
theorem ck_4 : qMetOk 4 = true := by decide +kernel
set_option maxRecDepth 100000 in
theorem ck_5 : qMetOk 5 = true := by decide +kernel
set_option maxRecDepth 100000 in
theorem ck_6 : qMetOk 6 = true := by decide +kernel
set_option maxRecDepth 100000 in
theorem ck_7 : qMetOk 7 = true := by decide +kernel
set_option maxRecDepth 100000 in
theorem ck_8 : qMetOk 8 = true := by decide +kernel
set_option maxRecDepth 100000 in
theorem ck_10 : qMetOk 10 = true := by decide +kernel
set_option maxRecDepth 100000 in
theorem ck_11 : qMetOk 11 = true := by decide +kernel
set_option maxRecDepth 100000 in
theorem ck_12 : qMetOk 12 = true := by decide +kernel
set_option maxRecDepth 100000 in
theorem ck_13 : qMetOk 13 = true := by decide +kernel
set_option maxRecDepth 100000 in
theorem ck_14 : qMetOk 14 = true := by decide +kernel
set_option maxRecDepth 100000 in
theorem ck_21 : qMetOk 21 = true := by decide +kernel
set_option maxRecDepth 100000 in
theorem ck_22 : qMetOk 22 = true := by decide +kernel
set_option maxRecDepth 100000 in
theorem ck_23 : qMetOk 23 = true := by decide +kernel
set_option maxRecDepth 100000 in
theorem ck_24 : qMetOk 24 = true := by decide +kernel
set_option maxRecDepth 100000 in
theorem ck_25 : qMetOk 25 = true := by decide +kernel
set_option maxRecDepth 100000 in
theorem ck_26 : qMetOk 26 = true := by decide +kernel
set_option maxRecDepth 100000 in
theorem ck_27 : qMetOk 27 = true := by decide +kernel
set_option maxRecDepth 100000 in
theorem ck_28 : qMetOk 28 = true := by decide +kernel
set_option maxRecDepth 100000 in
theorem ck_29 : qMetOk 29 = true := by decide +kernel
set_option maxRecDepth 100000 in
theorem ck_30 : qMetOk 30 = true := by decide +kernel
set_option maxRecDepth 100000 in
theorem ck_31 : qMetOk 31 = true := by decide +kernel
set_option maxRecDepth 100000 in
theorem ck_32 : qMetOk 32 = true := by decide +kernel
set_option maxRecDepth 100000 in
theorem ck_33 : qMetOk 33 = true := by decide +kernel
set_option maxRecDepth 100000 in
theorem ck_34 : qMetOk 34 = true := by decide +kernel
set_option maxRecDepth 100000 in
theorem ck_35 : qMetOk 35 = true := by decide +kernel
set_option maxRecDepth 100000 in
theorem ck_36 : qMetOk 36 = true := by decide +kernel
set_option maxRecDepth 100000 in
theorem ck_37 : qMetOk 37 = true := by decide +kernel
set_option maxRecDepth 100000 in
theorem ck_38 : qMetOk 38 = true := by decide +kernel
set_option maxRecDepth 100000 in
theorem ck_39 : qMetOk 39 = true := by decide +kernel
set_option maxRecDepth 100000 in
theorem ck_40 : qMetOk 40 = true := by decide +kernel
set_option maxRecDepth 100000 in
theorem ck_41 : qMetOk 41 = true := by decide +kernel
set_option maxRecDepth 100000 in
theorem ck_42 : qMetOk 42 = true := by decide +kernel
set_option maxRecDepth 100000 in
theorem ck_43 : qMetOk 43 = true := by decide +kernel
set_option maxRecDepth 100000 in
theorem ck_44 : qMetOk 44 = true := by decide +kernel
set_option maxRecDepth 100000 in
theorem ck_45 : qMetOk 45 = true := by decide +kernel
set_option maxRecDepth 100000 in
theorem ck_46 : qMetOk 46 = true := by decide +kernel
set_option maxRecDepth 100000 in
theorem ck_47 : qMetOk 47 = true := by decide +kernel
