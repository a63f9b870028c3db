set_option maxRecDepth 100000 in
theorem cm_1800 : qSpan 378 1800 20 = true := by decide +kernel
set_option maxRecDepth 100000 in
theorem cm_1820 : qSpan 378 1820 20 = true := by decide +kernel
set_option maxRecDepth 100000 in
theorem cm_1840 : qSpan 378 1840 20 = true := by decide +kernel
theorem cl_1800 : qSpan 378 1800 60 = true := qSpan_add (n := 40) (qSpan_add (n := 20) cm_1800 20 cm_1820) 20 cm_1840
