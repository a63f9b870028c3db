set_option maxRecDepth 100000 in
theorem cm_1860 : qSpan 378 1860 20 = true := by decide +kernel
set_option maxRecDepth 100000 in
theorem cm_1880 : qSpan 378 1880 20 = true := by decide +kernel
set_option maxRecDepth 100000 in
theorem cm_1900 : qSpan 378 1900 20 = true := by decide +kernel
theorem cl_1860 : qSpan 378 1860 60 = true := qSpan_add (n := 40) (qSpan_add (n := 20) cm_1860 20 cm_1880) 20 cm_1900
