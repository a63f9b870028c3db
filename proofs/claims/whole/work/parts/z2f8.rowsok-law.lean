set_option maxRecDepth 100000 in
theorem cm_2220 : qSpan 378 2220 20 = true := by decide +kernel
set_option maxRecDepth 100000 in
theorem cm_2240 : qSpan 378 2240 20 = true := by decide +kernel
set_option maxRecDepth 100000 in
theorem cm_2260 : qSpan 378 2260 20 = true := by decide +kernel
theorem cl_2220 : qSpan 378 2220 60 = true := qSpan_add (n := 40) (qSpan_add (n := 20) cm_2220 20 cm_2240) 20 cm_2260
