set_option maxRecDepth 100000 in
theorem cm_2100 : qSpan 378 2100 20 = true := by decide +kernel
set_option maxRecDepth 100000 in
theorem cm_2120 : qSpan 378 2120 20 = true := by decide +kernel
set_option maxRecDepth 100000 in
theorem cm_2140 : qSpan 378 2140 20 = true := by decide +kernel
theorem cl_2100 : qSpan 378 2100 60 = true := qSpan_add (n := 40) (qSpan_add (n := 20) cm_2100 20 cm_2120) 20 cm_2140
