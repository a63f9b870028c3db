set_option maxRecDepth 100000 in
theorem cm_2280 : qSpan 378 2280 20 = true := by decide +kernel
set_option maxRecDepth 100000 in
theorem cm_2300 : qSpan 378 2300 20 = true := by decide +kernel
set_option maxRecDepth 100000 in
theorem cm_2320 : qSpan 378 2320 19 = true := by decide +kernel
theorem cl_2280 : qSpan 378 2280 59 = true := qSpan_add (n := 40) (qSpan_add (n := 20) cm_2280 20 cm_2300) 19 cm_2320
