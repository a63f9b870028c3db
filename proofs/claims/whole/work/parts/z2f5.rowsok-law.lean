set_option maxRecDepth 100000 in
theorem cm_2040 : qSpan 378 2040 20 = true := by decide +kernel
set_option maxRecDepth 100000 in
theorem cm_2060 : qSpan 378 2060 20 = true := by decide +kernel
set_option maxRecDepth 100000 in
theorem cm_2080 : qSpan 378 2080 20 = true := by decide +kernel
theorem cl_2040 : qSpan 378 2040 60 = true := qSpan_add (n := 40) (qSpan_add (n := 20) cm_2040 20 cm_2060) 20 cm_2080
