set_option maxRecDepth 100000 in
theorem cm_1980 : qSpan 378 1980 20 = true := by decide +kernel
set_option maxRecDepth 100000 in
theorem cm_2000 : qSpan 378 2000 20 = true := by decide +kernel
set_option maxRecDepth 100000 in
theorem cm_2020 : qSpan 378 2020 20 = true := by decide +kernel
theorem cl_1980 : qSpan 378 1980 60 = true := qSpan_add (n := 40) (qSpan_add (n := 20) cm_1980 20 cm_2000) 20 cm_2020
