set_option maxRecDepth 100000 in
theorem cm_2160 : qSpan 378 2160 20 = true := by decide +kernel
set_option maxRecDepth 100000 in
theorem cm_2180 : qSpan 378 2180 20 = true := by decide +kernel
set_option maxRecDepth 100000 in
theorem cm_2200 : qSpan 378 2200 20 = true := by decide +kernel
theorem cl_2160 : qSpan 378 2160 60 = true := qSpan_add (n := 40) (qSpan_add (n := 20) cm_2160 20 cm_2180) 20 cm_2200
