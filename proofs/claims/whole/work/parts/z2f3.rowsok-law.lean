set_option maxRecDepth 100000 in
theorem cm_1920 : qSpan 378 1920 20 = true := by decide +kernel
set_option maxRecDepth 100000 in
theorem cm_1940 : qSpan 378 1940 20 = true := by decide +kernel
set_option maxRecDepth 100000 in
theorem cm_1960 : qSpan 378 1960 20 = true := by decide +kernel
theorem cl_1920 : qSpan 378 1920 60 = true := qSpan_add (n := 40) (qSpan_add (n := 20) cm_1920 20 cm_1940) 20 cm_1960
