set_option maxRecDepth 100000 in
theorem cl_1800 : qSpan 378 1800 60 = true := by decide +kernel
set_option maxRecDepth 100000 in
theorem cl_1860 : qSpan 378 1860 60 = true := by decide +kernel
