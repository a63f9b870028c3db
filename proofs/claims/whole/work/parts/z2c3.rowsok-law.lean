set_option maxRecDepth 100000 in
theorem cl_1200 : qSpan 378 1200 60 = true := by decide +kernel
set_option maxRecDepth 100000 in
theorem cl_1260 : qSpan 378 1260 60 = true := by decide +kernel
