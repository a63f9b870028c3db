set_option maxRecDepth 100000 in
theorem cl_0 : qSpan 378 0 60 = true := by decide +kernel
set_option maxRecDepth 100000 in
theorem cl_60 : qSpan 378 60 60 = true := by decide +kernel
