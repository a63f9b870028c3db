set_option maxRecDepth 100000 in
theorem cl_2040 : qSpan 378 2040 60 = true := by decide +kernel
set_option maxRecDepth 100000 in
theorem cl_2100 : qSpan 378 2100 60 = true := by decide +kernel
