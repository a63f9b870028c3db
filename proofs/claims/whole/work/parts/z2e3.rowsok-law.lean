set_option maxRecDepth 100000 in
theorem cl_2160 : qSpan 378 2160 60 = true := by decide +kernel
set_option maxRecDepth 100000 in
theorem cl_2220 : qSpan 378 2220 60 = true := by decide +kernel
