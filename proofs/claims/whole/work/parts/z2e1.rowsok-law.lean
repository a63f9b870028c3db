set_option maxRecDepth 100000 in
theorem cl_1920 : qSpan 378 1920 60 = true := by decide +kernel
set_option maxRecDepth 100000 in
theorem cl_1980 : qSpan 378 1980 60 = true := by decide +kernel
