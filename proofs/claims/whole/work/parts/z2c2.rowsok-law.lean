set_option maxRecDepth 100000 in
theorem cl_1080 : qSpan 378 1080 60 = true := by decide +kernel
set_option maxRecDepth 100000 in
theorem cl_1140 : qSpan 378 1140 60 = true := by decide +kernel
