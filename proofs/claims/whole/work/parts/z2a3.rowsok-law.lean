set_option maxRecDepth 100000 in
theorem cl_240 : qSpan 378 240 60 = true := by decide +kernel
set_option maxRecDepth 100000 in
theorem cl_300 : qSpan 378 300 60 = true := by decide +kernel
