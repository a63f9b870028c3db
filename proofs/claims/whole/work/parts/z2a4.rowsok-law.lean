set_option maxRecDepth 100000 in
theorem cl_360 : qSpan 378 360 60 = true := by decide +kernel
set_option maxRecDepth 100000 in
theorem cl_420 : qSpan 378 420 60 = true := by decide +kernel
