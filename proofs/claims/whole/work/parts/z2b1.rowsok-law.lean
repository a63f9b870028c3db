set_option maxRecDepth 100000 in
theorem cl_480 : qSpan 378 480 60 = true := by decide +kernel
set_option maxRecDepth 100000 in
theorem cl_540 : qSpan 378 540 60 = true := by decide +kernel
