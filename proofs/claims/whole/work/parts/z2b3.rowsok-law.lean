set_option maxRecDepth 100000 in
theorem cl_720 : qSpan 378 720 60 = true := by decide +kernel
set_option maxRecDepth 100000 in
theorem cl_780 : qSpan 378 780 60 = true := by decide +kernel
