set_option maxRecDepth 100000 in
theorem cl_120 : qSpan 378 120 60 = true := by decide +kernel
set_option maxRecDepth 100000 in
theorem cl_180 : qSpan 378 180 60 = true := by decide +kernel
