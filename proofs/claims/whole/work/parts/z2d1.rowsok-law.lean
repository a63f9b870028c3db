set_option maxRecDepth 100000 in
theorem cl_1440 : qSpan 378 1440 60 = true := by decide +kernel
set_option maxRecDepth 100000 in
theorem cl_1500 : qSpan 378 1500 60 = true := by decide +kernel
