set_option maxRecDepth 100000 in
theorem cl_960 : qSpan 378 960 60 = true := by decide +kernel
set_option maxRecDepth 100000 in
theorem cl_1020 : qSpan 378 1020 60 = true := by decide +kernel
