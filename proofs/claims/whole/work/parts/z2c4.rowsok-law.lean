set_option maxRecDepth 100000 in
theorem cl_1320 : qSpan 378 1320 60 = true := by decide +kernel
set_option maxRecDepth 100000 in
theorem cl_1380 : qSpan 378 1380 60 = true := by decide +kernel
