set_option maxRecDepth 100000 in
theorem cl_1560 : qSpan 378 1560 60 = true := by decide +kernel
set_option maxRecDepth 100000 in
theorem cl_1620 : qSpan 378 1620 60 = true := by decide +kernel
