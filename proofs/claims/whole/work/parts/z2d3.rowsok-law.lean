set_option maxRecDepth 100000 in
theorem cl_1680 : qSpan 378 1680 60 = true := by decide +kernel
set_option maxRecDepth 100000 in
theorem cl_1740 : qSpan 378 1740 60 = true := by decide +kernel
