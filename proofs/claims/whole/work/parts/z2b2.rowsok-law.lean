set_option maxRecDepth 100000 in
theorem cl_600 : qSpan 378 600 60 = true := by decide +kernel
set_option maxRecDepth 100000 in
theorem cl_660 : qSpan 378 660 60 = true := by decide +kernel
