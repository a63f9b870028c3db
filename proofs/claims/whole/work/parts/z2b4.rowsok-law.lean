set_option maxRecDepth 100000 in
theorem cl_840 : qSpan 378 840 60 = true := by decide +kernel
set_option maxRecDepth 100000 in
theorem cl_900 : qSpan 378 900 60 = true := by decide +kernel
