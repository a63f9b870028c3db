set_option maxRecDepth 100000 in
theorem cl_2280 : qSpan 378 2280 59 = true := by decide +kernel
