set_option maxRecDepth 100000 in
theorem cl_1920 : qSpan 378 1920 60 = true := by decide +kernel
set_option maxRecDepth 100000 in
theorem cl_1980 : qSpan 378 1980 60 = true := by decide +kernel
set_option maxRecDepth 100000 in
theorem cl_2040 : qSpan 378 2040 60 = true := by decide +kernel
set_option maxRecDepth 100000 in
theorem cl_2100 : qSpan 378 2100 60 = true := by decide +kernel
set_option maxRecDepth 100000 in
theorem cl_2160 : qSpan 378 2160 60 = true := by decide +kernel
set_option maxRecDepth 100000 in
theorem cl_2220 : qSpan 378 2220 60 = true := by decide +kernel
set_option maxRecDepth 100000 in
theorem cl_2280 : qSpan 378 2280 59 = true := by decide +kernel
