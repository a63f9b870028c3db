set_option maxRecDepth 100000 in
theorem cl_0 : qSpan 378 0 60 = true := by decide +kernel
set_option maxRecDepth 100000 in
theorem cl_60 : qSpan 378 60 60 = true := by decide +kernel
set_option maxRecDepth 100000 in
theorem cl_120 : qSpan 378 120 60 = true := by decide +kernel
set_option maxRecDepth 100000 in
theorem cl_180 : qSpan 378 180 60 = true := by decide +kernel
set_option maxRecDepth 100000 in
theorem cl_240 : qSpan 378 240 60 = true := by decide +kernel
set_option maxRecDepth 100000 in
theorem cl_300 : qSpan 378 300 60 = true := by decide +kernel
set_option maxRecDepth 100000 in
theorem cl_360 : qSpan 378 360 60 = true := by decide +kernel
set_option maxRecDepth 100000 in
theorem cl_420 : qSpan 378 420 60 = true := by decide +kernel
