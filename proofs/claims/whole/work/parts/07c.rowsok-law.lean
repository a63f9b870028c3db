set_option maxRecDepth 100000 in
theorem cl_960 : qSpan 378 960 60 = true := by decide +kernel
set_option maxRecDepth 100000 in
theorem cl_1020 : qSpan 378 1020 60 = true := by decide +kernel
set_option maxRecDepth 100000 in
theorem cl_1080 : qSpan 378 1080 60 = true := by decide +kernel
set_option maxRecDepth 100000 in
theorem cl_1140 : qSpan 378 1140 60 = true := by decide +kernel
set_option maxRecDepth 100000 in
theorem cl_1200 : qSpan 378 1200 60 = true := by decide +kernel
set_option maxRecDepth 100000 in
theorem cl_1260 : qSpan 378 1260 60 = true := by decide +kernel
set_option maxRecDepth 100000 in
theorem cl_1320 : qSpan 378 1320 60 = true := by decide +kernel
set_option maxRecDepth 100000 in
theorem cl_1380 : qSpan 378 1380 60 = true := by decide +kernel
