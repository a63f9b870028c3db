set_option maxRecDepth 100000 in
theorem cl_1440 : qSpan 378 1440 60 = true := by decide +kernel
set_option maxRecDepth 100000 in
theorem cl_1500 : qSpan 378 1500 60 = true := by decide +kernel
set_option maxRecDepth 100000 in
theorem cl_1560 : qSpan 378 1560 60 = true := by decide +kernel
set_option maxRecDepth 100000 in
theorem cl_1620 : qSpan 378 1620 60 = true := by decide +kernel
set_option maxRecDepth 100000 in
theorem cl_1680 : qSpan 378 1680 60 = true := by decide +kernel
set_option maxRecDepth 100000 in
theorem cl_1740 : qSpan 378 1740 60 = true := by decide +kernel
set_option maxRecDepth 100000 in
theorem cl_1800 : qSpan 378 1800 60 = true := by decide +kernel
set_option maxRecDepth 100000 in
theorem cl_1860 : qSpan 378 1860 60 = true := by decide +kernel
