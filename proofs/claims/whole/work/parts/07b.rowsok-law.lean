set_option maxRecDepth 100000 in
theorem cl_480 : qSpan 378 480 60 = true := by decide +kernel
set_option maxRecDepth 100000 in
theorem cl_540 : qSpan 378 540 60 = true := by decide +kernel
set_option maxRecDepth 100000 in
theorem cl_600 : qSpan 378 600 60 = true := by decide +kernel
set_option maxRecDepth 100000 in
theorem cl_660 : qSpan 378 660 60 = true := by decide +kernel
set_option maxRecDepth 100000 in
theorem cl_720 : qSpan 378 720 60 = true := by decide +kernel
set_option maxRecDepth 100000 in
theorem cl_780 : qSpan 378 780 60 = true := by decide +kernel
set_option maxRecDepth 100000 in
theorem cl_840 : qSpan 378 840 60 = true := by decide +kernel
set_option maxRecDepth 100000 in
theorem cl_900 : qSpan 378 900 60 = true := by decide +kernel
