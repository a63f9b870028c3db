set_option maxRecDepth 100000 in
theorem cl_0 : qSpan 378 0 60 = true := by decide +kernel
set_option maxRecDepth 100000 in
theorem cl_60 : qSpan 378 60 60 = true := by decide +kernel
set_option maxRecDepth 100000 in
theorem cl_120 : qSpan 378 120 60 = true := by decide +kernel
set_option maxRecDepth 100000 in
theorem cl_180 : qSpan 378 180 60 = true := by decide +kernel
set_option maxRecDepth 100000 in
theorem cl_240 : qSpan 378 240 60 = true := by decide +kernel
set_option maxRecDepth 100000 in
theorem cl_300 : qSpan 378 300 60 = true := by decide +kernel
set_option maxRecDepth 100000 in
theorem cl_360 : qSpan 378 360 60 = true := by decide +kernel
set_option maxRecDepth 100000 in
theorem cl_420 : qSpan 378 420 60 = true := by decide +kernel
set_option maxRecDepth 100000 in
theorem cl_480 : qSpan 378 480 60 = true := by decide +kernel
set_option maxRecDepth 100000 in
theorem cl_540 : qSpan 378 540 60 = true := by decide +kernel
set_option maxRecDepth 100000 in
theorem cl_600 : qSpan 378 600 60 = true := by decide +kernel
set_option maxRecDepth 100000 in
theorem cl_660 : qSpan 378 660 60 = true := by decide +kernel
set_option maxRecDepth 100000 in
theorem cl_720 : qSpan 378 720 60 = true := by decide +kernel
set_option maxRecDepth 100000 in
theorem cl_780 : qSpan 378 780 60 = true := by decide +kernel
set_option maxRecDepth 100000 in
theorem cl_840 : qSpan 378 840 60 = true := by decide +kernel
set_option maxRecDepth 100000 in
theorem cl_900 : qSpan 378 900 60 = true := by decide +kernel
set_option maxRecDepth 100000 in
theorem cl_960 : qSpan 378 960 60 = true := by decide +kernel
set_option maxRecDepth 100000 in
theorem cl_1020 : qSpan 378 1020 60 = true := by decide +kernel
set_option maxRecDepth 100000 in
theorem cl_1080 : qSpan 378 1080 60 = true := by decide +kernel
set_option maxRecDepth 100000 in
theorem cl_1140 : qSpan 378 1140 60 = true := by decide +kernel
set_option maxRecDepth 100000 in
theorem cl_1200 : qSpan 378 1200 60 = true := by decide +kernel
set_option maxRecDepth 100000 in
theorem cl_1260 : qSpan 378 1260 60 = true := by decide +kernel
set_option maxRecDepth 100000 in
theorem cl_1320 : qSpan 378 1320 60 = true := by decide +kernel
set_option maxRecDepth 100000 in
theorem cl_1380 : qSpan 378 1380 60 = true := by decide +kernel
set_option maxRecDepth 100000 in
theorem cl_1440 : qSpan 378 1440 60 = true := by decide +kernel
set_option maxRecDepth 100000 in
theorem cl_1500 : qSpan 378 1500 60 = true := by decide +kernel
set_option maxRecDepth 100000 in
theorem cl_1560 : qSpan 378 1560 60 = true := by decide +kernel
set_option maxRecDepth 100000 in
theorem cl_1620 : qSpan 378 1620 60 = true := by decide +kernel
set_option maxRecDepth 100000 in
theorem cl_1680 : qSpan 378 1680 60 = true := by decide +kernel
set_option maxRecDepth 100000 in
theorem cl_1740 : qSpan 378 1740 60 = true := by decide +kernel
set_option maxRecDepth 100000 in
theorem cl_1800 : qSpan 378 1800 60 = true := by decide +kernel
set_option maxRecDepth 100000 in
theorem cl_1860 : qSpan 378 1860 60 = true := by decide +kernel
set_option maxRecDepth 100000 in
theorem cl_1920 : qSpan 378 1920 60 = true := by decide +kernel
set_option maxRecDepth 100000 in
theorem cl_1980 : qSpan 378 1980 60 = true := by decide +kernel
set_option maxRecDepth 100000 in
theorem cl_2040 : qSpan 378 2040 60 = true := by decide +kernel
set_option maxRecDepth 100000 in
theorem cl_2100 : qSpan 378 2100 60 = true := by decide +kernel
set_option maxRecDepth 100000 in
theorem cl_2160 : qSpan 378 2160 60 = true := by decide +kernel
set_option maxRecDepth 100000 in
theorem cl_2220 : qSpan 378 2220 60 = true := by decide +kernel
set_option maxRecDepth 100000 in
theorem cl_2280 : qSpan 378 2280 59 = true := by decide +kernel
