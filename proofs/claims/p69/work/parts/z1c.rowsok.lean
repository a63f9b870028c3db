set_option maxRecDepth 100000 in
theorem ck_90 : qMetOk 90 = true := by decide +kernel
set_option maxRecDepth 100000 in
theorem ck_91 : qMetOk 91 = true := by decide +kernel
set_option maxRecDepth 100000 in
theorem ck_92 : qMetOk 92 = true := by decide +kernel
set_option maxRecDepth 100000 in
theorem ck_93 : qMetOk 93 = true := by decide +kernel
set_option maxRecDepth 100000 in
theorem ck_94 : qMetOk 94 = true := by decide +kernel
set_option maxRecDepth 100000 in
theorem ck_95 : qMetOk 95 = true := by decide +kernel
set_option maxRecDepth 100000 in
theorem ck_96 : qMetOk 96 = true := by decide +kernel
set_option maxRecDepth 100000 in
theorem ck_97 : qMetOk 97 = true := by decide +kernel
set_option maxRecDepth 100000 in
theorem ck_98 : qMetOk 98 = true := by decide +kernel
set_option maxRecDepth 100000 in
theorem ck_99 : qMetOk 99 = true := by decide +kernel
set_option maxRecDepth 100000 in
theorem ck_100 : qMetOk 100 = true := by decide +kernel
set_option maxRecDepth 100000 in
theorem ck_101 : qMetOk 101 = true := by decide +kernel
set_option maxRecDepth 100000 in
theorem ck_102 : qMetOk 102 = true := by decide +kernel
set_option maxRecDepth 100000 in
theorem ck_103 : qMetOk 103 = true := by decide +kernel
set_option maxRecDepth 100000 in
theorem ck_104 : qMetOk 104 = true := by decide +kernel
set_option maxRecDepth 100000 in
theorem ck_105 : qMetOk 105 = true := by decide +kernel
set_option maxRecDepth 100000 in
theorem ck_106 : qMetOk 106 = true := by decide +kernel
set_option maxRecDepth 100000 in
theorem ck_107 : qMetOk 107 = true := by decide +kernel
set_option maxRecDepth 100000 in
theorem ck_108 : qMetOk 108 = true := by decide +kernel
set_option maxRecDepth 100000 in
theorem ck_109 : qMetOk 109 = true := by decide +kernel
set_option maxRecDepth 100000 in
theorem ck_110 : qMetOk 110 = true := by decide +kernel
set_option maxRecDepth 100000 in
theorem ck_116 : qMetOk 116 = true := by decide +kernel
set_option maxRecDepth 100000 in
theorem ck_117 : qMetOk 117 = true := by decide +kernel
set_option maxRecDepth 100000 in
theorem ck_119 : qMetOk 119 = true := by decide +kernel
set_option maxRecDepth 100000 in
theorem ck_120 : qMetOk 120 = true := by decide +kernel
set_option maxRecDepth 100000 in
theorem ck_123 : qMetOk 123 = true := by decide +kernel
set_option maxRecDepth 100000 in
theorem ck_124 : qMetOk 124 = true := by decide +kernel
set_option maxRecDepth 100000 in
theorem ck_125 : qMetOk 125 = true := by decide +kernel
set_option maxRecDepth 100000 in
theorem ck_126 : qMetOk 126 = true := by decide +kernel
set_option maxRecDepth 100000 in
theorem ck_127 : qMetOk 127 = true := by decide +kernel
set_option maxRecDepth 100000 in
theorem ck_128 : qMetOk 128 = true := by decide +kernel
set_option maxRecDepth 100000 in
theorem ck_129 : qMetOk 129 = true := by decide +kernel
set_option maxRecDepth 100000 in
theorem ck_130 : qMetOk 130 = true := by decide +kernel
set_option maxRecDepth 100000 in
theorem ck_132 : qMetOk 132 = true := by decide +kernel
set_option maxRecDepth 100000 in
theorem ck_133 : qMetOk 133 = true := by decide +kernel
set_option maxRecDepth 100000 in
theorem ck_134 : qMetOk 134 = true := by decide +kernel
set_option maxRecDepth 100000 in
theorem ck_135 : qMetOk 135 = true := by decide +kernel
set_option maxRecDepth 100000 in
theorem ck_136 : qMetOk 136 = true := by decide +kernel
set_option maxRecDepth 100000 in
theorem ck_138 : qMetOk 138 = true := by decide +kernel
set_option maxRecDepth 100000 in
theorem ck_139 : qMetOk 139 = true := by decide +kernel
