set_option maxRecDepth 100000 in
theorem ck_l_480 : ck_r 333 480 60 = true := by decide +kernel
set_option maxRecDepth 100000 in
theorem ck_l_540 : ck_r 333 540 60 = true := by decide +kernel
set_option maxRecDepth 100000 in
theorem ck_l_600 : ck_r 333 600 60 = true := by decide +kernel
set_option maxRecDepth 100000 in
theorem ck_l_660 : ck_r 333 660 60 = true := by decide +kernel
set_option maxRecDepth 100000 in
theorem ck_l_720 : ck_r 333 720 60 = true := by decide +kernel
set_option maxRecDepth 100000 in
theorem ck_l_780 : ck_r 333 780 60 = true := by decide +kernel
set_option maxRecDepth 100000 in
theorem ck_l_840 : ck_r 333 840 60 = true := by decide +kernel
set_option maxRecDepth 100000 in
theorem ck_l_900 : ck_r 333 900 60 = true := by decide +kernel
