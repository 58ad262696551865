set_option maxRecDepth 100000 in
theorem ck_l_960 : ck_r 333 960 60 = true := by decide +kernel
set_option maxRecDepth 100000 in
theorem ck_l_1020 : ck_r 333 1020 60 = true := by decide +kernel
set_option maxRecDepth 100000 in
theorem ck_l_1080 : ck_r 333 1080 60 = true := by decide +kernel
set_option maxRecDepth 100000 in
theorem ck_l_1140 : ck_r 333 1140 60 = true := by decide +kernel
set_option maxRecDepth 100000 in
theorem ck_l_1200 : ck_r 333 1200 60 = true := by decide +kernel
set_option maxRecDepth 100000 in
theorem ck_l_1260 : ck_r 333 1260 60 = true := by decide +kernel
set_option maxRecDepth 100000 in
theorem ck_l_1320 : ck_r 333 1320 60 = true := by decide +kernel
set_option maxRecDepth 100000 in
theorem ck_l_1380 : ck_r 333 1380 60 = true := by decide +kernel
