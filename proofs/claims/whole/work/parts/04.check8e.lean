set_option maxRecDepth 100000 in
theorem ck_l_1920 : ck_r 333 1920 60 = true := by decide +kernel
set_option maxRecDepth 100000 in
theorem ck_l_1980 : ck_r 333 1980 60 = true := by decide +kernel
set_option maxRecDepth 100000 in
theorem ck_l_2040 : ck_r 333 2040 60 = true := by decide +kernel
set_option maxRecDepth 100000 in
theorem ck_l_2100 : ck_r 333 2100 60 = true := by decide +kernel
set_option maxRecDepth 100000 in
theorem ck_l_2160 : ck_r 333 2160 60 = true := by decide +kernel
set_option maxRecDepth 100000 in
theorem ck_l_2220 : ck_r 333 2220 60 = true := by decide +kernel
set_option maxRecDepth 100000 in
theorem ck_l_2280 : ck_r 333 2280 30 = true := by decide +kernel
