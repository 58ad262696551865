set_option maxRecDepth 100000 in
theorem ck_l_1440 : ck_r 333 1440 60 = true := by decide +kernel
set_option maxRecDepth 100000 in
theorem ck_l_1500 : ck_r 333 1500 60 = true := by decide +kernel
set_option maxRecDepth 100000 in
theorem ck_l_1560 : ck_r 333 1560 60 = true := by decide +kernel
set_option maxRecDepth 100000 in
theorem ck_l_1620 : ck_r 333 1620 60 = true := by decide +kernel
set_option maxRecDepth 100000 in
theorem ck_l_1680 : ck_r 333 1680 60 = true := by decide +kernel
set_option maxRecDepth 100000 in
theorem ck_l_1740 : ck_r 333 1740 60 = true := by decide +kernel
set_option maxRecDepth 100000 in
theorem ck_l_1800 : ck_r 333 1800 60 = true := by decide +kernel
set_option maxRecDepth 100000 in
theorem ck_l_1860 : ck_r 333 1860 60 = true := by decide +kernel
