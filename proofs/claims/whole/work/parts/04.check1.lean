set_option maxRecDepth 100000 in
theorem ck_m_0 : ck_m 0 = true := by decide +kernel
set_option maxRecDepth 100000 in
theorem ck_m_1 : ck_m 1 = true := by decide +kernel
set_option maxRecDepth 100000 in
theorem ck_m_2 : ck_m 2 = true := by decide +kernel
set_option maxRecDepth 100000 in
theorem ck_m_3 : ck_m 3 = true := by decide +kernel
set_option maxRecDepth 100000 in
theorem ck_m_4 : ck_m 4 = true := by decide +kernel
set_option maxRecDepth 100000 in
theorem ck_m_5 : ck_m 5 = true := by decide +kernel
set_option maxRecDepth 100000 in
theorem ck_m_6 : ck_m 6 = true := by decide +kernel
set_option maxRecDepth 100000 in
theorem ck_m_7 : ck_m 7 = true := by decide +kernel
set_option maxRecDepth 100000 in
theorem ck_m_8 : ck_m 8 = true := by decide +kernel
set_option maxRecDepth 100000 in
theorem ck_m_9 : ck_m 9 = true := by decide +kernel
set_option maxRecDepth 100000 in
theorem ck_m_10 : ck_m 10 = true := by decide +kernel
set_option maxRecDepth 100000 in
theorem ck_m_11 : ck_m 11 = true := by decide +kernel
set_option maxRecDepth 100000 in
theorem ck_m_12 : ck_m 12 = true := by decide +kernel
set_option maxRecDepth 100000 in
theorem ck_m_13 : ck_m 13 = true := by decide +kernel
set_option maxRecDepth 100000 in
theorem ck_m_14 : ck_m 14 = true := by decide +kernel
set_option maxRecDepth 100000 in
theorem ck_m_15 : ck_m 15 = true := by decide +kernel
set_option maxRecDepth 100000 in
theorem ck_m_16 : ck_m 16 = true := by decide +kernel
set_option maxRecDepth 100000 in
theorem ck_m_17 : ck_m 17 = true := by decide +kernel
set_option maxRecDepth 100000 in
theorem ck_m_18 : ck_m 18 = true := by decide +kernel
set_option maxRecDepth 100000 in
theorem ck_m_19 : ck_m 19 = true := by decide +kernel
set_option maxRecDepth 100000 in
theorem ck_m_20 : ck_m 20 = true := by decide +kernel
set_option maxRecDepth 100000 in
theorem ck_m_21 : ck_m 21 = true := by decide +kernel
set_option maxRecDepth 100000 in
theorem ck_m_22 : ck_m 22 = true := by decide +kernel
set_option maxRecDepth 100000 in
theorem ck_m_23 : ck_m 23 = true := by decide +kernel
set_option maxRecDepth 100000 in
theorem ck_m_24 : ck_m 24 = true := by decide +kernel
set_option maxRecDepth 100000 in
theorem ck_m_25 : ck_m 25 = true := by decide +kernel
set_option maxRecDepth 100000 in
theorem ck_m_26 : ck_m 26 = true := by decide +kernel
set_option maxRecDepth 100000 in
theorem ck_m_27 : ck_m 27 = true := by decide +kernel
set_option maxRecDepth 100000 in
theorem ck_m_28 : ck_m 28 = true := by decide +kernel
set_option maxRecDepth 100000 in
theorem ck_m_29 : ck_m 29 = true := by decide +kernel
set_option maxRecDepth 100000 in
theorem ck_m_30 : ck_m 30 = true := by decide +kernel
set_option maxRecDepth 100000 in
theorem ck_m_31 : ck_m 31 = true := by decide +kernel
set_option maxRecDepth 100000 in
theorem ck_m_32 : ck_m 32 = true := by decide +kernel
set_option maxRecDepth 100000 in
theorem ck_m_33 : ck_m 33 = true := by decide +kernel
set_option maxRecDepth 100000 in
theorem ck_m_34 : ck_m 34 = true := by decide +kernel
set_option maxRecDepth 100000 in
theorem ck_m_35 : ck_m 35 = true := by decide +kernel
set_option maxRecDepth 100000 in
theorem ck_m_36 : ck_m 36 = true := by decide +kernel
set_option maxRecDepth 100000 in
theorem ck_m_37 : ck_m 37 = true := by decide +kernel
set_option maxRecDepth 100000 in
theorem ck_m_38 : ck_m 38 = true := by decide +kernel
set_option maxRecDepth 100000 in
theorem ck_m_39 : ck_m 39 = true := by decide +kernel
set_option maxRecDepth 100000 in
theorem ck_m_40 : ck_m 40 = true := by decide +kernel
set_option maxRecDepth 100000 in
theorem ck_m_41 : ck_m 41 = true := by decide +kernel
set_option maxRecDepth 100000 in
theorem ck_m_42 : ck_m 42 = true := by decide +kernel
set_option maxRecDepth 100000 in
theorem ck_m_43 : ck_m 43 = true := by decide +kernel
set_option maxRecDepth 100000 in
theorem ck_m_44 : ck_m 44 = true := by decide +kernel
set_option maxRecDepth 100000 in
theorem ck_m_45 : ck_m 45 = true := by decide +kernel
set_option maxRecDepth 100000 in
theorem ck_m_46 : ck_m 46 = true := by decide +kernel
set_option maxRecDepth 100000 in
theorem ck_m_47 : ck_m 47 = true := by decide +kernel
set_option maxRecDepth 100000 in
theorem ck_m_48 : ck_m 48 = true := by decide +kernel
set_option maxRecDepth 100000 in
theorem ck_m_49 : ck_m 49 = true := by decide +kernel
set_option maxRecDepth 100000 in
theorem ck_m_50 : ck_m 50 = true := by decide +kernel
set_option maxRecDepth 100000 in
theorem ck_m_51 : ck_m 51 = true := by decide +kernel
set_option maxRecDepth 100000 in
theorem ck_m_52 : ck_m 52 = true := by decide +kernel
set_option maxRecDepth 100000 in
theorem ck_m_53 : ck_m 53 = true := by decide +kernel
set_option maxRecDepth 100000 in
theorem ck_m_54 : ck_m 54 = true := by decide +kernel
set_option maxRecDepth 100000 in
theorem ck_m_55 : ck_m 55 = true := by decide +kernel
