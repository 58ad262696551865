set_option maxRecDepth 100000 in
theorem ck_m_56 : ck_m 56 = true := by decide +kernel
set_option maxRecDepth 100000 in
theorem ck_m_57 : ck_m 57 = true := by decide +kernel
set_option maxRecDepth 100000 in
theorem ck_m_58 : ck_m 58 = true := by decide +kernel
set_option maxRecDepth 100000 in
theorem ck_m_59 : ck_m 59 = true := by decide +kernel
set_option maxRecDepth 100000 in
theorem ck_m_60 : ck_m 60 = true := by decide +kernel
set_option maxRecDepth 100000 in
theorem ck_m_61 : ck_m 61 = true := by decide +kernel
set_option maxRecDepth 100000 in
theorem ck_m_62 : ck_m 62 = true := by decide +kernel
set_option maxRecDepth 100000 in
theorem ck_m_63 : ck_m 63 = true := by decide +kernel
set_option maxRecDepth 100000 in
theorem ck_m_64 : ck_m 64 = true := by decide +kernel
set_option maxRecDepth 100000 in
theorem ck_m_65 : ck_m 65 = true := by decide +kernel
set_option maxRecDepth 100000 in
theorem ck_m_66 : ck_m 66 = true := by decide +kernel
set_option maxRecDepth 100000 in
theorem ck_m_67 : ck_m 67 = true := by decide +kernel
set_option maxRecDepth 100000 in
theorem ck_m_68 : ck_m 68 = true := by decide +kernel
set_option maxRecDepth 100000 in
theorem ck_m_69 : ck_m 69 = true := by decide +kernel
set_option maxRecDepth 100000 in
theorem ck_m_70 : ck_m 70 = true := by decide +kernel
set_option maxRecDepth 100000 in
theorem ck_m_71 : ck_m 71 = true := by decide +kernel
set_option maxRecDepth 100000 in
theorem ck_m_72 : ck_m 72 = true := by decide +kernel
set_option maxRecDepth 100000 in
theorem ck_m_73 : ck_m 73 = true := by decide +kernel
set_option maxRecDepth 100000 in
theorem ck_m_74 : ck_m 74 = true := by decide +kernel
set_option maxRecDepth 100000 in
theorem ck_m_75 : ck_m 75 = true := by decide +kernel
set_option maxRecDepth 100000 in
theorem ck_m_76 : ck_m 76 = true := by decide +kernel
set_option maxRecDepth 100000 in
theorem ck_m_77 : ck_m 77 = true := by decide +kernel
set_option maxRecDepth 100000 in
theorem ck_m_78 : ck_m 78 = true := by decide +kernel
set_option maxRecDepth 100000 in
theorem ck_m_79 : ck_m 79 = true := by decide +kernel
set_option maxRecDepth 100000 in
theorem ck_m_80 : ck_m 80 = true := by decide +kernel
set_option maxRecDepth 100000 in
theorem ck_m_81 : ck_m 81 = true := by decide +kernel
set_option maxRecDepth 100000 in
theorem ck_m_82 : ck_m 82 = true := by decide +kernel
set_option maxRecDepth 100000 in
theorem ck_m_83 : ck_m 83 = true := by decide +kernel
set_option maxRecDepth 100000 in
theorem ck_m_84 : ck_m 84 = true := by decide +kernel
set_option maxRecDepth 100000 in
theorem ck_m_85 : ck_m 85 = true := by decide +kernel
set_option maxRecDepth 100000 in
theorem ck_m_86 : ck_m 86 = true := by decide +kernel
set_option maxRecDepth 100000 in
theorem ck_m_87 : ck_m 87 = true := by decide +kernel
set_option maxRecDepth 100000 in
theorem ck_m_88 : ck_m 88 = true := by decide +kernel
set_option maxRecDepth 100000 in
theorem ck_m_89 : ck_m 89 = true := by decide +kernel
set_option maxRecDepth 100000 in
theorem ck_m_90 : ck_m 90 = true := by decide +kernel
set_option maxRecDepth 100000 in
theorem ck_m_91 : ck_m 91 = true := by decide +kernel
set_option maxRecDepth 100000 in
theorem ck_m_92 : ck_m 92 = true := by decide +kernel
set_option maxRecDepth 100000 in
theorem ck_m_93 : ck_m 93 = true := by decide +kernel
set_option maxRecDepth 100000 in
theorem ck_m_94 : ck_m 94 = true := by decide +kernel
set_option maxRecDepth 100000 in
theorem ck_m_95 : ck_m 95 = true := by decide +kernel
set_option maxRecDepth 100000 in
theorem ck_m_96 : ck_m 96 = true := by decide +kernel
set_option maxRecDepth 100000 in
theorem ck_m_97 : ck_m 97 = true := by decide +kernel
set_option maxRecDepth 100000 in
theorem ck_m_98 : ck_m 98 = true := by decide +kernel
set_option maxRecDepth 100000 in
theorem ck_m_99 : ck_m 99 = true := by decide +kernel
set_option maxRecDepth 100000 in
theorem ck_m_100 : ck_m 100 = true := by decide +kernel
set_option maxRecDepth 100000 in
theorem ck_m_101 : ck_m 101 = true := by decide +kernel
set_option maxRecDepth 100000 in
theorem ck_m_102 : ck_m 102 = true := by decide +kernel
set_option maxRecDepth 100000 in
theorem ck_m_103 : ck_m 103 = true := by decide +kernel
set_option maxRecDepth 100000 in
theorem ck_m_104 : ck_m 104 = true := by decide +kernel
set_option maxRecDepth 100000 in
theorem ck_m_105 : ck_m 105 = true := by decide +kernel
set_option maxRecDepth 100000 in
theorem ck_m_106 : ck_m 106 = true := by decide +kernel
set_option maxRecDepth 100000 in
theorem ck_m_107 : ck_m 107 = true := by decide +kernel
set_option maxRecDepth 100000 in
theorem ck_m_108 : ck_m 108 = true := by decide +kernel
set_option maxRecDepth 100000 in
theorem ck_m_109 : ck_m 109 = true := by decide +kernel
set_option maxRecDepth 100000 in
theorem ck_m_110 : ck_m 110 = true := by decide +kernel
set_option maxRecDepth 100000 in
theorem ck_m_111 : ck_m 111 = true := by decide +kernel
