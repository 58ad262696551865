set_option maxRecDepth 100000 in
theorem ck_m_112 : ck_m 112 = true := by decide +kernel
set_option maxRecDepth 100000 in
theorem ck_m_113 : ck_m 113 = true := by decide +kernel
set_option maxRecDepth 100000 in
theorem ck_m_114 : ck_m 114 = true := by decide +kernel
set_option maxRecDepth 100000 in
theorem ck_m_115 : ck_m 115 = true := by decide +kernel
set_option maxRecDepth 100000 in
theorem ck_m_116 : ck_m 116 = true := by decide +kernel
set_option maxRecDepth 100000 in
theorem ck_m_117 : ck_m 117 = true := by decide +kernel
set_option maxRecDepth 100000 in
theorem ck_m_118 : ck_m 118 = true := by decide +kernel
set_option maxRecDepth 100000 in
theorem ck_m_119 : ck_m 119 = true := by decide +kernel
set_option maxRecDepth 100000 in
theorem ck_m_120 : ck_m 120 = true := by decide +kernel
set_option maxRecDepth 100000 in
theorem ck_m_121 : ck_m 121 = true := by decide +kernel
set_option maxRecDepth 100000 in
theorem ck_m_122 : ck_m 122 = true := by decide +kernel
set_option maxRecDepth 100000 in
theorem ck_m_123 : ck_m 123 = true := by decide +kernel
set_option maxRecDepth 100000 in
theorem ck_m_124 : ck_m 124 = true := by decide +kernel
set_option maxRecDepth 100000 in
theorem ck_m_125 : ck_m 125 = true := by decide +kernel
set_option maxRecDepth 100000 in
theorem ck_m_126 : ck_m 126 = true := by decide +kernel
set_option maxRecDepth 100000 in
theorem ck_m_127 : ck_m 127 = true := by decide +kernel
set_option maxRecDepth 100000 in
theorem ck_m_128 : ck_m 128 = true := by decide +kernel
set_option maxRecDepth 100000 in
theorem ck_m_129 : ck_m 129 = true := by decide +kernel
set_option maxRecDepth 100000 in
theorem ck_m_130 : ck_m 130 = true := by decide +kernel
set_option maxRecDepth 100000 in
theorem ck_m_131 : ck_m 131 = true := by decide +kernel
set_option maxRecDepth 100000 in
theorem ck_m_132 : ck_m 132 = true := by decide +kernel
set_option maxRecDepth 100000 in
theorem ck_m_133 : ck_m 133 = true := by decide +kernel
set_option maxRecDepth 100000 in
theorem ck_m_134 : ck_m 134 = true := by decide +kernel
set_option maxRecDepth 100000 in
theorem ck_m_135 : ck_m 135 = true := by decide +kernel
set_option maxRecDepth 100000 in
theorem ck_m_136 : ck_m 136 = true := by decide +kernel
set_option maxRecDepth 100000 in
theorem ck_m_137 : ck_m 137 = true := by decide +kernel
set_option maxRecDepth 100000 in
theorem ck_m_138 : ck_m 138 = true := by decide +kernel
set_option maxRecDepth 100000 in
theorem ck_m_139 : ck_m 139 = true := by decide +kernel
set_option maxRecDepth 100000 in
theorem ck_m_140 : ck_m 140 = true := by decide +kernel
set_option maxRecDepth 100000 in
theorem ck_m_141 : ck_m 141 = true := by decide +kernel
set_option maxRecDepth 100000 in
theorem ck_m_142 : ck_m 142 = true := by decide +kernel
set_option maxRecDepth 100000 in
theorem ck_m_143 : ck_m 143 = true := by decide +kernel
set_option maxRecDepth 100000 in
theorem ck_m_144 : ck_m 144 = true := by decide +kernel
set_option maxRecDepth 100000 in
theorem ck_m_145 : ck_m 145 = true := by decide +kernel
set_option maxRecDepth 100000 in
theorem ck_m_146 : ck_m 146 = true := by decide +kernel
set_option maxRecDepth 100000 in
theorem ck_m_147 : ck_m 147 = true := by decide +kernel
set_option maxRecDepth 100000 in
theorem ck_m_148 : ck_m 148 = true := by decide +kernel
set_option maxRecDepth 100000 in
theorem ck_m_149 : ck_m 149 = true := by decide +kernel
set_option maxRecDepth 100000 in
theorem ck_m_150 : ck_m 150 = true := by decide +kernel
set_option maxRecDepth 100000 in
theorem ck_m_151 : ck_m 151 = true := by decide +kernel
set_option maxRecDepth 100000 in
theorem ck_m_152 : ck_m 152 = true := by decide +kernel
set_option maxRecDepth 100000 in
theorem ck_m_153 : ck_m 153 = true := by decide +kernel
set_option maxRecDepth 100000 in
theorem ck_m_154 : ck_m 154 = true := by decide +kernel
set_option maxRecDepth 100000 in
theorem ck_m_155 : ck_m 155 = true := by decide +kernel
set_option maxRecDepth 100000 in
theorem ck_m_156 : ck_m 156 = true := by decide +kernel
set_option maxRecDepth 100000 in
theorem ck_m_157 : ck_m 157 = true := by decide +kernel
set_option maxRecDepth 100000 in
theorem ck_m_158 : ck_m 158 = true := by decide +kernel
set_option maxRecDepth 100000 in
theorem ck_m_159 : ck_m 159 = true := by decide +kernel
set_option maxRecDepth 100000 in
theorem ck_m_160 : ck_m 160 = true := by decide +kernel
set_option maxRecDepth 100000 in
theorem ck_m_161 : ck_m 161 = true := by decide +kernel
set_option maxRecDepth 100000 in
theorem ck_m_162 : ck_m 162 = true := by decide +kernel
set_option maxRecDepth 100000 in
theorem ck_m_163 : ck_m 163 = true := by decide +kernel
set_option maxRecDepth 100000 in
theorem ck_m_164 : ck_m 164 = true := by decide +kernel
set_option maxRecDepth 100000 in
theorem ck_m_165 : ck_m 165 = true := by decide +kernel
set_option maxRecDepth 100000 in
theorem ck_m_166 : ck_m 166 = true := by decide +kernel
set_option maxRecDepth 100000 in
theorem ck_m_167 : ck_m 167 = true := by decide +kernel
