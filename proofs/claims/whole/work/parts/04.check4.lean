set_option maxRecDepth 100000 in
theorem ck_m_168 : ck_m 168 = true := by decide +kernel
set_option maxRecDepth 100000 in
theorem ck_m_169 : ck_m 169 = true := by decide +kernel
set_option maxRecDepth 100000 in
theorem ck_m_170 : ck_m 170 = true := by decide +kernel
set_option maxRecDepth 100000 in
theorem ck_m_171 : ck_m 171 = true := by decide +kernel
set_option maxRecDepth 100000 in
theorem ck_m_172 : ck_m 172 = true := by decide +kernel
set_option maxRecDepth 100000 in
theorem ck_m_173 : ck_m 173 = true := by decide +kernel
set_option maxRecDepth 100000 in
theorem ck_m_174 : ck_m 174 = true := by decide +kernel
set_option maxRecDepth 100000 in
theorem ck_m_175 : ck_m 175 = true := by decide +kernel
set_option maxRecDepth 100000 in
theorem ck_m_176 : ck_m 176 = true := by decide +kernel
set_option maxRecDepth 100000 in
theorem ck_m_177 : ck_m 177 = true := by decide +kernel
set_option maxRecDepth 100000 in
theorem ck_m_178 : ck_m 178 = true := by decide +kernel
set_option maxRecDepth 100000 in
theorem ck_m_179 : ck_m 179 = true := by decide +kernel
set_option maxRecDepth 100000 in
theorem ck_m_180 : ck_m 180 = true := by decide +kernel
set_option maxRecDepth 100000 in
theorem ck_m_181 : ck_m 181 = true := by decide +kernel
set_option maxRecDepth 100000 in
theorem ck_m_182 : ck_m 182 = true := by decide +kernel
set_option maxRecDepth 100000 in
theorem ck_m_183 : ck_m 183 = true := by decide +kernel
set_option maxRecDepth 100000 in
theorem ck_m_184 : ck_m 184 = true := by decide +kernel
set_option maxRecDepth 100000 in
theorem ck_m_185 : ck_m 185 = true := by decide +kernel
set_option maxRecDepth 100000 in
theorem ck_m_186 : ck_m 186 = true := by decide +kernel
set_option maxRecDepth 100000 in
theorem ck_m_187 : ck_m 187 = true := by decide +kernel
set_option maxRecDepth 100000 in
theorem ck_m_188 : ck_m 188 = true := by decide +kernel
set_option maxRecDepth 100000 in
theorem ck_m_189 : ck_m 189 = true := by decide +kernel
set_option maxRecDepth 100000 in
theorem ck_m_190 : ck_m 190 = true := by decide +kernel
set_option maxRecDepth 100000 in
theorem ck_m_191 : ck_m 191 = true := by decide +kernel
set_option maxRecDepth 100000 in
theorem ck_m_192 : ck_m 192 = true := by decide +kernel
set_option maxRecDepth 100000 in
theorem ck_m_193 : ck_m 193 = true := by decide +kernel
set_option maxRecDepth 100000 in
theorem ck_m_194 : ck_m 194 = true := by decide +kernel
set_option maxRecDepth 100000 in
theorem ck_m_195 : ck_m 195 = true := by decide +kernel
set_option maxRecDepth 100000 in
theorem ck_m_196 : ck_m 196 = true := by decide +kernel
set_option maxRecDepth 100000 in
theorem ck_m_197 : ck_m 197 = true := by decide +kernel
set_option maxRecDepth 100000 in
theorem ck_m_198 : ck_m 198 = true := by decide +kernel
set_option maxRecDepth 100000 in
theorem ck_m_199 : ck_m 199 = true := by decide +kernel
set_option maxRecDepth 100000 in
theorem ck_m_200 : ck_m 200 = true := by decide +kernel
set_option maxRecDepth 100000 in
theorem ck_m_201 : ck_m 201 = true := by decide +kernel
set_option maxRecDepth 100000 in
theorem ck_m_202 : ck_m 202 = true := by decide +kernel
set_option maxRecDepth 100000 in
theorem ck_m_203 : ck_m 203 = true := by decide +kernel
set_option maxRecDepth 100000 in
theorem ck_m_204 : ck_m 204 = true := by decide +kernel
set_option maxRecDepth 100000 in
theorem ck_m_205 : ck_m 205 = true := by decide +kernel
set_option maxRecDepth 100000 in
theorem ck_m_206 : ck_m 206 = true := by decide +kernel
set_option maxRecDepth 100000 in
theorem ck_m_207 : ck_m 207 = true := by decide +kernel
set_option maxRecDepth 100000 in
theorem ck_m_208 : ck_m 208 = true := by decide +kernel
set_option maxRecDepth 100000 in
theorem ck_m_209 : ck_m 209 = true := by decide +kernel
set_option maxRecDepth 100000 in
theorem ck_m_210 : ck_m 210 = true := by decide +kernel
set_option maxRecDepth 100000 in
theorem ck_m_211 : ck_m 211 = true := by decide +kernel
set_option maxRecDepth 100000 in
theorem ck_m_212 : ck_m 212 = true := by decide +kernel
set_option maxRecDepth 100000 in
theorem ck_m_213 : ck_m 213 = true := by decide +kernel
set_option maxRecDepth 100000 in
theorem ck_m_214 : ck_m 214 = true := by decide +kernel
set_option maxRecDepth 100000 in
theorem ck_m_215 : ck_m 215 = true := by decide +kernel
set_option maxRecDepth 100000 in
theorem ck_m_216 : ck_m 216 = true := by decide +kernel
set_option maxRecDepth 100000 in
theorem ck_m_217 : ck_m 217 = true := by decide +kernel
set_option maxRecDepth 100000 in
theorem ck_m_218 : ck_m 218 = true := by decide +kernel
set_option maxRecDepth 100000 in
theorem ck_m_219 : ck_m 219 = true := by decide +kernel
set_option maxRecDepth 100000 in
theorem ck_m_220 : ck_m 220 = true := by decide +kernel
set_option maxRecDepth 100000 in
theorem ck_m_221 : ck_m 221 = true := by decide +kernel
set_option maxRecDepth 100000 in
theorem ck_m_222 : ck_m 222 = true := by decide +kernel
set_option maxRecDepth 100000 in
theorem ck_m_223 : ck_m 223 = true := by decide +kernel
