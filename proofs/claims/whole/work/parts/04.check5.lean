set_option maxRecDepth 100000 in
theorem ck_m_224 : ck_m 224 = true := by decide +kernel
set_option maxRecDepth 100000 in
theorem ck_m_225 : ck_m 225 = true := by decide +kernel
set_option maxRecDepth 100000 in
theorem ck_m_226 : ck_m 226 = true := by decide +kernel
set_option maxRecDepth 100000 in
theorem ck_m_227 : ck_m 227 = true := by decide +kernel
set_option maxRecDepth 100000 in
theorem ck_m_228 : ck_m 228 = true := by decide +kernel
set_option maxRecDepth 100000 in
theorem ck_m_229 : ck_m 229 = true := by decide +kernel
set_option maxRecDepth 100000 in
theorem ck_m_230 : ck_m 230 = true := by decide +kernel
set_option maxRecDepth 100000 in
theorem ck_m_231 : ck_m 231 = true := by decide +kernel
set_option maxRecDepth 100000 in
theorem ck_m_232 : ck_m 232 = true := by decide +kernel
set_option maxRecDepth 100000 in
theorem ck_m_233 : ck_m 233 = true := by decide +kernel
set_option maxRecDepth 100000 in
theorem ck_m_234 : ck_m 234 = true := by decide +kernel
set_option maxRecDepth 100000 in
theorem ck_m_235 : ck_m 235 = true := by decide +kernel
set_option maxRecDepth 100000 in
theorem ck_m_236 : ck_m 236 = true := by decide +kernel
set_option maxRecDepth 100000 in
theorem ck_m_237 : ck_m 237 = true := by decide +kernel
set_option maxRecDepth 100000 in
theorem ck_m_238 : ck_m 238 = true := by decide +kernel
set_option maxRecDepth 100000 in
theorem ck_m_239 : ck_m 239 = true := by decide +kernel
set_option maxRecDepth 100000 in
theorem ck_m_240 : ck_m 240 = true := by decide +kernel
set_option maxRecDepth 100000 in
theorem ck_m_241 : ck_m 241 = true := by decide +kernel
set_option maxRecDepth 100000 in
theorem ck_m_242 : ck_m 242 = true := by decide +kernel
set_option maxRecDepth 100000 in
theorem ck_m_243 : ck_m 243 = true := by decide +kernel
set_option maxRecDepth 100000 in
theorem ck_m_244 : ck_m 244 = true := by decide +kernel
set_option maxRecDepth 100000 in
theorem ck_m_245 : ck_m 245 = true := by decide +kernel
set_option maxRecDepth 100000 in
theorem ck_m_246 : ck_m 246 = true := by decide +kernel
set_option maxRecDepth 100000 in
theorem ck_m_247 : ck_m 247 = true := by decide +kernel
set_option maxRecDepth 100000 in
theorem ck_m_248 : ck_m 248 = true := by decide +kernel
set_option maxRecDepth 100000 in
theorem ck_m_249 : ck_m 249 = true := by decide +kernel
set_option maxRecDepth 100000 in
theorem ck_m_250 : ck_m 250 = true := by decide +kernel
set_option maxRecDepth 100000 in
theorem ck_m_251 : ck_m 251 = true := by decide +kernel
set_option maxRecDepth 100000 in
theorem ck_m_252 : ck_m 252 = true := by decide +kernel
set_option maxRecDepth 100000 in
theorem ck_m_253 : ck_m 253 = true := by decide +kernel
set_option maxRecDepth 100000 in
theorem ck_m_254 : ck_m 254 = true := by decide +kernel
set_option maxRecDepth 100000 in
theorem ck_m_255 : ck_m 255 = true := by decide +kernel
set_option maxRecDepth 100000 in
theorem ck_m_256 : ck_m 256 = true := by decide +kernel
set_option maxRecDepth 100000 in
theorem ck_m_257 : ck_m 257 = true := by decide +kernel
set_option maxRecDepth 100000 in
theorem ck_m_258 : ck_m 258 = true := by decide +kernel
set_option maxRecDepth 100000 in
theorem ck_m_259 : ck_m 259 = true := by decide +kernel
set_option maxRecDepth 100000 in
theorem ck_m_260 : ck_m 260 = true := by decide +kernel
set_option maxRecDepth 100000 in
theorem ck_m_261 : ck_m 261 = true := by decide +kernel
set_option maxRecDepth 100000 in
theorem ck_m_262 : ck_m 262 = true := by decide +kernel
set_option maxRecDepth 100000 in
theorem ck_m_263 : ck_m 263 = true := by decide +kernel
set_option maxRecDepth 100000 in
theorem ck_m_264 : ck_m 264 = true := by decide +kernel
set_option maxRecDepth 100000 in
theorem ck_m_265 : ck_m 265 = true := by decide +kernel
set_option maxRecDepth 100000 in
theorem ck_m_266 : ck_m 266 = true := by decide +kernel
set_option maxRecDepth 100000 in
theorem ck_m_267 : ck_m 267 = true := by decide +kernel
set_option maxRecDepth 100000 in
theorem ck_m_268 : ck_m 268 = true := by decide +kernel
set_option maxRecDepth 100000 in
theorem ck_m_269 : ck_m 269 = true := by decide +kernel
set_option maxRecDepth 100000 in
theorem ck_m_270 : ck_m 270 = true := by decide +kernel
set_option maxRecDepth 100000 in
theorem ck_m_271 : ck_m 271 = true := by decide +kernel
set_option maxRecDepth 100000 in
theorem ck_m_272 : ck_m 272 = true := by decide +kernel
set_option maxRecDepth 100000 in
theorem ck_m_273 : ck_m 273 = true := by decide +kernel
set_option maxRecDepth 100000 in
theorem ck_m_274 : ck_m 274 = true := by decide +kernel
set_option maxRecDepth 100000 in
theorem ck_m_275 : ck_m 275 = true := by decide +kernel
set_option maxRecDepth 100000 in
theorem ck_m_276 : ck_m 276 = true := by decide +kernel
set_option maxRecDepth 100000 in
theorem ck_m_277 : ck_m 277 = true := by decide +kernel
set_option maxRecDepth 100000 in
theorem ck_m_278 : ck_m 278 = true := by decide +kernel
set_option maxRecDepth 100000 in
theorem ck_m_279 : ck_m 279 = true := by decide +kernel
