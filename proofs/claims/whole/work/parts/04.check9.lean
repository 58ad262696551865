theorem ck_r_at {y lo n pc : Nat} {e : pgE} (h : ck_r y lo n = true) (h1 : lo ≤ pc) (h2 : pc < lo + n) (he : pgT y pc = some e) : ck_e y pc e = true := by
  have h3 := List.all_eq_true.mp h (pc - lo) (List.mem_range.mpr (by omega))
  have h4 : lo + (pc - lo) = pc := by omega
  rw [h4, he] at h3
  exact h3
theorem ck_m_at {y pc : Nat} {e : pgE} (h : ck_m y = true) (h2 : pc ≤ mlen y) (he : pgT y pc = some e) : ck_e y pc e = true := by
  have h3 := List.all_eq_true.mp h pc (List.mem_range.mpr (by omega))
  rw [he] at h3
  exact h3
theorem ck_all : ∀ y, y < 333 → ck_m y = true
  | 0, _ => ck_m_0
  | 1, _ => ck_m_1
  | 2, _ => ck_m_2
  | 3, _ => ck_m_3
  | 4, _ => ck_m_4
  | 5, _ => ck_m_5
  | 6, _ => ck_m_6
  | 7, _ => ck_m_7
  | 8, _ => ck_m_8
  | 9, _ => ck_m_9
  | 10, _ => ck_m_10
  | 11, _ => ck_m_11
  | 12, _ => ck_m_12
  | 13, _ => ck_m_13
  | 14, _ => ck_m_14
  | 15, _ => ck_m_15
  | 16, _ => ck_m_16
  | 17, _ => ck_m_17
  | 18, _ => ck_m_18
  | 19, _ => ck_m_19
  | 20, _ => ck_m_20
  | 21, _ => ck_m_21
  | 22, _ => ck_m_22
  | 23, _ => ck_m_23
  | 24, _ => ck_m_24
  | 25, _ => ck_m_25
  | 26, _ => ck_m_26
  | 27, _ => ck_m_27
  | 28, _ => ck_m_28
  | 29, _ => ck_m_29
  | 30, _ => ck_m_30
  | 31, _ => ck_m_31
  | 32, _ => ck_m_32
  | 33, _ => ck_m_33
  | 34, _ => ck_m_34
  | 35, _ => ck_m_35
  | 36, _ => ck_m_36
  | 37, _ => ck_m_37
  | 38, _ => ck_m_38
  | 39, _ => ck_m_39
  | 40, _ => ck_m_40
  | 41, _ => ck_m_41
  | 42, _ => ck_m_42
  | 43, _ => ck_m_43
  | 44, _ => ck_m_44
  | 45, _ => ck_m_45
  | 46, _ => ck_m_46
  | 47, _ => ck_m_47
  | 48, _ => ck_m_48
  | 49, _ => ck_m_49
  | 50, _ => ck_m_50
  | 51, _ => ck_m_51
  | 52, _ => ck_m_52
  | 53, _ => ck_m_53
  | 54, _ => ck_m_54
  | 55, _ => ck_m_55
  | 56, _ => ck_m_56
  | 57, _ => ck_m_57
  | 58, _ => ck_m_58
  | 59, _ => ck_m_59
  | 60, _ => ck_m_60
  | 61, _ => ck_m_61
  | 62, _ => ck_m_62
  | 63, _ => ck_m_63
  | 64, _ => ck_m_64
  | 65, _ => ck_m_65
  | 66, _ => ck_m_66
  | 67, _ => ck_m_67
  | 68, _ => ck_m_68
  | 69, _ => ck_m_69
  | 70, _ => ck_m_70
  | 71, _ => ck_m_71
  | 72, _ => ck_m_72
  | 73, _ => ck_m_73
  | 74, _ => ck_m_74
  | 75, _ => ck_m_75
  | 76, _ => ck_m_76
  | 77, _ => ck_m_77
  | 78, _ => ck_m_78
  | 79, _ => ck_m_79
  | 80, _ => ck_m_80
  | 81, _ => ck_m_81
  | 82, _ => ck_m_82
  | 83, _ => ck_m_83
  | 84, _ => ck_m_84
  | 85, _ => ck_m_85
  | 86, _ => ck_m_86
  | 87, _ => ck_m_87
  | 88, _ => ck_m_88
  | 89, _ => ck_m_89
  | 90, _ => ck_m_90
  | 91, _ => ck_m_91
  | 92, _ => ck_m_92
  | 93, _ => ck_m_93
  | 94, _ => ck_m_94
  | 95, _ => ck_m_95
  | 96, _ => ck_m_96
  | 97, _ => ck_m_97
  | 98, _ => ck_m_98
  | 99, _ => ck_m_99
  | 100, _ => ck_m_100
  | 101, _ => ck_m_101
  | 102, _ => ck_m_102
  | 103, _ => ck_m_103
  | 104, _ => ck_m_104
  | 105, _ => ck_m_105
  | 106, _ => ck_m_106
  | 107, _ => ck_m_107
  | 108, _ => ck_m_108
  | 109, _ => ck_m_109
  | 110, _ => ck_m_110
  | 111, _ => ck_m_111
  | 112, _ => ck_m_112
  | 113, _ => ck_m_113
  | 114, _ => ck_m_114
  | 115, _ => ck_m_115
  | 116, _ => ck_m_116
  | 117, _ => ck_m_117
  | 118, _ => ck_m_118
  | 119, _ => ck_m_119
  | 120, _ => ck_m_120
  | 121, _ => ck_m_121
  | 122, _ => ck_m_122
  | 123, _ => ck_m_123
  | 124, _ => ck_m_124
  | 125, _ => ck_m_125
  | 126, _ => ck_m_126
  | 127, _ => ck_m_127
  | 128, _ => ck_m_128
  | 129, _ => ck_m_129
  | 130, _ => ck_m_130
  | 131, _ => ck_m_131
  | 132, _ => ck_m_132
  | 133, _ => ck_m_133
  | 134, _ => ck_m_134
  | 135, _ => ck_m_135
  | 136, _ => ck_m_136
  | 137, _ => ck_m_137
  | 138, _ => ck_m_138
  | 139, _ => ck_m_139
  | 140, _ => ck_m_140
  | 141, _ => ck_m_141
  | 142, _ => ck_m_142
  | 143, _ => ck_m_143
  | 144, _ => ck_m_144
  | 145, _ => ck_m_145
  | 146, _ => ck_m_146
  | 147, _ => ck_m_147
  | 148, _ => ck_m_148
  | 149, _ => ck_m_149
  | 150, _ => ck_m_150
  | 151, _ => ck_m_151
  | 152, _ => ck_m_152
  | 153, _ => ck_m_153
  | 154, _ => ck_m_154
  | 155, _ => ck_m_155
  | 156, _ => ck_m_156
  | 157, _ => ck_m_157
  | 158, _ => ck_m_158
  | 159, _ => ck_m_159
  | 160, _ => ck_m_160
  | 161, _ => ck_m_161
  | 162, _ => ck_m_162
  | 163, _ => ck_m_163
  | 164, _ => ck_m_164
  | 165, _ => ck_m_165
  | 166, _ => ck_m_166
  | 167, _ => ck_m_167
  | 168, _ => ck_m_168
  | 169, _ => ck_m_169
  | 170, _ => ck_m_170
  | 171, _ => ck_m_171
  | 172, _ => ck_m_172
  | 173, _ => ck_m_173
  | 174, _ => ck_m_174
  | 175, _ => ck_m_175
  | 176, _ => ck_m_176
  | 177, _ => ck_m_177
  | 178, _ => ck_m_178
  | 179, _ => ck_m_179
  | 180, _ => ck_m_180
  | 181, _ => ck_m_181
  | 182, _ => ck_m_182
  | 183, _ => ck_m_183
  | 184, _ => ck_m_184
  | 185, _ => ck_m_185
  | 186, _ => ck_m_186
  | 187, _ => ck_m_187
  | 188, _ => ck_m_188
  | 189, _ => ck_m_189
  | 190, _ => ck_m_190
  | 191, _ => ck_m_191
  | 192, _ => ck_m_192
  | 193, _ => ck_m_193
  | 194, _ => ck_m_194
  | 195, _ => ck_m_195
  | 196, _ => ck_m_196
  | 197, _ => ck_m_197
  | 198, _ => ck_m_198
  | 199, _ => ck_m_199
  | 200, _ => ck_m_200
  | 201, _ => ck_m_201
  | 202, _ => ck_m_202
  | 203, _ => ck_m_203
  | 204, _ => ck_m_204
  | 205, _ => ck_m_205
  | 206, _ => ck_m_206
  | 207, _ => ck_m_207
  | 208, _ => ck_m_208
  | 209, _ => ck_m_209
  | 210, _ => ck_m_210
  | 211, _ => ck_m_211
  | 212, _ => ck_m_212
  | 213, _ => ck_m_213
  | 214, _ => ck_m_214
  | 215, _ => ck_m_215
  | 216, _ => ck_m_216
  | 217, _ => ck_m_217
  | 218, _ => ck_m_218
  | 219, _ => ck_m_219
  | 220, _ => ck_m_220
  | 221, _ => ck_m_221
  | 222, _ => ck_m_222
  | 223, _ => ck_m_223
  | 224, _ => ck_m_224
  | 225, _ => ck_m_225
  | 226, _ => ck_m_226
  | 227, _ => ck_m_227
  | 228, _ => ck_m_228
  | 229, _ => ck_m_229
  | 230, _ => ck_m_230
  | 231, _ => ck_m_231
  | 232, _ => ck_m_232
  | 233, _ => ck_m_233
  | 234, _ => ck_m_234
  | 235, _ => ck_m_235
  | 236, _ => ck_m_236
  | 237, _ => ck_m_237
  | 238, _ => ck_m_238
  | 239, _ => ck_m_239
  | 240, _ => ck_m_240
  | 241, _ => ck_m_241
  | 242, _ => ck_m_242
  | 243, _ => ck_m_243
  | 244, _ => ck_m_244
  | 245, _ => ck_m_245
  | 246, _ => ck_m_246
  | 247, _ => ck_m_247
  | 248, _ => ck_m_248
  | 249, _ => ck_m_249
  | 250, _ => ck_m_250
  | 251, _ => ck_m_251
  | 252, _ => ck_m_252
  | 253, _ => ck_m_253
  | 254, _ => ck_m_254
  | 255, _ => ck_m_255
  | 256, _ => ck_m_256
  | 257, _ => ck_m_257
  | 258, _ => ck_m_258
  | 259, _ => ck_m_259
  | 260, _ => ck_m_260
  | 261, _ => ck_m_261
  | 262, _ => ck_m_262
  | 263, _ => ck_m_263
  | 264, _ => ck_m_264
  | 265, _ => ck_m_265
  | 266, _ => ck_m_266
  | 267, _ => ck_m_267
  | 268, _ => ck_m_268
  | 269, _ => ck_m_269
  | 270, _ => ck_m_270
  | 271, _ => ck_m_271
  | 272, _ => ck_m_272
  | 273, _ => ck_m_273
  | 274, _ => ck_m_274
  | 275, _ => ck_m_275
  | 276, _ => ck_m_276
  | 277, _ => ck_m_277
  | 278, _ => ck_m_278
  | 279, _ => ck_m_279
  | 280, _ => ck_m_280
  | 281, _ => ck_m_281
  | 282, _ => ck_m_282
  | 283, _ => ck_m_283
  | 284, _ => ck_m_284
  | 285, _ => ck_m_285
  | 286, _ => ck_m_286
  | 287, _ => ck_m_287
  | 288, _ => ck_m_288
  | 289, _ => ck_m_289
  | 290, _ => ck_m_290
  | 291, _ => ck_m_291
  | 292, _ => ck_m_292
  | 293, _ => ck_m_293
  | 294, _ => ck_m_294
  | 295, _ => ck_m_295
  | 296, _ => ck_m_296
  | 297, _ => ck_m_297
  | 298, _ => ck_m_298
  | 299, _ => ck_m_299
  | 300, _ => ck_m_300
  | 301, _ => ck_m_301
  | 302, _ => ck_m_302
  | 303, _ => ck_m_303
  | 304, _ => ck_m_304
  | 305, _ => ck_m_305
  | 306, _ => ck_m_306
  | 307, _ => ck_m_307
  | 308, _ => ck_m_308
  | 309, _ => ck_m_309
  | 310, _ => ck_m_310
  | 311, _ => ck_m_311
  | 312, _ => ck_m_312
  | 313, _ => ck_m_313
  | 314, _ => ck_m_314
  | 315, _ => ck_m_315
  | 316, _ => ck_m_316
  | 317, _ => ck_m_317
  | 318, _ => ck_m_318
  | 319, _ => ck_m_319
  | 320, _ => ck_m_320
  | 321, _ => ck_m_321
  | 322, _ => ck_m_322
  | 323, _ => ck_m_323
  | 324, _ => ck_m_324
  | 325, _ => ck_m_325
  | 326, _ => ck_m_326
  | 327, _ => ck_m_327
  | 328, _ => ck_m_328
  | 329, _ => ck_m_329
  | 330, _ => ck_m_330
  | 331, _ => ck_m_331
  | 332, _ => ck_m_332
  | n + 333, h => absurd h (by omega)
theorem ck_law {pc : Nat} {e : pgE} (h2 : pc ≤ mlen 333) (he : pgT 333 pc = some e) : ck_e 333 pc e = true := by
  have h2 : pc < 2310 := Nat.lt_succ_of_le h2
  by_cases h3 : pc < 60
  · exact ck_r_at ck_l_0 (by omega) (by omega) he
  by_cases h63 : pc < 120
  · exact ck_r_at ck_l_60 (by omega) (by omega) he
  by_cases h123 : pc < 180
  · exact ck_r_at ck_l_120 (by omega) (by omega) he
  by_cases h183 : pc < 240
  · exact ck_r_at ck_l_180 (by omega) (by omega) he
  by_cases h243 : pc < 300
  · exact ck_r_at ck_l_240 (by omega) (by omega) he
  by_cases h303 : pc < 360
  · exact ck_r_at ck_l_300 (by omega) (by omega) he
  by_cases h363 : pc < 420
  · exact ck_r_at ck_l_360 (by omega) (by omega) he
  by_cases h423 : pc < 480
  · exact ck_r_at ck_l_420 (by omega) (by omega) he
  by_cases h483 : pc < 540
  · exact ck_r_at ck_l_480 (by omega) (by omega) he
  by_cases h543 : pc < 600
  · exact ck_r_at ck_l_540 (by omega) (by omega) he
  by_cases h603 : pc < 660
  · exact ck_r_at ck_l_600 (by omega) (by omega) he
  by_cases h663 : pc < 720
  · exact ck_r_at ck_l_660 (by omega) (by omega) he
  by_cases h723 : pc < 780
  · exact ck_r_at ck_l_720 (by omega) (by omega) he
  by_cases h783 : pc < 840
  · exact ck_r_at ck_l_780 (by omega) (by omega) he
  by_cases h843 : pc < 900
  · exact ck_r_at ck_l_840 (by omega) (by omega) he
  by_cases h903 : pc < 960
  · exact ck_r_at ck_l_900 (by omega) (by omega) he
  by_cases h963 : pc < 1020
  · exact ck_r_at ck_l_960 (by omega) (by omega) he
  by_cases h1023 : pc < 1080
  · exact ck_r_at ck_l_1020 (by omega) (by omega) he
  by_cases h1083 : pc < 1140
  · exact ck_r_at ck_l_1080 (by omega) (by omega) he
  by_cases h1143 : pc < 1200
  · exact ck_r_at ck_l_1140 (by omega) (by omega) he
  by_cases h1203 : pc < 1260
  · exact ck_r_at ck_l_1200 (by omega) (by omega) he
  by_cases h1263 : pc < 1320
  · exact ck_r_at ck_l_1260 (by omega) (by omega) he
  by_cases h1323 : pc < 1380
  · exact ck_r_at ck_l_1320 (by omega) (by omega) he
  by_cases h1383 : pc < 1440
  · exact ck_r_at ck_l_1380 (by omega) (by omega) he
  by_cases h1443 : pc < 1500
  · exact ck_r_at ck_l_1440 (by omega) (by omega) he
  by_cases h1503 : pc < 1560
  · exact ck_r_at ck_l_1500 (by omega) (by omega) he
  by_cases h1563 : pc < 1620
  · exact ck_r_at ck_l_1560 (by omega) (by omega) he
  by_cases h1623 : pc < 1680
  · exact ck_r_at ck_l_1620 (by omega) (by omega) he
  by_cases h1683 : pc < 1740
  · exact ck_r_at ck_l_1680 (by omega) (by omega) he
  by_cases h1743 : pc < 1800
  · exact ck_r_at ck_l_1740 (by omega) (by omega) he
  by_cases h1803 : pc < 1860
  · exact ck_r_at ck_l_1800 (by omega) (by omega) he
  by_cases h1863 : pc < 1920
  · exact ck_r_at ck_l_1860 (by omega) (by omega) he
  by_cases h1923 : pc < 1980
  · exact ck_r_at ck_l_1920 (by omega) (by omega) he
  by_cases h1983 : pc < 2040
  · exact ck_r_at ck_l_1980 (by omega) (by omega) he
  by_cases h2043 : pc < 2100
  · exact ck_r_at ck_l_2040 (by omega) (by omega) he
  by_cases h2103 : pc < 2160
  · exact ck_r_at ck_l_2100 (by omega) (by omega) he
  by_cases h2163 : pc < 2220
  · exact ck_r_at ck_l_2160 (by omega) (by omega) he
  by_cases h2223 : pc < 2280
  · exact ck_r_at ck_l_2220 (by omega) (by omega) he
  by_cases h2283 : pc < 2340
  · exact ck_r_at ck_l_2280 (by omega) (by omega) he
  omega
theorem ck_ok {y pc : Nat} {e : pgE} (hy : y < 334) (h : pg y pc = some e) : ck_e y pc e = true := by
  unfold pg at h
  cases hp : Nat.ble pc (mlen y) with
  | false => rw [hp] at h; cases h
  | true =>
    rw [hp] at h
    have h2 : pc ≤ mlen y := Nat.le_of_ble_eq_true hp
    have h : pgT y pc = some e := h
    by_cases hy2 : y < 333
    · exact ck_m_at (ck_all y hy2) h2 h
    · have : y = 333 := by omega
      subst this
      exact ck_law h2 h
