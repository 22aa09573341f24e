theorem dX9_init_0 : decode cX9_init 0 = .ok (.aload_n 0, 1) := by decide +kernel
theorem dX9_init_1 : decode cX9_init 1 = .ok (.invokespecial 1, 3) := by decide +kernel
theorem dX9_init_4 : decode cX9_init 4 = .ok (.aload_n 0, 1) := by decide +kernel
theorem dX9_init_5 : decode cX9_init 5 = .ok (.sipush 240, 3) := by decide +kernel
theorem dX9_init_8 : decode cX9_init 8 = .ok (.newarray .int, 2) := by decide +kernel
theorem dX9_init_10 : decode cX9_init 10 = .ok (.putfield 7, 3) := by decide +kernel
theorem dX9_init_13 : decode cX9_init 13 = .ok (.aload_n 0, 1) := by decide +kernel
theorem dX9_init_14 : decode cX9_init 14 = .ok (.bipush 12, 2) := by decide +kernel
theorem dX9_init_16 : decode cX9_init 16 = .ok (.newarray .int, 2) := by decide +kernel
theorem dX9_init_18 : decode cX9_init 18 = .ok (.dup, 1) := by decide +kernel
theorem dX9_init_19 : decode cX9_init 19 = .ok (.iconst 0, 1) := by decide +kernel
theorem dX9_init_20 : decode cX9_init 20 = .ok (.iconst 0, 1) := by decide +kernel
theorem dX9_init_21 : decode cX9_init 21 = .ok (.iastore, 1) := by decide +kernel
theorem dX9_init_22 : decode cX9_init 22 = .ok (.dup, 1) := by decide +kernel
theorem dX9_init_23 : decode cX9_init 23 = .ok (.iconst 1, 1) := by decide +kernel
theorem dX9_init_24 : decode cX9_init 24 = .ok (.iconst 5, 1) := by decide +kernel
theorem dX9_init_25 : decode cX9_init 25 = .ok (.iastore, 1) := by decide +kernel
theorem dX9_init_26 : decode cX9_init 26 = .ok (.dup, 1) := by decide +kernel
theorem dX9_init_27 : decode cX9_init 27 = .ok (.iconst 2, 1) := by decide +kernel
theorem dX9_init_28 : decode cX9_init 28 = .ok (.bipush 13, 2) := by decide +kernel
theorem dX9_init_30 : decode cX9_init 30 = .ok (.iastore, 1) := by decide +kernel
theorem dX9_init_31 : decode cX9_init 31 = .ok (.dup, 1) := by decide +kernel
theorem dX9_init_32 : decode cX9_init 32 = .ok (.iconst 3, 1) := by decide +kernel
theorem dX9_init_33 : decode cX9_init 33 = .ok (.bipush 18, 2) := by decide +kernel
theorem dX9_init_35 : decode cX9_init 35 = .ok (.iastore, 1) := by decide +kernel
theorem dX9_init_36 : decode cX9_init 36 = .ok (.dup, 1) := by decide +kernel
theorem dX9_init_37 : decode cX9_init 37 = .ok (.iconst 4, 1) := by decide +kernel
theorem dX9_init_38 : decode cX9_init 38 = .ok (.bipush 24, 2) := by decide +kernel
theorem dX9_init_40 : decode cX9_init 40 = .ok (.iastore, 1) := by decide +kernel
theorem dX9_init_41 : decode cX9_init 41 = .ok (.dup, 1) := by decide +kernel
theorem dX9_init_42 : decode cX9_init 42 = .ok (.iconst 5, 1) := by decide +kernel
theorem dX9_init_43 : decode cX9_init 43 = .ok (.bipush 29, 2) := by decide +kernel
theorem dX9_init_45 : decode cX9_init 45 = .ok (.iastore, 1) := by decide +kernel
theorem dX9_init_46 : decode cX9_init 46 = .ok (.dup, 1) := by decide +kernel
theorem dX9_init_47 : decode cX9_init 47 = .ok (.bipush 6, 2) := by decide +kernel
theorem dX9_init_49 : decode cX9_init 49 = .ok (.bipush 34, 2) := by decide +kernel
theorem dX9_init_51 : decode cX9_init 51 = .ok (.iastore, 1) := by decide +kernel
theorem dX9_init_52 : decode cX9_init 52 = .ok (.dup, 1) := by decide +kernel
theorem dX9_init_53 : decode cX9_init 53 = .ok (.bipush 7, 2) := by decide +kernel
theorem dX9_init_55 : decode cX9_init 55 = .ok (.bipush 39, 2) := by decide +kernel
theorem dX9_init_57 : decode cX9_init 57 = .ok (.iastore, 1) := by decide +kernel
theorem dX9_init_58 : decode cX9_init 58 = .ok (.dup, 1) := by decide +kernel
theorem dX9_init_59 : decode cX9_init 59 = .ok (.bipush 8, 2) := by decide +kernel
theorem dX9_init_61 : decode cX9_init 61 = .ok (.bipush 43, 2) := by decide +kernel
theorem dX9_init_63 : decode cX9_init 63 = .ok (.iastore, 1) := by decide +kernel
theorem dX9_init_64 : decode cX9_init 64 = .ok (.dup, 1) := by decide +kernel
theorem dX9_init_65 : decode cX9_init 65 = .ok (.bipush 9, 2) := by decide +kernel
theorem dX9_init_67 : decode cX9_init 67 = .ok (.bipush 48, 2) := by decide +kernel
theorem dX9_init_69 : decode cX9_init 69 = .ok (.iastore, 1) := by decide +kernel
theorem dX9_init_70 : decode cX9_init 70 = .ok (.dup, 1) := by decide +kernel
theorem dX9_init_71 : decode cX9_init 71 = .ok (.bipush 10, 2) := by decide +kernel
theorem dX9_init_73 : decode cX9_init 73 = .ok (.bipush 51, 2) := by decide +kernel
theorem dX9_init_75 : decode cX9_init 75 = .ok (.iastore, 1) := by decide +kernel
theorem dX9_init_76 : decode cX9_init 76 = .ok (.dup, 1) := by decide +kernel
theorem dX9_init_77 : decode cX9_init 77 = .ok (.bipush 11, 2) := by decide +kernel
theorem dX9_init_79 : decode cX9_init 79 = .ok (.bipush 56, 2) := by decide +kernel
theorem dX9_init_81 : decode cX9_init 81 = .ok (.iastore, 1) := by decide +kernel
theorem dX9_init_82 : decode cX9_init 82 = .ok (.putfield 13, 3) := by decide +kernel
theorem dX9_init_85 : decode cX9_init 85 = .ok (.aload_n 0, 1) := by decide +kernel
theorem dX9_init_86 : decode cX9_init 86 = .ok (.bipush 56, 2) := by decide +kernel
theorem dX9_init_88 : decode cX9_init 88 = .ok (.newarray .int, 2) := by decide +kernel
theorem dX9_init_90 : decode cX9_init 90 = .ok (.dup, 1) := by decide +kernel
theorem dX9_init_91 : decode cX9_init 91 = .ok (.iconst 0, 1) := by decide +kernel
theorem dX9_init_92 : decode cX9_init 92 = .ok (.bipush 115, 2) := by decide +kernel
theorem dX9_init_94 : decode cX9_init 94 = .ok (.iastore, 1) := by decide +kernel
theorem dX9_init_95 : decode cX9_init 95 = .ok (.dup, 1) := by decide +kernel
theorem dX9_init_96 : decode cX9_init 96 = .ok (.iconst 1, 1) := by decide +kernel
theorem dX9_init_97 : decode cX9_init 97 = .ok (.bipush 105, 2) := by decide +kernel
theorem dX9_init_99 : decode cX9_init 99 = .ok (.iastore, 1) := by decide +kernel
theorem dX9_init_100 : decode cX9_init 100 = .ok (.dup, 1) := by decide +kernel
theorem dX9_init_101 : decode cX9_init 101 = .ok (.iconst 2, 1) := by decide +kernel
theorem dX9_init_102 : decode cX9_init 102 = .ok (.bipush 100, 2) := by decide +kernel
theorem dX9_init_104 : decode cX9_init 104 = .ok (.iastore, 1) := by decide +kernel
theorem dX9_init_105 : decode cX9_init 105 = .ok (.dup, 1) := by decide +kernel
theorem dX9_init_106 : decode cX9_init 106 = .ok (.iconst 3, 1) := by decide +kernel
theorem dX9_init_107 : decode cX9_init 107 = .ok (.bipush 101, 2) := by decide +kernel
theorem dX9_init_109 : decode cX9_init 109 = .ok (.iastore, 1) := by decide +kernel
theorem dX9_init_110 : decode cX9_init 110 = .ok (.dup, 1) := by decide +kernel
theorem dX9_init_111 : decode cX9_init 111 = .ok (.iconst 4, 1) := by decide +kernel
theorem dX9_init_112 : decode cX9_init 112 = .ok (.bipush 115, 2) := by decide +kernel
theorem dX9_init_114 : decode cX9_init 114 = .ok (.iastore, 1) := by decide +kernel
theorem dX9_init_115 : decode cX9_init 115 = .ok (.dup, 1) := by decide +kernel
theorem dX9_init_116 : decode cX9_init 116 = .ok (.iconst 5, 1) := by decide +kernel
theorem dX9_init_117 : decode cX9_init 117 = .ok (.bipush 115, 2) := by decide +kernel
theorem dX9_init_119 : decode cX9_init 119 = .ok (.iastore, 1) := by decide +kernel
theorem dX9_init_120 : decode cX9_init 120 = .ok (.dup, 1) := by decide +kernel
theorem dX9_init_121 : decode cX9_init 121 = .ok (.bipush 6, 2) := by decide +kernel
theorem dX9_init_123 : decode cX9_init 123 = .ok (.bipush 116, 2) := by decide +kernel
theorem dX9_init_125 : decode cX9_init 125 = .ok (.iastore, 1) := by decide +kernel
theorem dX9_init_126 : decode cX9_init 126 = .ok (.dup, 1) := by decide +kernel
theorem dX9_init_127 : decode cX9_init 127 = .ok (.bipush 7, 2) := by decide +kernel
theorem dX9_init_129 : decode cX9_init 129 = .ok (.bipush 114, 2) := by decide +kernel
theorem dX9_init_131 : decode cX9_init 131 = .ok (.iastore, 1) := by decide +kernel
theorem dX9_init_132 : decode cX9_init 132 = .ok (.dup, 1) := by decide +kernel
theorem dX9_init_133 : decode cX9_init 133 = .ok (.bipush 8, 2) := by decide +kernel
theorem dX9_init_135 : decode cX9_init 135 = .ok (.bipush 101, 2) := by decide +kernel
theorem dX9_init_137 : decode cX9_init 137 = .ok (.iastore, 1) := by decide +kernel
theorem dX9_init_138 : decode cX9_init 138 = .ok (.dup, 1) := by decide +kernel
theorem dX9_init_139 : decode cX9_init 139 = .ok (.bipush 9, 2) := by decide +kernel
theorem dX9_init_141 : decode cX9_init 141 = .ok (.bipush 110, 2) := by decide +kernel
theorem dX9_init_143 : decode cX9_init 143 = .ok (.iastore, 1) := by decide +kernel
theorem dX9_init_144 : decode cX9_init 144 = .ok (.dup, 1) := by decide +kernel
theorem dX9_init_145 : decode cX9_init 145 = .ok (.bipush 10, 2) := by decide +kernel
theorem dX9_init_147 : decode cX9_init 147 = .ok (.bipush 103, 2) := by decide +kernel
theorem dX9_init_149 : decode cX9_init 149 = .ok (.iastore, 1) := by decide +kernel
theorem dX9_init_150 : decode cX9_init 150 = .ok (.dup, 1) := by decide +kernel
theorem dX9_init_151 : decode cX9_init 151 = .ok (.bipush 11, 2) := by decide +kernel
theorem dX9_init_153 : decode cX9_init 153 = .ok (.bipush 116, 2) := by decide +kernel
theorem dX9_init_155 : decode cX9_init 155 = .ok (.iastore, 1) := by decide +kernel
theorem dX9_init_156 : decode cX9_init 156 = .ok (.dup, 1) := by decide +kernel
theorem dX9_init_157 : decode cX9_init 157 = .ok (.bipush 12, 2) := by decide +kernel
theorem dX9_init_159 : decode cX9_init 159 = .ok (.bipush 104, 2) := by decide +kernel
theorem dX9_init_161 : decode cX9_init 161 = .ok (.iastore, 1) := by decide +kernel
theorem dX9_init_162 : decode cX9_init 162 = .ok (.dup, 1) := by decide +kernel
theorem dX9_init_163 : decode cX9_init 163 = .ok (.bipush 13, 2) := by decide +kernel
theorem dX9_init_165 : decode cX9_init 165 = .ok (.bipush 112, 2) := by decide +kernel
theorem dX9_init_167 : decode cX9_init 167 = .ok (.iastore, 1) := by decide +kernel
theorem dX9_init_168 : decode cX9_init 168 = .ok (.dup, 1) := by decide +kernel
theorem dX9_init_169 : decode cX9_init 169 = .ok (.bipush 14, 2) := by decide +kernel
theorem dX9_init_171 : decode cX9_init 171 = .ok (.bipush 108, 2) := by decide +kernel
theorem dX9_init_173 : decode cX9_init 173 = .ok (.iastore, 1) := by decide +kernel
theorem dX9_init_174 : decode cX9_init 174 = .ok (.dup, 1) := by decide +kernel
theorem dX9_init_175 : decode cX9_init 175 = .ok (.bipush 15, 2) := by decide +kernel
theorem dX9_init_177 : decode cX9_init 177 = .ok (.bipush 97, 2) := by decide +kernel
theorem dX9_init_179 : decode cX9_init 179 = .ok (.iastore, 1) := by decide +kernel
theorem dX9_init_180 : decode cX9_init 180 = .ok (.dup, 1) := by decide +kernel
theorem dX9_init_181 : decode cX9_init 181 = .ok (.bipush 16, 2) := by decide +kernel
theorem dX9_init_183 : decode cX9_init 183 = .ok (.bipush 99, 2) := by decide +kernel
theorem dX9_init_185 : decode cX9_init 185 = .ok (.iastore, 1) := by decide +kernel
theorem dX9_init_186 : decode cX9_init 186 = .ok (.dup, 1) := by decide +kernel
theorem dX9_init_187 : decode cX9_init 187 = .ok (.bipush 17, 2) := by decide +kernel
theorem dX9_init_189 : decode cX9_init 189 = .ok (.bipush 101, 2) := by decide +kernel
theorem dX9_init_191 : decode cX9_init 191 = .ok (.iastore, 1) := by decide +kernel
theorem dX9_init_192 : decode cX9_init 192 = .ok (.dup, 1) := by decide +kernel
theorem dX9_init_193 : decode cX9_init 193 = .ok (.bipush 18, 2) := by decide +kernel
theorem dX9_init_195 : decode cX9_init 195 = .ok (.bipush 99, 2) := by decide +kernel
theorem dX9_init_197 : decode cX9_init 197 = .ok (.iastore, 1) := by decide +kernel
theorem dX9_init_198 : decode cX9_init 198 = .ok (.dup, 1) := by decide +kernel
theorem dX9_init_199 : decode cX9_init 199 = .ok (.bipush 19, 2) := by decide +kernel
theorem dX9_init_201 : decode cX9_init 201 = .ok (.bipush 104, 2) := by decide +kernel
theorem dX9_init_203 : decode cX9_init 203 = .ok (.iastore, 1) := by decide +kernel
theorem dX9_init_204 : decode cX9_init 204 = .ok (.dup, 1) := by decide +kernel
theorem dX9_init_205 : decode cX9_init 205 = .ok (.bipush 20, 2) := by decide +kernel
theorem dX9_init_207 : decode cX9_init 207 = .ok (.bipush 111, 2) := by decide +kernel
theorem dX9_init_209 : decode cX9_init 209 = .ok (.iastore, 1) := by decide +kernel
theorem dX9_init_210 : decode cX9_init 210 = .ok (.dup, 1) := by decide +kernel
theorem dX9_init_211 : decode cX9_init 211 = .ok (.bipush 21, 2) := by decide +kernel
theorem dX9_init_213 : decode cX9_init 213 = .ok (.bipush 105, 2) := by decide +kernel
theorem dX9_init_215 : decode cX9_init 215 = .ok (.iastore, 1) := by decide +kernel
theorem dX9_init_216 : decode cX9_init 216 = .ok (.dup, 1) := by decide +kernel
theorem dX9_init_217 : decode cX9_init 217 = .ok (.bipush 22, 2) := by decide +kernel
theorem dX9_init_219 : decode cX9_init 219 = .ok (.bipush 99, 2) := by decide +kernel
theorem dX9_init_221 : decode cX9_init 221 = .ok (.iastore, 1) := by decide +kernel
theorem dX9_init_222 : decode cX9_init 222 = .ok (.dup, 1) := by decide +kernel
theorem dX9_init_223 : decode cX9_init 223 = .ok (.bipush 23, 2) := by decide +kernel
theorem dX9_init_225 : decode cX9_init 225 = .ok (.bipush 101, 2) := by decide +kernel
theorem dX9_init_227 : decode cX9_init 227 = .ok (.iastore, 1) := by decide +kernel
theorem dX9_init_228 : decode cX9_init 228 = .ok (.dup, 1) := by decide +kernel
theorem dX9_init_229 : decode cX9_init 229 = .ok (.bipush 24, 2) := by decide +kernel
theorem dX9_init_231 : decode cX9_init 231 = .ok (.bipush 98, 2) := by decide +kernel
theorem dX9_init_233 : decode cX9_init 233 = .ok (.iastore, 1) := by decide +kernel
theorem dX9_init_234 : decode cX9_init 234 = .ok (.dup, 1) := by decide +kernel
theorem dX9_init_235 : decode cX9_init 235 = .ok (.bipush 25, 2) := by decide +kernel
theorem dX9_init_237 : decode cX9_init 237 = .ok (.bipush 97, 2) := by decide +kernel
theorem dX9_init_239 : decode cX9_init 239 = .ok (.iastore, 1) := by decide +kernel
theorem dX9_init_240 : decode cX9_init 240 = .ok (.dup, 1) := by decide +kernel
theorem dX9_init_241 : decode cX9_init 241 = .ok (.bipush 26, 2) := by decide +kernel
theorem dX9_init_243 : decode cX9_init 243 = .ok (.bipush 108, 2) := by decide +kernel
theorem dX9_init_245 : decode cX9_init 245 = .ok (.iastore, 1) := by decide +kernel
theorem dX9_init_246 : decode cX9_init 246 = .ok (.dup, 1) := by decide +kernel
theorem dX9_init_247 : decode cX9_init 247 = .ok (.bipush 27, 2) := by decide +kernel
theorem dX9_init_249 : decode cX9_init 249 = .ok (.bipush 108, 2) := by decide +kernel
theorem dX9_init_251 : decode cX9_init 251 = .ok (.iastore, 1) := by decide +kernel
theorem dX9_init_252 : decode cX9_init 252 = .ok (.dup, 1) := by decide +kernel
theorem dX9_init_253 : decode cX9_init 253 = .ok (.bipush 28, 2) := by decide +kernel
theorem dX9_init_255 : decode cX9_init 255 = .ok (.bipush 115, 2) := by decide +kernel
theorem dX9_init_257 : decode cX9_init 257 = .ok (.iastore, 1) := by decide +kernel
theorem dX9_init_258 : decode cX9_init 258 = .ok (.dup, 1) := by decide +kernel
theorem dX9_init_259 : decode cX9_init 259 = .ok (.bipush 29, 2) := by decide +kernel
theorem dX9_init_261 : decode cX9_init 261 = .ok (.bipush 119, 2) := by decide +kernel
theorem dX9_init_263 : decode cX9_init 263 = .ok (.iastore, 1) := by decide +kernel
theorem dX9_init_264 : decode cX9_init 264 = .ok (.dup, 1) := by decide +kernel
theorem dX9_init_265 : decode cX9_init 265 = .ok (.bipush 30, 2) := by decide +kernel
theorem dX9_init_267 : decode cX9_init 267 = .ok (.bipush 104, 2) := by decide +kernel
theorem dX9_init_269 : decode cX9_init 269 = .ok (.iastore, 1) := by decide +kernel
theorem dX9_init_270 : decode cX9_init 270 = .ok (.dup, 1) := by decide +kernel
theorem dX9_init_271 : decode cX9_init 271 = .ok (.bipush 31, 2) := by decide +kernel
theorem dX9_init_273 : decode cX9_init 273 = .ok (.bipush 101, 2) := by decide +kernel
theorem dX9_init_275 : decode cX9_init 275 = .ok (.iastore, 1) := by decide +kernel
theorem dX9_init_276 : decode cX9_init 276 = .ok (.dup, 1) := by decide +kernel
theorem dX9_init_277 : decode cX9_init 277 = .ok (.bipush 32, 2) := by decide +kernel
theorem dX9_init_279 : decode cX9_init 279 = .ok (.bipush 101, 2) := by decide +kernel
theorem dX9_init_281 : decode cX9_init 281 = .ok (.iastore, 1) := by decide +kernel
theorem dX9_init_282 : decode cX9_init 282 = .ok (.dup, 1) := by decide +kernel
theorem dX9_init_283 : decode cX9_init 283 = .ok (.bipush 33, 2) := by decide +kernel
theorem dX9_init_285 : decode cX9_init 285 = .ok (.bipush 108, 2) := by decide +kernel
theorem dX9_init_287 : decode cX9_init 287 = .ok (.iastore, 1) := by decide +kernel
theorem dX9_init_288 : decode cX9_init 288 = .ok (.dup, 1) := by decide +kernel
theorem dX9_init_289 : decode cX9_init 289 = .ok (.bipush 34, 2) := by decide +kernel
theorem dX9_init_291 : decode cX9_init 291 = .ok (.bipush 114, 2) := by decide +kernel
theorem dX9_init_293 : decode cX9_init 293 = .ok (.iastore, 1) := by decide +kernel
theorem dX9_init_294 : decode cX9_init 294 = .ok (.dup, 1) := by decide +kernel
theorem dX9_init_295 : decode cX9_init 295 = .ok (.bipush 35, 2) := by decide +kernel
theorem dX9_init_297 : decode cX9_init 297 = .ok (.bipush 111, 2) := by decide +kernel
theorem dX9_init_299 : decode cX9_init 299 = .ok (.iastore, 1) := by decide +kernel
theorem dX9_init_300 : decode cX9_init 300 = .ok (.dup, 1) := by decide +kernel
theorem dX9_init_301 : decode cX9_init 301 = .ok (.bipush 36, 2) := by decide +kernel
theorem dX9_init_303 : decode cX9_init 303 = .ok (.bipush 117, 2) := by decide +kernel
theorem dX9_init_305 : decode cX9_init 305 = .ok (.iastore, 1) := by decide +kernel
theorem dX9_init_306 : decode cX9_init 306 = .ok (.dup, 1) := by decide +kernel
theorem dX9_init_307 : decode cX9_init 307 = .ok (.bipush 37, 2) := by decide +kernel
theorem dX9_init_309 : decode cX9_init 309 = .ok (.bipush 110, 2) := by decide +kernel
theorem dX9_init_311 : decode cX9_init 311 = .ok (.iastore, 1) := by decide +kernel
theorem dX9_init_312 : decode cX9_init 312 = .ok (.dup, 1) := by decide +kernel
theorem dX9_init_313 : decode cX9_init 313 = .ok (.bipush 38, 2) := by decide +kernel
theorem dX9_init_315 : decode cX9_init 315 = .ok (.bipush 100, 2) := by decide +kernel
theorem dX9_init_317 : decode cX9_init 317 = .ok (.iastore, 1) := by decide +kernel
theorem dX9_init_318 : decode cX9_init 318 = .ok (.dup, 1) := by decide +kernel
theorem dX9_init_319 : decode cX9_init 319 = .ok (.bipush 39, 2) := by decide +kernel
theorem dX9_init_321 : decode cX9_init 321 = .ok (.bipush 114, 2) := by decide +kernel
theorem dX9_init_323 : decode cX9_init 323 = .ok (.iastore, 1) := by decide +kernel
theorem dX9_init_324 : decode cX9_init 324 = .ok (.dup, 1) := by decide +kernel
theorem dX9_init_325 : decode cX9_init 325 = .ok (.bipush 40, 2) := by decide +kernel
theorem dX9_init_327 : decode cX9_init 327 = .ok (.bipush 117, 2) := by decide +kernel
theorem dX9_init_329 : decode cX9_init 329 = .ok (.iastore, 1) := by decide +kernel
theorem dX9_init_330 : decode cX9_init 330 = .ok (.dup, 1) := by decide +kernel
theorem dX9_init_331 : decode cX9_init 331 = .ok (.bipush 41, 2) := by decide +kernel
theorem dX9_init_333 : decode cX9_init 333 = .ok (.bipush 108, 2) := by decide +kernel
theorem dX9_init_335 : decode cX9_init 335 = .ok (.iastore, 1) := by decide +kernel
theorem dX9_init_336 : decode cX9_init 336 = .ok (.dup, 1) := by decide +kernel
theorem dX9_init_337 : decode cX9_init 337 = .ok (.bipush 42, 2) := by decide +kernel
theorem dX9_init_339 : decode cX9_init 339 = .ok (.bipush 101, 2) := by decide +kernel
theorem dX9_init_341 : decode cX9_init 341 = .ok (.iastore, 1) := by decide +kernel
theorem dX9_init_342 : decode cX9_init 342 = .ok (.dup, 1) := by decide +kernel
theorem dX9_init_343 : decode cX9_init 343 = .ok (.bipush 43, 2) := by decide +kernel
theorem dX9_init_345 : decode cX9_init 345 = .ok (.bipush 119, 2) := by decide +kernel
theorem dX9_init_347 : decode cX9_init 347 = .ok (.iastore, 1) := by decide +kernel
theorem dX9_init_348 : decode cX9_init 348 = .ok (.dup, 1) := by decide +kernel
theorem dX9_init_349 : decode cX9_init 349 = .ok (.bipush 44, 2) := by decide +kernel
theorem dX9_init_351 : decode cX9_init 351 = .ok (.bipush 111, 2) := by decide +kernel
theorem dX9_init_353 : decode cX9_init 353 = .ok (.iastore, 1) := by decide +kernel
theorem dX9_init_354 : decode cX9_init 354 = .ok (.dup, 1) := by decide +kernel
theorem dX9_init_355 : decode cX9_init 355 = .ok (.bipush 45, 2) := by decide +kernel
theorem dX9_init_357 : decode cX9_init 357 = .ok (.bipush 114, 2) := by decide +kernel
theorem dX9_init_359 : decode cX9_init 359 = .ok (.iastore, 1) := by decide +kernel
theorem dX9_init_360 : decode cX9_init 360 = .ok (.dup, 1) := by decide +kernel
theorem dX9_init_361 : decode cX9_init 361 = .ok (.bipush 46, 2) := by decide +kernel
theorem dX9_init_363 : decode cX9_init 363 = .ok (.bipush 115, 2) := by decide +kernel
theorem dX9_init_365 : decode cX9_init 365 = .ok (.iastore, 1) := by decide +kernel
theorem dX9_init_366 : decode cX9_init 366 = .ok (.dup, 1) := by decide +kernel
theorem dX9_init_367 : decode cX9_init 367 = .ok (.bipush 47, 2) := by decide +kernel
theorem dX9_init_369 : decode cX9_init 369 = .ok (.bipush 116, 2) := by decide +kernel
theorem dX9_init_371 : decode cX9_init 371 = .ok (.iastore, 1) := by decide +kernel
theorem dX9_init_372 : decode cX9_init 372 = .ok (.dup, 1) := by decide +kernel
theorem dX9_init_373 : decode cX9_init 373 = .ok (.bipush 48, 2) := by decide +kernel
theorem dX9_init_375 : decode cX9_init 375 = .ok (.bipush 100, 2) := by decide +kernel
theorem dX9_init_377 : decode cX9_init 377 = .ok (.iastore, 1) := by decide +kernel
theorem dX9_init_378 : decode cX9_init 378 = .ok (.dup, 1) := by decide +kernel
theorem dX9_init_379 : decode cX9_init 379 = .ok (.bipush 49, 2) := by decide +kernel
theorem dX9_init_381 : decode cX9_init 381 = .ok (.bipush 97, 2) := by decide +kernel
theorem dX9_init_383 : decode cX9_init 383 = .ok (.iastore, 1) := by decide +kernel
theorem dX9_init_384 : decode cX9_init 384 = .ok (.dup, 1) := by decide +kernel
theorem dX9_init_385 : decode cX9_init 385 = .ok (.bipush 50, 2) := by decide +kernel
theorem dX9_init_387 : decode cX9_init 387 = .ok (.bipush 121, 2) := by decide +kernel
theorem dX9_init_389 : decode cX9_init 389 = .ok (.iastore, 1) := by decide +kernel
theorem dX9_init_390 : decode cX9_init 390 = .ok (.dup, 1) := by decide +kernel
theorem dX9_init_391 : decode cX9_init 391 = .ok (.bipush 51, 2) := by decide +kernel
theorem dX9_init_393 : decode cX9_init 393 = .ok (.bipush 97, 2) := by decide +kernel
theorem dX9_init_395 : decode cX9_init 395 = .ok (.iastore, 1) := by decide +kernel
theorem dX9_init_396 : decode cX9_init 396 = .ok (.dup, 1) := by decide +kernel
theorem dX9_init_397 : decode cX9_init 397 = .ok (.bipush 52, 2) := by decide +kernel
theorem dX9_init_399 : decode cX9_init 399 = .ok (.bipush 108, 2) := by decide +kernel
theorem dX9_init_401 : decode cX9_init 401 = .ok (.iastore, 1) := by decide +kernel
theorem dX9_init_402 : decode cX9_init 402 = .ok (.dup, 1) := by decide +kernel
theorem dX9_init_403 : decode cX9_init 403 = .ok (.bipush 53, 2) := by decide +kernel
theorem dX9_init_405 : decode cX9_init 405 = .ok (.bipush 105, 2) := by decide +kernel
theorem dX9_init_407 : decode cX9_init 407 = .ok (.iastore, 1) := by decide +kernel
theorem dX9_init_408 : decode cX9_init 408 = .ok (.dup, 1) := by decide +kernel
theorem dX9_init_409 : decode cX9_init 409 = .ok (.bipush 54, 2) := by decide +kernel
theorem dX9_init_411 : decode cX9_init 411 = .ok (.bipush 107, 2) := by decide +kernel
theorem dX9_init_413 : decode cX9_init 413 = .ok (.iastore, 1) := by decide +kernel
theorem dX9_init_414 : decode cX9_init 414 = .ok (.dup, 1) := by decide +kernel
theorem dX9_init_415 : decode cX9_init 415 = .ok (.bipush 55, 2) := by decide +kernel
theorem dX9_init_417 : decode cX9_init 417 = .ok (.bipush 101, 2) := by decide +kernel
theorem dX9_init_419 : decode cX9_init 419 = .ok (.iastore, 1) := by decide +kernel
theorem dX9_init_420 : decode cX9_init 420 = .ok (.putfield 16, 3) := by decide +kernel
theorem dX9_init_423 : decode cX9_init 423 = .ok (.aload_n 0, 1) := by decide +kernel
theorem dX9_init_424 : decode cX9_init 424 = .ok (.bipush 11, 2) := by decide +kernel
theorem dX9_init_426 : decode cX9_init 426 = .ok (.newarray .int, 2) := by decide +kernel
theorem dX9_init_428 : decode cX9_init 428 = .ok (.dup, 1) := by decide +kernel
theorem dX9_init_429 : decode cX9_init 429 = .ok (.iconst 0, 1) := by decide +kernel
theorem dX9_init_430 : decode cX9_init 430 = .ok (.bipush (-4), 2) := by decide +kernel
theorem dX9_init_432 : decode cX9_init 432 = .ok (.iastore, 1) := by decide +kernel
theorem dX9_init_433 : decode cX9_init 433 = .ok (.dup, 1) := by decide +kernel
theorem dX9_init_434 : decode cX9_init 434 = .ok (.iconst 1, 1) := by decide +kernel
theorem dX9_init_435 : decode cX9_init 435 = .ok (.bipush (-4), 2) := by decide +kernel
theorem dX9_init_437 : decode cX9_init 437 = .ok (.iastore, 1) := by decide +kernel
theorem dX9_init_438 : decode cX9_init 438 = .ok (.dup, 1) := by decide +kernel
theorem dX9_init_439 : decode cX9_init 439 = .ok (.iconst 2, 1) := by decide +kernel
theorem dX9_init_440 : decode cX9_init 440 = .ok (.bipush (-4), 2) := by decide +kernel
theorem dX9_init_442 : decode cX9_init 442 = .ok (.iastore, 1) := by decide +kernel
theorem dX9_init_443 : decode cX9_init 443 = .ok (.dup, 1) := by decide +kernel
theorem dX9_init_444 : decode cX9_init 444 = .ok (.iconst 3, 1) := by decide +kernel
theorem dX9_init_445 : decode cX9_init 445 = .ok (.bipush (-4), 2) := by decide +kernel
theorem dX9_init_447 : decode cX9_init 447 = .ok (.iastore, 1) := by decide +kernel
theorem dX9_init_448 : decode cX9_init 448 = .ok (.dup, 1) := by decide +kernel
theorem dX9_init_449 : decode cX9_init 449 = .ok (.iconst 4, 1) := by decide +kernel
theorem dX9_init_450 : decode cX9_init 450 = .ok (.iconst 1, 1) := by decide +kernel
theorem dX9_init_451 : decode cX9_init 451 = .ok (.iastore, 1) := by decide +kernel
theorem dX9_init_452 : decode cX9_init 452 = .ok (.dup, 1) := by decide +kernel
theorem dX9_init_453 : decode cX9_init 453 = .ok (.iconst 5, 1) := by decide +kernel
theorem dX9_init_454 : decode cX9_init 454 = .ok (.iconst 3, 1) := by decide +kernel
theorem dX9_init_455 : decode cX9_init 455 = .ok (.iastore, 1) := by decide +kernel
theorem dX9_init_456 : decode cX9_init 456 = .ok (.dup, 1) := by decide +kernel
theorem dX9_init_457 : decode cX9_init 457 = .ok (.bipush 6, 2) := by decide +kernel
theorem dX9_init_459 : decode cX9_init 459 = .ok (.bipush (-4), 2) := by decide +kernel
theorem dX9_init_461 : decode cX9_init 461 = .ok (.iastore, 1) := by decide +kernel
theorem dX9_init_462 : decode cX9_init 462 = .ok (.dup, 1) := by decide +kernel
theorem dX9_init_463 : decode cX9_init 463 = .ok (.bipush 7, 2) := by decide +kernel
theorem dX9_init_465 : decode cX9_init 465 = .ok (.bipush (-4), 2) := by decide +kernel
theorem dX9_init_467 : decode cX9_init 467 = .ok (.iastore, 1) := by decide +kernel
theorem dX9_init_468 : decode cX9_init 468 = .ok (.dup, 1) := by decide +kernel
theorem dX9_init_469 : decode cX9_init 469 = .ok (.bipush 8, 2) := by decide +kernel
theorem dX9_init_471 : decode cX9_init 471 = .ok (.iconst 0, 1) := by decide +kernel
theorem dX9_init_472 : decode cX9_init 472 = .ok (.iastore, 1) := by decide +kernel
theorem dX9_init_473 : decode cX9_init 473 = .ok (.dup, 1) := by decide +kernel
theorem dX9_init_474 : decode cX9_init 474 = .ok (.bipush 9, 2) := by decide +kernel
theorem dX9_init_476 : decode cX9_init 476 = .ok (.iconst 2, 1) := by decide +kernel
theorem dX9_init_477 : decode cX9_init 477 = .ok (.iastore, 1) := by decide +kernel
theorem dX9_init_478 : decode cX9_init 478 = .ok (.dup, 1) := by decide +kernel
theorem dX9_init_479 : decode cX9_init 479 = .ok (.bipush 10, 2) := by decide +kernel
theorem dX9_init_481 : decode cX9_init 481 = .ok (.iconst 4, 1) := by decide +kernel
theorem dX9_init_482 : decode cX9_init 482 = .ok (.iastore, 1) := by decide +kernel
theorem dX9_init_483 : decode cX9_init 483 = .ok (.putfield 19, 3) := by decide +kernel
theorem dX9_init_486 : decode cX9_init 486 = .ok (.aload_n 0, 1) := by decide +kernel
theorem dX9_init_487 : decode cX9_init 487 = .ok (.bipush 32, 2) := by decide +kernel
theorem dX9_init_489 : decode cX9_init 489 = .ok (.newarray .int, 2) := by decide +kernel
theorem dX9_init_491 : decode cX9_init 491 = .ok (.dup, 1) := by decide +kernel
theorem dX9_init_492 : decode cX9_init 492 = .ok (.iconst 0, 1) := by decide +kernel
theorem dX9_init_493 : decode cX9_init 493 = .ok (.iconst 4, 1) := by decide +kernel
theorem dX9_init_494 : decode cX9_init 494 = .ok (.iastore, 1) := by decide +kernel
theorem dX9_init_495 : decode cX9_init 495 = .ok (.dup, 1) := by decide +kernel
theorem dX9_init_496 : decode cX9_init 496 = .ok (.iconst 1, 1) := by decide +kernel
theorem dX9_init_497 : decode cX9_init 497 = .ok (.iconst 0, 1) := by decide +kernel
theorem dX9_init_498 : decode cX9_init 498 = .ok (.iastore, 1) := by decide +kernel
theorem dX9_init_499 : decode cX9_init 499 = .ok (.dup, 1) := by decide +kernel
theorem dX9_init_500 : decode cX9_init 500 = .ok (.iconst 2, 1) := by decide +kernel
theorem dX9_init_501 : decode cX9_init 501 = .ok (.iconst 5, 1) := by decide +kernel
theorem dX9_init_502 : decode cX9_init 502 = .ok (.iastore, 1) := by decide +kernel
theorem dX9_init_503 : decode cX9_init 503 = .ok (.dup, 1) := by decide +kernel
theorem dX9_init_504 : decode cX9_init 504 = .ok (.iconst 3, 1) := by decide +kernel
theorem dX9_init_505 : decode cX9_init 505 = .ok (.iconst 5, 1) := by decide +kernel
theorem dX9_init_506 : decode cX9_init 506 = .ok (.iastore, 1) := by decide +kernel
theorem dX9_init_507 : decode cX9_init 507 = .ok (.dup, 1) := by decide +kernel
theorem dX9_init_508 : decode cX9_init 508 = .ok (.iconst 4, 1) := by decide +kernel
theorem dX9_init_509 : decode cX9_init 509 = .ok (.iconst 5, 1) := by decide +kernel
theorem dX9_init_510 : decode cX9_init 510 = .ok (.iastore, 1) := by decide +kernel
theorem dX9_init_511 : decode cX9_init 511 = .ok (.dup, 1) := by decide +kernel
theorem dX9_init_512 : decode cX9_init 512 = .ok (.iconst 5, 1) := by decide +kernel
theorem dX9_init_513 : decode cX9_init 513 = .ok (.iconst 5, 1) := by decide +kernel
theorem dX9_init_514 : decode cX9_init 514 = .ok (.iastore, 1) := by decide +kernel
theorem dX9_init_515 : decode cX9_init 515 = .ok (.dup, 1) := by decide +kernel
theorem dX9_init_516 : decode cX9_init 516 = .ok (.bipush 6, 2) := by decide +kernel
theorem dX9_init_518 : decode cX9_init 518 = .ok (.iconst 5, 1) := by decide +kernel
theorem dX9_init_519 : decode cX9_init 519 = .ok (.iastore, 1) := by decide +kernel
theorem dX9_init_520 : decode cX9_init 520 = .ok (.dup, 1) := by decide +kernel
theorem dX9_init_521 : decode cX9_init 521 = .ok (.bipush 7, 2) := by decide +kernel
theorem dX9_init_523 : decode cX9_init 523 = .ok (.iconst 5, 1) := by decide +kernel
theorem dX9_init_524 : decode cX9_init 524 = .ok (.iastore, 1) := by decide +kernel
theorem dX9_init_525 : decode cX9_init 525 = .ok (.dup, 1) := by decide +kernel
theorem dX9_init_526 : decode cX9_init 526 = .ok (.bipush 8, 2) := by decide +kernel
theorem dX9_init_528 : decode cX9_init 528 = .ok (.iconst 0, 1) := by decide +kernel
theorem dX9_init_529 : decode cX9_init 529 = .ok (.iastore, 1) := by decide +kernel
theorem dX9_init_530 : decode cX9_init 530 = .ok (.dup, 1) := by decide +kernel
theorem dX9_init_531 : decode cX9_init 531 = .ok (.bipush 9, 2) := by decide +kernel
theorem dX9_init_533 : decode cX9_init 533 = .ok (.iconst 0, 1) := by decide +kernel
theorem dX9_init_534 : decode cX9_init 534 = .ok (.iastore, 1) := by decide +kernel
theorem dX9_init_535 : decode cX9_init 535 = .ok (.dup, 1) := by decide +kernel
theorem dX9_init_536 : decode cX9_init 536 = .ok (.bipush 10, 2) := by decide +kernel
theorem dX9_init_538 : decode cX9_init 538 = .ok (.iconst 0, 1) := by decide +kernel
theorem dX9_init_539 : decode cX9_init 539 = .ok (.iastore, 1) := by decide +kernel
theorem dX9_init_540 : decode cX9_init 540 = .ok (.dup, 1) := by decide +kernel
theorem dX9_init_541 : decode cX9_init 541 = .ok (.bipush 11, 2) := by decide +kernel
theorem dX9_init_543 : decode cX9_init 543 = .ok (.iconst 0, 1) := by decide +kernel
theorem dX9_init_544 : decode cX9_init 544 = .ok (.iastore, 1) := by decide +kernel
theorem dX9_init_545 : decode cX9_init 545 = .ok (.dup, 1) := by decide +kernel
theorem dX9_init_546 : decode cX9_init 546 = .ok (.bipush 12, 2) := by decide +kernel
theorem dX9_init_548 : decode cX9_init 548 = .ok (.iconst 0, 1) := by decide +kernel
theorem dX9_init_549 : decode cX9_init 549 = .ok (.iastore, 1) := by decide +kernel
theorem dX9_init_550 : decode cX9_init 550 = .ok (.dup, 1) := by decide +kernel
theorem dX9_init_551 : decode cX9_init 551 = .ok (.bipush 13, 2) := by decide +kernel
theorem dX9_init_553 : decode cX9_init 553 = .ok (.iconst 0, 1) := by decide +kernel
theorem dX9_init_554 : decode cX9_init 554 = .ok (.iastore, 1) := by decide +kernel
theorem dX9_init_555 : decode cX9_init 555 = .ok (.dup, 1) := by decide +kernel
theorem dX9_init_556 : decode cX9_init 556 = .ok (.bipush 14, 2) := by decide +kernel
theorem dX9_init_558 : decode cX9_init 558 = .ok (.iconst 0, 1) := by decide +kernel
theorem dX9_init_559 : decode cX9_init 559 = .ok (.iastore, 1) := by decide +kernel
theorem dX9_init_560 : decode cX9_init 560 = .ok (.dup, 1) := by decide +kernel
theorem dX9_init_561 : decode cX9_init 561 = .ok (.bipush 15, 2) := by decide +kernel
theorem dX9_init_563 : decode cX9_init 563 = .ok (.iconst 0, 1) := by decide +kernel
theorem dX9_init_564 : decode cX9_init 564 = .ok (.iastore, 1) := by decide +kernel
theorem dX9_init_565 : decode cX9_init 565 = .ok (.dup, 1) := by decide +kernel
theorem dX9_init_566 : decode cX9_init 566 = .ok (.bipush 16, 2) := by decide +kernel
theorem dX9_init_568 : decode cX9_init 568 = .ok (.iconst 0, 1) := by decide +kernel
theorem dX9_init_569 : decode cX9_init 569 = .ok (.iastore, 1) := by decide +kernel
theorem dX9_init_570 : decode cX9_init 570 = .ok (.dup, 1) := by decide +kernel
theorem dX9_init_571 : decode cX9_init 571 = .ok (.bipush 17, 2) := by decide +kernel
theorem dX9_init_573 : decode cX9_init 573 = .ok (.iconst 0, 1) := by decide +kernel
theorem dX9_init_574 : decode cX9_init 574 = .ok (.iastore, 1) := by decide +kernel
theorem dX9_init_575 : decode cX9_init 575 = .ok (.dup, 1) := by decide +kernel
theorem dX9_init_576 : decode cX9_init 576 = .ok (.bipush 18, 2) := by decide +kernel
theorem dX9_init_578 : decode cX9_init 578 = .ok (.iconst 0, 1) := by decide +kernel
theorem dX9_init_579 : decode cX9_init 579 = .ok (.iastore, 1) := by decide +kernel
theorem dX9_init_580 : decode cX9_init 580 = .ok (.dup, 1) := by decide +kernel
theorem dX9_init_581 : decode cX9_init 581 = .ok (.bipush 19, 2) := by decide +kernel
theorem dX9_init_583 : decode cX9_init 583 = .ok (.iconst 0, 1) := by decide +kernel
theorem dX9_init_584 : decode cX9_init 584 = .ok (.iastore, 1) := by decide +kernel
theorem dX9_init_585 : decode cX9_init 585 = .ok (.dup, 1) := by decide +kernel
theorem dX9_init_586 : decode cX9_init 586 = .ok (.bipush 20, 2) := by decide +kernel
theorem dX9_init_588 : decode cX9_init 588 = .ok (.iconst 1, 1) := by decide +kernel
theorem dX9_init_589 : decode cX9_init 589 = .ok (.iastore, 1) := by decide +kernel
theorem dX9_init_590 : decode cX9_init 590 = .ok (.dup, 1) := by decide +kernel
theorem dX9_init_591 : decode cX9_init 591 = .ok (.bipush 21, 2) := by decide +kernel
theorem dX9_init_593 : decode cX9_init 593 = .ok (.iconst 1, 1) := by decide +kernel
theorem dX9_init_594 : decode cX9_init 594 = .ok (.iastore, 1) := by decide +kernel
theorem dX9_init_595 : decode cX9_init 595 = .ok (.dup, 1) := by decide +kernel
theorem dX9_init_596 : decode cX9_init 596 = .ok (.bipush 22, 2) := by decide +kernel
theorem dX9_init_598 : decode cX9_init 598 = .ok (.iconst 1, 1) := by decide +kernel
theorem dX9_init_599 : decode cX9_init 599 = .ok (.iastore, 1) := by decide +kernel
theorem dX9_init_600 : decode cX9_init 600 = .ok (.dup, 1) := by decide +kernel
theorem dX9_init_601 : decode cX9_init 601 = .ok (.bipush 23, 2) := by decide +kernel
theorem dX9_init_603 : decode cX9_init 603 = .ok (.iconst 1, 1) := by decide +kernel
theorem dX9_init_604 : decode cX9_init 604 = .ok (.iastore, 1) := by decide +kernel
theorem dX9_init_605 : decode cX9_init 605 = .ok (.dup, 1) := by decide +kernel
theorem dX9_init_606 : decode cX9_init 606 = .ok (.bipush 24, 2) := by decide +kernel
theorem dX9_init_608 : decode cX9_init 608 = .ok (.iconst 1, 1) := by decide +kernel
theorem dX9_init_609 : decode cX9_init 609 = .ok (.iastore, 1) := by decide +kernel
theorem dX9_init_610 : decode cX9_init 610 = .ok (.dup, 1) := by decide +kernel
theorem dX9_init_611 : decode cX9_init 611 = .ok (.bipush 25, 2) := by decide +kernel
theorem dX9_init_613 : decode cX9_init 613 = .ok (.iconst 1, 1) := by decide +kernel
theorem dX9_init_614 : decode cX9_init 614 = .ok (.iastore, 1) := by decide +kernel
theorem dX9_init_615 : decode cX9_init 615 = .ok (.dup, 1) := by decide +kernel
theorem dX9_init_616 : decode cX9_init 616 = .ok (.bipush 26, 2) := by decide +kernel
theorem dX9_init_618 : decode cX9_init 618 = .ok (.iconst 0, 1) := by decide +kernel
theorem dX9_init_619 : decode cX9_init 619 = .ok (.iastore, 1) := by decide +kernel
theorem dX9_init_620 : decode cX9_init 620 = .ok (.dup, 1) := by decide +kernel
theorem dX9_init_621 : decode cX9_init 621 = .ok (.bipush 27, 2) := by decide +kernel
theorem dX9_init_623 : decode cX9_init 623 = .ok (.iconst 1, 1) := by decide +kernel
theorem dX9_init_624 : decode cX9_init 624 = .ok (.iastore, 1) := by decide +kernel
theorem dX9_init_625 : decode cX9_init 625 = .ok (.dup, 1) := by decide +kernel
theorem dX9_init_626 : decode cX9_init 626 = .ok (.bipush 28, 2) := by decide +kernel
theorem dX9_init_628 : decode cX9_init 628 = .ok (.iconst 2, 1) := by decide +kernel
theorem dX9_init_629 : decode cX9_init 629 = .ok (.iastore, 1) := by decide +kernel
theorem dX9_init_630 : decode cX9_init 630 = .ok (.dup, 1) := by decide +kernel
theorem dX9_init_631 : decode cX9_init 631 = .ok (.bipush 29, 2) := by decide +kernel
theorem dX9_init_633 : decode cX9_init 633 = .ok (.iconst 3, 1) := by decide +kernel
theorem dX9_init_634 : decode cX9_init 634 = .ok (.iastore, 1) := by decide +kernel
theorem dX9_init_635 : decode cX9_init 635 = .ok (.dup, 1) := by decide +kernel
theorem dX9_init_636 : decode cX9_init 636 = .ok (.bipush 30, 2) := by decide +kernel
theorem dX9_init_638 : decode cX9_init 638 = .ok (.iconst 4, 1) := by decide +kernel
theorem dX9_init_639 : decode cX9_init 639 = .ok (.iastore, 1) := by decide +kernel
theorem dX9_init_640 : decode cX9_init 640 = .ok (.dup, 1) := by decide +kernel
theorem dX9_init_641 : decode cX9_init 641 = .ok (.bipush 31, 2) := by decide +kernel
theorem dX9_init_643 : decode cX9_init 643 = .ok (.iconst 5, 1) := by decide +kernel
theorem dX9_init_644 : decode cX9_init 644 = .ok (.iastore, 1) := by decide +kernel
theorem dX9_init_645 : decode cX9_init 645 = .ok (.putfield 22, 3) := by decide +kernel
theorem dX9_init_648 : decode cX9_init 648 = .ok (.aload_n 0, 1) := by decide +kernel
theorem dX9_init_649 : decode cX9_init 649 = .ok (.bipush 32, 2) := by decide +kernel
theorem dX9_init_651 : decode cX9_init 651 = .ok (.newarray .int, 2) := by decide +kernel
theorem dX9_init_653 : decode cX9_init 653 = .ok (.putfield 25, 3) := by decide +kernel
theorem dX9_init_656 : decode cX9_init 656 = .ok (.aload_n 0, 1) := by decide +kernel
theorem dX9_init_657 : decode cX9_init 657 = .ok (.bipush 30, 2) := by decide +kernel
theorem dX9_init_659 : decode cX9_init 659 = .ok (.newarray .int, 2) := by decide +kernel
theorem dX9_init_661 : decode cX9_init 661 = .ok (.putfield 28, 3) := by decide +kernel
theorem dX9_init_664 : decode cX9_init 664 = .ok (.aload_n 0, 1) := by decide +kernel
theorem dX9_init_665 : decode cX9_init 665 = .ok (.bipush 30, 2) := by decide +kernel
theorem dX9_init_667 : decode cX9_init 667 = .ok (.newarray .int, 2) := by decide +kernel
theorem dX9_init_669 : decode cX9_init 669 = .ok (.putfield 31, 3) := by decide +kernel
theorem dX9_init_672 : decode cX9_init 672 = .ok (.aload_n 0, 1) := by decide +kernel
theorem dX9_init_673 : decode cX9_init 673 = .ok (.bipush 60, 2) := by decide +kernel
theorem dX9_init_675 : decode cX9_init 675 = .ok (.newarray .int, 2) := by decide +kernel
theorem dX9_init_677 : decode cX9_init 677 = .ok (.putfield 34, 3) := by decide +kernel
theorem dX9_init_680 : decode cX9_init 680 = .ok (.aload_n 0, 1) := by decide +kernel
theorem dX9_init_681 : decode cX9_init 681 = .ok (.bipush 60, 2) := by decide +kernel
theorem dX9_init_683 : decode cX9_init 683 = .ok (.newarray .int, 2) := by decide +kernel
theorem dX9_init_685 : decode cX9_init 685 = .ok (.putfield 37, 3) := by decide +kernel
theorem dX9_init_688 : decode cX9_init 688 = .ok (.aload_n 0, 1) := by decide +kernel
theorem dX9_init_689 : decode cX9_init 689 = .ok (.bipush 60, 2) := by decide +kernel
theorem dX9_init_691 : decode cX9_init 691 = .ok (.newarray .int, 2) := by decide +kernel
theorem dX9_init_693 : decode cX9_init 693 = .ok (.putfield 40, 3) := by decide +kernel
theorem dX9_init_696 : decode cX9_init 696 = .ok (.aload_n 0, 1) := by decide +kernel
theorem dX9_init_697 : decode cX9_init 697 = .ok (.iconst 2, 1) := by decide +kernel
theorem dX9_init_698 : decode cX9_init 698 = .ok (.newarray .int, 2) := by decide +kernel
theorem dX9_init_700 : decode cX9_init 700 = .ok (.putfield 43, 3) := by decide +kernel
theorem dX9_init_703 : decode cX9_init 703 = .ok (.aload_n 0, 1) := by decide +kernel
theorem dX9_init_704 : decode cX9_init 704 = .ok (.bipush 6, 2) := by decide +kernel
theorem dX9_init_706 : decode cX9_init 706 = .ok (.newarray .int, 2) := by decide +kernel
theorem dX9_init_708 : decode cX9_init 708 = .ok (.putfield 46, 3) := by decide +kernel
theorem dX9_init_711 : decode cX9_init 711 = .ok (.aload_n 0, 1) := by decide +kernel
theorem dX9_init_712 : decode cX9_init 712 = .ok (.bipush 6, 2) := by decide +kernel
theorem dX9_init_714 : decode cX9_init 714 = .ok (.newarray .int, 2) := by decide +kernel
theorem dX9_init_716 : decode cX9_init 716 = .ok (.putfield 49, 3) := by decide +kernel
theorem dX9_init_719 : decode cX9_init 719 = .ok (.aload_n 0, 1) := by decide +kernel
theorem dX9_init_720 : decode cX9_init 720 = .ok (.bipush 6, 2) := by decide +kernel
theorem dX9_init_722 : decode cX9_init 722 = .ok (.newarray .int, 2) := by decide +kernel
theorem dX9_init_724 : decode cX9_init 724 = .ok (.putfield 52, 3) := by decide +kernel
theorem dX9_init_727 : decode cX9_init 727 = .ok (.aload_n 0, 1) := by decide +kernel
theorem dX9_init_728 : decode cX9_init 728 = .ok (.bipush 6, 2) := by decide +kernel
theorem dX9_init_730 : decode cX9_init 730 = .ok (.newarray .int, 2) := by decide +kernel
theorem dX9_init_732 : decode cX9_init 732 = .ok (.putfield 55, 3) := by decide +kernel
theorem dX9_init_735 : decode cX9_init 735 = .ok (.aload_n 0, 1) := by decide +kernel
theorem dX9_init_736 : decode cX9_init 736 = .ok (.bipush 6, 2) := by decide +kernel
theorem dX9_init_738 : decode cX9_init 738 = .ok (.newarray .int, 2) := by decide +kernel
theorem dX9_init_740 : decode cX9_init 740 = .ok (.putfield 58, 3) := by decide +kernel
theorem dX9_init_743 : decode cX9_init 743 = .ok (.aload_n 0, 1) := by decide +kernel
theorem dX9_init_744 : decode cX9_init 744 = .ok (.bipush 6, 2) := by decide +kernel
theorem dX9_init_746 : decode cX9_init 746 = .ok (.newarray .int, 2) := by decide +kernel
theorem dX9_init_748 : decode cX9_init 748 = .ok (.putfield 61, 3) := by decide +kernel
theorem dX9_init_751 : decode cX9_init 751 = .ok (.aload_n 0, 1) := by decide +kernel
theorem dX9_init_752 : decode cX9_init 752 = .ok (.bipush 6, 2) := by decide +kernel
theorem dX9_init_754 : decode cX9_init 754 = .ok (.newarray .int, 2) := by decide +kernel
theorem dX9_init_756 : decode cX9_init 756 = .ok (.putfield 64, 3) := by decide +kernel
theorem dX9_init_759 : decode cX9_init 759 = .ok (.aload_n 0, 1) := by decide +kernel
theorem dX9_init_760 : decode cX9_init 760 = .ok (.bipush 6, 2) := by decide +kernel
theorem dX9_init_762 : decode cX9_init 762 = .ok (.newarray .int, 2) := by decide +kernel
theorem dX9_init_764 : decode cX9_init 764 = .ok (.putfield 67, 3) := by decide +kernel
theorem dX9_init_767 : decode cX9_init 767 = .ok (.aload_n 0, 1) := by decide +kernel
theorem dX9_init_768 : decode cX9_init 768 = .ok (.bipush 30, 2) := by decide +kernel
theorem dX9_init_770 : decode cX9_init 770 = .ok (.newarray .int, 2) := by decide +kernel
theorem dX9_init_772 : decode cX9_init 772 = .ok (.putfield 70, 3) := by decide +kernel
theorem dX9_init_775 : decode cX9_init 775 = .ok (.aload_n 0, 1) := by decide +kernel
theorem dX9_init_776 : decode cX9_init 776 = .ok (.sipush 768, 3) := by decide +kernel
theorem dX9_init_779 : decode cX9_init 779 = .ok (.newarray .long, 2) := by decide +kernel
theorem dX9_init_781 : decode cX9_init 781 = .ok (.putfield 73, 3) := by decide +kernel
theorem dX9_init_784 : decode cX9_init 784 = .ok (.aload_n 0, 1) := by decide +kernel
theorem dX9_init_785 : decode cX9_init 785 = .ok (.bipush 40, 2) := by decide +kernel
theorem dX9_init_787 : decode cX9_init 787 = .ok (.newarray .int, 2) := by decide +kernel
theorem dX9_init_789 : decode cX9_init 789 = .ok (.putfield 77, 3) := by decide +kernel
theorem dX9_init_792 : decode cX9_init 792 = .ok (.aload_n 0, 1) := by decide +kernel
theorem dX9_init_793 : decode cX9_init 793 = .ok (.bipush 40, 2) := by decide +kernel
theorem dX9_init_795 : decode cX9_init 795 = .ok (.newarray .int, 2) := by decide +kernel
theorem dX9_init_797 : decode cX9_init 797 = .ok (.putfield 80, 3) := by decide +kernel
theorem dX9_init_800 : decode cX9_init 800 = .ok (.aload_n 0, 1) := by decide +kernel
theorem dX9_init_801 : decode cX9_init 801 = .ok (.iconst 4, 1) := by decide +kernel
theorem dX9_init_802 : decode cX9_init 802 = .ok (.newarray .int, 2) := by decide +kernel
theorem dX9_init_804 : decode cX9_init 804 = .ok (.dup, 1) := by decide +kernel
theorem dX9_init_805 : decode cX9_init 805 = .ok (.iconst 0, 1) := by decide +kernel
theorem dX9_init_806 : decode cX9_init 806 = .ok (.bipush (-4), 2) := by decide +kernel
theorem dX9_init_808 : decode cX9_init 808 = .ok (.iastore, 1) := by decide +kernel
theorem dX9_init_809 : decode cX9_init 809 = .ok (.dup, 1) := by decide +kernel
theorem dX9_init_810 : decode cX9_init 810 = .ok (.iconst 1, 1) := by decide +kernel
theorem dX9_init_811 : decode cX9_init 811 = .ok (.bipush (-4), 2) := by decide +kernel
theorem dX9_init_813 : decode cX9_init 813 = .ok (.iastore, 1) := by decide +kernel
theorem dX9_init_814 : decode cX9_init 814 = .ok (.dup, 1) := by decide +kernel
theorem dX9_init_815 : decode cX9_init 815 = .ok (.iconst 2, 1) := by decide +kernel
theorem dX9_init_816 : decode cX9_init 816 = .ok (.bipush (-4), 2) := by decide +kernel
theorem dX9_init_818 : decode cX9_init 818 = .ok (.iastore, 1) := by decide +kernel
theorem dX9_init_819 : decode cX9_init 819 = .ok (.dup, 1) := by decide +kernel
theorem dX9_init_820 : decode cX9_init 820 = .ok (.iconst 3, 1) := by decide +kernel
theorem dX9_init_821 : decode cX9_init 821 = .ok (.bipush (-4), 2) := by decide +kernel
theorem dX9_init_823 : decode cX9_init 823 = .ok (.iastore, 1) := by decide +kernel
theorem dX9_init_824 : decode cX9_init 824 = .ok (.putfield 83, 3) := by decide +kernel
theorem dX9_init_827 : decode cX9_init 827 = .ok (.aload_n 0, 1) := by decide +kernel
theorem dX9_init_828 : decode cX9_init 828 = .ok (.iconst 4, 1) := by decide +kernel
theorem dX9_init_829 : decode cX9_init 829 = .ok (.newarray .int, 2) := by decide +kernel
theorem dX9_init_831 : decode cX9_init 831 = .ok (.putfield 86, 3) := by decide +kernel
theorem dX9_init_834 : decode cX9_init 834 = .ok (.aload_n 0, 1) := by decide +kernel
theorem dX9_init_835 : decode cX9_init 835 = .ok (.sipush 160, 3) := by decide +kernel
theorem dX9_init_838 : decode cX9_init 838 = .ok (.newarray .int, 2) := by decide +kernel
theorem dX9_init_840 : decode cX9_init 840 = .ok (.putfield 89, 3) := by decide +kernel
theorem dX9_init_843 : decode cX9_init 843 = .ok (.return_, 1) := by decide +kernel
theorem dX9_in_0 : decode cX9_in 0 = .ok (.lload_n 0, 1) := by decide +kernel
theorem dX9_in_1 : decode cX9_in 1 = .ok (.lload_n 2, 1) := by decide +kernel
theorem dX9_in_2 : decode cX9_in 2 = .ok (.lcmp, 1) := by decide +kernel
theorem dX9_in_3 : decode cX9_in 3 = .ok (.ifCond .lt 14, 3) := by decide +kernel
theorem dX9_in_6 : decode cX9_in 6 = .ok (.lload_n 0, 1) := by decide +kernel
theorem dX9_in_7 : decode cX9_in 7 = .ok (.lload 4, 2) := by decide +kernel
theorem dX9_in_9 : decode cX9_in 9 = .ok (.lcmp, 1) := by decide +kernel
theorem dX9_in_10 : decode cX9_in 10 = .ok (.ifCond .gt 7, 3) := by decide +kernel
theorem dX9_in_13 : decode cX9_in 13 = .ok (.iconst 1, 1) := by decide +kernel
theorem dX9_in_14 : decode cX9_in 14 = .ok (.goto 4, 3) := by decide +kernel
theorem dX9_in_17 : decode cX9_in 17 = .ok (.iconst 0, 1) := by decide +kernel
theorem dX9_in_18 : decode cX9_in 18 = .ok (.ireturn, 1) := by decide +kernel
theorem dX9_feed_0 : decode cX9_feed 0 = .ok (.aload_n 0, 1) := by decide +kernel
theorem dX9_feed_1 : decode cX9_feed 1 = .ok (.getfield 92, 3) := by decide +kernel
theorem dX9_feed_4 : decode cX9_feed 4 = .ok (.bipush 8, 2) := by decide +kernel
theorem dX9_feed_6 : decode cX9_feed 6 = .ok (.iadd, 1) := by decide +kernel
theorem dX9_feed_7 : decode cX9_feed 7 = .ok (.sipush 240, 3) := by decide +kernel
theorem dX9_feed_10 : decode cX9_feed 10 = .ok (.if_icmp .le 6, 3) := by decide +kernel
theorem dX9_feed_13 : decode cX9_feed 13 = .ok (.bipush (-3), 2) := by decide +kernel
theorem dX9_feed_15 : decode cX9_feed 15 = .ok (.ireturn, 1) := by decide +kernel
theorem dX9_feed_16 : decode cX9_feed 16 = .ok (.bipush 56, 2) := by decide +kernel
theorem dX9_feed_18 : decode cX9_feed 18 = .ok (.istore_n 3, 1) := by decide +kernel
theorem dX9_feed_19 : decode cX9_feed 19 = .ok (.iload_n 3, 1) := by decide +kernel
theorem dX9_feed_20 : decode cX9_feed 20 = .ok (.ifCond .lt 36, 3) := by decide +kernel
theorem dX9_feed_23 : decode cX9_feed 23 = .ok (.aload_n 0, 1) := by decide +kernel
theorem dX9_feed_24 : decode cX9_feed 24 = .ok (.getfield 7, 3) := by decide +kernel
theorem dX9_feed_27 : decode cX9_feed 27 = .ok (.aload_n 0, 1) := by decide +kernel
theorem dX9_feed_28 : decode cX9_feed 28 = .ok (.getfield 92, 3) := by decide +kernel
theorem dX9_feed_31 : decode cX9_feed 31 = .ok (.lload_n 1, 1) := by decide +kernel
theorem dX9_feed_32 : decode cX9_feed 32 = .ok (.iload_n 3, 1) := by decide +kernel
theorem dX9_feed_33 : decode cX9_feed 33 = .ok (.lshr, 1) := by decide +kernel
theorem dX9_feed_34 : decode cX9_feed 34 = .ok (.l2i, 1) := by decide +kernel
theorem dX9_feed_35 : decode cX9_feed 35 = .ok (.sipush 255, 3) := by decide +kernel
theorem dX9_feed_38 : decode cX9_feed 38 = .ok (.iand, 1) := by decide +kernel
theorem dX9_feed_39 : decode cX9_feed 39 = .ok (.iastore, 1) := by decide +kernel
theorem dX9_feed_40 : decode cX9_feed 40 = .ok (.aload_n 0, 1) := by decide +kernel
theorem dX9_feed_41 : decode cX9_feed 41 = .ok (.dup, 1) := by decide +kernel
theorem dX9_feed_42 : decode cX9_feed 42 = .ok (.getfield 92, 3) := by decide +kernel
theorem dX9_feed_45 : decode cX9_feed 45 = .ok (.iconst 1, 1) := by decide +kernel
theorem dX9_feed_46 : decode cX9_feed 46 = .ok (.iadd, 1) := by decide +kernel
theorem dX9_feed_47 : decode cX9_feed 47 = .ok (.putfield 92, 3) := by decide +kernel
theorem dX9_feed_50 : decode cX9_feed 50 = .ok (.iinc 3 (-8), 3) := by decide +kernel
theorem dX9_feed_53 : decode cX9_feed 53 = .ok (.goto (-34), 3) := by decide +kernel
theorem dX9_feed_56 : decode cX9_feed 56 = .ok (.aload_n 0, 1) := by decide +kernel
theorem dX9_feed_57 : decode cX9_feed 57 = .ok (.getfield 92, 3) := by decide +kernel
theorem dX9_feed_60 : decode cX9_feed 60 = .ok (.ireturn, 1) := by decide +kernel
theorem dX9_end_0 : decode cX9_end 0 = .ok (.iload_n 1, 1) := by decide +kernel
theorem dX9_end_1 : decode cX9_end 1 = .ok (.i2l, 1) := by decide +kernel
theorem dX9_end_2 : decode cX9_end 2 = .ok (.lconst 0, 1) := by decide +kernel
theorem dX9_end_3 : decode cX9_end 3 = .ok (.aload_n 0, 1) := by decide +kernel
theorem dX9_end_4 : decode cX9_end 4 = .ok (.getfield 92, 3) := by decide +kernel
theorem dX9_end_7 : decode cX9_end 7 = .ok (.i2l, 1) := by decide +kernel
theorem dX9_end_8 : decode cX9_end 8 = .ok (.invokestatic 96, 3) := by decide +kernel
theorem dX9_end_11 : decode cX9_end 11 = .ok (.ifCond .ne 5, 3) := by decide +kernel
theorem dX9_end_14 : decode cX9_end 14 = .ok (.iconst (-1), 1) := by decide +kernel
theorem dX9_end_15 : decode cX9_end 15 = .ok (.ireturn, 1) := by decide +kernel
theorem dX9_end_16 : decode cX9_end 16 = .ok (.aload_n 0, 1) := by decide +kernel
theorem dX9_end_17 : decode cX9_end 17 = .ok (.getfield 92, 3) := by decide +kernel
theorem dX9_end_20 : decode cX9_end 20 = .ok (.istore_n 2, 1) := by decide +kernel
theorem dX9_end_21 : decode cX9_end 21 = .ok (.aload_n 0, 1) := by decide +kernel
theorem dX9_end_22 : decode cX9_end 22 = .ok (.iload_n 1, 1) := by decide +kernel
theorem dX9_end_23 : decode cX9_end 23 = .ok (.putfield 92, 3) := by decide +kernel
theorem dX9_end_26 : decode cX9_end 26 = .ok (.iload_n 2, 1) := by decide +kernel
theorem dX9_end_27 : decode cX9_end 27 = .ok (.ireturn, 1) := by decide +kernel
theorem dX9_byteAt_0 : decode cX9_byteAt 0 = .ok (.iload_n 1, 1) := by decide +kernel
theorem dX9_byteAt_1 : decode cX9_byteAt 1 = .ok (.aload_n 0, 1) := by decide +kernel
theorem dX9_byteAt_2 : decode cX9_byteAt 2 = .ok (.getfield 92, 3) := by decide +kernel
theorem dX9_byteAt_5 : decode cX9_byteAt 5 = .ok (.if_icmp .ge 12, 3) := by decide +kernel
theorem dX9_byteAt_8 : decode cX9_byteAt 8 = .ok (.aload_n 0, 1) := by decide +kernel
theorem dX9_byteAt_9 : decode cX9_byteAt 9 = .ok (.getfield 7, 3) := by decide +kernel
theorem dX9_byteAt_12 : decode cX9_byteAt 12 = .ok (.iload_n 1, 1) := by decide +kernel
theorem dX9_byteAt_13 : decode cX9_byteAt 13 = .ok (.iaload, 1) := by decide +kernel
theorem dX9_byteAt_14 : decode cX9_byteAt 14 = .ok (.goto 5, 3) := by decide +kernel
theorem dX9_byteAt_17 : decode cX9_byteAt 17 = .ok (.bipush (-4), 2) := by decide +kernel
theorem dX9_byteAt_19 : decode cX9_byteAt 19 = .ok (.ireturn, 1) := by decide +kernel
theorem dX9_fails_0 : decode cX9_fails 0 = .ok (.aload_n 0, 1) := by decide +kernel
theorem dX9_fails_1 : decode cX9_fails 1 = .ok (.getfield 100, 3) := by decide +kernel
theorem dX9_fails_4 : decode cX9_fails 4 = .ok (.ifCond .ne 16, 3) := by decide +kernel
theorem dX9_fails_7 : decode cX9_fails 7 = .ok (.aload_n 0, 1) := by decide +kernel
theorem dX9_fails_8 : decode cX9_fails 8 = .ok (.iload_n 1, 1) := by decide +kernel
theorem dX9_fails_9 : decode cX9_fails 9 = .ok (.putfield 100, 3) := by decide +kernel
theorem dX9_fails_12 : decode cX9_fails 12 = .ok (.aload_n 0, 1) := by decide +kernel
theorem dX9_fails_13 : decode cX9_fails 13 = .ok (.aload_n 0, 1) := by decide +kernel
theorem dX9_fails_14 : decode cX9_fails 14 = .ok (.getfield 103, 3) := by decide +kernel
theorem dX9_fails_17 : decode cX9_fails 17 = .ok (.putfield 106, 3) := by decide +kernel
theorem dX9_fails_20 : decode cX9_fails 20 = .ok (.return_, 1) := by decide +kernel
theorem dX9_nameAt_0 : decode cX9_nameAt 0 = .ok (.iconst 0, 1) := by decide +kernel
theorem dX9_nameAt_1 : decode cX9_nameAt 1 = .ok (.istore_n 3, 1) := by decide +kernel
theorem dX9_nameAt_2 : decode cX9_nameAt 2 = .ok (.iload_n 3, 1) := by decide +kernel
theorem dX9_nameAt_3 : decode cX9_nameAt 3 = .ok (.bipush 11, 2) := by decide +kernel
theorem dX9_nameAt_5 : decode cX9_nameAt 5 = .ok (.if_icmp .ge 98, 3) := by decide +kernel
theorem dX9_nameAt_8 : decode cX9_nameAt 8 = .ok (.iload_n 2, 1) := by decide +kernel
theorem dX9_nameAt_9 : decode cX9_nameAt 9 = .ok (.iload_n 1, 1) := by decide +kernel
theorem dX9_nameAt_10 : decode cX9_nameAt 10 = .ok (.isub, 1) := by decide +kernel
theorem dX9_nameAt_11 : decode cX9_nameAt 11 = .ok (.aload_n 0, 1) := by decide +kernel
theorem dX9_nameAt_12 : decode cX9_nameAt 12 = .ok (.getfield 13, 3) := by decide +kernel
theorem dX9_nameAt_15 : decode cX9_nameAt 15 = .ok (.iload_n 3, 1) := by decide +kernel
theorem dX9_nameAt_16 : decode cX9_nameAt 16 = .ok (.iconst 1, 1) := by decide +kernel
theorem dX9_nameAt_17 : decode cX9_nameAt 17 = .ok (.iadd, 1) := by decide +kernel
theorem dX9_nameAt_18 : decode cX9_nameAt 18 = .ok (.iaload, 1) := by decide +kernel
theorem dX9_nameAt_19 : decode cX9_nameAt 19 = .ok (.aload_n 0, 1) := by decide +kernel
theorem dX9_nameAt_20 : decode cX9_nameAt 20 = .ok (.getfield 13, 3) := by decide +kernel
theorem dX9_nameAt_23 : decode cX9_nameAt 23 = .ok (.iload_n 3, 1) := by decide +kernel
theorem dX9_nameAt_24 : decode cX9_nameAt 24 = .ok (.iaload, 1) := by decide +kernel
theorem dX9_nameAt_25 : decode cX9_nameAt 25 = .ok (.isub, 1) := by decide +kernel
theorem dX9_nameAt_26 : decode cX9_nameAt 26 = .ok (.if_icmp .ne 7, 3) := by decide +kernel
theorem dX9_nameAt_29 : decode cX9_nameAt 29 = .ok (.iconst 1, 1) := by decide +kernel
theorem dX9_nameAt_30 : decode cX9_nameAt 30 = .ok (.goto 4, 3) := by decide +kernel
theorem dX9_nameAt_33 : decode cX9_nameAt 33 = .ok (.iconst 0, 1) := by decide +kernel
theorem dX9_nameAt_34 : decode cX9_nameAt 34 = .ok (.istore 4, 2) := by decide +kernel
theorem dX9_nameAt_36 : decode cX9_nameAt 36 = .ok (.iconst 0, 1) := by decide +kernel
theorem dX9_nameAt_37 : decode cX9_nameAt 37 = .ok (.istore 5, 2) := by decide +kernel
theorem dX9_nameAt_39 : decode cX9_nameAt 39 = .ok (.iload 4, 2) := by decide +kernel
theorem dX9_nameAt_41 : decode cX9_nameAt 41 = .ok (.ifCond .eq 49, 3) := by decide +kernel
theorem dX9_nameAt_44 : decode cX9_nameAt 44 = .ok (.iload 5, 2) := by decide +kernel
theorem dX9_nameAt_46 : decode cX9_nameAt 46 = .ok (.iload_n 2, 1) := by decide +kernel
theorem dX9_nameAt_47 : decode cX9_nameAt 47 = .ok (.iload_n 1, 1) := by decide +kernel
theorem dX9_nameAt_48 : decode cX9_nameAt 48 = .ok (.isub, 1) := by decide +kernel
theorem dX9_nameAt_49 : decode cX9_nameAt 49 = .ok (.if_icmp .ge 41, 3) := by decide +kernel
theorem dX9_nameAt_52 : decode cX9_nameAt 52 = .ok (.aload_n 0, 1) := by decide +kernel
theorem dX9_nameAt_53 : decode cX9_nameAt 53 = .ok (.iload_n 1, 1) := by decide +kernel
theorem dX9_nameAt_54 : decode cX9_nameAt 54 = .ok (.iload 5, 2) := by decide +kernel
theorem dX9_nameAt_56 : decode cX9_nameAt 56 = .ok (.iadd, 1) := by decide +kernel
theorem dX9_nameAt_57 : decode cX9_nameAt 57 = .ok (.invokevirtual 109, 3) := by decide +kernel
theorem dX9_nameAt_60 : decode cX9_nameAt 60 = .ok (.aload_n 0, 1) := by decide +kernel
theorem dX9_nameAt_61 : decode cX9_nameAt 61 = .ok (.getfield 16, 3) := by decide +kernel
theorem dX9_nameAt_64 : decode cX9_nameAt 64 = .ok (.aload_n 0, 1) := by decide +kernel
theorem dX9_nameAt_65 : decode cX9_nameAt 65 = .ok (.getfield 13, 3) := by decide +kernel
theorem dX9_nameAt_68 : decode cX9_nameAt 68 = .ok (.iload_n 3, 1) := by decide +kernel
theorem dX9_nameAt_69 : decode cX9_nameAt 69 = .ok (.iaload, 1) := by decide +kernel
theorem dX9_nameAt_70 : decode cX9_nameAt 70 = .ok (.iload 5, 2) := by decide +kernel
theorem dX9_nameAt_72 : decode cX9_nameAt 72 = .ok (.iadd, 1) := by decide +kernel
theorem dX9_nameAt_73 : decode cX9_nameAt 73 = .ok (.iaload, 1) := by decide +kernel
theorem dX9_nameAt_74 : decode cX9_nameAt 74 = .ok (.if_icmp .ne 7, 3) := by decide +kernel
theorem dX9_nameAt_77 : decode cX9_nameAt 77 = .ok (.iconst 1, 1) := by decide +kernel
theorem dX9_nameAt_78 : decode cX9_nameAt 78 = .ok (.goto 4, 3) := by decide +kernel
theorem dX9_nameAt_81 : decode cX9_nameAt 81 = .ok (.iconst 0, 1) := by decide +kernel
theorem dX9_nameAt_82 : decode cX9_nameAt 82 = .ok (.istore 4, 2) := by decide +kernel
theorem dX9_nameAt_84 : decode cX9_nameAt 84 = .ok (.iinc 5 1, 3) := by decide +kernel
theorem dX9_nameAt_87 : decode cX9_nameAt 87 = .ok (.goto (-48), 3) := by decide +kernel
theorem dX9_nameAt_90 : decode cX9_nameAt 90 = .ok (.iload 4, 2) := by decide +kernel
theorem dX9_nameAt_92 : decode cX9_nameAt 92 = .ok (.ifCond .eq 5, 3) := by decide +kernel
theorem dX9_nameAt_95 : decode cX9_nameAt 95 = .ok (.iload_n 3, 1) := by decide +kernel
theorem dX9_nameAt_96 : decode cX9_nameAt 96 = .ok (.ireturn, 1) := by decide +kernel
theorem dX9_nameAt_97 : decode cX9_nameAt 97 = .ok (.iinc 3 1, 3) := by decide +kernel
theorem dX9_nameAt_100 : decode cX9_nameAt 100 = .ok (.goto (-98), 3) := by decide +kernel
theorem dX9_nameAt_103 : decode cX9_nameAt 103 = .ok (.bipush (-4), 2) := by decide +kernel
theorem dX9_nameAt_105 : decode cX9_nameAt 105 = .ok (.ireturn, 1) := by decide +kernel
theorem dX9_next_0 : decode cX9_next 0 = .ok (.aload_n 0, 1) := by decide +kernel
theorem dX9_next_1 : decode cX9_next 1 = .ok (.getfield 100, 3) := by decide +kernel
theorem dX9_next_4 : decode cX9_next 4 = .ok (.ifCond .le 4, 3) := by decide +kernel
theorem dX9_next_7 : decode cX9_next 7 = .ok (.return_, 1) := by decide +kernel
theorem dX9_next_8 : decode cX9_next 8 = .ok (.aload_n 0, 1) := by decide +kernel
theorem dX9_next_9 : decode cX9_next 9 = .ok (.aload_n 0, 1) := by decide +kernel
theorem dX9_next_10 : decode cX9_next 10 = .ok (.getfield 113, 3) := by decide +kernel
theorem dX9_next_13 : decode cX9_next 13 = .ok (.invokevirtual 109, 3) := by decide +kernel
theorem dX9_next_16 : decode cX9_next 16 = .ok (.bipush 32, 2) := by decide +kernel
theorem dX9_next_18 : decode cX9_next 18 = .ok (.if_icmp .ne 16, 3) := by decide +kernel
theorem dX9_next_21 : decode cX9_next 21 = .ok (.aload_n 0, 1) := by decide +kernel
theorem dX9_next_22 : decode cX9_next 22 = .ok (.dup, 1) := by decide +kernel
theorem dX9_next_23 : decode cX9_next 23 = .ok (.getfield 113, 3) := by decide +kernel
theorem dX9_next_26 : decode cX9_next 26 = .ok (.iconst 1, 1) := by decide +kernel
theorem dX9_next_27 : decode cX9_next 27 = .ok (.iadd, 1) := by decide +kernel
theorem dX9_next_28 : decode cX9_next 28 = .ok (.putfield 113, 3) := by decide +kernel
theorem dX9_next_31 : decode cX9_next 31 = .ok (.goto (-23), 3) := by decide +kernel
theorem dX9_next_34 : decode cX9_next 34 = .ok (.aload_n 0, 1) := by decide +kernel
theorem dX9_next_35 : decode cX9_next 35 = .ok (.aload_n 0, 1) := by decide +kernel
theorem dX9_next_36 : decode cX9_next 36 = .ok (.getfield 113, 3) := by decide +kernel
theorem dX9_next_39 : decode cX9_next 39 = .ok (.putfield 103, 3) := by decide +kernel
theorem dX9_next_42 : decode cX9_next 42 = .ok (.aload_n 0, 1) := by decide +kernel
theorem dX9_next_43 : decode cX9_next 43 = .ok (.aload_n 0, 1) := by decide +kernel
theorem dX9_next_44 : decode cX9_next 44 = .ok (.getfield 113, 3) := by decide +kernel
theorem dX9_next_47 : decode cX9_next 47 = .ok (.invokevirtual 109, 3) := by decide +kernel
theorem dX9_next_50 : decode cX9_next 50 = .ok (.istore_n 1, 1) := by decide +kernel
theorem dX9_next_51 : decode cX9_next 51 = .ok (.aload_n 0, 1) := by decide +kernel
theorem dX9_next_52 : decode cX9_next 52 = .ok (.iconst 0, 1) := by decide +kernel
theorem dX9_next_53 : decode cX9_next 53 = .ok (.putfield 116, 3) := by decide +kernel
theorem dX9_next_56 : decode cX9_next 56 = .ok (.iload_n 1, 1) := by decide +kernel
theorem dX9_next_57 : decode cX9_next 57 = .ok (.bipush (-4), 2) := by decide +kernel
theorem dX9_next_59 : decode cX9_next 59 = .ok (.if_icmp .ne 11, 3) := by decide +kernel
theorem dX9_next_62 : decode cX9_next 62 = .ok (.aload_n 0, 1) := by decide +kernel
theorem dX9_next_63 : decode cX9_next 63 = .ok (.iconst 0, 1) := by decide +kernel
theorem dX9_next_64 : decode cX9_next 64 = .ok (.putfield 119, 3) := by decide +kernel
theorem dX9_next_67 : decode cX9_next 67 = .ok (.goto 232, 3) := by decide +kernel
theorem dX9_next_70 : decode cX9_next 70 = .ok (.iload_n 1, 1) := by decide +kernel
theorem dX9_next_71 : decode cX9_next 71 = .ok (.i2l, 1) := by decide +kernel
theorem dX9_next_72 : decode cX9_next 72 = .ok (.ldc2_w 122, 3) := by decide +kernel
theorem dX9_next_75 : decode cX9_next 75 = .ok (.ldc2_w 124, 3) := by decide +kernel
theorem dX9_next_78 : decode cX9_next 78 = .ok (.invokestatic 96, 3) := by decide +kernel
theorem dX9_next_81 : decode cX9_next 81 = .ok (.ifCond .eq 75, 3) := by decide +kernel
theorem dX9_next_84 : decode cX9_next 84 = .ok (.aload_n 0, 1) := by decide +kernel
theorem dX9_next_85 : decode cX9_next 85 = .ok (.aload_n 0, 1) := by decide +kernel
theorem dX9_next_86 : decode cX9_next 86 = .ok (.getfield 113, 3) := by decide +kernel
theorem dX9_next_89 : decode cX9_next 89 = .ok (.invokevirtual 109, 3) := by decide +kernel
theorem dX9_next_92 : decode cX9_next 92 = .ok (.i2l, 1) := by decide +kernel
theorem dX9_next_93 : decode cX9_next 93 = .ok (.ldc2_w 122, 3) := by decide +kernel
theorem dX9_next_96 : decode cX9_next 96 = .ok (.ldc2_w 124, 3) := by decide +kernel
theorem dX9_next_99 : decode cX9_next 99 = .ok (.invokestatic 96, 3) := by decide +kernel
theorem dX9_next_102 : decode cX9_next 102 = .ok (.ifCond .eq 16, 3) := by decide +kernel
theorem dX9_next_105 : decode cX9_next 105 = .ok (.aload_n 0, 1) := by decide +kernel
theorem dX9_next_106 : decode cX9_next 106 = .ok (.dup, 1) := by decide +kernel
theorem dX9_next_107 : decode cX9_next 107 = .ok (.getfield 113, 3) := by decide +kernel
theorem dX9_next_110 : decode cX9_next 110 = .ok (.iconst 1, 1) := by decide +kernel
theorem dX9_next_111 : decode cX9_next 111 = .ok (.iadd, 1) := by decide +kernel
theorem dX9_next_112 : decode cX9_next 112 = .ok (.putfield 113, 3) := by decide +kernel
theorem dX9_next_115 : decode cX9_next 115 = .ok (.goto (-31), 3) := by decide +kernel
theorem dX9_next_118 : decode cX9_next 118 = .ok (.aload_n 0, 1) := by decide +kernel
theorem dX9_next_119 : decode cX9_next 119 = .ok (.iconst 1, 1) := by decide +kernel
theorem dX9_next_120 : decode cX9_next 120 = .ok (.putfield 119, 3) := by decide +kernel
theorem dX9_next_123 : decode cX9_next 123 = .ok (.aload_n 0, 1) := by decide +kernel
theorem dX9_next_124 : decode cX9_next 124 = .ok (.aload_n 0, 1) := by decide +kernel
theorem dX9_next_125 : decode cX9_next 125 = .ok (.aload_n 0, 1) := by decide +kernel
theorem dX9_next_126 : decode cX9_next 126 = .ok (.getfield 103, 3) := by decide +kernel
theorem dX9_next_129 : decode cX9_next 129 = .ok (.aload_n 0, 1) := by decide +kernel
theorem dX9_next_130 : decode cX9_next 130 = .ok (.getfield 113, 3) := by decide +kernel
theorem dX9_next_133 : decode cX9_next 133 = .ok (.invokevirtual 126, 3) := by decide +kernel
theorem dX9_next_136 : decode cX9_next 136 = .ok (.putfield 116, 3) := by decide +kernel
theorem dX9_next_139 : decode cX9_next 139 = .ok (.aload_n 0, 1) := by decide +kernel
theorem dX9_next_140 : decode cX9_next 140 = .ok (.getfield 116, 3) := by decide +kernel
theorem dX9_next_143 : decode cX9_next 143 = .ok (.bipush (-4), 2) := by decide +kernel
theorem dX9_next_145 : decode cX9_next 145 = .ok (.if_icmp .ne 154, 3) := by decide +kernel
theorem dX9_next_148 : decode cX9_next 148 = .ok (.aload_n 0, 1) := by decide +kernel
theorem dX9_next_149 : decode cX9_next 149 = .ok (.iconst 1, 1) := by decide +kernel
theorem dX9_next_150 : decode cX9_next 150 = .ok (.invokevirtual 130, 3) := by decide +kernel
theorem dX9_next_153 : decode cX9_next 153 = .ok (.goto 146, 3) := by decide +kernel
theorem dX9_next_156 : decode cX9_next 156 = .ok (.iload_n 1, 1) := by decide +kernel
theorem dX9_next_157 : decode cX9_next 157 = .ok (.i2l, 1) := by decide +kernel
theorem dX9_next_158 : decode cX9_next 158 = .ok (.ldc2_w 134, 3) := by decide +kernel
theorem dX9_next_161 : decode cX9_next 161 = .ok (.ldc2_w 136, 3) := by decide +kernel
theorem dX9_next_164 : decode cX9_next 164 = .ok (.invokestatic 96, 3) := by decide +kernel
theorem dX9_next_167 : decode cX9_next 167 = .ok (.ifCond .eq 106, 3) := by decide +kernel
theorem dX9_next_170 : decode cX9_next 170 = .ok (.aload_n 0, 1) := by decide +kernel
theorem dX9_next_171 : decode cX9_next 171 = .ok (.aload_n 0, 1) := by decide +kernel
theorem dX9_next_172 : decode cX9_next 172 = .ok (.getfield 113, 3) := by decide +kernel
theorem dX9_next_175 : decode cX9_next 175 = .ok (.invokevirtual 109, 3) := by decide +kernel
theorem dX9_next_178 : decode cX9_next 178 = .ok (.i2l, 1) := by decide +kernel
theorem dX9_next_179 : decode cX9_next 179 = .ok (.ldc2_w 134, 3) := by decide +kernel
theorem dX9_next_182 : decode cX9_next 182 = .ok (.ldc2_w 136, 3) := by decide +kernel
theorem dX9_next_185 : decode cX9_next 185 = .ok (.invokestatic 96, 3) := by decide +kernel
theorem dX9_next_188 : decode cX9_next 188 = .ok (.ifCond .eq 59, 3) := by decide +kernel
theorem dX9_next_191 : decode cX9_next 191 = .ok (.aload_n 0, 1) := by decide +kernel
theorem dX9_next_192 : decode cX9_next 192 = .ok (.aload_n 0, 1) := by decide +kernel
theorem dX9_next_193 : decode cX9_next 193 = .ok (.getfield 113, 3) := by decide +kernel
theorem dX9_next_196 : decode cX9_next 196 = .ok (.aload_n 0, 1) := by decide +kernel
theorem dX9_next_197 : decode cX9_next 197 = .ok (.getfield 103, 3) := by decide +kernel
theorem dX9_next_200 : decode cX9_next 200 = .ok (.isub, 1) := by decide +kernel
theorem dX9_next_201 : decode cX9_next 201 = .ok (.iconst 2, 1) := by decide +kernel
theorem dX9_next_202 : decode cX9_next 202 = .ok (.if_icmp .ge 25, 3) := by decide +kernel
theorem dX9_next_205 : decode cX9_next 205 = .ok (.bipush 10, 2) := by decide +kernel
theorem dX9_next_207 : decode cX9_next 207 = .ok (.aload_n 0, 1) := by decide +kernel
theorem dX9_next_208 : decode cX9_next 208 = .ok (.getfield 116, 3) := by decide +kernel
theorem dX9_next_211 : decode cX9_next 211 = .ok (.imul, 1) := by decide +kernel
theorem dX9_next_212 : decode cX9_next 212 = .ok (.aload_n 0, 1) := by decide +kernel
theorem dX9_next_213 : decode cX9_next 213 = .ok (.aload_n 0, 1) := by decide +kernel
theorem dX9_next_214 : decode cX9_next 214 = .ok (.getfield 113, 3) := by decide +kernel
theorem dX9_next_217 : decode cX9_next 217 = .ok (.invokevirtual 109, 3) := by decide +kernel
theorem dX9_next_220 : decode cX9_next 220 = .ok (.iadd, 1) := by decide +kernel
theorem dX9_next_221 : decode cX9_next 221 = .ok (.bipush 48, 2) := by decide +kernel
theorem dX9_next_223 : decode cX9_next 223 = .ok (.isub, 1) := by decide +kernel
theorem dX9_next_224 : decode cX9_next 224 = .ok (.goto 7, 3) := by decide +kernel
theorem dX9_next_227 : decode cX9_next 227 = .ok (.aload_n 0, 1) := by decide +kernel
theorem dX9_next_228 : decode cX9_next 228 = .ok (.getfield 116, 3) := by decide +kernel
theorem dX9_next_231 : decode cX9_next 231 = .ok (.putfield 116, 3) := by decide +kernel
theorem dX9_next_234 : decode cX9_next 234 = .ok (.aload_n 0, 1) := by decide +kernel
theorem dX9_next_235 : decode cX9_next 235 = .ok (.dup, 1) := by decide +kernel
theorem dX9_next_236 : decode cX9_next 236 = .ok (.getfield 113, 3) := by decide +kernel
theorem dX9_next_239 : decode cX9_next 239 = .ok (.iconst 1, 1) := by decide +kernel
theorem dX9_next_240 : decode cX9_next 240 = .ok (.iadd, 1) := by decide +kernel
theorem dX9_next_241 : decode cX9_next 241 = .ok (.putfield 113, 3) := by decide +kernel
theorem dX9_next_244 : decode cX9_next 244 = .ok (.goto (-74), 3) := by decide +kernel
theorem dX9_next_247 : decode cX9_next 247 = .ok (.aload_n 0, 1) := by decide +kernel
theorem dX9_next_248 : decode cX9_next 248 = .ok (.iconst 2, 1) := by decide +kernel
theorem dX9_next_249 : decode cX9_next 249 = .ok (.putfield 119, 3) := by decide +kernel
theorem dX9_next_252 : decode cX9_next 252 = .ok (.aload_n 0, 1) := by decide +kernel
theorem dX9_next_253 : decode cX9_next 253 = .ok (.getfield 113, 3) := by decide +kernel
theorem dX9_next_256 : decode cX9_next 256 = .ok (.aload_n 0, 1) := by decide +kernel
theorem dX9_next_257 : decode cX9_next 257 = .ok (.getfield 103, 3) := by decide +kernel
theorem dX9_next_260 : decode cX9_next 260 = .ok (.isub, 1) := by decide +kernel
theorem dX9_next_261 : decode cX9_next 261 = .ok (.iconst 2, 1) := by decide +kernel
theorem dX9_next_262 : decode cX9_next 262 = .ok (.if_icmp .le 37, 3) := by decide +kernel
theorem dX9_next_265 : decode cX9_next 265 = .ok (.aload_n 0, 1) := by decide +kernel
theorem dX9_next_266 : decode cX9_next 266 = .ok (.iconst 1, 1) := by decide +kernel
theorem dX9_next_267 : decode cX9_next 267 = .ok (.invokevirtual 130, 3) := by decide +kernel
theorem dX9_next_270 : decode cX9_next 270 = .ok (.goto 29, 3) := by decide +kernel
theorem dX9_next_273 : decode cX9_next 273 = .ok (.aload_n 0, 1) := by decide +kernel
theorem dX9_next_274 : decode cX9_next 274 = .ok (.iconst 3, 1) := by decide +kernel
theorem dX9_next_275 : decode cX9_next 275 = .ok (.putfield 119, 3) := by decide +kernel
theorem dX9_next_278 : decode cX9_next 278 = .ok (.aload_n 0, 1) := by decide +kernel
theorem dX9_next_279 : decode cX9_next 279 = .ok (.dup, 1) := by decide +kernel
theorem dX9_next_280 : decode cX9_next 280 = .ok (.getfield 113, 3) := by decide +kernel
theorem dX9_next_283 : decode cX9_next 283 = .ok (.iconst 1, 1) := by decide +kernel
theorem dX9_next_284 : decode cX9_next 284 = .ok (.iadd, 1) := by decide +kernel
theorem dX9_next_285 : decode cX9_next 285 = .ok (.putfield 113, 3) := by decide +kernel
theorem dX9_next_288 : decode cX9_next 288 = .ok (.iload_n 1, 1) := by decide +kernel
theorem dX9_next_289 : decode cX9_next 289 = .ok (.bipush 59, 2) := by decide +kernel
theorem dX9_next_291 : decode cX9_next 291 = .ok (.if_icmp .eq 8, 3) := by decide +kernel
theorem dX9_next_294 : decode cX9_next 294 = .ok (.aload_n 0, 1) := by decide +kernel
theorem dX9_next_295 : decode cX9_next 295 = .ok (.iconst 1, 1) := by decide +kernel
theorem dX9_next_296 : decode cX9_next 296 = .ok (.invokevirtual 130, 3) := by decide +kernel
theorem dX9_next_299 : decode cX9_next 299 = .ok (.return_, 1) := by decide +kernel
theorem dX9_number_0 : decode cX9_number 0 = .ok (.aload_n 0, 1) := by decide +kernel
theorem dX9_number_1 : decode cX9_number 1 = .ok (.getfield 100, 3) := by decide +kernel
theorem dX9_number_4 : decode cX9_number 4 = .ok (.ifCond .ne 16, 3) := by decide +kernel
theorem dX9_number_7 : decode cX9_number 7 = .ok (.aload_n 0, 1) := by decide +kernel
theorem dX9_number_8 : decode cX9_number 8 = .ok (.getfield 119, 3) := by decide +kernel
theorem dX9_number_11 : decode cX9_number 11 = .ok (.iconst 2, 1) := by decide +kernel
theorem dX9_number_12 : decode cX9_number 12 = .ok (.if_icmp .eq 8, 3) := by decide +kernel
theorem dX9_number_15 : decode cX9_number 15 = .ok (.aload_n 0, 1) := by decide +kernel
theorem dX9_number_16 : decode cX9_number 16 = .ok (.iconst 2, 1) := by decide +kernel
theorem dX9_number_17 : decode cX9_number 17 = .ok (.invokevirtual 130, 3) := by decide +kernel
theorem dX9_number_20 : decode cX9_number 20 = .ok (.aload_n 0, 1) := by decide +kernel
theorem dX9_number_21 : decode cX9_number 21 = .ok (.getfield 100, 3) := by decide +kernel
theorem dX9_number_24 : decode cX9_number 24 = .ok (.ifCond .ne 23, 3) := by decide +kernel
theorem dX9_number_27 : decode cX9_number 27 = .ok (.aload_n 0, 1) := by decide +kernel
theorem dX9_number_28 : decode cX9_number 28 = .ok (.getfield 116, 3) := by decide +kernel
theorem dX9_number_31 : decode cX9_number 31 = .ok (.i2l, 1) := by decide +kernel
theorem dX9_number_32 : decode cX9_number 32 = .ok (.iload_n 1, 1) := by decide +kernel
theorem dX9_number_33 : decode cX9_number 33 = .ok (.i2l, 1) := by decide +kernel
theorem dX9_number_34 : decode cX9_number 34 = .ok (.iload_n 2, 1) := by decide +kernel
theorem dX9_number_35 : decode cX9_number 35 = .ok (.i2l, 1) := by decide +kernel
theorem dX9_number_36 : decode cX9_number 36 = .ok (.invokestatic 96, 3) := by decide +kernel
theorem dX9_number_39 : decode cX9_number 39 = .ok (.ifCond .ne 8, 3) := by decide +kernel
theorem dX9_number_42 : decode cX9_number 42 = .ok (.aload_n 0, 1) := by decide +kernel
theorem dX9_number_43 : decode cX9_number 43 = .ok (.iconst 3, 1) := by decide +kernel
theorem dX9_number_44 : decode cX9_number 44 = .ok (.invokevirtual 130, 3) := by decide +kernel
theorem dX9_number_47 : decode cX9_number 47 = .ok (.aload_n 0, 1) := by decide +kernel
theorem dX9_number_48 : decode cX9_number 48 = .ok (.getfield 100, 3) := by decide +kernel
theorem dX9_number_51 : decode cX9_number 51 = .ok (.ifCond .ne 10, 3) := by decide +kernel
theorem dX9_number_54 : decode cX9_number 54 = .ok (.aload_n 0, 1) := by decide +kernel
theorem dX9_number_55 : decode cX9_number 55 = .ok (.getfield 116, 3) := by decide +kernel
theorem dX9_number_58 : decode cX9_number 58 = .ok (.goto 4, 3) := by decide +kernel
theorem dX9_number_61 : decode cX9_number 61 = .ok (.iload_n 1, 1) := by decide +kernel
theorem dX9_number_62 : decode cX9_number 62 = .ok (.ireturn, 1) := by decide +kernel
theorem dX9_readPair_0 : decode cX9_readPair 0 = .ok (.iconst 2, 1) := by decide +kernel
theorem dX9_readPair_1 : decode cX9_readPair 1 = .ok (.bipush 6, 2) := by decide +kernel
theorem dX9_readPair_3 : decode cX9_readPair 3 = .ok (.iload_n 1, 1) := by decide +kernel
theorem dX9_readPair_4 : decode cX9_readPair 4 = .ok (.iconst 1, 1) := by decide +kernel
theorem dX9_readPair_5 : decode cX9_readPair 5 = .ok (.isub, 1) := by decide +kernel
theorem dX9_readPair_6 : decode cX9_readPair 6 = .ok (.imul, 1) := by decide +kernel
theorem dX9_readPair_7 : decode cX9_readPair 7 = .ok (.iadd, 1) := by decide +kernel
theorem dX9_readPair_8 : decode cX9_readPair 8 = .ok (.istore_n 2, 1) := by decide +kernel
theorem dX9_readPair_9 : decode cX9_readPair 9 = .ok (.aload_n 0, 1) := by decide +kernel
theorem dX9_readPair_10 : decode cX9_readPair 10 = .ok (.invokevirtual 138, 3) := by decide +kernel
theorem dX9_readPair_13 : decode cX9_readPair 13 = .ok (.aload_n 0, 1) := by decide +kernel
theorem dX9_readPair_14 : decode cX9_readPair 14 = .ok (.iconst 0, 1) := by decide +kernel
theorem dX9_readPair_15 : decode cX9_readPair 15 = .ok (.aload_n 0, 1) := by decide +kernel
theorem dX9_readPair_16 : decode cX9_readPair 16 = .ok (.getfield 25, 3) := by decide +kernel
theorem dX9_readPair_19 : decode cX9_readPair 19 = .ok (.iconst 0, 1) := by decide +kernel
theorem dX9_readPair_20 : decode cX9_readPair 20 = .ok (.iaload, 1) := by decide +kernel
theorem dX9_readPair_21 : decode cX9_readPair 21 = .ok (.iconst 1, 1) := by decide +kernel
theorem dX9_readPair_22 : decode cX9_readPair 22 = .ok (.isub, 1) := by decide +kernel
theorem dX9_readPair_23 : decode cX9_readPair 23 = .ok (.invokevirtual 141, 3) := by decide +kernel
theorem dX9_readPair_26 : decode cX9_readPair 26 = .ok (.istore_n 3, 1) := by decide +kernel
theorem dX9_readPair_27 : decode cX9_readPair 27 = .ok (.aload_n 0, 1) := by decide +kernel
theorem dX9_readPair_28 : decode cX9_readPair 28 = .ok (.getfield 100, 3) := by decide +kernel
theorem dX9_readPair_31 : decode cX9_readPair 31 = .ok (.ifCond .ne 24, 3) := by decide +kernel
theorem dX9_readPair_34 : decode cX9_readPair 34 = .ok (.aload_n 0, 1) := by decide +kernel
theorem dX9_readPair_35 : decode cX9_readPair 35 = .ok (.getfield 144, 3) := by decide +kernel
theorem dX9_readPair_38 : decode cX9_readPair 38 = .ok (.iload_n 2, 1) := by decide +kernel
theorem dX9_readPair_39 : decode cX9_readPair 39 = .ok (.iload_n 3, 1) := by decide +kernel
theorem dX9_readPair_40 : decode cX9_readPair 40 = .ok (.iadd, 1) := by decide +kernel
theorem dX9_readPair_41 : decode cX9_readPair 41 = .ok (.iconst 2, 1) := by decide +kernel
theorem dX9_readPair_42 : decode cX9_readPair 42 = .ok (.isub, 1) := by decide +kernel
theorem dX9_readPair_43 : decode cX9_readPair 43 = .ok (.ishr, 1) := by decide +kernel
theorem dX9_readPair_44 : decode cX9_readPair 44 = .ok (.iconst 1, 1) := by decide +kernel
theorem dX9_readPair_45 : decode cX9_readPair 45 = .ok (.iand, 1) := by decide +kernel
theorem dX9_readPair_46 : decode cX9_readPair 46 = .ok (.iconst 1, 1) := by decide +kernel
theorem dX9_readPair_47 : decode cX9_readPair 47 = .ok (.if_icmp .ne 8, 3) := by decide +kernel
theorem dX9_readPair_50 : decode cX9_readPair 50 = .ok (.aload_n 0, 1) := by decide +kernel
theorem dX9_readPair_51 : decode cX9_readPair 51 = .ok (.iconst 4, 1) := by decide +kernel
theorem dX9_readPair_52 : decode cX9_readPair 52 = .ok (.invokevirtual 130, 3) := by decide +kernel
theorem dX9_readPair_55 : decode cX9_readPair 55 = .ok (.aload_n 0, 1) := by decide +kernel
theorem dX9_readPair_56 : decode cX9_readPair 56 = .ok (.dup, 1) := by decide +kernel
theorem dX9_readPair_57 : decode cX9_readPair 57 = .ok (.getfield 144, 3) := by decide +kernel
theorem dX9_readPair_60 : decode cX9_readPair 60 = .ok (.aload_n 0, 1) := by decide +kernel
theorem dX9_readPair_61 : decode cX9_readPair 61 = .ok (.getfield 100, 3) := by decide +kernel
theorem dX9_readPair_64 : decode cX9_readPair 64 = .ok (.ifCond .ne 13, 3) := by decide +kernel
theorem dX9_readPair_67 : decode cX9_readPair 67 = .ok (.iconst 1, 1) := by decide +kernel
theorem dX9_readPair_68 : decode cX9_readPair 68 = .ok (.iload_n 2, 1) := by decide +kernel
theorem dX9_readPair_69 : decode cX9_readPair 69 = .ok (.iload_n 3, 1) := by decide +kernel
theorem dX9_readPair_70 : decode cX9_readPair 70 = .ok (.iadd, 1) := by decide +kernel
theorem dX9_readPair_71 : decode cX9_readPair 71 = .ok (.iconst 2, 1) := by decide +kernel
theorem dX9_readPair_72 : decode cX9_readPair 72 = .ok (.isub, 1) := by decide +kernel
theorem dX9_readPair_73 : decode cX9_readPair 73 = .ok (.ishl, 1) := by decide +kernel
theorem dX9_readPair_74 : decode cX9_readPair 74 = .ok (.goto 4, 3) := by decide +kernel
theorem dX9_readPair_77 : decode cX9_readPair 77 = .ok (.iconst 0, 1) := by decide +kernel
theorem dX9_readPair_78 : decode cX9_readPair 78 = .ok (.ior, 1) := by decide +kernel
theorem dX9_readPair_79 : decode cX9_readPair 79 = .ok (.putfield 144, 3) := by decide +kernel
theorem dX9_readPair_82 : decode cX9_readPair 82 = .ok (.aload_n 0, 1) := by decide +kernel
theorem dX9_readPair_83 : decode cX9_readPair 83 = .ok (.invokevirtual 138, 3) := by decide +kernel
theorem dX9_readPair_86 : decode cX9_readPair 86 = .ok (.aload_n 0, 1) := by decide +kernel
theorem dX9_readPair_87 : decode cX9_readPair 87 = .ok (.iload_n 2, 1) := by decide +kernel
theorem dX9_readPair_88 : decode cX9_readPair 88 = .ok (.iconst 2, 1) := by decide +kernel
theorem dX9_readPair_89 : decode cX9_readPair 89 = .ok (.if_icmp .ne 7, 3) := by decide +kernel
theorem dX9_readPair_92 : decode cX9_readPair 92 = .ok (.iconst 1, 1) := by decide +kernel
theorem dX9_readPair_93 : decode cX9_readPair 93 = .ok (.goto 4, 3) := by decide +kernel
theorem dX9_readPair_96 : decode cX9_readPair 96 = .ok (.iconst 0, 1) := by decide +kernel
theorem dX9_readPair_97 : decode cX9_readPair 97 = .ok (.iload_n 2, 1) := by decide +kernel
theorem dX9_readPair_98 : decode cX9_readPair 98 = .ok (.iconst 2, 1) := by decide +kernel
theorem dX9_readPair_99 : decode cX9_readPair 99 = .ok (.if_icmp .ne 8, 3) := by decide +kernel
theorem dX9_readPair_102 : decode cX9_readPair 102 = .ok (.bipush 9, 2) := by decide +kernel
theorem dX9_readPair_104 : decode cX9_readPair 104 = .ok (.goto 33, 3) := by decide +kernel
theorem dX9_readPair_107 : decode cX9_readPair 107 = .ok (.iload_n 2, 1) := by decide +kernel
theorem dX9_readPair_108 : decode cX9_readPair 108 = .ok (.bipush 20, 2) := by decide +kernel
theorem dX9_readPair_110 : decode cX9_readPair 110 = .ok (.if_icmp .ne 8, 3) := by decide +kernel
theorem dX9_readPair_113 : decode cX9_readPair 113 = .ok (.bipush 20, 2) := by decide +kernel
theorem dX9_readPair_115 : decode cX9_readPair 115 = .ok (.goto 22, 3) := by decide +kernel
theorem dX9_readPair_118 : decode cX9_readPair 118 = .ok (.iload_n 2, 1) := by decide +kernel
theorem dX9_readPair_119 : decode cX9_readPair 119 = .ok (.bipush 26, 2) := by decide +kernel
theorem dX9_readPair_121 : decode cX9_readPair 121 = .ok (.if_icmp .ne 14, 3) := by decide +kernel
theorem dX9_readPair_124 : decode cX9_readPair 124 = .ok (.aload_n 0, 1) := by decide +kernel
theorem dX9_readPair_125 : decode cX9_readPair 125 = .ok (.getfield 25, 3) := by decide +kernel
theorem dX9_readPair_128 : decode cX9_readPair 128 = .ok (.iconst 0, 1) := by decide +kernel
theorem dX9_readPair_129 : decode cX9_readPair 129 = .ok (.iaload, 1) := by decide +kernel
theorem dX9_readPair_130 : decode cX9_readPair 130 = .ok (.iconst 1, 1) := by decide +kernel
theorem dX9_readPair_131 : decode cX9_readPair 131 = .ok (.isub, 1) := by decide +kernel
theorem dX9_readPair_132 : decode cX9_readPair 132 = .ok (.goto 5, 3) := by decide +kernel
theorem dX9_readPair_135 : decode cX9_readPair 135 = .ok (.bipush 99, 2) := by decide +kernel
theorem dX9_readPair_137 : decode cX9_readPair 137 = .ok (.invokevirtual 141, 3) := by decide +kernel
theorem dX9_readPair_140 : decode cX9_readPair 140 = .ok (.istore 4, 2) := by decide +kernel
theorem dX9_readPair_142 : decode cX9_readPair 142 = .ok (.aload_n 0, 1) := by decide +kernel
theorem dX9_readPair_143 : decode cX9_readPair 143 = .ok (.getfield 100, 3) := by decide +kernel
theorem dX9_readPair_146 : decode cX9_readPair 146 = .ok (.ifCond .ne 13, 3) := by decide +kernel
theorem dX9_readPair_149 : decode cX9_readPair 149 = .ok (.aload_n 0, 1) := by decide +kernel
theorem dX9_readPair_150 : decode cX9_readPair 150 = .ok (.getfield 25, 3) := by decide +kernel
theorem dX9_readPair_153 : decode cX9_readPair 153 = .ok (.iload_n 2, 1) := by decide +kernel
theorem dX9_readPair_154 : decode cX9_readPair 154 = .ok (.iload_n 3, 1) := by decide +kernel
theorem dX9_readPair_155 : decode cX9_readPair 155 = .ok (.iadd, 1) := by decide +kernel
theorem dX9_readPair_156 : decode cX9_readPair 156 = .ok (.iload 4, 2) := by decide +kernel
theorem dX9_readPair_158 : decode cX9_readPair 158 = .ok (.iastore, 1) := by decide +kernel
theorem dX9_readPair_159 : decode cX9_readPair 159 = .ok (.aload_n 0, 1) := by decide +kernel
theorem dX9_readPair_160 : decode cX9_readPair 160 = .ok (.invokevirtual 138, 3) := by decide +kernel
theorem dX9_readPair_163 : decode cX9_readPair 163 = .ok (.return_, 1) := by decide +kernel
theorem dX9_readRound_0 : decode cX9_readRound 0 = .ok (.aload_n 0, 1) := by decide +kernel
theorem dX9_readRound_1 : decode cX9_readRound 1 = .ok (.getfield 25, 3) := by decide +kernel
theorem dX9_readRound_4 : decode cX9_readRound 4 = .ok (.iconst 0, 1) := by decide +kernel
theorem dX9_readRound_5 : decode cX9_readRound 5 = .ok (.iaload, 1) := by decide +kernel
theorem dX9_readRound_6 : decode cX9_readRound 6 = .ok (.istore_n 1, 1) := by decide +kernel
theorem dX9_readRound_7 : decode cX9_readRound 7 = .ok (.aload_n 0, 1) := by decide +kernel
theorem dX9_readRound_8 : decode cX9_readRound 8 = .ok (.getfield 147, 3) := by decide +kernel
theorem dX9_readRound_11 : decode cX9_readRound 11 = .ok (.iload_n 1, 1) := by decide +kernel
theorem dX9_readRound_12 : decode cX9_readRound 12 = .ok (.iload_n 1, 1) := by decide +kernel
theorem dX9_readRound_13 : decode cX9_readRound 13 = .ok (.iconst 1, 1) := by decide +kernel
theorem dX9_readRound_14 : decode cX9_readRound 14 = .ok (.isub, 1) := by decide +kernel
theorem dX9_readRound_15 : decode cX9_readRound 15 = .ok (.imul, 1) := by decide +kernel
theorem dX9_readRound_16 : decode cX9_readRound 16 = .ok (.iconst 2, 1) := by decide +kernel
theorem dX9_readRound_17 : decode cX9_readRound 17 = .ok (.idiv, 1) := by decide +kernel
theorem dX9_readRound_18 : decode cX9_readRound 18 = .ok (.iadd, 1) := by decide +kernel
theorem dX9_readRound_19 : decode cX9_readRound 19 = .ok (.bipush 30, 2) := by decide +kernel
theorem dX9_readRound_21 : decode cX9_readRound 21 = .ok (.if_icmp .le 8, 3) := by decide +kernel
theorem dX9_readRound_24 : decode cX9_readRound 24 = .ok (.aload_n 0, 1) := by decide +kernel
theorem dX9_readRound_25 : decode cX9_readRound 25 = .ok (.iconst 5, 1) := by decide +kernel
theorem dX9_readRound_26 : decode cX9_readRound 26 = .ok (.invokevirtual 130, 3) := by decide +kernel
theorem dX9_readRound_29 : decode cX9_readRound 29 = .ok (.iconst 0, 1) := by decide +kernel
theorem dX9_readRound_30 : decode cX9_readRound 30 = .ok (.istore_n 2, 1) := by decide +kernel
theorem dX9_readRound_31 : decode cX9_readRound 31 = .ok (.iload_n 2, 1) := by decide +kernel
theorem dX9_readRound_32 : decode cX9_readRound 32 = .ok (.iload_n 1, 1) := by decide +kernel
theorem dX9_readRound_33 : decode cX9_readRound 33 = .ok (.if_icmp .ge 61, 3) := by decide +kernel
theorem dX9_readRound_36 : decode cX9_readRound 36 = .ok (.aload_n 0, 1) := by decide +kernel
theorem dX9_readRound_37 : decode cX9_readRound 37 = .ok (.getfield 100, 3) := by decide +kernel
theorem dX9_readRound_40 : decode cX9_readRound 40 = .ok (.ifCond .ne 54, 3) := by decide +kernel
theorem dX9_readRound_43 : decode cX9_readRound 43 = .ok (.iload_n 2, 1) := by decide +kernel
theorem dX9_readRound_44 : decode cX9_readRound 44 = .ok (.iconst 1, 1) := by decide +kernel
theorem dX9_readRound_45 : decode cX9_readRound 45 = .ok (.iadd, 1) := by decide +kernel
theorem dX9_readRound_46 : decode cX9_readRound 46 = .ok (.istore_n 3, 1) := by decide +kernel
theorem dX9_readRound_47 : decode cX9_readRound 47 = .ok (.iload_n 3, 1) := by decide +kernel
theorem dX9_readRound_48 : decode cX9_readRound 48 = .ok (.iload_n 1, 1) := by decide +kernel
theorem dX9_readRound_49 : decode cX9_readRound 49 = .ok (.if_icmp .ge 39, 3) := by decide +kernel
theorem dX9_readRound_52 : decode cX9_readRound 52 = .ok (.aload_n 0, 1) := by decide +kernel
theorem dX9_readRound_53 : decode cX9_readRound 53 = .ok (.getfield 28, 3) := by decide +kernel
theorem dX9_readRound_56 : decode cX9_readRound 56 = .ok (.aload_n 0, 1) := by decide +kernel
theorem dX9_readRound_57 : decode cX9_readRound 57 = .ok (.getfield 147, 3) := by decide +kernel
theorem dX9_readRound_60 : decode cX9_readRound 60 = .ok (.iload_n 2, 1) := by decide +kernel
theorem dX9_readRound_61 : decode cX9_readRound 61 = .ok (.iastore, 1) := by decide +kernel
theorem dX9_readRound_62 : decode cX9_readRound 62 = .ok (.aload_n 0, 1) := by decide +kernel
theorem dX9_readRound_63 : decode cX9_readRound 63 = .ok (.getfield 31, 3) := by decide +kernel
theorem dX9_readRound_66 : decode cX9_readRound 66 = .ok (.aload_n 0, 1) := by decide +kernel
theorem dX9_readRound_67 : decode cX9_readRound 67 = .ok (.getfield 147, 3) := by decide +kernel
theorem dX9_readRound_70 : decode cX9_readRound 70 = .ok (.iload_n 3, 1) := by decide +kernel
theorem dX9_readRound_71 : decode cX9_readRound 71 = .ok (.iastore, 1) := by decide +kernel
theorem dX9_readRound_72 : decode cX9_readRound 72 = .ok (.aload_n 0, 1) := by decide +kernel
theorem dX9_readRound_73 : decode cX9_readRound 73 = .ok (.dup, 1) := by decide +kernel
theorem dX9_readRound_74 : decode cX9_readRound 74 = .ok (.getfield 147, 3) := by decide +kernel
theorem dX9_readRound_77 : decode cX9_readRound 77 = .ok (.iconst 1, 1) := by decide +kernel
theorem dX9_readRound_78 : decode cX9_readRound 78 = .ok (.iadd, 1) := by decide +kernel
theorem dX9_readRound_79 : decode cX9_readRound 79 = .ok (.putfield 147, 3) := by decide +kernel
theorem dX9_readRound_82 : decode cX9_readRound 82 = .ok (.iinc 3 1, 3) := by decide +kernel
theorem dX9_readRound_85 : decode cX9_readRound 85 = .ok (.goto (-38), 3) := by decide +kernel
theorem dX9_readRound_88 : decode cX9_readRound 88 = .ok (.iinc 2 1, 3) := by decide +kernel
theorem dX9_readRound_91 : decode cX9_readRound 91 = .ok (.goto (-60), 3) := by decide +kernel
theorem dX9_readRound_94 : decode cX9_readRound 94 = .ok (.aload_n 0, 1) := by decide +kernel
theorem dX9_readRound_95 : decode cX9_readRound 95 = .ok (.invokevirtual 138, 3) := by decide +kernel
theorem dX9_readRound_98 : decode cX9_readRound 98 = .ok (.return_, 1) := by decide +kernel
theorem dX9_readLine_0 : decode cX9_readLine 0 = .ok (.aload_n 0, 1) := by decide +kernel
theorem dX9_readLine_1 : decode cX9_readLine 1 = .ok (.getfield 116, 3) := by decide +kernel
theorem dX9_readLine_4 : decode cX9_readLine 4 = .ok (.istore_n 1, 1) := by decide +kernel
theorem dX9_readLine_5 : decode cX9_readLine 5 = .ok (.aload_n 0, 1) := by decide +kernel
theorem dX9_readLine_6 : decode cX9_readLine 6 = .ok (.getfield 119, 3) := by decide +kernel
theorem dX9_readLine_9 : decode cX9_readLine 9 = .ok (.iconst 1, 1) := by decide +kernel
theorem dX9_readLine_10 : decode cX9_readLine 10 = .ok (.if_icmp .ne 9, 3) := by decide +kernel
theorem dX9_readLine_13 : decode cX9_readLine 13 = .ok (.iload_n 1, 1) := by decide +kernel
theorem dX9_readLine_14 : decode cX9_readLine 14 = .ok (.bipush 7, 2) := by decide +kernel
theorem dX9_readLine_16 : decode cX9_readLine 16 = .ok (.if_icmp .le 9, 3) := by decide +kernel
theorem dX9_readLine_19 : decode cX9_readLine 19 = .ok (.aload_n 0, 1) := by decide +kernel
theorem dX9_readLine_20 : decode cX9_readLine 20 = .ok (.iconst 2, 1) := by decide +kernel
theorem dX9_readLine_21 : decode cX9_readLine 21 = .ok (.invokevirtual 130, 3) := by decide +kernel
theorem dX9_readLine_24 : decode cX9_readLine 24 = .ok (.return_, 1) := by decide +kernel
theorem dX9_readLine_25 : decode cX9_readLine 25 = .ok (.iload_n 1, 1) := by decide +kernel
theorem dX9_readLine_26 : decode cX9_readLine 26 = .ok (.ifCond .ne 51, 3) := by decide +kernel
theorem dX9_readLine_29 : decode cX9_readLine 29 = .ok (.aload_n 0, 1) := by decide +kernel
theorem dX9_readLine_30 : decode cX9_readLine 30 = .ok (.getfield 150, 3) := by decide +kernel
theorem dX9_readLine_33 : decode cX9_readLine 33 = .ok (.ifCond .ne 10, 3) := by decide +kernel
theorem dX9_readLine_36 : decode cX9_readLine 36 = .ok (.aload_n 0, 1) := by decide +kernel
theorem dX9_readLine_37 : decode cX9_readLine 37 = .ok (.getfield 154, 3) := by decide +kernel
theorem dX9_readLine_40 : decode cX9_readLine 40 = .ok (.ifCond .eq 8, 3) := by decide +kernel
theorem dX9_readLine_43 : decode cX9_readLine 43 = .ok (.aload_n 0, 1) := by decide +kernel
theorem dX9_readLine_44 : decode cX9_readLine 44 = .ok (.iconst 4, 1) := by decide +kernel
theorem dX9_readLine_45 : decode cX9_readLine 45 = .ok (.invokevirtual 130, 3) := by decide +kernel
theorem dX9_readLine_48 : decode cX9_readLine 48 = .ok (.aload_n 0, 1) := by decide +kernel
theorem dX9_readLine_49 : decode cX9_readLine 49 = .ok (.iconst 1, 1) := by decide +kernel
theorem dX9_readLine_50 : decode cX9_readLine 50 = .ok (.putfield 150, 3) := by decide +kernel
theorem dX9_readLine_53 : decode cX9_readLine 53 = .ok (.aload_n 0, 1) := by decide +kernel
theorem dX9_readLine_54 : decode cX9_readLine 54 = .ok (.invokevirtual 138, 3) := by decide +kernel
theorem dX9_readLine_57 : decode cX9_readLine 57 = .ok (.aload_n 0, 1) := by decide +kernel
theorem dX9_readLine_58 : decode cX9_readLine 58 = .ok (.getfield 25, 3) := by decide +kernel
theorem dX9_readLine_61 : decode cX9_readLine 61 = .ok (.iconst 0, 1) := by decide +kernel
theorem dX9_readLine_62 : decode cX9_readLine 62 = .ok (.aload_n 0, 1) := by decide +kernel
theorem dX9_readLine_63 : decode cX9_readLine 63 = .ok (.iconst 2, 1) := by decide +kernel
theorem dX9_readLine_64 : decode cX9_readLine 64 = .ok (.bipush 6, 2) := by decide +kernel
theorem dX9_readLine_66 : decode cX9_readLine 66 = .ok (.invokevirtual 141, 3) := by decide +kernel
theorem dX9_readLine_69 : decode cX9_readLine 69 = .ok (.iastore, 1) := by decide +kernel
theorem dX9_readLine_70 : decode cX9_readLine 70 = .ok (.aload_n 0, 1) := by decide +kernel
theorem dX9_readLine_71 : decode cX9_readLine 71 = .ok (.invokevirtual 138, 3) := by decide +kernel
theorem dX9_readLine_74 : decode cX9_readLine 74 = .ok (.goto 120, 3) := by decide +kernel
theorem dX9_readLine_77 : decode cX9_readLine 77 = .ok (.iload_n 1, 1) := by decide +kernel
theorem dX9_readLine_78 : decode cX9_readLine 78 = .ok (.bipush 7, 2) := by decide +kernel
theorem dX9_readLine_80 : decode cX9_readLine 80 = .ok (.if_icmp .ne 91, 3) := by decide +kernel
theorem dX9_readLine_83 : decode cX9_readLine 83 = .ok (.aload_n 0, 1) := by decide +kernel
theorem dX9_readLine_84 : decode cX9_readLine 84 = .ok (.getfield 157, 3) := by decide +kernel
theorem dX9_readLine_87 : decode cX9_readLine 87 = .ok (.ifCond .eq 8, 3) := by decide +kernel
theorem dX9_readLine_90 : decode cX9_readLine 90 = .ok (.aload_n 0, 1) := by decide +kernel
theorem dX9_readLine_91 : decode cX9_readLine 91 = .ok (.iconst 4, 1) := by decide +kernel
theorem dX9_readLine_92 : decode cX9_readLine 92 = .ok (.invokevirtual 130, 3) := by decide +kernel
theorem dX9_readLine_95 : decode cX9_readLine 95 = .ok (.aload_n 0, 1) := by decide +kernel
theorem dX9_readLine_96 : decode cX9_readLine 96 = .ok (.iconst 1, 1) := by decide +kernel
theorem dX9_readLine_97 : decode cX9_readLine 97 = .ok (.putfield 157, 3) := by decide +kernel
theorem dX9_readLine_100 : decode cX9_readLine 100 = .ok (.aload_n 0, 1) := by decide +kernel
theorem dX9_readLine_101 : decode cX9_readLine 101 = .ok (.invokevirtual 138, 3) := by decide +kernel
theorem dX9_readLine_104 : decode cX9_readLine 104 = .ok (.aload_n 0, 1) := by decide +kernel
theorem dX9_readLine_105 : decode cX9_readLine 105 = .ok (.getfield 100, 3) := by decide +kernel
theorem dX9_readLine_108 : decode cX9_readLine 108 = .ok (.ifCond .ne 30, 3) := by decide +kernel
theorem dX9_readLine_111 : decode cX9_readLine 111 = .ok (.aload_n 0, 1) := by decide +kernel
theorem dX9_readLine_112 : decode cX9_readLine 112 = .ok (.getfield 119, 3) := by decide +kernel
theorem dX9_readLine_115 : decode cX9_readLine 115 = .ok (.iconst 1, 1) := by decide +kernel
theorem dX9_readLine_116 : decode cX9_readLine 116 = .ok (.if_icmp .ne 17, 3) := by decide +kernel
theorem dX9_readLine_119 : decode cX9_readLine 119 = .ok (.aload_n 0, 1) := by decide +kernel
theorem dX9_readLine_120 : decode cX9_readLine 120 = .ok (.getfield 19, 3) := by decide +kernel
theorem dX9_readLine_123 : decode cX9_readLine 123 = .ok (.aload_n 0, 1) := by decide +kernel
theorem dX9_readLine_124 : decode cX9_readLine 124 = .ok (.getfield 116, 3) := by decide +kernel
theorem dX9_readLine_127 : decode cX9_readLine 127 = .ok (.iaload, 1) := by decide +kernel
theorem dX9_readLine_128 : decode cX9_readLine 128 = .ok (.bipush (-4), 2) := by decide +kernel
theorem dX9_readLine_130 : decode cX9_readLine 130 = .ok (.if_icmp .ne 8, 3) := by decide +kernel
theorem dX9_readLine_133 : decode cX9_readLine 133 = .ok (.aload_n 0, 1) := by decide +kernel
theorem dX9_readLine_134 : decode cX9_readLine 134 = .ok (.iconst 2, 1) := by decide +kernel
theorem dX9_readLine_135 : decode cX9_readLine 135 = .ok (.invokevirtual 130, 3) := by decide +kernel
theorem dX9_readLine_138 : decode cX9_readLine 138 = .ok (.aload_n 0, 1) := by decide +kernel
theorem dX9_readLine_139 : decode cX9_readLine 139 = .ok (.getfield 25, 3) := by decide +kernel
theorem dX9_readLine_142 : decode cX9_readLine 142 = .ok (.iconst 1, 1) := by decide +kernel
theorem dX9_readLine_143 : decode cX9_readLine 143 = .ok (.aload_n 0, 1) := by decide +kernel
theorem dX9_readLine_144 : decode cX9_readLine 144 = .ok (.getfield 100, 3) := by decide +kernel
theorem dX9_readLine_147 : decode cX9_readLine 147 = .ok (.ifCond .ne 15, 3) := by decide +kernel
theorem dX9_readLine_150 : decode cX9_readLine 150 = .ok (.aload_n 0, 1) := by decide +kernel
theorem dX9_readLine_151 : decode cX9_readLine 151 = .ok (.getfield 19, 3) := by decide +kernel
theorem dX9_readLine_154 : decode cX9_readLine 154 = .ok (.aload_n 0, 1) := by decide +kernel
theorem dX9_readLine_155 : decode cX9_readLine 155 = .ok (.getfield 116, 3) := by decide +kernel
theorem dX9_readLine_158 : decode cX9_readLine 158 = .ok (.iaload, 1) := by decide +kernel
theorem dX9_readLine_159 : decode cX9_readLine 159 = .ok (.goto 4, 3) := by decide +kernel
theorem dX9_readLine_162 : decode cX9_readLine 162 = .ok (.iconst 0, 1) := by decide +kernel
theorem dX9_readLine_163 : decode cX9_readLine 163 = .ok (.iastore, 1) := by decide +kernel
theorem dX9_readLine_164 : decode cX9_readLine 164 = .ok (.aload_n 0, 1) := by decide +kernel
theorem dX9_readLine_165 : decode cX9_readLine 165 = .ok (.invokevirtual 138, 3) := by decide +kernel
theorem dX9_readLine_168 : decode cX9_readLine 168 = .ok (.goto 26, 3) := by decide +kernel
theorem dX9_readLine_171 : decode cX9_readLine 171 = .ok (.aload_n 0, 1) := by decide +kernel
theorem dX9_readLine_172 : decode cX9_readLine 172 = .ok (.iconst 1, 1) := by decide +kernel
theorem dX9_readLine_173 : decode cX9_readLine 173 = .ok (.putfield 154, 3) := by decide +kernel
theorem dX9_readLine_176 : decode cX9_readLine 176 = .ok (.iload_n 1, 1) := by decide +kernel
theorem dX9_readLine_177 : decode cX9_readLine 177 = .ok (.bipush 6, 2) := by decide +kernel
theorem dX9_readLine_179 : decode cX9_readLine 179 = .ok (.if_icmp .ne 10, 3) := by decide +kernel
theorem dX9_readLine_182 : decode cX9_readLine 182 = .ok (.aload_n 0, 1) := by decide +kernel
theorem dX9_readLine_183 : decode cX9_readLine 183 = .ok (.invokevirtual 160, 3) := by decide +kernel
theorem dX9_readLine_186 : decode cX9_readLine 186 = .ok (.goto 8, 3) := by decide +kernel
theorem dX9_readLine_189 : decode cX9_readLine 189 = .ok (.aload_n 0, 1) := by decide +kernel
theorem dX9_readLine_190 : decode cX9_readLine 190 = .ok (.iload_n 1, 1) := by decide +kernel
theorem dX9_readLine_191 : decode cX9_readLine 191 = .ok (.invokevirtual 163, 3) := by decide +kernel
theorem dX9_readLine_194 : decode cX9_readLine 194 = .ok (.aload_n 0, 1) := by decide +kernel
theorem dX9_readLine_195 : decode cX9_readLine 195 = .ok (.getfield 100, 3) := by decide +kernel
theorem dX9_readLine_198 : decode cX9_readLine 198 = .ok (.ifCond .ne 16, 3) := by decide +kernel
theorem dX9_readLine_201 : decode cX9_readLine 201 = .ok (.aload_n 0, 1) := by decide +kernel
theorem dX9_readLine_202 : decode cX9_readLine 202 = .ok (.getfield 119, 3) := by decide +kernel
theorem dX9_readLine_205 : decode cX9_readLine 205 = .ok (.iconst 3, 1) := by decide +kernel
theorem dX9_readLine_206 : decode cX9_readLine 206 = .ok (.if_icmp .eq 8, 3) := by decide +kernel
theorem dX9_readLine_209 : decode cX9_readLine 209 = .ok (.aload_n 0, 1) := by decide +kernel
theorem dX9_readLine_210 : decode cX9_readLine 210 = .ok (.iconst 2, 1) := by decide +kernel
theorem dX9_readLine_211 : decode cX9_readLine 211 = .ok (.invokevirtual 130, 3) := by decide +kernel
theorem dX9_readLine_214 : decode cX9_readLine 214 = .ok (.aload_n 0, 1) := by decide +kernel
theorem dX9_readLine_215 : decode cX9_readLine 215 = .ok (.invokevirtual 138, 3) := by decide +kernel
theorem dX9_readLine_218 : decode cX9_readLine 218 = .ok (.return_, 1) := by decide +kernel
theorem dX9_isWhole_0 : decode cX9_isWhole 0 = .ok (.iconst 0, 1) := by decide +kernel
theorem dX9_isWhole_1 : decode cX9_isWhole 1 = .ok (.istore_n 1, 1) := by decide +kernel
theorem dX9_isWhole_2 : decode cX9_isWhole 2 = .ok (.iconst 0, 1) := by decide +kernel
theorem dX9_isWhole_3 : decode cX9_isWhole 3 = .ok (.istore_n 2, 1) := by decide +kernel
theorem dX9_isWhole_4 : decode cX9_isWhole 4 = .ok (.iconst 0, 1) := by decide +kernel
theorem dX9_isWhole_5 : decode cX9_isWhole 5 = .ok (.istore_n 3, 1) := by decide +kernel
theorem dX9_isWhole_6 : decode cX9_isWhole 6 = .ok (.iload_n 3, 1) := by decide +kernel
theorem dX9_isWhole_7 : decode cX9_isWhole 7 = .ok (.aload_n 0, 1) := by decide +kernel
theorem dX9_isWhole_8 : decode cX9_isWhole 8 = .ok (.getfield 25, 3) := by decide +kernel
theorem dX9_isWhole_11 : decode cX9_isWhole 11 = .ok (.iconst 0, 1) := by decide +kernel
theorem dX9_isWhole_12 : decode cX9_isWhole 12 = .ok (.iaload, 1) := by decide +kernel
theorem dX9_isWhole_13 : decode cX9_isWhole 13 = .ok (.if_icmp .ge 35, 3) := by decide +kernel
theorem dX9_isWhole_16 : decode cX9_isWhole 16 = .ok (.iload_n 1, 1) := by decide +kernel
theorem dX9_isWhole_17 : decode cX9_isWhole 17 = .ok (.aload_n 0, 1) := by decide +kernel
theorem dX9_isWhole_18 : decode cX9_isWhole 18 = .ok (.getfield 25, 3) := by decide +kernel
theorem dX9_isWhole_21 : decode cX9_isWhole 21 = .ok (.bipush 20, 2) := by decide +kernel
theorem dX9_isWhole_23 : decode cX9_isWhole 23 = .ok (.iload_n 3, 1) := by decide +kernel
theorem dX9_isWhole_24 : decode cX9_isWhole 24 = .ok (.iadd, 1) := by decide +kernel
theorem dX9_isWhole_25 : decode cX9_isWhole 25 = .ok (.iaload, 1) := by decide +kernel
theorem dX9_isWhole_26 : decode cX9_isWhole 26 = .ok (.iadd, 1) := by decide +kernel
theorem dX9_isWhole_27 : decode cX9_isWhole 27 = .ok (.istore_n 1, 1) := by decide +kernel
theorem dX9_isWhole_28 : decode cX9_isWhole 28 = .ok (.iload_n 2, 1) := by decide +kernel
theorem dX9_isWhole_29 : decode cX9_isWhole 29 = .ok (.iconst 1, 1) := by decide +kernel
theorem dX9_isWhole_30 : decode cX9_isWhole 30 = .ok (.aload_n 0, 1) := by decide +kernel
theorem dX9_isWhole_31 : decode cX9_isWhole 31 = .ok (.getfield 25, 3) := by decide +kernel
theorem dX9_isWhole_34 : decode cX9_isWhole 34 = .ok (.bipush 26, 2) := by decide +kernel
theorem dX9_isWhole_36 : decode cX9_isWhole 36 = .ok (.iload_n 3, 1) := by decide +kernel
theorem dX9_isWhole_37 : decode cX9_isWhole 37 = .ok (.iadd, 1) := by decide +kernel
theorem dX9_isWhole_38 : decode cX9_isWhole 38 = .ok (.iaload, 1) := by decide +kernel
theorem dX9_isWhole_39 : decode cX9_isWhole 39 = .ok (.ishl, 1) := by decide +kernel
theorem dX9_isWhole_40 : decode cX9_isWhole 40 = .ok (.ior, 1) := by decide +kernel
theorem dX9_isWhole_41 : decode cX9_isWhole 41 = .ok (.istore_n 2, 1) := by decide +kernel
theorem dX9_isWhole_42 : decode cX9_isWhole 42 = .ok (.iinc 3 1, 3) := by decide +kernel
theorem dX9_isWhole_45 : decode cX9_isWhole 45 = .ok (.goto (-39), 3) := by decide +kernel
theorem dX9_isWhole_48 : decode cX9_isWhole 48 = .ok (.aload_n 0, 1) := by decide +kernel
theorem dX9_isWhole_49 : decode cX9_isWhole 49 = .ok (.getfield 25, 3) := by decide +kernel
theorem dX9_isWhole_52 : decode cX9_isWhole 52 = .ok (.iconst 1, 1) := by decide +kernel
theorem dX9_isWhole_53 : decode cX9_isWhole 53 = .ok (.iaload, 1) := by decide +kernel
theorem dX9_isWhole_54 : decode cX9_isWhole 54 = .ok (.iconst 1, 1) := by decide +kernel
theorem dX9_isWhole_55 : decode cX9_isWhole 55 = .ok (.if_icmp .ne 7, 3) := by decide +kernel
theorem dX9_isWhole_58 : decode cX9_isWhole 58 = .ok (.iload_n 1, 1) := by decide +kernel
theorem dX9_isWhole_59 : decode cX9_isWhole 59 = .ok (.ifCond .le 31, 3) := by decide +kernel
theorem dX9_isWhole_62 : decode cX9_isWhole 62 = .ok (.aload_n 0, 1) := by decide +kernel
theorem dX9_isWhole_63 : decode cX9_isWhole 63 = .ok (.getfield 25, 3) := by decide +kernel
theorem dX9_isWhole_66 : decode cX9_isWhole 66 = .ok (.iconst 1, 1) := by decide +kernel
theorem dX9_isWhole_67 : decode cX9_isWhole 67 = .ok (.iaload, 1) := by decide +kernel
theorem dX9_isWhole_68 : decode cX9_isWhole 68 = .ok (.iconst 3, 1) := by decide +kernel
theorem dX9_isWhole_69 : decode cX9_isWhole 69 = .ok (.if_icmp .ne 17, 3) := by decide +kernel
theorem dX9_isWhole_72 : decode cX9_isWhole 72 = .ok (.iload_n 2, 1) := by decide +kernel
theorem dX9_isWhole_73 : decode cX9_isWhole 73 = .ok (.iconst 1, 1) := by decide +kernel
theorem dX9_isWhole_74 : decode cX9_isWhole 74 = .ok (.aload_n 0, 1) := by decide +kernel
theorem dX9_isWhole_75 : decode cX9_isWhole 75 = .ok (.getfield 25, 3) := by decide +kernel
theorem dX9_isWhole_78 : decode cX9_isWhole 78 = .ok (.iconst 0, 1) := by decide +kernel
theorem dX9_isWhole_79 : decode cX9_isWhole 79 = .ok (.iaload, 1) := by decide +kernel
theorem dX9_isWhole_80 : decode cX9_isWhole 80 = .ok (.ishl, 1) := by decide +kernel
theorem dX9_isWhole_81 : decode cX9_isWhole 81 = .ok (.iconst 1, 1) := by decide +kernel
theorem dX9_isWhole_82 : decode cX9_isWhole 82 = .ok (.isub, 1) := by decide +kernel
theorem dX9_isWhole_83 : decode cX9_isWhole 83 = .ok (.if_icmp .ne 7, 3) := by decide +kernel
theorem dX9_isWhole_86 : decode cX9_isWhole 86 = .ok (.iconst 1, 1) := by decide +kernel
theorem dX9_isWhole_87 : decode cX9_isWhole 87 = .ok (.goto 4, 3) := by decide +kernel
theorem dX9_isWhole_90 : decode cX9_isWhole 90 = .ok (.iconst 0, 1) := by decide +kernel
theorem dX9_isWhole_91 : decode cX9_isWhole 91 = .ok (.ireturn, 1) := by decide +kernel
theorem dX9_text_0 : decode cX9_text 0 = .ok (.aload_n 0, 1) := by decide +kernel
theorem dX9_text_1 : decode cX9_text 1 = .ok (.iconst 0, 1) := by decide +kernel
theorem dX9_text_2 : decode cX9_text 2 = .ok (.putfield 100, 3) := by decide +kernel
theorem dX9_text_5 : decode cX9_text 5 = .ok (.aload_n 0, 1) := by decide +kernel
theorem dX9_text_6 : decode cX9_text 6 = .ok (.iconst 0, 1) := by decide +kernel
theorem dX9_text_7 : decode cX9_text 7 = .ok (.putfield 113, 3) := by decide +kernel
theorem dX9_text_10 : decode cX9_text 10 = .ok (.aload_n 0, 1) := by decide +kernel
theorem dX9_text_11 : decode cX9_text 11 = .ok (.iconst 0, 1) := by decide +kernel
theorem dX9_text_12 : decode cX9_text 12 = .ok (.putfield 144, 3) := by decide +kernel
theorem dX9_text_15 : decode cX9_text 15 = .ok (.aload_n 0, 1) := by decide +kernel
theorem dX9_text_16 : decode cX9_text 16 = .ok (.iconst 0, 1) := by decide +kernel
theorem dX9_text_17 : decode cX9_text 17 = .ok (.putfield 154, 3) := by decide +kernel
theorem dX9_text_20 : decode cX9_text 20 = .ok (.aload_n 0, 1) := by decide +kernel
theorem dX9_text_21 : decode cX9_text 21 = .ok (.iconst 0, 1) := by decide +kernel
theorem dX9_text_22 : decode cX9_text 22 = .ok (.putfield 157, 3) := by decide +kernel
theorem dX9_text_25 : decode cX9_text 25 = .ok (.aload_n 0, 1) := by decide +kernel
theorem dX9_text_26 : decode cX9_text 26 = .ok (.iconst 0, 1) := by decide +kernel
theorem dX9_text_27 : decode cX9_text 27 = .ok (.putfield 150, 3) := by decide +kernel
theorem dX9_text_30 : decode cX9_text 30 = .ok (.aload_n 0, 1) := by decide +kernel
theorem dX9_text_31 : decode cX9_text 31 = .ok (.iconst 0, 1) := by decide +kernel
theorem dX9_text_32 : decode cX9_text 32 = .ok (.putfield 147, 3) := by decide +kernel
theorem dX9_text_35 : decode cX9_text 35 = .ok (.iconst 0, 1) := by decide +kernel
theorem dX9_text_36 : decode cX9_text 36 = .ok (.istore_n 1, 1) := by decide +kernel
theorem dX9_text_37 : decode cX9_text 37 = .ok (.iconst 0, 1) := by decide +kernel
theorem dX9_text_38 : decode cX9_text 38 = .ok (.istore_n 2, 1) := by decide +kernel
theorem dX9_text_39 : decode cX9_text 39 = .ok (.iload_n 2, 1) := by decide +kernel
theorem dX9_text_40 : decode cX9_text 40 = .ok (.bipush 32, 2) := by decide +kernel
theorem dX9_text_42 : decode cX9_text 42 = .ok (.if_icmp .ge 62, 3) := by decide +kernel
theorem dX9_text_45 : decode cX9_text 45 = .ok (.aload_n 0, 1) := by decide +kernel
theorem dX9_text_46 : decode cX9_text 46 = .ok (.getfield 25, 3) := by decide +kernel
theorem dX9_text_49 : decode cX9_text 49 = .ok (.iload_n 2, 1) := by decide +kernel
theorem dX9_text_50 : decode cX9_text 50 = .ok (.iload_n 2, 1) := by decide +kernel
theorem dX9_text_51 : decode cX9_text 51 = .ok (.iconst 2, 1) := by decide +kernel
theorem dX9_text_52 : decode cX9_text 52 = .ok (.if_icmp .ge 11, 3) := by decide +kernel
theorem dX9_text_55 : decode cX9_text 55 = .ok (.iconst 4, 1) := by decide +kernel
theorem dX9_text_56 : decode cX9_text 56 = .ok (.iconst 4, 1) := by decide +kernel
theorem dX9_text_57 : decode cX9_text 57 = .ok (.iload_n 2, 1) := by decide +kernel
theorem dX9_text_58 : decode cX9_text 58 = .ok (.imul, 1) := by decide +kernel
theorem dX9_text_59 : decode cX9_text 59 = .ok (.isub, 1) := by decide +kernel
theorem dX9_text_60 : decode cX9_text 60 = .ok (.goto 37, 3) := by decide +kernel
theorem dX9_text_63 : decode cX9_text 63 = .ok (.iload_n 2, 1) := by decide +kernel
theorem dX9_text_64 : decode cX9_text 64 = .ok (.bipush 8, 2) := by decide +kernel
theorem dX9_text_66 : decode cX9_text 66 = .ok (.if_icmp .ge 7, 3) := by decide +kernel
theorem dX9_text_69 : decode cX9_text 69 = .ok (.iconst 5, 1) := by decide +kernel
theorem dX9_text_70 : decode cX9_text 70 = .ok (.goto 27, 3) := by decide +kernel
theorem dX9_text_73 : decode cX9_text 73 = .ok (.iload_n 2, 1) := by decide +kernel
theorem dX9_text_74 : decode cX9_text 74 = .ok (.bipush 20, 2) := by decide +kernel
theorem dX9_text_76 : decode cX9_text 76 = .ok (.if_icmp .ge 7, 3) := by decide +kernel
theorem dX9_text_79 : decode cX9_text 79 = .ok (.iconst 0, 1) := by decide +kernel
theorem dX9_text_80 : decode cX9_text 80 = .ok (.goto 17, 3) := by decide +kernel
theorem dX9_text_83 : decode cX9_text 83 = .ok (.iload_n 2, 1) := by decide +kernel
theorem dX9_text_84 : decode cX9_text 84 = .ok (.bipush 26, 2) := by decide +kernel
theorem dX9_text_86 : decode cX9_text 86 = .ok (.if_icmp .ge 7, 3) := by decide +kernel
theorem dX9_text_89 : decode cX9_text 89 = .ok (.iconst 1, 1) := by decide +kernel
theorem dX9_text_90 : decode cX9_text 90 = .ok (.goto 7, 3) := by decide +kernel
theorem dX9_text_93 : decode cX9_text 93 = .ok (.iload_n 2, 1) := by decide +kernel
theorem dX9_text_94 : decode cX9_text 94 = .ok (.bipush 26, 2) := by decide +kernel
theorem dX9_text_96 : decode cX9_text 96 = .ok (.isub, 1) := by decide +kernel
theorem dX9_text_97 : decode cX9_text 97 = .ok (.iastore, 1) := by decide +kernel
theorem dX9_text_98 : decode cX9_text 98 = .ok (.iinc 2 1, 3) := by decide +kernel
theorem dX9_text_101 : decode cX9_text 101 = .ok (.goto (-62), 3) := by decide +kernel
theorem dX9_text_104 : decode cX9_text 104 = .ok (.aload_n 0, 1) := by decide +kernel
theorem dX9_text_105 : decode cX9_text 105 = .ok (.invokevirtual 138, 3) := by decide +kernel
theorem dX9_text_108 : decode cX9_text 108 = .ok (.aload_n 0, 1) := by decide +kernel
theorem dX9_text_109 : decode cX9_text 109 = .ok (.getfield 100, 3) := by decide +kernel
theorem dX9_text_112 : decode cX9_text 112 = .ok (.ifCond .ne 20, 3) := by decide +kernel
theorem dX9_text_115 : decode cX9_text 115 = .ok (.aload_n 0, 1) := by decide +kernel
theorem dX9_text_116 : decode cX9_text 116 = .ok (.getfield 119, 3) := by decide +kernel
theorem dX9_text_119 : decode cX9_text 119 = .ok (.ifCond .eq 13, 3) := by decide +kernel
theorem dX9_text_122 : decode cX9_text 122 = .ok (.aload_n 0, 1) := by decide +kernel
theorem dX9_text_123 : decode cX9_text 123 = .ok (.invokevirtual 166, 3) := by decide +kernel
theorem dX9_text_126 : decode cX9_text 126 = .ok (.iinc 1 1, 3) := by decide +kernel
theorem dX9_text_129 : decode cX9_text 129 = .ok (.goto (-21), 3) := by decide +kernel
theorem dX9_text_132 : decode cX9_text 132 = .ok (.aload_n 0, 1) := by decide +kernel
theorem dX9_text_133 : decode cX9_text 133 = .ok (.getfield 100, 3) := by decide +kernel
theorem dX9_text_136 : decode cX9_text 136 = .ok (.ifCond .ne 24, 3) := by decide +kernel
theorem dX9_text_139 : decode cX9_text 139 = .ok (.aload_n 0, 1) := by decide +kernel
theorem dX9_text_140 : decode cX9_text 140 = .ok (.invokevirtual 169, 3) := by decide +kernel
theorem dX9_text_143 : decode cX9_text 143 = .ok (.ifCond .ne 17, 3) := by decide +kernel
theorem dX9_text_146 : decode cX9_text 146 = .ok (.aload_n 0, 1) := by decide +kernel
theorem dX9_text_147 : decode cX9_text 147 = .ok (.aload_n 0, 1) := by decide +kernel
theorem dX9_text_148 : decode cX9_text 148 = .ok (.getfield 92, 3) := by decide +kernel
theorem dX9_text_151 : decode cX9_text 151 = .ok (.putfield 103, 3) := by decide +kernel
theorem dX9_text_154 : decode cX9_text 154 = .ok (.aload_n 0, 1) := by decide +kernel
theorem dX9_text_155 : decode cX9_text 155 = .ok (.bipush 6, 2) := by decide +kernel
theorem dX9_text_157 : decode cX9_text 157 = .ok (.invokevirtual 130, 3) := by decide +kernel
theorem dX9_text_160 : decode cX9_text 160 = .ok (.aload_n 0, 1) := by decide +kernel
theorem dX9_text_161 : decode cX9_text 161 = .ok (.iconst 0, 1) := by decide +kernel
theorem dX9_text_162 : decode cX9_text 162 = .ok (.putfield 92, 3) := by decide +kernel
theorem dX9_text_165 : decode cX9_text 165 = .ok (.aload_n 0, 1) := by decide +kernel
theorem dX9_text_166 : decode cX9_text 166 = .ok (.aload_n 0, 1) := by decide +kernel
theorem dX9_text_167 : decode cX9_text 167 = .ok (.getfield 100, 3) := by decide +kernel
theorem dX9_text_170 : decode cX9_text 170 = .ok (.putfield 173, 3) := by decide +kernel
theorem dX9_text_173 : decode cX9_text 173 = .ok (.aload_n 0, 1) := by decide +kernel
theorem dX9_text_174 : decode cX9_text 174 = .ok (.getfield 100, 3) := by decide +kernel
theorem dX9_text_177 : decode cX9_text 177 = .ok (.ifCond .le 11, 3) := by decide +kernel
theorem dX9_text_180 : decode cX9_text 180 = .ok (.bipush (-10), 2) := by decide +kernel
theorem dX9_text_182 : decode cX9_text 182 = .ok (.aload_n 0, 1) := by decide +kernel
theorem dX9_text_183 : decode cX9_text 183 = .ok (.getfield 106, 3) := by decide +kernel
theorem dX9_text_186 : decode cX9_text 186 = .ok (.isub, 1) := by decide +kernel
theorem dX9_text_187 : decode cX9_text 187 = .ok (.ireturn, 1) := by decide +kernel
theorem dX9_text_188 : decode cX9_text 188 = .ok (.iconst 0, 1) := by decide +kernel
theorem dX9_text_189 : decode cX9_text 189 = .ok (.istore_n 2, 1) := by decide +kernel
theorem dX9_text_190 : decode cX9_text 190 = .ok (.iload_n 2, 1) := by decide +kernel
theorem dX9_text_191 : decode cX9_text 191 = .ok (.bipush 32, 2) := by decide +kernel
theorem dX9_text_193 : decode cX9_text 193 = .ok (.if_icmp .ge 21, 3) := by decide +kernel
theorem dX9_text_196 : decode cX9_text 196 = .ok (.aload_n 0, 1) := by decide +kernel
theorem dX9_text_197 : decode cX9_text 197 = .ok (.getfield 22, 3) := by decide +kernel
theorem dX9_text_200 : decode cX9_text 200 = .ok (.iload_n 2, 1) := by decide +kernel
theorem dX9_text_201 : decode cX9_text 201 = .ok (.aload_n 0, 1) := by decide +kernel
theorem dX9_text_202 : decode cX9_text 202 = .ok (.getfield 25, 3) := by decide +kernel
theorem dX9_text_205 : decode cX9_text 205 = .ok (.iload_n 2, 1) := by decide +kernel
theorem dX9_text_206 : decode cX9_text 206 = .ok (.iaload, 1) := by decide +kernel
theorem dX9_text_207 : decode cX9_text 207 = .ok (.iastore, 1) := by decide +kernel
theorem dX9_text_208 : decode cX9_text 208 = .ok (.iinc 2 1, 3) := by decide +kernel
theorem dX9_text_211 : decode cX9_text 211 = .ok (.goto (-21), 3) := by decide +kernel
theorem dX9_text_214 : decode cX9_text 214 = .ok (.iconst 0, 1) := by decide +kernel
theorem dX9_text_215 : decode cX9_text 215 = .ok (.istore_n 2, 1) := by decide +kernel
theorem dX9_text_216 : decode cX9_text 216 = .ok (.iload_n 2, 1) := by decide +kernel
theorem dX9_text_217 : decode cX9_text 217 = .ok (.aload_n 0, 1) := by decide +kernel
theorem dX9_text_218 : decode cX9_text 218 = .ok (.getfield 147, 3) := by decide +kernel
theorem dX9_text_221 : decode cX9_text 221 = .ok (.if_icmp .ge 40, 3) := by decide +kernel
theorem dX9_text_224 : decode cX9_text 224 = .ok (.aload_n 0, 1) := by decide +kernel
theorem dX9_text_225 : decode cX9_text 225 = .ok (.getfield 34, 3) := by decide +kernel
theorem dX9_text_228 : decode cX9_text 228 = .ok (.iload_n 2, 1) := by decide +kernel
theorem dX9_text_229 : decode cX9_text 229 = .ok (.aload_n 0, 1) := by decide +kernel
theorem dX9_text_230 : decode cX9_text 230 = .ok (.getfield 28, 3) := by decide +kernel
theorem dX9_text_233 : decode cX9_text 233 = .ok (.iload_n 2, 1) := by decide +kernel
theorem dX9_text_234 : decode cX9_text 234 = .ok (.iaload, 1) := by decide +kernel
theorem dX9_text_235 : decode cX9_text 235 = .ok (.iastore, 1) := by decide +kernel
theorem dX9_text_236 : decode cX9_text 236 = .ok (.aload_n 0, 1) := by decide +kernel
theorem dX9_text_237 : decode cX9_text 237 = .ok (.getfield 37, 3) := by decide +kernel
theorem dX9_text_240 : decode cX9_text 240 = .ok (.iload_n 2, 1) := by decide +kernel
theorem dX9_text_241 : decode cX9_text 241 = .ok (.aload_n 0, 1) := by decide +kernel
theorem dX9_text_242 : decode cX9_text 242 = .ok (.getfield 31, 3) := by decide +kernel
theorem dX9_text_245 : decode cX9_text 245 = .ok (.iload_n 2, 1) := by decide +kernel
theorem dX9_text_246 : decode cX9_text 246 = .ok (.iaload, 1) := by decide +kernel
theorem dX9_text_247 : decode cX9_text 247 = .ok (.iastore, 1) := by decide +kernel
theorem dX9_text_248 : decode cX9_text 248 = .ok (.aload_n 0, 1) := by decide +kernel
theorem dX9_text_249 : decode cX9_text 249 = .ok (.getfield 40, 3) := by decide +kernel
theorem dX9_text_252 : decode cX9_text 252 = .ok (.iload_n 2, 1) := by decide +kernel
theorem dX9_text_253 : decode cX9_text 253 = .ok (.iconst 2, 1) := by decide +kernel
theorem dX9_text_254 : decode cX9_text 254 = .ok (.iastore, 1) := by decide +kernel
theorem dX9_text_255 : decode cX9_text 255 = .ok (.iinc 2 1, 3) := by decide +kernel
theorem dX9_text_258 : decode cX9_text 258 = .ok (.goto (-42), 3) := by decide +kernel
theorem dX9_text_261 : decode cX9_text 261 = .ok (.aload_n 0, 1) := by decide +kernel
theorem dX9_text_262 : decode cX9_text 262 = .ok (.getfield 43, 3) := by decide +kernel
theorem dX9_text_265 : decode cX9_text 265 = .ok (.iconst 0, 1) := by decide +kernel
theorem dX9_text_266 : decode cX9_text 266 = .ok (.aload_n 0, 1) := by decide +kernel
theorem dX9_text_267 : decode cX9_text 267 = .ok (.getfield 147, 3) := by decide +kernel
theorem dX9_text_270 : decode cX9_text 270 = .ok (.iastore, 1) := by decide +kernel
theorem dX9_text_271 : decode cX9_text 271 = .ok (.iload_n 1, 1) := by decide +kernel
theorem dX9_text_272 : decode cX9_text 272 = .ok (.ireturn, 1) := by decide +kernel
theorem dX9_fault_0 : decode cX9_fault 0 = .ok (.aload_n 0, 1) := by decide +kernel
theorem dX9_fault_1 : decode cX9_fault 1 = .ok (.getfield 173, 3) := by decide +kernel
theorem dX9_fault_4 : decode cX9_fault 4 = .ok (.ireturn, 1) := by decide +kernel
theorem dX9_sides_0 : decode cX9_sides 0 = .ok (.aload_n 0, 1) := by decide +kernel
theorem dX9_sides_1 : decode cX9_sides 1 = .ok (.getfield 22, 3) := by decide +kernel
theorem dX9_sides_4 : decode cX9_sides 4 = .ok (.iconst 0, 1) := by decide +kernel
theorem dX9_sides_5 : decode cX9_sides 5 = .ok (.iaload, 1) := by decide +kernel
theorem dX9_sides_6 : decode cX9_sides 6 = .ok (.ireturn, 1) := by decide +kernel
theorem dX9_isSide_0 : decode cX9_isSide 0 = .ok (.iload_n 1, 1) := by decide +kernel
theorem dX9_isSide_1 : decode cX9_isSide 1 = .ok (.i2l, 1) := by decide +kernel
theorem dX9_isSide_2 : decode cX9_isSide 2 = .ok (.lconst 0, 1) := by decide +kernel
theorem dX9_isSide_3 : decode cX9_isSide 3 = .ok (.aload_n 0, 1) := by decide +kernel
theorem dX9_isSide_4 : decode cX9_isSide 4 = .ok (.invokevirtual 176, 3) := by decide +kernel
theorem dX9_isSide_7 : decode cX9_isSide 7 = .ok (.iconst 1, 1) := by decide +kernel
theorem dX9_isSide_8 : decode cX9_isSide 8 = .ok (.isub, 1) := by decide +kernel
theorem dX9_isSide_9 : decode cX9_isSide 9 = .ok (.i2l, 1) := by decide +kernel
theorem dX9_isSide_10 : decode cX9_isSide 10 = .ok (.invokestatic 96, 3) := by decide +kernel
theorem dX9_isSide_13 : decode cX9_isSide 13 = .ok (.ireturn, 1) := by decide +kernel
theorem dX9_rule_0 : decode cX9_rule 0 = .ok (.iload_n 1, 1) := by decide +kernel
theorem dX9_rule_1 : decode cX9_rule 1 = .ok (.i2l, 1) := by decide +kernel
theorem dX9_rule_2 : decode cX9_rule 2 = .ok (.lconst 0, 1) := by decide +kernel
theorem dX9_rule_3 : decode cX9_rule 3 = .ok (.lconst 1, 1) := by decide +kernel
theorem dX9_rule_4 : decode cX9_rule 4 = .ok (.invokestatic 96, 3) := by decide +kernel
theorem dX9_rule_7 : decode cX9_rule 7 = .ok (.ifCond .eq 10, 3) := by decide +kernel
theorem dX9_rule_10 : decode cX9_rule 10 = .ok (.aload_n 0, 1) := by decide +kernel
theorem dX9_rule_11 : decode cX9_rule 11 = .ok (.getfield 22, 3) := by decide +kernel
theorem dX9_rule_14 : decode cX9_rule 14 = .ok (.iload_n 1, 1) := by decide +kernel
theorem dX9_rule_15 : decode cX9_rule 15 = .ok (.iaload, 1) := by decide +kernel
theorem dX9_rule_16 : decode cX9_rule 16 = .ok (.ireturn, 1) := by decide +kernel
theorem dX9_rule_17 : decode cX9_rule 17 = .ok (.iload_n 1, 1) := by decide +kernel
theorem dX9_rule_18 : decode cX9_rule 18 = .ok (.bipush 10, 2) := by decide +kernel
theorem dX9_rule_20 : decode cX9_rule 20 = .ok (.if_icmp .lt 44, 3) := by decide +kernel
theorem dX9_rule_23 : decode cX9_rule 23 = .ok (.iload_n 1, 1) := by decide +kernel
theorem dX9_rule_24 : decode cX9_rule 24 = .ok (.bipush 60, 2) := by decide +kernel
theorem dX9_rule_26 : decode cX9_rule 26 = .ok (.if_icmp .ge 38, 3) := by decide +kernel
theorem dX9_rule_29 : decode cX9_rule 29 = .ok (.aload_n 0, 1) := by decide +kernel
theorem dX9_rule_30 : decode cX9_rule 30 = .ok (.iload_n 1, 1) := by decide +kernel
theorem dX9_rule_31 : decode cX9_rule 31 = .ok (.bipush 10, 2) := by decide +kernel
theorem dX9_rule_33 : decode cX9_rule 33 = .ok (.irem, 1) := by decide +kernel
theorem dX9_rule_34 : decode cX9_rule 34 = .ok (.invokevirtual 180, 3) := by decide +kernel
theorem dX9_rule_37 : decode cX9_rule 37 = .ok (.ifCond .eq 27, 3) := by decide +kernel
theorem dX9_rule_40 : decode cX9_rule 40 = .ok (.aload_n 0, 1) := by decide +kernel
theorem dX9_rule_41 : decode cX9_rule 41 = .ok (.getfield 22, 3) := by decide +kernel
theorem dX9_rule_44 : decode cX9_rule 44 = .ok (.iconst 2, 1) := by decide +kernel
theorem dX9_rule_45 : decode cX9_rule 45 = .ok (.bipush 6, 2) := by decide +kernel
theorem dX9_rule_47 : decode cX9_rule 47 = .ok (.iload_n 1, 1) := by decide +kernel
theorem dX9_rule_48 : decode cX9_rule 48 = .ok (.bipush 10, 2) := by decide +kernel
theorem dX9_rule_50 : decode cX9_rule 50 = .ok (.idiv, 1) := by decide +kernel
theorem dX9_rule_51 : decode cX9_rule 51 = .ok (.iconst 1, 1) := by decide +kernel
theorem dX9_rule_52 : decode cX9_rule 52 = .ok (.isub, 1) := by decide +kernel
theorem dX9_rule_53 : decode cX9_rule 53 = .ok (.imul, 1) := by decide +kernel
theorem dX9_rule_54 : decode cX9_rule 54 = .ok (.iadd, 1) := by decide +kernel
theorem dX9_rule_55 : decode cX9_rule 55 = .ok (.iload_n 1, 1) := by decide +kernel
theorem dX9_rule_56 : decode cX9_rule 56 = .ok (.bipush 10, 2) := by decide +kernel
theorem dX9_rule_58 : decode cX9_rule 58 = .ok (.irem, 1) := by decide +kernel
theorem dX9_rule_59 : decode cX9_rule 59 = .ok (.iadd, 1) := by decide +kernel
theorem dX9_rule_60 : decode cX9_rule 60 = .ok (.iaload, 1) := by decide +kernel
theorem dX9_rule_61 : decode cX9_rule 61 = .ok (.goto 4, 3) := by decide +kernel
theorem dX9_rule_64 : decode cX9_rule 64 = .ok (.iconst (-1), 1) := by decide +kernel
theorem dX9_rule_65 : decode cX9_rule 65 = .ok (.ireturn, 1) := by decide +kernel
theorem dX9_game_0 : decode cX9_game 0 = .ok (.aload_n 0, 1) := by decide +kernel
theorem dX9_game_1 : decode cX9_game 1 = .ok (.iload_n 1, 1) := by decide +kernel
theorem dX9_game_2 : decode cX9_game 2 = .ok (.invokevirtual 180, 3) := by decide +kernel
theorem dX9_game_5 : decode cX9_game 5 = .ok (.ifCond .eq 16, 3) := by decide +kernel
theorem dX9_game_8 : decode cX9_game 8 = .ok (.aload_n 0, 1) := by decide +kernel
theorem dX9_game_9 : decode cX9_game 9 = .ok (.iload_n 2, 1) := by decide +kernel
theorem dX9_game_10 : decode cX9_game 10 = .ok (.invokevirtual 180, 3) := by decide +kernel
theorem dX9_game_13 : decode cX9_game 13 = .ok (.ifCond .eq 8, 3) := by decide +kernel
theorem dX9_game_16 : decode cX9_game 16 = .ok (.iload_n 1, 1) := by decide +kernel
theorem dX9_game_17 : decode cX9_game 17 = .ok (.iload_n 2, 1) := by decide +kernel
theorem dX9_game_18 : decode cX9_game 18 = .ok (.if_icmp .ne 5, 3) := by decide +kernel
theorem dX9_game_21 : decode cX9_game 21 = .ok (.iconst (-1), 1) := by decide +kernel
theorem dX9_game_22 : decode cX9_game 22 = .ok (.ireturn, 1) := by decide +kernel
theorem dX9_game_23 : decode cX9_game 23 = .ok (.aload_n 0, 1) := by decide +kernel
theorem dX9_game_24 : decode cX9_game 24 = .ok (.getfield 43, 3) := by decide +kernel
theorem dX9_game_27 : decode cX9_game 27 = .ok (.iconst 0, 1) := by decide +kernel
theorem dX9_game_28 : decode cX9_game 28 = .ok (.iaload, 1) := by decide +kernel
theorem dX9_game_29 : decode cX9_game 29 = .ok (.bipush 30, 2) := by decide +kernel
theorem dX9_game_31 : decode cX9_game 31 = .ok (.if_icmp .ne 6, 3) := by decide +kernel
theorem dX9_game_34 : decode cX9_game 34 = .ok (.bipush (-3), 2) := by decide +kernel
theorem dX9_game_36 : decode cX9_game 36 = .ok (.ireturn, 1) := by decide +kernel
theorem dX9_game_37 : decode cX9_game 37 = .ok (.aload_n 0, 1) := by decide +kernel
theorem dX9_game_38 : decode cX9_game 38 = .ok (.getfield 34, 3) := by decide +kernel
theorem dX9_game_41 : decode cX9_game 41 = .ok (.aload_n 0, 1) := by decide +kernel
theorem dX9_game_42 : decode cX9_game 42 = .ok (.getfield 43, 3) := by decide +kernel
theorem dX9_game_45 : decode cX9_game 45 = .ok (.iconst 0, 1) := by decide +kernel
theorem dX9_game_46 : decode cX9_game 46 = .ok (.iaload, 1) := by decide +kernel
theorem dX9_game_47 : decode cX9_game 47 = .ok (.iload_n 1, 1) := by decide +kernel
theorem dX9_game_48 : decode cX9_game 48 = .ok (.iastore, 1) := by decide +kernel
theorem dX9_game_49 : decode cX9_game 49 = .ok (.aload_n 0, 1) := by decide +kernel
theorem dX9_game_50 : decode cX9_game 50 = .ok (.getfield 37, 3) := by decide +kernel
theorem dX9_game_53 : decode cX9_game 53 = .ok (.aload_n 0, 1) := by decide +kernel
theorem dX9_game_54 : decode cX9_game 54 = .ok (.getfield 43, 3) := by decide +kernel
theorem dX9_game_57 : decode cX9_game 57 = .ok (.iconst 0, 1) := by decide +kernel
theorem dX9_game_58 : decode cX9_game 58 = .ok (.iaload, 1) := by decide +kernel
theorem dX9_game_59 : decode cX9_game 59 = .ok (.iload_n 2, 1) := by decide +kernel
theorem dX9_game_60 : decode cX9_game 60 = .ok (.iastore, 1) := by decide +kernel
theorem dX9_game_61 : decode cX9_game 61 = .ok (.aload_n 0, 1) := by decide +kernel
theorem dX9_game_62 : decode cX9_game 62 = .ok (.getfield 40, 3) := by decide +kernel
theorem dX9_game_65 : decode cX9_game 65 = .ok (.aload_n 0, 1) := by decide +kernel
theorem dX9_game_66 : decode cX9_game 66 = .ok (.getfield 43, 3) := by decide +kernel
theorem dX9_game_69 : decode cX9_game 69 = .ok (.iconst 0, 1) := by decide +kernel
theorem dX9_game_70 : decode cX9_game 70 = .ok (.iaload, 1) := by decide +kernel
theorem dX9_game_71 : decode cX9_game 71 = .ok (.iconst 2, 1) := by decide +kernel
theorem dX9_game_72 : decode cX9_game 72 = .ok (.iastore, 1) := by decide +kernel
theorem dX9_game_73 : decode cX9_game 73 = .ok (.aload_n 0, 1) := by decide +kernel
theorem dX9_game_74 : decode cX9_game 74 = .ok (.getfield 43, 3) := by decide +kernel
theorem dX9_game_77 : decode cX9_game 77 = .ok (.iconst 0, 1) := by decide +kernel
theorem dX9_game_78 : decode cX9_game 78 = .ok (.dup2, 1) := by decide +kernel
theorem dX9_game_79 : decode cX9_game 79 = .ok (.iaload, 1) := by decide +kernel
theorem dX9_game_80 : decode cX9_game 80 = .ok (.iconst 1, 1) := by decide +kernel
theorem dX9_game_81 : decode cX9_game 81 = .ok (.iadd, 1) := by decide +kernel
theorem dX9_game_82 : decode cX9_game 82 = .ok (.iastore, 1) := by decide +kernel
theorem dX9_game_83 : decode cX9_game 83 = .ok (.aload_n 0, 1) := by decide +kernel
theorem dX9_game_84 : decode cX9_game 84 = .ok (.getfield 43, 3) := by decide +kernel
theorem dX9_game_87 : decode cX9_game 87 = .ok (.iconst 0, 1) := by decide +kernel
theorem dX9_game_88 : decode cX9_game 88 = .ok (.iaload, 1) := by decide +kernel
theorem dX9_game_89 : decode cX9_game 89 = .ok (.iconst 1, 1) := by decide +kernel
theorem dX9_game_90 : decode cX9_game 90 = .ok (.isub, 1) := by decide +kernel
theorem dX9_game_91 : decode cX9_game 91 = .ok (.ireturn, 1) := by decide +kernel
theorem dX9_half_0 : decode cX9_half 0 = .ok (.iload_n 0, 1) := by decide +kernel
theorem dX9_half_1 : decode cX9_half 1 = .ok (.iconst 2, 1) := by decide +kernel
theorem dX9_half_2 : decode cX9_half 2 = .ok (.if_icmp .ge 7, 3) := by decide +kernel
theorem dX9_half_5 : decode cX9_half 5 = .ok (.iconst 1, 1) := by decide +kernel
theorem dX9_half_6 : decode cX9_half 6 = .ok (.goto 6, 3) := by decide +kernel
theorem dX9_half_9 : decode cX9_half 9 = .ok (.iload_n 0, 1) := by decide +kernel
theorem dX9_half_10 : decode cX9_half 10 = .ok (.iconst 2, 1) := by decide +kernel
theorem dX9_half_11 : decode cX9_half 11 = .ok (.idiv, 1) := by decide +kernel
theorem dX9_half_12 : decode cX9_half 12 = .ok (.ireturn, 1) := by decide +kernel
theorem dX9_oddsOf_0 : decode cX9_oddsOf 0 = .ok (.bipush 16, 2) := by decide +kernel
theorem dX9_oddsOf_2 : decode cX9_oddsOf 2 = .ok (.iload_n 0, 1) := by decide +kernel
theorem dX9_oddsOf_3 : decode cX9_oddsOf 3 = .ok (.imul, 1) := by decide +kernel
theorem dX9_oddsOf_4 : decode cX9_oddsOf 4 = .ok (.iload_n 0, 1) := by decide +kernel
theorem dX9_oddsOf_5 : decode cX9_oddsOf 5 = .ok (.iload_n 1, 1) := by decide +kernel
theorem dX9_oddsOf_6 : decode cX9_oddsOf 6 = .ok (.iadd, 1) := by decide +kernel
theorem dX9_oddsOf_7 : decode cX9_oddsOf 7 = .ok (.idiv, 1) := by decide +kernel
theorem dX9_oddsOf_8 : decode cX9_oddsOf 8 = .ok (.istore_n 2, 1) := by decide +kernel
theorem dX9_oddsOf_9 : decode cX9_oddsOf 9 = .ok (.iload_n 2, 1) := by decide +kernel
theorem dX9_oddsOf_10 : decode cX9_oddsOf 10 = .ok (.iconst 1, 1) := by decide +kernel
theorem dX9_oddsOf_11 : decode cX9_oddsOf 11 = .ok (.if_icmp .ge 7, 3) := by decide +kernel
theorem dX9_oddsOf_14 : decode cX9_oddsOf 14 = .ok (.iconst 1, 1) := by decide +kernel
theorem dX9_oddsOf_15 : decode cX9_oddsOf 15 = .ok (.goto 15, 3) := by decide +kernel
theorem dX9_oddsOf_18 : decode cX9_oddsOf 18 = .ok (.iload_n 2, 1) := by decide +kernel
theorem dX9_oddsOf_19 : decode cX9_oddsOf 19 = .ok (.bipush 15, 2) := by decide +kernel
theorem dX9_oddsOf_21 : decode cX9_oddsOf 21 = .ok (.if_icmp .le 8, 3) := by decide +kernel
theorem dX9_oddsOf_24 : decode cX9_oddsOf 24 = .ok (.bipush 15, 2) := by decide +kernel
theorem dX9_oddsOf_26 : decode cX9_oddsOf 26 = .ok (.goto 4, 3) := by decide +kernel
theorem dX9_oddsOf_29 : decode cX9_oddsOf 29 = .ok (.iload_n 2, 1) := by decide +kernel
theorem dX9_oddsOf_30 : decode cX9_oddsOf 30 = .ok (.ireturn, 1) := by decide +kernel
theorem dX9_oddsBy_0 : decode cX9_oddsBy 0 = .ok (.aload_n 0, 1) := by decide +kernel
theorem dX9_oddsBy_1 : decode cX9_oddsBy 1 = .ok (.getfield 22, 3) := by decide +kernel
theorem dX9_oddsBy_4 : decode cX9_oddsBy 4 = .ok (.iconst 2, 1) := by decide +kernel
theorem dX9_oddsBy_5 : decode cX9_oddsBy 5 = .ok (.aload_n 0, 1) := by decide +kernel
theorem dX9_oddsBy_6 : decode cX9_oddsBy 6 = .ok (.getfield 34, 3) := by decide +kernel
theorem dX9_oddsBy_9 : decode cX9_oddsBy 9 = .ok (.iload_n 1, 1) := by decide +kernel
theorem dX9_oddsBy_10 : decode cX9_oddsBy 10 = .ok (.iaload, 1) := by decide +kernel
theorem dX9_oddsBy_11 : decode cX9_oddsBy 11 = .ok (.iadd, 1) := by decide +kernel
theorem dX9_oddsBy_12 : decode cX9_oddsBy 12 = .ok (.iaload, 1) := by decide +kernel
theorem dX9_oddsBy_13 : decode cX9_oddsBy 13 = .ok (.istore_n 3, 1) := by decide +kernel
theorem dX9_oddsBy_14 : decode cX9_oddsBy 14 = .ok (.aload_n 0, 1) := by decide +kernel
theorem dX9_oddsBy_15 : decode cX9_oddsBy 15 = .ok (.getfield 22, 3) := by decide +kernel
theorem dX9_oddsBy_18 : decode cX9_oddsBy 18 = .ok (.iconst 2, 1) := by decide +kernel
theorem dX9_oddsBy_19 : decode cX9_oddsBy 19 = .ok (.aload_n 0, 1) := by decide +kernel
theorem dX9_oddsBy_20 : decode cX9_oddsBy 20 = .ok (.getfield 37, 3) := by decide +kernel
theorem dX9_oddsBy_23 : decode cX9_oddsBy 23 = .ok (.iload_n 1, 1) := by decide +kernel
theorem dX9_oddsBy_24 : decode cX9_oddsBy 24 = .ok (.iaload, 1) := by decide +kernel
theorem dX9_oddsBy_25 : decode cX9_oddsBy 25 = .ok (.iadd, 1) := by decide +kernel
theorem dX9_oddsBy_26 : decode cX9_oddsBy 26 = .ok (.iaload, 1) := by decide +kernel
theorem dX9_oddsBy_27 : decode cX9_oddsBy 27 = .ok (.istore 4, 2) := by decide +kernel
theorem dX9_oddsBy_29 : decode cX9_oddsBy 29 = .ok (.iload_n 2, 1) := by decide +kernel
theorem dX9_oddsBy_30 : decode cX9_oddsBy 30 = .ok (.iconst 2, 1) := by decide +kernel
theorem dX9_oddsBy_31 : decode cX9_oddsBy 31 = .ok (.idiv, 1) := by decide +kernel
theorem dX9_oddsBy_32 : decode cX9_oddsBy 32 = .ok (.iconst 1, 1) := by decide +kernel
theorem dX9_oddsBy_33 : decode cX9_oddsBy 33 = .ok (.if_icmp .ne 10, 3) := by decide +kernel
theorem dX9_oddsBy_36 : decode cX9_oddsBy 36 = .ok (.iload_n 3, 1) := by decide +kernel
theorem dX9_oddsBy_37 : decode cX9_oddsBy 37 = .ok (.invokestatic 184, 3) := by decide +kernel
theorem dX9_oddsBy_40 : decode cX9_oddsBy 40 = .ok (.goto 4, 3) := by decide +kernel
theorem dX9_oddsBy_43 : decode cX9_oddsBy 43 = .ok (.iload_n 3, 1) := by decide +kernel
theorem dX9_oddsBy_44 : decode cX9_oddsBy 44 = .ok (.iload_n 2, 1) := by decide +kernel
theorem dX9_oddsBy_45 : decode cX9_oddsBy 45 = .ok (.iconst 2, 1) := by decide +kernel
theorem dX9_oddsBy_46 : decode cX9_oddsBy 46 = .ok (.irem, 1) := by decide +kernel
theorem dX9_oddsBy_47 : decode cX9_oddsBy 47 = .ok (.iconst 1, 1) := by decide +kernel
theorem dX9_oddsBy_48 : decode cX9_oddsBy 48 = .ok (.if_icmp .ne 11, 3) := by decide +kernel
theorem dX9_oddsBy_51 : decode cX9_oddsBy 51 = .ok (.iload 4, 2) := by decide +kernel
theorem dX9_oddsBy_53 : decode cX9_oddsBy 53 = .ok (.invokestatic 184, 3) := by decide +kernel
theorem dX9_oddsBy_56 : decode cX9_oddsBy 56 = .ok (.goto 5, 3) := by decide +kernel
theorem dX9_oddsBy_59 : decode cX9_oddsBy 59 = .ok (.iload 4, 2) := by decide +kernel
theorem dX9_oddsBy_61 : decode cX9_oddsBy 61 = .ok (.invokestatic 187, 3) := by decide +kernel
theorem dX9_oddsBy_64 : decode cX9_oddsBy 64 = .ok (.ireturn, 1) := by decide +kernel
theorem dX9_isGame_0 : decode cX9_isGame 0 = .ok (.iload_n 1, 1) := by decide +kernel
theorem dX9_isGame_1 : decode cX9_isGame 1 = .ok (.i2l, 1) := by decide +kernel
theorem dX9_isGame_2 : decode cX9_isGame 2 = .ok (.lconst 0, 1) := by decide +kernel
theorem dX9_isGame_3 : decode cX9_isGame 3 = .ok (.aload_n 0, 1) := by decide +kernel
theorem dX9_isGame_4 : decode cX9_isGame 4 = .ok (.getfield 43, 3) := by decide +kernel
theorem dX9_isGame_7 : decode cX9_isGame 7 = .ok (.iconst 0, 1) := by decide +kernel
theorem dX9_isGame_8 : decode cX9_isGame 8 = .ok (.iaload, 1) := by decide +kernel
theorem dX9_isGame_9 : decode cX9_isGame 9 = .ok (.iconst 1, 1) := by decide +kernel
theorem dX9_isGame_10 : decode cX9_isGame 10 = .ok (.isub, 1) := by decide +kernel
theorem dX9_isGame_11 : decode cX9_isGame 11 = .ok (.i2l, 1) := by decide +kernel
theorem dX9_isGame_12 : decode cX9_isGame 12 = .ok (.invokestatic 96, 3) := by decide +kernel
theorem dX9_isGame_15 : decode cX9_isGame 15 = .ok (.ireturn, 1) := by decide +kernel
theorem dX9_of_0 : decode cX9_of 0 = .ok (.aload_n 0, 1) := by decide +kernel
theorem dX9_of_1 : decode cX9_of 1 = .ok (.iload_n 1, 1) := by decide +kernel
theorem dX9_of_2 : decode cX9_of 2 = .ok (.invokevirtual 190, 3) := by decide +kernel
theorem dX9_of_5 : decode cX9_of 5 = .ok (.ifCond .ne 5, 3) := by decide +kernel
theorem dX9_of_8 : decode cX9_of 8 = .ok (.iconst (-1), 1) := by decide +kernel
theorem dX9_of_9 : decode cX9_of 9 = .ok (.ireturn, 1) := by decide +kernel
theorem dX9_of_10 : decode cX9_of 10 = .ok (.iload_n 2, 1) := by decide +kernel
theorem dX9_of_11 : decode cX9_of 11 = .ok (.tableswitch 79 0 5 #[37, 44, 51, 58, 65, 72], 37) := by decide +kernel
theorem dX9_of_48 : decode cX9_of 48 = .ok (.aload_n 0, 1) := by decide +kernel
theorem dX9_of_49 : decode cX9_of 49 = .ok (.getfield 34, 3) := by decide +kernel
theorem dX9_of_52 : decode cX9_of 52 = .ok (.iload_n 1, 1) := by decide +kernel
theorem dX9_of_53 : decode cX9_of 53 = .ok (.iaload, 1) := by decide +kernel
theorem dX9_of_54 : decode cX9_of 54 = .ok (.ireturn, 1) := by decide +kernel
theorem dX9_of_55 : decode cX9_of 55 = .ok (.aload_n 0, 1) := by decide +kernel
theorem dX9_of_56 : decode cX9_of 56 = .ok (.getfield 37, 3) := by decide +kernel
theorem dX9_of_59 : decode cX9_of 59 = .ok (.iload_n 1, 1) := by decide +kernel
theorem dX9_of_60 : decode cX9_of 60 = .ok (.iaload, 1) := by decide +kernel
theorem dX9_of_61 : decode cX9_of 61 = .ok (.ireturn, 1) := by decide +kernel
theorem dX9_of_62 : decode cX9_of 62 = .ok (.aload_n 0, 1) := by decide +kernel
theorem dX9_of_63 : decode cX9_of 63 = .ok (.getfield 40, 3) := by decide +kernel
theorem dX9_of_66 : decode cX9_of 66 = .ok (.iload_n 1, 1) := by decide +kernel
theorem dX9_of_67 : decode cX9_of 67 = .ok (.iaload, 1) := by decide +kernel
theorem dX9_of_68 : decode cX9_of 68 = .ok (.ireturn, 1) := by decide +kernel
theorem dX9_of_69 : decode cX9_of 69 = .ok (.aload_n 0, 1) := by decide +kernel
theorem dX9_of_70 : decode cX9_of 70 = .ok (.iload_n 1, 1) := by decide +kernel
theorem dX9_of_71 : decode cX9_of 71 = .ok (.iconst 0, 1) := by decide +kernel
theorem dX9_of_72 : decode cX9_of 72 = .ok (.invokevirtual 193, 3) := by decide +kernel
theorem dX9_of_75 : decode cX9_of 75 = .ok (.ireturn, 1) := by decide +kernel
theorem dX9_of_76 : decode cX9_of 76 = .ok (.aload_n 0, 1) := by decide +kernel
theorem dX9_of_77 : decode cX9_of 77 = .ok (.iload_n 1, 1) := by decide +kernel
theorem dX9_of_78 : decode cX9_of 78 = .ok (.iconst 2, 1) := by decide +kernel
theorem dX9_of_79 : decode cX9_of 79 = .ok (.invokevirtual 193, 3) := by decide +kernel
theorem dX9_of_82 : decode cX9_of 82 = .ok (.ireturn, 1) := by decide +kernel
theorem dX9_of_83 : decode cX9_of 83 = .ok (.aload_n 0, 1) := by decide +kernel
theorem dX9_of_84 : decode cX9_of 84 = .ok (.iload_n 1, 1) := by decide +kernel
theorem dX9_of_85 : decode cX9_of 85 = .ok (.iconst 1, 1) := by decide +kernel
theorem dX9_of_86 : decode cX9_of 86 = .ok (.invokevirtual 193, 3) := by decide +kernel
theorem dX9_of_89 : decode cX9_of 89 = .ok (.ireturn, 1) := by decide +kernel
theorem dX9_of_90 : decode cX9_of 90 = .ok (.iconst (-1), 1) := by decide +kernel
theorem dX9_of_91 : decode cX9_of 91 = .ok (.ireturn, 1) := by decide +kernel
theorem dX9_ends_0 : decode cX9_ends 0 = .ok (.aload_n 0, 1) := by decide +kernel
theorem dX9_ends_1 : decode cX9_ends 1 = .ok (.iload_n 1, 1) := by decide +kernel
theorem dX9_ends_2 : decode cX9_ends 2 = .ok (.invokevirtual 190, 3) := by decide +kernel
theorem dX9_ends_5 : decode cX9_ends 5 = .ok (.ifCond .eq 15, 3) := by decide +kernel
theorem dX9_ends_8 : decode cX9_ends 8 = .ok (.iload_n 2, 1) := by decide +kernel
theorem dX9_ends_9 : decode cX9_ends 9 = .ok (.i2l, 1) := by decide +kernel
theorem dX9_ends_10 : decode cX9_ends 10 = .ok (.lconst 0, 1) := by decide +kernel
theorem dX9_ends_11 : decode cX9_ends 11 = .ok (.ldc2_w 196, 3) := by decide +kernel
theorem dX9_ends_14 : decode cX9_ends 14 = .ok (.invokestatic 96, 3) := by decide +kernel
theorem dX9_ends_17 : decode cX9_ends 17 = .ok (.ifCond .ne 5, 3) := by decide +kernel
theorem dX9_ends_20 : decode cX9_ends 20 = .ok (.iconst (-1), 1) := by decide +kernel
theorem dX9_ends_21 : decode cX9_ends 21 = .ok (.ireturn, 1) := by decide +kernel
theorem dX9_ends_22 : decode cX9_ends 22 = .ok (.aload_n 0, 1) := by decide +kernel
theorem dX9_ends_23 : decode cX9_ends 23 = .ok (.getfield 40, 3) := by decide +kernel
theorem dX9_ends_26 : decode cX9_ends 26 = .ok (.iload_n 1, 1) := by decide +kernel
theorem dX9_ends_27 : decode cX9_ends 27 = .ok (.iaload, 1) := by decide +kernel
theorem dX9_ends_28 : decode cX9_ends 28 = .ok (.istore_n 3, 1) := by decide +kernel
theorem dX9_ends_29 : decode cX9_ends 29 = .ok (.aload_n 0, 1) := by decide +kernel
theorem dX9_ends_30 : decode cX9_ends 30 = .ok (.getfield 40, 3) := by decide +kernel
theorem dX9_ends_33 : decode cX9_ends 33 = .ok (.iload_n 1, 1) := by decide +kernel
theorem dX9_ends_34 : decode cX9_ends 34 = .ok (.iload_n 2, 1) := by decide +kernel
theorem dX9_ends_35 : decode cX9_ends 35 = .ok (.iastore, 1) := by decide +kernel
theorem dX9_ends_36 : decode cX9_ends 36 = .ok (.iload_n 3, 1) := by decide +kernel
theorem dX9_ends_37 : decode cX9_ends 37 = .ok (.ireturn, 1) := by decide +kernel
theorem dX9_from_0 : decode cX9_from 0 = .ok (.bipush 30, 2) := by decide +kernel
theorem dX9_from_2 : decode cX9_from 2 = .ok (.iload_n 0, 1) := by decide +kernel
theorem dX9_from_3 : decode cX9_from 3 = .ok (.imul, 1) := by decide +kernel
theorem dX9_from_4 : decode cX9_from 4 = .ok (.ireturn, 1) := by decide +kernel
theorem dX9_winner_0 : decode cX9_winner 0 = .ok (.aload_n 0, 1) := by decide +kernel
theorem dX9_winner_1 : decode cX9_winner 1 = .ok (.getfield 40, 3) := by decide +kernel
theorem dX9_winner_4 : decode cX9_winner 4 = .ok (.iload_n 1, 1) := by decide +kernel
theorem dX9_winner_5 : decode cX9_winner 5 = .ok (.iaload, 1) := by decide +kernel
theorem dX9_winner_6 : decode cX9_winner 6 = .ok (.ifCond .ne 12, 3) := by decide +kernel
theorem dX9_winner_9 : decode cX9_winner 9 = .ok (.aload_n 0, 1) := by decide +kernel
theorem dX9_winner_10 : decode cX9_winner 10 = .ok (.getfield 34, 3) := by decide +kernel
theorem dX9_winner_13 : decode cX9_winner 13 = .ok (.iload_n 1, 1) := by decide +kernel
theorem dX9_winner_14 : decode cX9_winner 14 = .ok (.iaload, 1) := by decide +kernel
theorem dX9_winner_15 : decode cX9_winner 15 = .ok (.goto 24, 3) := by decide +kernel
theorem dX9_winner_18 : decode cX9_winner 18 = .ok (.aload_n 0, 1) := by decide +kernel
theorem dX9_winner_19 : decode cX9_winner 19 = .ok (.getfield 40, 3) := by decide +kernel
theorem dX9_winner_22 : decode cX9_winner 22 = .ok (.iload_n 1, 1) := by decide +kernel
theorem dX9_winner_23 : decode cX9_winner 23 = .ok (.iaload, 1) := by decide +kernel
theorem dX9_winner_24 : decode cX9_winner 24 = .ok (.iconst 1, 1) := by decide +kernel
theorem dX9_winner_25 : decode cX9_winner 25 = .ok (.if_icmp .ne 12, 3) := by decide +kernel
theorem dX9_winner_28 : decode cX9_winner 28 = .ok (.aload_n 0, 1) := by decide +kernel
theorem dX9_winner_29 : decode cX9_winner 29 = .ok (.getfield 37, 3) := by decide +kernel
theorem dX9_winner_32 : decode cX9_winner 32 = .ok (.iload_n 1, 1) := by decide +kernel
theorem dX9_winner_33 : decode cX9_winner 33 = .ok (.iaload, 1) := by decide +kernel
theorem dX9_winner_34 : decode cX9_winner 34 = .ok (.goto 5, 3) := by decide +kernel
theorem dX9_winner_37 : decode cX9_winner 37 = .ok (.bipush (-4), 2) := by decide +kernel
theorem dX9_winner_39 : decode cX9_winner 39 = .ok (.ireturn, 1) := by decide +kernel
theorem dX9_layTable_0 : decode cX9_layTable 0 = .ok (.iconst 0, 1) := by decide +kernel
theorem dX9_layTable_1 : decode cX9_layTable 1 = .ok (.istore_n 2, 1) := by decide +kernel
theorem dX9_layTable_2 : decode cX9_layTable 2 = .ok (.iload_n 2, 1) := by decide +kernel
theorem dX9_layTable_3 : decode cX9_layTable 3 = .ok (.bipush 6, 2) := by decide +kernel
theorem dX9_layTable_5 : decode cX9_layTable 5 = .ok (.if_icmp .ge 16, 3) := by decide +kernel
theorem dX9_layTable_8 : decode cX9_layTable 8 = .ok (.aload_n 0, 1) := by decide +kernel
theorem dX9_layTable_9 : decode cX9_layTable 9 = .ok (.getfield 49, 3) := by decide +kernel
theorem dX9_layTable_12 : decode cX9_layTable 12 = .ok (.iload_n 2, 1) := by decide +kernel
theorem dX9_layTable_13 : decode cX9_layTable 13 = .ok (.iconst 0, 1) := by decide +kernel
theorem dX9_layTable_14 : decode cX9_layTable 14 = .ok (.iastore, 1) := by decide +kernel
theorem dX9_layTable_15 : decode cX9_layTable 15 = .ok (.iinc 2 1, 3) := by decide +kernel
theorem dX9_layTable_18 : decode cX9_layTable 18 = .ok (.goto (-16), 3) := by decide +kernel
theorem dX9_layTable_21 : decode cX9_layTable 21 = .ok (.iconst 0, 1) := by decide +kernel
theorem dX9_layTable_22 : decode cX9_layTable 22 = .ok (.istore_n 2, 1) := by decide +kernel
theorem dX9_layTable_23 : decode cX9_layTable 23 = .ok (.iload_n 2, 1) := by decide +kernel
theorem dX9_layTable_24 : decode cX9_layTable 24 = .ok (.aload_n 0, 1) := by decide +kernel
theorem dX9_layTable_25 : decode cX9_layTable 25 = .ok (.getfield 43, 3) := by decide +kernel
theorem dX9_layTable_28 : decode cX9_layTable 28 = .ok (.iload_n 1, 1) := by decide +kernel
theorem dX9_layTable_29 : decode cX9_layTable 29 = .ok (.iaload, 1) := by decide +kernel
theorem dX9_layTable_30 : decode cX9_layTable 30 = .ok (.if_icmp .ge 36, 3) := by decide +kernel
theorem dX9_layTable_33 : decode cX9_layTable 33 = .ok (.aload_n 0, 1) := by decide +kernel
theorem dX9_layTable_34 : decode cX9_layTable 34 = .ok (.iload_n 1, 1) := by decide +kernel
theorem dX9_layTable_35 : decode cX9_layTable 35 = .ok (.invokestatic 198, 3) := by decide +kernel
theorem dX9_layTable_38 : decode cX9_layTable 38 = .ok (.iload_n 2, 1) := by decide +kernel
theorem dX9_layTable_39 : decode cX9_layTable 39 = .ok (.iadd, 1) := by decide +kernel
theorem dX9_layTable_40 : decode cX9_layTable 40 = .ok (.invokevirtual 201, 3) := by decide +kernel
theorem dX9_layTable_43 : decode cX9_layTable 43 = .ok (.istore_n 3, 1) := by decide +kernel
theorem dX9_layTable_44 : decode cX9_layTable 44 = .ok (.iload_n 3, 1) := by decide +kernel
theorem dX9_layTable_45 : decode cX9_layTable 45 = .ok (.bipush (-4), 2) := by decide +kernel
theorem dX9_layTable_47 : decode cX9_layTable 47 = .ok (.if_icmp .eq 13, 3) := by decide +kernel
theorem dX9_layTable_50 : decode cX9_layTable 50 = .ok (.aload_n 0, 1) := by decide +kernel
theorem dX9_layTable_51 : decode cX9_layTable 51 = .ok (.getfield 49, 3) := by decide +kernel
theorem dX9_layTable_54 : decode cX9_layTable 54 = .ok (.iload_n 3, 1) := by decide +kernel
theorem dX9_layTable_55 : decode cX9_layTable 55 = .ok (.dup2, 1) := by decide +kernel
theorem dX9_layTable_56 : decode cX9_layTable 56 = .ok (.iaload, 1) := by decide +kernel
theorem dX9_layTable_57 : decode cX9_layTable 57 = .ok (.iconst 1, 1) := by decide +kernel
theorem dX9_layTable_58 : decode cX9_layTable 58 = .ok (.iadd, 1) := by decide +kernel
theorem dX9_layTable_59 : decode cX9_layTable 59 = .ok (.iastore, 1) := by decide +kernel
theorem dX9_layTable_60 : decode cX9_layTable 60 = .ok (.iinc 2 1, 3) := by decide +kernel
theorem dX9_layTable_63 : decode cX9_layTable 63 = .ok (.goto (-40), 3) := by decide +kernel
theorem dX9_layTable_66 : decode cX9_layTable 66 = .ok (.iconst 0, 1) := by decide +kernel
theorem dX9_layTable_67 : decode cX9_layTable 67 = .ok (.istore_n 2, 1) := by decide +kernel
theorem dX9_layTable_68 : decode cX9_layTable 68 = .ok (.iload_n 2, 1) := by decide +kernel
theorem dX9_layTable_69 : decode cX9_layTable 69 = .ok (.aload_n 0, 1) := by decide +kernel
theorem dX9_layTable_70 : decode cX9_layTable 70 = .ok (.invokevirtual 176, 3) := by decide +kernel
theorem dX9_layTable_73 : decode cX9_layTable 73 = .ok (.if_icmp .ge 89, 3) := by decide +kernel
theorem dX9_layTable_76 : decode cX9_layTable 76 = .ok (.iconst 0, 1) := by decide +kernel
theorem dX9_layTable_77 : decode cX9_layTable 77 = .ok (.istore_n 3, 1) := by decide +kernel
theorem dX9_layTable_78 : decode cX9_layTable 78 = .ok (.iconst 0, 1) := by decide +kernel
theorem dX9_layTable_79 : decode cX9_layTable 79 = .ok (.istore 4, 2) := by decide +kernel
theorem dX9_layTable_81 : decode cX9_layTable 81 = .ok (.iload 4, 2) := by decide +kernel
theorem dX9_layTable_83 : decode cX9_layTable 83 = .ok (.aload_n 0, 1) := by decide +kernel
theorem dX9_layTable_84 : decode cX9_layTable 84 = .ok (.invokevirtual 176, 3) := by decide +kernel
theorem dX9_layTable_87 : decode cX9_layTable 87 = .ok (.if_icmp .ge 55, 3) := by decide +kernel
theorem dX9_layTable_90 : decode cX9_layTable 90 = .ok (.iload_n 3, 1) := by decide +kernel
theorem dX9_layTable_91 : decode cX9_layTable 91 = .ok (.aload_n 0, 1) := by decide +kernel
theorem dX9_layTable_92 : decode cX9_layTable 92 = .ok (.getfield 49, 3) := by decide +kernel
theorem dX9_layTable_95 : decode cX9_layTable 95 = .ok (.iload 4, 2) := by decide +kernel
theorem dX9_layTable_97 : decode cX9_layTable 97 = .ok (.iaload, 1) := by decide +kernel
theorem dX9_layTable_98 : decode cX9_layTable 98 = .ok (.aload_n 0, 1) := by decide +kernel
theorem dX9_layTable_99 : decode cX9_layTable 99 = .ok (.getfield 49, 3) := by decide +kernel
theorem dX9_layTable_102 : decode cX9_layTable 102 = .ok (.iload_n 2, 1) := by decide +kernel
theorem dX9_layTable_103 : decode cX9_layTable 103 = .ok (.iaload, 1) := by decide +kernel
theorem dX9_layTable_104 : decode cX9_layTable 104 = .ok (.if_icmp .gt 25, 3) := by decide +kernel
theorem dX9_layTable_107 : decode cX9_layTable 107 = .ok (.aload_n 0, 1) := by decide +kernel
theorem dX9_layTable_108 : decode cX9_layTable 108 = .ok (.getfield 49, 3) := by decide +kernel
theorem dX9_layTable_111 : decode cX9_layTable 111 = .ok (.iload 4, 2) := by decide +kernel
theorem dX9_layTable_113 : decode cX9_layTable 113 = .ok (.iaload, 1) := by decide +kernel
theorem dX9_layTable_114 : decode cX9_layTable 114 = .ok (.aload_n 0, 1) := by decide +kernel
theorem dX9_layTable_115 : decode cX9_layTable 115 = .ok (.getfield 49, 3) := by decide +kernel
theorem dX9_layTable_118 : decode cX9_layTable 118 = .ok (.iload_n 2, 1) := by decide +kernel
theorem dX9_layTable_119 : decode cX9_layTable 119 = .ok (.iaload, 1) := by decide +kernel
theorem dX9_layTable_120 : decode cX9_layTable 120 = .ok (.if_icmp .ne 13, 3) := by decide +kernel
theorem dX9_layTable_123 : decode cX9_layTable 123 = .ok (.iload 4, 2) := by decide +kernel
theorem dX9_layTable_125 : decode cX9_layTable 125 = .ok (.iload_n 2, 1) := by decide +kernel
theorem dX9_layTable_126 : decode cX9_layTable 126 = .ok (.if_icmp .ge 7, 3) := by decide +kernel
theorem dX9_layTable_129 : decode cX9_layTable 129 = .ok (.iconst 1, 1) := by decide +kernel
theorem dX9_layTable_130 : decode cX9_layTable 130 = .ok (.goto 4, 3) := by decide +kernel
theorem dX9_layTable_133 : decode cX9_layTable 133 = .ok (.iconst 0, 1) := by decide +kernel
theorem dX9_layTable_134 : decode cX9_layTable 134 = .ok (.iadd, 1) := by decide +kernel
theorem dX9_layTable_135 : decode cX9_layTable 135 = .ok (.istore_n 3, 1) := by decide +kernel
theorem dX9_layTable_136 : decode cX9_layTable 136 = .ok (.iinc 4 1, 3) := by decide +kernel
theorem dX9_layTable_139 : decode cX9_layTable 139 = .ok (.goto (-58), 3) := by decide +kernel
theorem dX9_layTable_142 : decode cX9_layTable 142 = .ok (.aload_n 0, 1) := by decide +kernel
theorem dX9_layTable_143 : decode cX9_layTable 143 = .ok (.getfield 55, 3) := by decide +kernel
theorem dX9_layTable_146 : decode cX9_layTable 146 = .ok (.iload_n 2, 1) := by decide +kernel
theorem dX9_layTable_147 : decode cX9_layTable 147 = .ok (.iload_n 3, 1) := by decide +kernel
theorem dX9_layTable_148 : decode cX9_layTable 148 = .ok (.iastore, 1) := by decide +kernel
theorem dX9_layTable_149 : decode cX9_layTable 149 = .ok (.aload_n 0, 1) := by decide +kernel
theorem dX9_layTable_150 : decode cX9_layTable 150 = .ok (.getfield 52, 3) := by decide +kernel
theorem dX9_layTable_153 : decode cX9_layTable 153 = .ok (.iload_n 3, 1) := by decide +kernel
theorem dX9_layTable_154 : decode cX9_layTable 154 = .ok (.iload_n 2, 1) := by decide +kernel
theorem dX9_layTable_155 : decode cX9_layTable 155 = .ok (.iastore, 1) := by decide +kernel
theorem dX9_layTable_156 : decode cX9_layTable 156 = .ok (.iinc 2 1, 3) := by decide +kernel
theorem dX9_layTable_159 : decode cX9_layTable 159 = .ok (.goto (-91), 3) := by decide +kernel
theorem dX9_layTable_162 : decode cX9_layTable 162 = .ok (.return_, 1) := by decide +kernel
theorem dX9_openMany_0 : decode cX9_openMany 0 = .ok (.iconst 0, 1) := by decide +kernel
theorem dX9_openMany_1 : decode cX9_openMany 1 = .ok (.istore_n 1, 1) := by decide +kernel
theorem dX9_openMany_2 : decode cX9_openMany 2 = .ok (.iconst 0, 1) := by decide +kernel
theorem dX9_openMany_3 : decode cX9_openMany 3 = .ok (.istore_n 2, 1) := by decide +kernel
theorem dX9_openMany_4 : decode cX9_openMany 4 = .ok (.iload_n 2, 1) := by decide +kernel
theorem dX9_openMany_5 : decode cX9_openMany 5 = .ok (.aload_n 0, 1) := by decide +kernel
theorem dX9_openMany_6 : decode cX9_openMany 6 = .ok (.getfield 43, 3) := by decide +kernel
theorem dX9_openMany_9 : decode cX9_openMany 9 = .ok (.iconst 0, 1) := by decide +kernel
theorem dX9_openMany_10 : decode cX9_openMany 10 = .ok (.iaload, 1) := by decide +kernel
theorem dX9_openMany_11 : decode cX9_openMany 11 = .ok (.if_icmp .ge 27, 3) := by decide +kernel
theorem dX9_openMany_14 : decode cX9_openMany 14 = .ok (.iload_n 1, 1) := by decide +kernel
theorem dX9_openMany_15 : decode cX9_openMany 15 = .ok (.aload_n 0, 1) := by decide +kernel
theorem dX9_openMany_16 : decode cX9_openMany 16 = .ok (.getfield 40, 3) := by decide +kernel
theorem dX9_openMany_19 : decode cX9_openMany 19 = .ok (.iload_n 2, 1) := by decide +kernel
theorem dX9_openMany_20 : decode cX9_openMany 20 = .ok (.iaload, 1) := by decide +kernel
theorem dX9_openMany_21 : decode cX9_openMany 21 = .ok (.iconst 2, 1) := by decide +kernel
theorem dX9_openMany_22 : decode cX9_openMany 22 = .ok (.if_icmp .ne 7, 3) := by decide +kernel
theorem dX9_openMany_25 : decode cX9_openMany 25 = .ok (.iconst 1, 1) := by decide +kernel
theorem dX9_openMany_26 : decode cX9_openMany 26 = .ok (.goto 4, 3) := by decide +kernel
theorem dX9_openMany_29 : decode cX9_openMany 29 = .ok (.iconst 0, 1) := by decide +kernel
theorem dX9_openMany_30 : decode cX9_openMany 30 = .ok (.iadd, 1) := by decide +kernel
theorem dX9_openMany_31 : decode cX9_openMany 31 = .ok (.istore_n 1, 1) := by decide +kernel
theorem dX9_openMany_32 : decode cX9_openMany 32 = .ok (.iinc 2 1, 3) := by decide +kernel
theorem dX9_openMany_35 : decode cX9_openMany 35 = .ok (.goto (-31), 3) := by decide +kernel
theorem dX9_openMany_38 : decode cX9_openMany 38 = .ok (.iload_n 1, 1) := by decide +kernel
theorem dX9_openMany_39 : decode cX9_openMany 39 = .ok (.ireturn, 1) := by decide +kernel
theorem dX9_table_0 : decode cX9_table 0 = .ok (.aload_n 0, 1) := by decide +kernel
theorem dX9_table_1 : decode cX9_table 1 = .ok (.iload_n 1, 1) := by decide +kernel
theorem dX9_table_2 : decode cX9_table 2 = .ok (.invokevirtual 180, 3) := by decide +kernel
theorem dX9_table_5 : decode cX9_table 5 = .ok (.ifCond .eq 15, 3) := by decide +kernel
theorem dX9_table_8 : decode cX9_table 8 = .ok (.iload_n 2, 1) := by decide +kernel
theorem dX9_table_9 : decode cX9_table 9 = .ok (.i2l, 1) := by decide +kernel
theorem dX9_table_10 : decode cX9_table 10 = .ok (.lconst 0, 1) := by decide +kernel
theorem dX9_table_11 : decode cX9_table 11 = .ok (.ldc2_w 196, 3) := by decide +kernel
theorem dX9_table_14 : decode cX9_table 14 = .ok (.invokestatic 96, 3) := by decide +kernel
theorem dX9_table_17 : decode cX9_table 17 = .ok (.ifCond .ne 5, 3) := by decide +kernel
theorem dX9_table_20 : decode cX9_table 20 = .ok (.iconst (-1), 1) := by decide +kernel
theorem dX9_table_21 : decode cX9_table 21 = .ok (.ireturn, 1) := by decide +kernel
theorem dX9_table_22 : decode cX9_table 22 = .ok (.aload_n 0, 1) := by decide +kernel
theorem dX9_table_23 : decode cX9_table 23 = .ok (.iconst 0, 1) := by decide +kernel
theorem dX9_table_24 : decode cX9_table 24 = .ok (.invokevirtual 204, 3) := by decide +kernel
theorem dX9_table_27 : decode cX9_table 27 = .ok (.aload_n 0, 1) := by decide +kernel
theorem dX9_table_28 : decode cX9_table 28 = .ok (.getfield 52, 3) := by decide +kernel
theorem dX9_table_31 : decode cX9_table 31 = .ok (.iload_n 1, 1) := by decide +kernel
theorem dX9_table_32 : decode cX9_table 32 = .ok (.iaload, 1) := by decide +kernel
theorem dX9_table_33 : decode cX9_table 33 = .ok (.istore_n 3, 1) := by decide +kernel
theorem dX9_table_34 : decode cX9_table 34 = .ok (.iconst 0, 1) := by decide +kernel
theorem dX9_table_35 : decode cX9_table 35 = .ok (.istore 4, 2) := by decide +kernel
theorem dX9_table_37 : decode cX9_table 37 = .ok (.iconst 0, 1) := by decide +kernel
theorem dX9_table_38 : decode cX9_table 38 = .ok (.istore 5, 2) := by decide +kernel
theorem dX9_table_40 : decode cX9_table 40 = .ok (.iload 5, 2) := by decide +kernel
theorem dX9_table_42 : decode cX9_table 42 = .ok (.aload_n 0, 1) := by decide +kernel
theorem dX9_table_43 : decode cX9_table 43 = .ok (.getfield 43, 3) := by decide +kernel
theorem dX9_table_46 : decode cX9_table 46 = .ok (.iconst 0, 1) := by decide +kernel
theorem dX9_table_47 : decode cX9_table 47 = .ok (.iaload, 1) := by decide +kernel
theorem dX9_table_48 : decode cX9_table 48 = .ok (.if_icmp .ge 52, 3) := by decide +kernel
theorem dX9_table_51 : decode cX9_table 51 = .ok (.iload 4, 2) := by decide +kernel
theorem dX9_table_53 : decode cX9_table 53 = .ok (.aload_n 0, 1) := by decide +kernel
theorem dX9_table_54 : decode cX9_table 54 = .ok (.getfield 40, 3) := by decide +kernel
theorem dX9_table_57 : decode cX9_table 57 = .ok (.iload 5, 2) := by decide +kernel
theorem dX9_table_59 : decode cX9_table 59 = .ok (.iaload, 1) := by decide +kernel
theorem dX9_table_60 : decode cX9_table 60 = .ok (.iconst 2, 1) := by decide +kernel
theorem dX9_table_61 : decode cX9_table 61 = .ok (.if_icmp .ne 29, 3) := by decide +kernel
theorem dX9_table_64 : decode cX9_table 64 = .ok (.aload_n 0, 1) := by decide +kernel
theorem dX9_table_65 : decode cX9_table 65 = .ok (.getfield 34, 3) := by decide +kernel
theorem dX9_table_68 : decode cX9_table 68 = .ok (.iload 5, 2) := by decide +kernel
theorem dX9_table_70 : decode cX9_table 70 = .ok (.iaload, 1) := by decide +kernel
theorem dX9_table_71 : decode cX9_table 71 = .ok (.iload_n 3, 1) := by decide +kernel
theorem dX9_table_72 : decode cX9_table 72 = .ok (.if_icmp .eq 14, 3) := by decide +kernel
theorem dX9_table_75 : decode cX9_table 75 = .ok (.aload_n 0, 1) := by decide +kernel
theorem dX9_table_76 : decode cX9_table 76 = .ok (.getfield 37, 3) := by decide +kernel
theorem dX9_table_79 : decode cX9_table 79 = .ok (.iload 5, 2) := by decide +kernel
theorem dX9_table_81 : decode cX9_table 81 = .ok (.iaload, 1) := by decide +kernel
theorem dX9_table_82 : decode cX9_table 82 = .ok (.iload_n 3, 1) := by decide +kernel
theorem dX9_table_83 : decode cX9_table 83 = .ok (.if_icmp .ne 7, 3) := by decide +kernel
theorem dX9_table_86 : decode cX9_table 86 = .ok (.iconst 1, 1) := by decide +kernel
theorem dX9_table_87 : decode cX9_table 87 = .ok (.goto 4, 3) := by decide +kernel
theorem dX9_table_90 : decode cX9_table 90 = .ok (.iconst 0, 1) := by decide +kernel
theorem dX9_table_91 : decode cX9_table 91 = .ok (.iadd, 1) := by decide +kernel
theorem dX9_table_92 : decode cX9_table 92 = .ok (.istore 4, 2) := by decide +kernel
theorem dX9_table_94 : decode cX9_table 94 = .ok (.iinc 5 1, 3) := by decide +kernel
theorem dX9_table_97 : decode cX9_table 97 = .ok (.goto (-57), 3) := by decide +kernel
theorem dX9_table_100 : decode cX9_table 100 = .ok (.iload_n 2, 1) := by decide +kernel
theorem dX9_table_101 : decode cX9_table 101 = .ok (.ifCond .ne 7, 3) := by decide +kernel
theorem dX9_table_104 : decode cX9_table 104 = .ok (.iload_n 3, 1) := by decide +kernel
theorem dX9_table_105 : decode cX9_table 105 = .ok (.goto 19, 3) := by decide +kernel
theorem dX9_table_108 : decode cX9_table 108 = .ok (.iload_n 2, 1) := by decide +kernel
theorem dX9_table_109 : decode cX9_table 109 = .ok (.iconst 1, 1) := by decide +kernel
theorem dX9_table_110 : decode cX9_table 110 = .ok (.if_icmp .ne 12, 3) := by decide +kernel
theorem dX9_table_113 : decode cX9_table 113 = .ok (.aload_n 0, 1) := by decide +kernel
theorem dX9_table_114 : decode cX9_table 114 = .ok (.getfield 49, 3) := by decide +kernel
theorem dX9_table_117 : decode cX9_table 117 = .ok (.iload_n 3, 1) := by decide +kernel
theorem dX9_table_118 : decode cX9_table 118 = .ok (.iaload, 1) := by decide +kernel
theorem dX9_table_119 : decode cX9_table 119 = .ok (.goto 5, 3) := by decide +kernel
theorem dX9_table_122 : decode cX9_table 122 = .ok (.iload 4, 2) := by decide +kernel
theorem dX9_table_124 : decode cX9_table 124 = .ok (.ireturn, 1) := by decide +kernel
theorem dX9_wonUpTo_0 : decode cX9_wonUpTo 0 = .ok (.iconst 0, 1) := by decide +kernel
theorem dX9_wonUpTo_1 : decode cX9_wonUpTo 1 = .ok (.istore 4, 2) := by decide +kernel
theorem dX9_wonUpTo_3 : decode cX9_wonUpTo 3 = .ok (.iconst 0, 1) := by decide +kernel
theorem dX9_wonUpTo_4 : decode cX9_wonUpTo 4 = .ok (.istore 5, 2) := by decide +kernel
theorem dX9_wonUpTo_6 : decode cX9_wonUpTo 6 = .ok (.iload 5, 2) := by decide +kernel
theorem dX9_wonUpTo_8 : decode cX9_wonUpTo 8 = .ok (.iload_n 3, 1) := by decide +kernel
theorem dX9_wonUpTo_9 : decode cX9_wonUpTo 9 = .ok (.if_icmp .gt 34, 3) := by decide +kernel
theorem dX9_wonUpTo_12 : decode cX9_wonUpTo 12 = .ok (.iload 4, 2) := by decide +kernel
theorem dX9_wonUpTo_14 : decode cX9_wonUpTo 14 = .ok (.aload_n 0, 1) := by decide +kernel
theorem dX9_wonUpTo_15 : decode cX9_wonUpTo 15 = .ok (.iload_n 1, 1) := by decide +kernel
theorem dX9_wonUpTo_16 : decode cX9_wonUpTo 16 = .ok (.invokestatic 198, 3) := by decide +kernel
theorem dX9_wonUpTo_19 : decode cX9_wonUpTo 19 = .ok (.iload 5, 2) := by decide +kernel
theorem dX9_wonUpTo_21 : decode cX9_wonUpTo 21 = .ok (.iadd, 1) := by decide +kernel
theorem dX9_wonUpTo_22 : decode cX9_wonUpTo 22 = .ok (.invokevirtual 201, 3) := by decide +kernel
theorem dX9_wonUpTo_25 : decode cX9_wonUpTo 25 = .ok (.iload_n 2, 1) := by decide +kernel
theorem dX9_wonUpTo_26 : decode cX9_wonUpTo 26 = .ok (.if_icmp .ne 7, 3) := by decide +kernel
theorem dX9_wonUpTo_29 : decode cX9_wonUpTo 29 = .ok (.iconst 1, 1) := by decide +kernel
theorem dX9_wonUpTo_30 : decode cX9_wonUpTo 30 = .ok (.goto 4, 3) := by decide +kernel
theorem dX9_wonUpTo_33 : decode cX9_wonUpTo 33 = .ok (.iconst 0, 1) := by decide +kernel
theorem dX9_wonUpTo_34 : decode cX9_wonUpTo 34 = .ok (.iadd, 1) := by decide +kernel
theorem dX9_wonUpTo_35 : decode cX9_wonUpTo 35 = .ok (.istore 4, 2) := by decide +kernel
theorem dX9_wonUpTo_37 : decode cX9_wonUpTo 37 = .ok (.iinc 5 1, 3) := by decide +kernel
theorem dX9_wonUpTo_40 : decode cX9_wonUpTo 40 = .ok (.goto (-34), 3) := by decide +kernel
theorem dX9_wonUpTo_43 : decode cX9_wonUpTo 43 = .ok (.iload 4, 2) := by decide +kernel
theorem dX9_wonUpTo_45 : decode cX9_wonUpTo 45 = .ok (.ireturn, 1) := by decide +kernel
theorem dX9_toCome_0 : decode cX9_toCome 0 = .ok (.iconst 0, 1) := by decide +kernel
theorem dX9_toCome_1 : decode cX9_toCome 1 = .ok (.istore 4, 2) := by decide +kernel
theorem dX9_toCome_3 : decode cX9_toCome 3 = .ok (.iconst 0, 1) := by decide +kernel
theorem dX9_toCome_4 : decode cX9_toCome 4 = .ok (.istore 5, 2) := by decide +kernel
theorem dX9_toCome_6 : decode cX9_toCome 6 = .ok (.iload 5, 2) := by decide +kernel
theorem dX9_toCome_8 : decode cX9_toCome 8 = .ok (.aload_n 0, 1) := by decide +kernel
theorem dX9_toCome_9 : decode cX9_toCome 9 = .ok (.getfield 43, 3) := by decide +kernel
theorem dX9_toCome_12 : decode cX9_toCome 12 = .ok (.iload_n 1, 1) := by decide +kernel
theorem dX9_toCome_13 : decode cX9_toCome 13 = .ok (.iaload, 1) := by decide +kernel
theorem dX9_toCome_14 : decode cX9_toCome 14 = .ok (.if_icmp .ge 79, 3) := by decide +kernel
theorem dX9_toCome_17 : decode cX9_toCome 17 = .ok (.iload_n 1, 1) := by decide +kernel
theorem dX9_toCome_18 : decode cX9_toCome 18 = .ok (.invokestatic 198, 3) := by decide +kernel
theorem dX9_toCome_21 : decode cX9_toCome 21 = .ok (.iload 5, 2) := by decide +kernel
theorem dX9_toCome_23 : decode cX9_toCome 23 = .ok (.iadd, 1) := by decide +kernel
theorem dX9_toCome_24 : decode cX9_toCome 24 = .ok (.istore 6, 2) := by decide +kernel
theorem dX9_toCome_26 : decode cX9_toCome 26 = .ok (.aload_n 0, 1) := by decide +kernel
theorem dX9_toCome_27 : decode cX9_toCome 27 = .ok (.getfield 34, 3) := by decide +kernel
theorem dX9_toCome_30 : decode cX9_toCome 30 = .ok (.iload 6, 2) := by decide +kernel
theorem dX9_toCome_32 : decode cX9_toCome 32 = .ok (.iaload, 1) := by decide +kernel
theorem dX9_toCome_33 : decode cX9_toCome 33 = .ok (.iload_n 2, 1) := by decide +kernel
theorem dX9_toCome_34 : decode cX9_toCome 34 = .ok (.if_icmp .eq 14, 3) := by decide +kernel
theorem dX9_toCome_37 : decode cX9_toCome 37 = .ok (.aload_n 0, 1) := by decide +kernel
theorem dX9_toCome_38 : decode cX9_toCome 38 = .ok (.getfield 37, 3) := by decide +kernel
theorem dX9_toCome_41 : decode cX9_toCome 41 = .ok (.iload 6, 2) := by decide +kernel
theorem dX9_toCome_43 : decode cX9_toCome 43 = .ok (.iaload, 1) := by decide +kernel
theorem dX9_toCome_44 : decode cX9_toCome 44 = .ok (.iload_n 2, 1) := by decide +kernel
theorem dX9_toCome_45 : decode cX9_toCome 45 = .ok (.if_icmp .ne 7, 3) := by decide +kernel
theorem dX9_toCome_48 : decode cX9_toCome 48 = .ok (.iconst 1, 1) := by decide +kernel
theorem dX9_toCome_49 : decode cX9_toCome 49 = .ok (.goto 4, 3) := by decide +kernel
theorem dX9_toCome_52 : decode cX9_toCome 52 = .ok (.iconst 0, 1) := by decide +kernel
theorem dX9_toCome_53 : decode cX9_toCome 53 = .ok (.istore 7, 2) := by decide +kernel
theorem dX9_toCome_55 : decode cX9_toCome 55 = .ok (.iload 4, 2) := by decide +kernel
theorem dX9_toCome_57 : decode cX9_toCome 57 = .ok (.iload 7, 2) := by decide +kernel
theorem dX9_toCome_59 : decode cX9_toCome 59 = .ok (.ifCond .eq 24, 3) := by decide +kernel
theorem dX9_toCome_62 : decode cX9_toCome 62 = .ok (.iload 5, 2) := by decide +kernel
theorem dX9_toCome_64 : decode cX9_toCome 64 = .ok (.iload_n 3, 1) := by decide +kernel
theorem dX9_toCome_65 : decode cX9_toCome 65 = .ok (.if_icmp .gt 14, 3) := by decide +kernel
theorem dX9_toCome_68 : decode cX9_toCome 68 = .ok (.aload_n 0, 1) := by decide +kernel
theorem dX9_toCome_69 : decode cX9_toCome 69 = .ok (.getfield 40, 3) := by decide +kernel
theorem dX9_toCome_72 : decode cX9_toCome 72 = .ok (.iload 6, 2) := by decide +kernel
theorem dX9_toCome_74 : decode cX9_toCome 74 = .ok (.iaload, 1) := by decide +kernel
theorem dX9_toCome_75 : decode cX9_toCome 75 = .ok (.iconst 2, 1) := by decide +kernel
theorem dX9_toCome_76 : decode cX9_toCome 76 = .ok (.if_icmp .ne 7, 3) := by decide +kernel
theorem dX9_toCome_79 : decode cX9_toCome 79 = .ok (.iconst 1, 1) := by decide +kernel
theorem dX9_toCome_80 : decode cX9_toCome 80 = .ok (.goto 4, 3) := by decide +kernel
theorem dX9_toCome_83 : decode cX9_toCome 83 = .ok (.iconst 0, 1) := by decide +kernel
theorem dX9_toCome_84 : decode cX9_toCome 84 = .ok (.iadd, 1) := by decide +kernel
theorem dX9_toCome_85 : decode cX9_toCome 85 = .ok (.istore 4, 2) := by decide +kernel
theorem dX9_toCome_87 : decode cX9_toCome 87 = .ok (.iinc 5 1, 3) := by decide +kernel
theorem dX9_toCome_90 : decode cX9_toCome 90 = .ok (.goto (-84), 3) := by decide +kernel
theorem dX9_toCome_93 : decode cX9_toCome 93 = .ok (.iload 4, 2) := by decide +kernel
theorem dX9_toCome_95 : decode cX9_toCome 95 = .ok (.ireturn, 1) := by decide +kernel
theorem dX9_outOf_0 : decode cX9_outOf 0 = .ok (.iconst 0, 1) := by decide +kernel
theorem dX9_outOf_1 : decode cX9_outOf 1 = .ok (.istore_n 3, 1) := by decide +kernel
theorem dX9_outOf_2 : decode cX9_outOf 2 = .ok (.iload_n 3, 1) := by decide +kernel
theorem dX9_outOf_3 : decode cX9_outOf 3 = .ok (.aload_n 0, 1) := by decide +kernel
theorem dX9_outOf_4 : decode cX9_outOf 4 = .ok (.getfield 43, 3) := by decide +kernel
theorem dX9_outOf_7 : decode cX9_outOf 7 = .ok (.iload_n 1, 1) := by decide +kernel
theorem dX9_outOf_8 : decode cX9_outOf 8 = .ok (.iaload, 1) := by decide +kernel
theorem dX9_outOf_9 : decode cX9_outOf 9 = .ok (.if_icmp .ge 65, 3) := by decide +kernel
theorem dX9_outOf_12 : decode cX9_outOf 12 = .ok (.aload_n 0, 1) := by decide +kernel
theorem dX9_outOf_13 : decode cX9_outOf 13 = .ok (.iload_n 1, 1) := by decide +kernel
theorem dX9_outOf_14 : decode cX9_outOf 14 = .ok (.iload_n 2, 1) := by decide +kernel
theorem dX9_outOf_15 : decode cX9_outOf 15 = .ok (.iload_n 3, 1) := by decide +kernel
theorem dX9_outOf_16 : decode cX9_outOf 16 = .ok (.invokevirtual 207, 3) := by decide +kernel
theorem dX9_outOf_19 : decode cX9_outOf 19 = .ok (.aload_n 0, 1) := by decide +kernel
theorem dX9_outOf_20 : decode cX9_outOf 20 = .ok (.iload_n 1, 1) := by decide +kernel
theorem dX9_outOf_21 : decode cX9_outOf 21 = .ok (.iload_n 2, 1) := by decide +kernel
theorem dX9_outOf_22 : decode cX9_outOf 22 = .ok (.iload_n 3, 1) := by decide +kernel
theorem dX9_outOf_23 : decode cX9_outOf 23 = .ok (.invokevirtual 211, 3) := by decide +kernel
theorem dX9_outOf_26 : decode cX9_outOf 26 = .ok (.iadd, 1) := by decide +kernel
theorem dX9_outOf_27 : decode cX9_outOf 27 = .ok (.istore 4, 2) := by decide +kernel
theorem dX9_outOf_29 : decode cX9_outOf 29 = .ok (.iconst 0, 1) := by decide +kernel
theorem dX9_outOf_30 : decode cX9_outOf 30 = .ok (.istore 5, 2) := by decide +kernel
theorem dX9_outOf_32 : decode cX9_outOf 32 = .ok (.iload 5, 2) := by decide +kernel
theorem dX9_outOf_34 : decode cX9_outOf 34 = .ok (.aload_n 0, 1) := by decide +kernel
theorem dX9_outOf_35 : decode cX9_outOf 35 = .ok (.invokevirtual 176, 3) := by decide +kernel
theorem dX9_outOf_38 : decode cX9_outOf 38 = .ok (.if_icmp .ge 30, 3) := by decide +kernel
theorem dX9_outOf_41 : decode cX9_outOf 41 = .ok (.iload 5, 2) := by decide +kernel
theorem dX9_outOf_43 : decode cX9_outOf 43 = .ok (.iload_n 2, 1) := by decide +kernel
theorem dX9_outOf_44 : decode cX9_outOf 44 = .ok (.if_icmp .eq 18, 3) := by decide +kernel
theorem dX9_outOf_47 : decode cX9_outOf 47 = .ok (.iload 4, 2) := by decide +kernel
theorem dX9_outOf_49 : decode cX9_outOf 49 = .ok (.aload_n 0, 1) := by decide +kernel
theorem dX9_outOf_50 : decode cX9_outOf 50 = .ok (.iload_n 1, 1) := by decide +kernel
theorem dX9_outOf_51 : decode cX9_outOf 51 = .ok (.iload 5, 2) := by decide +kernel
theorem dX9_outOf_53 : decode cX9_outOf 53 = .ok (.iload_n 3, 1) := by decide +kernel
theorem dX9_outOf_54 : decode cX9_outOf 54 = .ok (.invokevirtual 207, 3) := by decide +kernel
theorem dX9_outOf_57 : decode cX9_outOf 57 = .ok (.if_icmp .ge 5, 3) := by decide +kernel
theorem dX9_outOf_60 : decode cX9_outOf 60 = .ok (.iload_n 3, 1) := by decide +kernel
theorem dX9_outOf_61 : decode cX9_outOf 61 = .ok (.ireturn, 1) := by decide +kernel
theorem dX9_outOf_62 : decode cX9_outOf 62 = .ok (.iinc 5 1, 3) := by decide +kernel
theorem dX9_outOf_65 : decode cX9_outOf 65 = .ok (.goto (-33), 3) := by decide +kernel
theorem dX9_outOf_68 : decode cX9_outOf 68 = .ok (.iinc 3 1, 3) := by decide +kernel
theorem dX9_outOf_71 : decode cX9_outOf 71 = .ok (.goto (-69), 3) := by decide +kernel
theorem dX9_outOf_74 : decode cX9_outOf 74 = .ok (.bipush (-4), 2) := by decide +kernel
theorem dX9_outOf_76 : decode cX9_outOf 76 = .ok (.ireturn, 1) := by decide +kernel
theorem dX9_out_0 : decode cX9_out 0 = .ok (.aload_n 0, 1) := by decide +kernel
theorem dX9_out_1 : decode cX9_out 1 = .ok (.iload_n 1, 1) := by decide +kernel
theorem dX9_out_2 : decode cX9_out 2 = .ok (.invokevirtual 180, 3) := by decide +kernel
theorem dX9_out_5 : decode cX9_out 5 = .ok (.ifCond .eq 12, 3) := by decide +kernel
theorem dX9_out_8 : decode cX9_out 8 = .ok (.aload_n 0, 1) := by decide +kernel
theorem dX9_out_9 : decode cX9_out 9 = .ok (.iconst 0, 1) := by decide +kernel
theorem dX9_out_10 : decode cX9_out 10 = .ok (.iload_n 1, 1) := by decide +kernel
theorem dX9_out_11 : decode cX9_out 11 = .ok (.invokevirtual 214, 3) := by decide +kernel
theorem dX9_out_14 : decode cX9_out 14 = .ok (.goto 4, 3) := by decide +kernel
theorem dX9_out_17 : decode cX9_out 17 = .ok (.iconst (-1), 1) := by decide +kernel
theorem dX9_out_18 : decode cX9_out 18 = .ok (.ireturn, 1) := by decide +kernel
theorem dX9_isAhead_0 : decode cX9_isAhead 0 = .ok (.aload_n 0, 1) := by decide +kernel
theorem dX9_isAhead_1 : decode cX9_isAhead 1 = .ok (.getfield 61, 3) := by decide +kernel
theorem dX9_isAhead_4 : decode cX9_isAhead 4 = .ok (.iload_n 1, 1) := by decide +kernel
theorem dX9_isAhead_5 : decode cX9_isAhead 5 = .ok (.iaload, 1) := by decide +kernel
theorem dX9_isAhead_6 : decode cX9_isAhead 6 = .ok (.bipush (-4), 2) := by decide +kernel
theorem dX9_isAhead_8 : decode cX9_isAhead 8 = .ok (.if_icmp .eq 7, 3) := by decide +kernel
theorem dX9_isAhead_11 : decode cX9_isAhead 11 = .ok (.iconst 1, 1) := by decide +kernel
theorem dX9_isAhead_12 : decode cX9_isAhead 12 = .ok (.goto 4, 3) := by decide +kernel
theorem dX9_isAhead_15 : decode cX9_isAhead 15 = .ok (.iconst 0, 1) := by decide +kernel
theorem dX9_isAhead_16 : decode cX9_isAhead 16 = .ok (.istore_n 3, 1) := by decide +kernel
theorem dX9_isAhead_17 : decode cX9_isAhead 17 = .ok (.aload_n 0, 1) := by decide +kernel
theorem dX9_isAhead_18 : decode cX9_isAhead 18 = .ok (.getfield 61, 3) := by decide +kernel
theorem dX9_isAhead_21 : decode cX9_isAhead 21 = .ok (.iload_n 2, 1) := by decide +kernel
theorem dX9_isAhead_22 : decode cX9_isAhead 22 = .ok (.iaload, 1) := by decide +kernel
theorem dX9_isAhead_23 : decode cX9_isAhead 23 = .ok (.bipush (-4), 2) := by decide +kernel
theorem dX9_isAhead_25 : decode cX9_isAhead 25 = .ok (.if_icmp .eq 7, 3) := by decide +kernel
theorem dX9_isAhead_28 : decode cX9_isAhead 28 = .ok (.iconst 1, 1) := by decide +kernel
theorem dX9_isAhead_29 : decode cX9_isAhead 29 = .ok (.goto 4, 3) := by decide +kernel
theorem dX9_isAhead_32 : decode cX9_isAhead 32 = .ok (.iconst 0, 1) := by decide +kernel
theorem dX9_isAhead_33 : decode cX9_isAhead 33 = .ok (.istore 4, 2) := by decide +kernel
theorem dX9_isAhead_35 : decode cX9_isAhead 35 = .ok (.iload_n 3, 1) := by decide +kernel
theorem dX9_isAhead_36 : decode cX9_isAhead 36 = .ok (.iload 4, 2) := by decide +kernel
theorem dX9_isAhead_38 : decode cX9_isAhead 38 = .ok (.if_icmp .eq 5, 3) := by decide +kernel
theorem dX9_isAhead_41 : decode cX9_isAhead 41 = .ok (.iload_n 3, 1) := by decide +kernel
theorem dX9_isAhead_42 : decode cX9_isAhead 42 = .ok (.ireturn, 1) := by decide +kernel
theorem dX9_isAhead_43 : decode cX9_isAhead 43 = .ok (.iload_n 3, 1) := by decide +kernel
theorem dX9_isAhead_44 : decode cX9_isAhead 44 = .ok (.ifCond .eq 41, 3) := by decide +kernel
theorem dX9_isAhead_47 : decode cX9_isAhead 47 = .ok (.aload_n 0, 1) := by decide +kernel
theorem dX9_isAhead_48 : decode cX9_isAhead 48 = .ok (.getfield 64, 3) := by decide +kernel
theorem dX9_isAhead_51 : decode cX9_isAhead 51 = .ok (.iload_n 1, 1) := by decide +kernel
theorem dX9_isAhead_52 : decode cX9_isAhead 52 = .ok (.iaload, 1) := by decide +kernel
theorem dX9_isAhead_53 : decode cX9_isAhead 53 = .ok (.aload_n 0, 1) := by decide +kernel
theorem dX9_isAhead_54 : decode cX9_isAhead 54 = .ok (.getfield 64, 3) := by decide +kernel
theorem dX9_isAhead_57 : decode cX9_isAhead 57 = .ok (.iload_n 2, 1) := by decide +kernel
theorem dX9_isAhead_58 : decode cX9_isAhead 58 = .ok (.iaload, 1) := by decide +kernel
theorem dX9_isAhead_59 : decode cX9_isAhead 59 = .ok (.if_icmp .eq 26, 3) := by decide +kernel
theorem dX9_isAhead_62 : decode cX9_isAhead 62 = .ok (.aload_n 0, 1) := by decide +kernel
theorem dX9_isAhead_63 : decode cX9_isAhead 63 = .ok (.getfield 64, 3) := by decide +kernel
theorem dX9_isAhead_66 : decode cX9_isAhead 66 = .ok (.iload_n 1, 1) := by decide +kernel
theorem dX9_isAhead_67 : decode cX9_isAhead 67 = .ok (.iaload, 1) := by decide +kernel
theorem dX9_isAhead_68 : decode cX9_isAhead 68 = .ok (.aload_n 0, 1) := by decide +kernel
theorem dX9_isAhead_69 : decode cX9_isAhead 69 = .ok (.getfield 64, 3) := by decide +kernel
theorem dX9_isAhead_72 : decode cX9_isAhead 72 = .ok (.iload_n 2, 1) := by decide +kernel
theorem dX9_isAhead_73 : decode cX9_isAhead 73 = .ok (.iaload, 1) := by decide +kernel
theorem dX9_isAhead_74 : decode cX9_isAhead 74 = .ok (.if_icmp .le 7, 3) := by decide +kernel
theorem dX9_isAhead_77 : decode cX9_isAhead 77 = .ok (.iconst 1, 1) := by decide +kernel
theorem dX9_isAhead_78 : decode cX9_isAhead 78 = .ok (.goto 27, 3) := by decide +kernel
theorem dX9_isAhead_81 : decode cX9_isAhead 81 = .ok (.iconst 0, 1) := by decide +kernel
theorem dX9_isAhead_82 : decode cX9_isAhead 82 = .ok (.goto 23, 3) := by decide +kernel
theorem dX9_isAhead_85 : decode cX9_isAhead 85 = .ok (.aload_n 0, 1) := by decide +kernel
theorem dX9_isAhead_86 : decode cX9_isAhead 86 = .ok (.getfield 55, 3) := by decide +kernel
theorem dX9_isAhead_89 : decode cX9_isAhead 89 = .ok (.iload_n 1, 1) := by decide +kernel
theorem dX9_isAhead_90 : decode cX9_isAhead 90 = .ok (.iaload, 1) := by decide +kernel
theorem dX9_isAhead_91 : decode cX9_isAhead 91 = .ok (.aload_n 0, 1) := by decide +kernel
theorem dX9_isAhead_92 : decode cX9_isAhead 92 = .ok (.getfield 55, 3) := by decide +kernel
theorem dX9_isAhead_95 : decode cX9_isAhead 95 = .ok (.iload_n 2, 1) := by decide +kernel
theorem dX9_isAhead_96 : decode cX9_isAhead 96 = .ok (.iaload, 1) := by decide +kernel
theorem dX9_isAhead_97 : decode cX9_isAhead 97 = .ok (.if_icmp .le 7, 3) := by decide +kernel
theorem dX9_isAhead_100 : decode cX9_isAhead 100 = .ok (.iconst 1, 1) := by decide +kernel
theorem dX9_isAhead_101 : decode cX9_isAhead 101 = .ok (.goto 4, 3) := by decide +kernel
theorem dX9_isAhead_104 : decode cX9_isAhead 104 = .ok (.iconst 0, 1) := by decide +kernel
theorem dX9_isAhead_105 : decode cX9_isAhead 105 = .ok (.ireturn, 1) := by decide +kernel
theorem dX9_layChoices_0 : decode cX9_layChoices 0 = .ok (.aload_n 0, 1) := by decide +kernel
theorem dX9_layChoices_1 : decode cX9_layChoices 1 = .ok (.invokevirtual 176, 3) := by decide +kernel
theorem dX9_layChoices_4 : decode cX9_layChoices 4 = .ok (.istore_n 3, 1) := by decide +kernel
theorem dX9_layChoices_5 : decode cX9_layChoices 5 = .ok (.iconst 0, 1) := by decide +kernel
theorem dX9_layChoices_6 : decode cX9_layChoices 6 = .ok (.istore 4, 2) := by decide +kernel
theorem dX9_layChoices_8 : decode cX9_layChoices 8 = .ok (.iload 4, 2) := by decide +kernel
theorem dX9_layChoices_10 : decode cX9_layChoices 10 = .ok (.iload_n 3, 1) := by decide +kernel
theorem dX9_layChoices_11 : decode cX9_layChoices 11 = .ok (.if_icmp .ge 50, 3) := by decide +kernel
theorem dX9_layChoices_14 : decode cX9_layChoices 14 = .ok (.aload_n 0, 1) := by decide +kernel
theorem dX9_layChoices_15 : decode cX9_layChoices 15 = .ok (.getfield 58, 3) := by decide +kernel
theorem dX9_layChoices_18 : decode cX9_layChoices 18 = .ok (.iload 4, 2) := by decide +kernel
theorem dX9_layChoices_20 : decode cX9_layChoices 20 = .ok (.aload_n 0, 1) := by decide +kernel
theorem dX9_layChoices_21 : decode cX9_layChoices 21 = .ok (.getfield 22, 3) := by decide +kernel
theorem dX9_layChoices_24 : decode cX9_layChoices 24 = .ok (.iconst 1, 1) := by decide +kernel
theorem dX9_layChoices_25 : decode cX9_layChoices 25 = .ok (.iaload, 1) := by decide +kernel
theorem dX9_layChoices_26 : decode cX9_layChoices 26 = .ok (.iconst 3, 1) := by decide +kernel
theorem dX9_layChoices_27 : decode cX9_layChoices 27 = .ok (.if_icmp .ne 16, 3) := by decide +kernel
theorem dX9_layChoices_30 : decode cX9_layChoices 30 = .ok (.aload_n 0, 1) := by decide +kernel
theorem dX9_layChoices_31 : decode cX9_layChoices 31 = .ok (.getfield 22, 3) := by decide +kernel
theorem dX9_layChoices_34 : decode cX9_layChoices 34 = .ok (.bipush 26, 2) := by decide +kernel
theorem dX9_layChoices_36 : decode cX9_layChoices 36 = .ok (.iload 4, 2) := by decide +kernel
theorem dX9_layChoices_38 : decode cX9_layChoices 38 = .ok (.iadd, 1) := by decide +kernel
theorem dX9_layChoices_39 : decode cX9_layChoices 39 = .ok (.iaload, 1) := by decide +kernel
theorem dX9_layChoices_40 : decode cX9_layChoices 40 = .ok (.goto 14, 3) := by decide +kernel
theorem dX9_layChoices_43 : decode cX9_layChoices 43 = .ok (.aload_n 0, 1) := by decide +kernel
theorem dX9_layChoices_44 : decode cX9_layChoices 44 = .ok (.getfield 52, 3) := by decide +kernel
theorem dX9_layChoices_47 : decode cX9_layChoices 47 = .ok (.iload_n 3, 1) := by decide +kernel
theorem dX9_layChoices_48 : decode cX9_layChoices 48 = .ok (.iconst 1, 1) := by decide +kernel
theorem dX9_layChoices_49 : decode cX9_layChoices 49 = .ok (.isub, 1) := by decide +kernel
theorem dX9_layChoices_50 : decode cX9_layChoices 50 = .ok (.iload 4, 2) := by decide +kernel
theorem dX9_layChoices_52 : decode cX9_layChoices 52 = .ok (.isub, 1) := by decide +kernel
theorem dX9_layChoices_53 : decode cX9_layChoices 53 = .ok (.iaload, 1) := by decide +kernel
theorem dX9_layChoices_54 : decode cX9_layChoices 54 = .ok (.iastore, 1) := by decide +kernel
theorem dX9_layChoices_55 : decode cX9_layChoices 55 = .ok (.iinc 4 1, 3) := by decide +kernel
theorem dX9_layChoices_58 : decode cX9_layChoices 58 = .ok (.goto (-50), 3) := by decide +kernel
theorem dX9_layChoices_61 : decode cX9_layChoices 61 = .ok (.aload_n 0, 1) := by decide +kernel
theorem dX9_layChoices_62 : decode cX9_layChoices 62 = .ok (.getfield 22, 3) := by decide +kernel
theorem dX9_layChoices_65 : decode cX9_layChoices 65 = .ok (.iconst 1, 1) := by decide +kernel
theorem dX9_layChoices_66 : decode cX9_layChoices 66 = .ok (.iaload, 1) := by decide +kernel
theorem dX9_layChoices_67 : decode cX9_layChoices 67 = .ok (.iconst 1, 1) := by decide +kernel
theorem dX9_layChoices_68 : decode cX9_layChoices 68 = .ok (.if_icmp .ne 49, 3) := by decide +kernel
theorem dX9_layChoices_71 : decode cX9_layChoices 71 = .ok (.iload_n 2, 1) := by decide +kernel
theorem dX9_layChoices_72 : decode cX9_layChoices 72 = .ok (.istore 4, 2) := by decide +kernel
theorem dX9_layChoices_74 : decode cX9_layChoices 74 = .ok (.iload 4, 2) := by decide +kernel
theorem dX9_layChoices_76 : decode cX9_layChoices 76 = .ok (.ifCond .le 25, 3) := by decide +kernel
theorem dX9_layChoices_79 : decode cX9_layChoices 79 = .ok (.aload_n 0, 1) := by decide +kernel
theorem dX9_layChoices_80 : decode cX9_layChoices 80 = .ok (.getfield 58, 3) := by decide +kernel
theorem dX9_layChoices_83 : decode cX9_layChoices 83 = .ok (.iload 4, 2) := by decide +kernel
theorem dX9_layChoices_85 : decode cX9_layChoices 85 = .ok (.aload_n 0, 1) := by decide +kernel
theorem dX9_layChoices_86 : decode cX9_layChoices 86 = .ok (.getfield 52, 3) := by decide +kernel
theorem dX9_layChoices_89 : decode cX9_layChoices 89 = .ok (.iload_n 3, 1) := by decide +kernel
theorem dX9_layChoices_90 : decode cX9_layChoices 90 = .ok (.iload 4, 2) := by decide +kernel
theorem dX9_layChoices_92 : decode cX9_layChoices 92 = .ok (.isub, 1) := by decide +kernel
theorem dX9_layChoices_93 : decode cX9_layChoices 93 = .ok (.iaload, 1) := by decide +kernel
theorem dX9_layChoices_94 : decode cX9_layChoices 94 = .ok (.iastore, 1) := by decide +kernel
theorem dX9_layChoices_95 : decode cX9_layChoices 95 = .ok (.iinc 4 (-1), 3) := by decide +kernel
theorem dX9_layChoices_98 : decode cX9_layChoices 98 = .ok (.goto (-24), 3) := by decide +kernel
theorem dX9_layChoices_101 : decode cX9_layChoices 101 = .ok (.aload_n 0, 1) := by decide +kernel
theorem dX9_layChoices_102 : decode cX9_layChoices 102 = .ok (.getfield 58, 3) := by decide +kernel
theorem dX9_layChoices_105 : decode cX9_layChoices 105 = .ok (.iconst 0, 1) := by decide +kernel
theorem dX9_layChoices_106 : decode cX9_layChoices 106 = .ok (.aload_n 0, 1) := by decide +kernel
theorem dX9_layChoices_107 : decode cX9_layChoices 107 = .ok (.getfield 52, 3) := by decide +kernel
theorem dX9_layChoices_110 : decode cX9_layChoices 110 = .ok (.iload_n 3, 1) := by decide +kernel
theorem dX9_layChoices_111 : decode cX9_layChoices 111 = .ok (.iconst 1, 1) := by decide +kernel
theorem dX9_layChoices_112 : decode cX9_layChoices 112 = .ok (.isub, 1) := by decide +kernel
theorem dX9_layChoices_113 : decode cX9_layChoices 113 = .ok (.iload_n 2, 1) := by decide +kernel
theorem dX9_layChoices_114 : decode cX9_layChoices 114 = .ok (.isub, 1) := by decide +kernel
theorem dX9_layChoices_115 : decode cX9_layChoices 115 = .ok (.iaload, 1) := by decide +kernel
theorem dX9_layChoices_116 : decode cX9_layChoices 116 = .ok (.iastore, 1) := by decide +kernel
theorem dX9_layChoices_117 : decode cX9_layChoices 117 = .ok (.aload_n 0, 1) := by decide +kernel
theorem dX9_layChoices_118 : decode cX9_layChoices 118 = .ok (.getfield 22, 3) := by decide +kernel
theorem dX9_layChoices_121 : decode cX9_layChoices 121 = .ok (.iconst 1, 1) := by decide +kernel
theorem dX9_layChoices_122 : decode cX9_layChoices 122 = .ok (.iaload, 1) := by decide +kernel
theorem dX9_layChoices_123 : decode cX9_layChoices 123 = .ok (.iconst 2, 1) := by decide +kernel
theorem dX9_layChoices_124 : decode cX9_layChoices 124 = .ok (.if_icmp .ne 147, 3) := by decide +kernel
theorem dX9_layChoices_127 : decode cX9_layChoices 127 = .ok (.iconst 0, 1) := by decide +kernel
theorem dX9_layChoices_128 : decode cX9_layChoices 128 = .ok (.istore 4, 2) := by decide +kernel
theorem dX9_layChoices_130 : decode cX9_layChoices 130 = .ok (.iload 4, 2) := by decide +kernel
theorem dX9_layChoices_132 : decode cX9_layChoices 132 = .ok (.iload_n 3, 1) := by decide +kernel
theorem dX9_layChoices_133 : decode cX9_layChoices 133 = .ok (.if_icmp .ge 68, 3) := by decide +kernel
theorem dX9_layChoices_136 : decode cX9_layChoices 136 = .ok (.aload_n 0, 1) := by decide +kernel
theorem dX9_layChoices_137 : decode cX9_layChoices 137 = .ok (.getfield 61, 3) := by decide +kernel
theorem dX9_layChoices_140 : decode cX9_layChoices 140 = .ok (.iload 4, 2) := by decide +kernel
theorem dX9_layChoices_142 : decode cX9_layChoices 142 = .ok (.aload_n 0, 1) := by decide +kernel
theorem dX9_layChoices_143 : decode cX9_layChoices 143 = .ok (.iload_n 1, 1) := by decide +kernel
theorem dX9_layChoices_144 : decode cX9_layChoices 144 = .ok (.iload 4, 2) := by decide +kernel
theorem dX9_layChoices_146 : decode cX9_layChoices 146 = .ok (.invokevirtual 214, 3) := by decide +kernel
theorem dX9_layChoices_149 : decode cX9_layChoices 149 = .ok (.iastore, 1) := by decide +kernel
theorem dX9_layChoices_150 : decode cX9_layChoices 150 = .ok (.aload_n 0, 1) := by decide +kernel
theorem dX9_layChoices_151 : decode cX9_layChoices 151 = .ok (.getfield 64, 3) := by decide +kernel
theorem dX9_layChoices_154 : decode cX9_layChoices 154 = .ok (.iload 4, 2) := by decide +kernel
theorem dX9_layChoices_156 : decode cX9_layChoices 156 = .ok (.aload_n 0, 1) := by decide +kernel
theorem dX9_layChoices_157 : decode cX9_layChoices 157 = .ok (.getfield 61, 3) := by decide +kernel
theorem dX9_layChoices_160 : decode cX9_layChoices 160 = .ok (.iload 4, 2) := by decide +kernel
theorem dX9_layChoices_162 : decode cX9_layChoices 162 = .ok (.iaload, 1) := by decide +kernel
theorem dX9_layChoices_163 : decode cX9_layChoices 163 = .ok (.bipush (-4), 2) := by decide +kernel
theorem dX9_layChoices_165 : decode cX9_layChoices 165 = .ok (.if_icmp .ne 7, 3) := by decide +kernel
theorem dX9_layChoices_168 : decode cX9_layChoices 168 = .ok (.iconst 0, 1) := by decide +kernel
theorem dX9_layChoices_169 : decode cX9_layChoices 169 = .ok (.goto 25, 3) := by decide +kernel
theorem dX9_layChoices_172 : decode cX9_layChoices 172 = .ok (.aload_n 0, 1) := by decide +kernel
theorem dX9_layChoices_173 : decode cX9_layChoices 173 = .ok (.getfield 49, 3) := by decide +kernel
theorem dX9_layChoices_176 : decode cX9_layChoices 176 = .ok (.iload 4, 2) := by decide +kernel
theorem dX9_layChoices_178 : decode cX9_layChoices 178 = .ok (.iaload, 1) := by decide +kernel
theorem dX9_layChoices_179 : decode cX9_layChoices 179 = .ok (.aload_n 0, 1) := by decide +kernel
theorem dX9_layChoices_180 : decode cX9_layChoices 180 = .ok (.iload_n 1, 1) := by decide +kernel
theorem dX9_layChoices_181 : decode cX9_layChoices 181 = .ok (.iload 4, 2) := by decide +kernel
theorem dX9_layChoices_183 : decode cX9_layChoices 183 = .ok (.aload_n 0, 1) := by decide +kernel
theorem dX9_layChoices_184 : decode cX9_layChoices 184 = .ok (.getfield 61, 3) := by decide +kernel
theorem dX9_layChoices_187 : decode cX9_layChoices 187 = .ok (.iload 4, 2) := by decide +kernel
theorem dX9_layChoices_189 : decode cX9_layChoices 189 = .ok (.iaload, 1) := by decide +kernel
theorem dX9_layChoices_190 : decode cX9_layChoices 190 = .ok (.invokevirtual 207, 3) := by decide +kernel
theorem dX9_layChoices_193 : decode cX9_layChoices 193 = .ok (.isub, 1) := by decide +kernel
theorem dX9_layChoices_194 : decode cX9_layChoices 194 = .ok (.iastore, 1) := by decide +kernel
theorem dX9_layChoices_195 : decode cX9_layChoices 195 = .ok (.iinc 4 1, 3) := by decide +kernel
theorem dX9_layChoices_198 : decode cX9_layChoices 198 = .ok (.goto (-68), 3) := by decide +kernel
theorem dX9_layChoices_201 : decode cX9_layChoices 201 = .ok (.iconst 0, 1) := by decide +kernel
theorem dX9_layChoices_202 : decode cX9_layChoices 202 = .ok (.istore 4, 2) := by decide +kernel
theorem dX9_layChoices_204 : decode cX9_layChoices 204 = .ok (.iload 4, 2) := by decide +kernel
theorem dX9_layChoices_206 : decode cX9_layChoices 206 = .ok (.iload_n 3, 1) := by decide +kernel
theorem dX9_layChoices_207 : decode cX9_layChoices 207 = .ok (.if_icmp .ge 64, 3) := by decide +kernel
theorem dX9_layChoices_210 : decode cX9_layChoices 210 = .ok (.iconst 0, 1) := by decide +kernel
theorem dX9_layChoices_211 : decode cX9_layChoices 211 = .ok (.istore 5, 2) := by decide +kernel
theorem dX9_layChoices_213 : decode cX9_layChoices 213 = .ok (.iconst 0, 1) := by decide +kernel
theorem dX9_layChoices_214 : decode cX9_layChoices 214 = .ok (.istore 6, 2) := by decide +kernel
theorem dX9_layChoices_216 : decode cX9_layChoices 216 = .ok (.iload 6, 2) := by decide +kernel
theorem dX9_layChoices_218 : decode cX9_layChoices 218 = .ok (.iload_n 3, 1) := by decide +kernel
theorem dX9_layChoices_219 : decode cX9_layChoices 219 = .ok (.if_icmp .ge 37, 3) := by decide +kernel
theorem dX9_layChoices_222 : decode cX9_layChoices 222 = .ok (.iload 5, 2) := by decide +kernel
theorem dX9_layChoices_224 : decode cX9_layChoices 224 = .ok (.iload 6, 2) := by decide +kernel
theorem dX9_layChoices_226 : decode cX9_layChoices 226 = .ok (.iload 4, 2) := by decide +kernel
theorem dX9_layChoices_228 : decode cX9_layChoices 228 = .ok (.if_icmp .eq 18, 3) := by decide +kernel
theorem dX9_layChoices_231 : decode cX9_layChoices 231 = .ok (.aload_n 0, 1) := by decide +kernel
theorem dX9_layChoices_232 : decode cX9_layChoices 232 = .ok (.iload 6, 2) := by decide +kernel
theorem dX9_layChoices_234 : decode cX9_layChoices 234 = .ok (.iload 4, 2) := by decide +kernel
theorem dX9_layChoices_236 : decode cX9_layChoices 236 = .ok (.invokevirtual 217, 3) := by decide +kernel
theorem dX9_layChoices_239 : decode cX9_layChoices 239 = .ok (.ifCond .eq 7, 3) := by decide +kernel
theorem dX9_layChoices_242 : decode cX9_layChoices 242 = .ok (.iconst 1, 1) := by decide +kernel
theorem dX9_layChoices_243 : decode cX9_layChoices 243 = .ok (.goto 4, 3) := by decide +kernel
theorem dX9_layChoices_246 : decode cX9_layChoices 246 = .ok (.iconst 0, 1) := by decide +kernel
theorem dX9_layChoices_247 : decode cX9_layChoices 247 = .ok (.iadd, 1) := by decide +kernel
theorem dX9_layChoices_248 : decode cX9_layChoices 248 = .ok (.istore 5, 2) := by decide +kernel
theorem dX9_layChoices_250 : decode cX9_layChoices 250 = .ok (.iinc 6 1, 3) := by decide +kernel
theorem dX9_layChoices_253 : decode cX9_layChoices 253 = .ok (.goto (-37), 3) := by decide +kernel
theorem dX9_layChoices_256 : decode cX9_layChoices 256 = .ok (.aload_n 0, 1) := by decide +kernel
theorem dX9_layChoices_257 : decode cX9_layChoices 257 = .ok (.getfield 58, 3) := by decide +kernel
theorem dX9_layChoices_260 : decode cX9_layChoices 260 = .ok (.iload 5, 2) := by decide +kernel
theorem dX9_layChoices_262 : decode cX9_layChoices 262 = .ok (.iload 4, 2) := by decide +kernel
theorem dX9_layChoices_264 : decode cX9_layChoices 264 = .ok (.iastore, 1) := by decide +kernel
theorem dX9_layChoices_265 : decode cX9_layChoices 265 = .ok (.iinc 4 1, 3) := by decide +kernel
theorem dX9_layChoices_268 : decode cX9_layChoices 268 = .ok (.goto (-64), 3) := by decide +kernel
theorem dX9_layChoices_271 : decode cX9_layChoices 271 = .ok (.return_, 1) := by decide +kernel
theorem dX9_balls_0 : decode cX9_balls 0 = .ok (.iconst 0, 1) := by decide +kernel
theorem dX9_balls_1 : decode cX9_balls 1 = .ok (.istore_n 1, 1) := by decide +kernel
theorem dX9_balls_2 : decode cX9_balls 2 = .ok (.iconst 0, 1) := by decide +kernel
theorem dX9_balls_3 : decode cX9_balls 3 = .ok (.istore_n 2, 1) := by decide +kernel
theorem dX9_balls_4 : decode cX9_balls 4 = .ok (.iload_n 2, 1) := by decide +kernel
theorem dX9_balls_5 : decode cX9_balls 5 = .ok (.aload_n 0, 1) := by decide +kernel
theorem dX9_balls_6 : decode cX9_balls 6 = .ok (.invokevirtual 176, 3) := by decide +kernel
theorem dX9_balls_9 : decode cX9_balls 9 = .ok (.if_icmp .ge 21, 3) := by decide +kernel
theorem dX9_balls_12 : decode cX9_balls 12 = .ok (.iload_n 1, 1) := by decide +kernel
theorem dX9_balls_13 : decode cX9_balls 13 = .ok (.aload_n 0, 1) := by decide +kernel
theorem dX9_balls_14 : decode cX9_balls 14 = .ok (.getfield 22, 3) := by decide +kernel
theorem dX9_balls_17 : decode cX9_balls 17 = .ok (.bipush 20, 2) := by decide +kernel
theorem dX9_balls_19 : decode cX9_balls 19 = .ok (.iload_n 2, 1) := by decide +kernel
theorem dX9_balls_20 : decode cX9_balls 20 = .ok (.iadd, 1) := by decide +kernel
theorem dX9_balls_21 : decode cX9_balls 21 = .ok (.iaload, 1) := by decide +kernel
theorem dX9_balls_22 : decode cX9_balls 22 = .ok (.iadd, 1) := by decide +kernel
theorem dX9_balls_23 : decode cX9_balls 23 = .ok (.istore_n 1, 1) := by decide +kernel
theorem dX9_balls_24 : decode cX9_balls 24 = .ok (.iinc 2 1, 3) := by decide +kernel
theorem dX9_balls_27 : decode cX9_balls 27 = .ok (.goto (-23), 3) := by decide +kernel
theorem dX9_balls_30 : decode cX9_balls 30 = .ok (.iload_n 1, 1) := by decide +kernel
theorem dX9_balls_31 : decode cX9_balls 31 = .ok (.ireturn, 1) := by decide +kernel
theorem dX9_unit_0 : decode cX9_unit 0 = .ok (.aload_n 0, 1) := by decide +kernel
theorem dX9_unit_1 : decode cX9_unit 1 = .ok (.getfield 22, 3) := by decide +kernel
theorem dX9_unit_4 : decode cX9_unit 4 = .ok (.iconst 1, 1) := by decide +kernel
theorem dX9_unit_5 : decode cX9_unit 5 = .ok (.iaload, 1) := by decide +kernel
theorem dX9_unit_6 : decode cX9_unit 6 = .ok (.iconst 1, 1) := by decide +kernel
theorem dX9_unit_7 : decode cX9_unit 7 = .ok (.if_icmp .ne 10, 3) := by decide +kernel
theorem dX9_unit_10 : decode cX9_unit 10 = .ok (.aload_n 0, 1) := by decide +kernel
theorem dX9_unit_11 : decode cX9_unit 11 = .ok (.invokevirtual 221, 3) := by decide +kernel
theorem dX9_unit_14 : decode cX9_unit 14 = .ok (.goto 21, 3) := by decide +kernel
theorem dX9_unit_17 : decode cX9_unit 17 = .ok (.aload_n 0, 1) := by decide +kernel
theorem dX9_unit_18 : decode cX9_unit 18 = .ok (.getfield 22, 3) := by decide +kernel
theorem dX9_unit_21 : decode cX9_unit 21 = .ok (.iconst 1, 1) := by decide +kernel
theorem dX9_unit_22 : decode cX9_unit 22 = .ok (.iaload, 1) := by decide +kernel
theorem dX9_unit_23 : decode cX9_unit 23 = .ok (.iconst 4, 1) := by decide +kernel
theorem dX9_unit_24 : decode cX9_unit 24 = .ok (.if_icmp .ne 10, 3) := by decide +kernel
theorem dX9_unit_27 : decode cX9_unit 27 = .ok (.aload_n 0, 1) := by decide +kernel
theorem dX9_unit_28 : decode cX9_unit 28 = .ok (.invokevirtual 176, 3) := by decide +kernel
theorem dX9_unit_31 : decode cX9_unit 31 = .ok (.goto 4, 3) := by decide +kernel
theorem dX9_unit_34 : decode cX9_unit 34 = .ok (.iconst 1, 1) := by decide +kernel
theorem dX9_unit_35 : decode cX9_unit 35 = .ok (.ireturn, 1) := by decide +kernel
theorem dX9_layPays_0 : decode cX9_layPays 0 = .ok (.aload_n 0, 1) := by decide +kernel
theorem dX9_layPays_1 : decode cX9_layPays 1 = .ok (.iconst 0, 1) := by decide +kernel
theorem dX9_layPays_2 : decode cX9_layPays 2 = .ok (.invokevirtual 204, 3) := by decide +kernel
theorem dX9_layPays_5 : decode cX9_layPays 5 = .ok (.aload_n 0, 1) := by decide +kernel
theorem dX9_layPays_6 : decode cX9_layPays 6 = .ok (.invokevirtual 176, 3) := by decide +kernel
theorem dX9_layPays_9 : decode cX9_layPays 9 = .ok (.istore_n 1, 1) := by decide +kernel
theorem dX9_layPays_10 : decode cX9_layPays 10 = .ok (.iconst 0, 1) := by decide +kernel
theorem dX9_layPays_11 : decode cX9_layPays 11 = .ok (.istore_n 2, 1) := by decide +kernel
theorem dX9_layPays_12 : decode cX9_layPays 12 = .ok (.iload_n 2, 1) := by decide +kernel
theorem dX9_layPays_13 : decode cX9_layPays 13 = .ok (.iload_n 1, 1) := by decide +kernel
theorem dX9_layPays_14 : decode cX9_layPays 14 = .ok (.if_icmp .ge 34, 3) := by decide +kernel
theorem dX9_layPays_17 : decode cX9_layPays 17 = .ok (.aload_n 0, 1) := by decide +kernel
theorem dX9_layPays_18 : decode cX9_layPays 18 = .ok (.getfield 67, 3) := by decide +kernel
theorem dX9_layPays_21 : decode cX9_layPays 21 = .ok (.iload_n 2, 1) := by decide +kernel
theorem dX9_layPays_22 : decode cX9_layPays 22 = .ok (.aload_n 0, 1) := by decide +kernel
theorem dX9_layPays_23 : decode cX9_layPays 23 = .ok (.getfield 22, 3) := by decide +kernel
theorem dX9_layPays_26 : decode cX9_layPays 26 = .ok (.bipush 8, 2) := by decide +kernel
theorem dX9_layPays_28 : decode cX9_layPays 28 = .ok (.aload_n 0, 1) := by decide +kernel
theorem dX9_layPays_29 : decode cX9_layPays 29 = .ok (.getfield 55, 3) := by decide +kernel
theorem dX9_layPays_32 : decode cX9_layPays 32 = .ok (.iload_n 2, 1) := by decide +kernel
theorem dX9_layPays_33 : decode cX9_layPays 33 = .ok (.iaload, 1) := by decide +kernel
theorem dX9_layPays_34 : decode cX9_layPays 34 = .ok (.iadd, 1) := by decide +kernel
theorem dX9_layPays_35 : decode cX9_layPays 35 = .ok (.iaload, 1) := by decide +kernel
theorem dX9_layPays_36 : decode cX9_layPays 36 = .ok (.aload_n 0, 1) := by decide +kernel
theorem dX9_layPays_37 : decode cX9_layPays 37 = .ok (.invokevirtual 224, 3) := by decide +kernel
theorem dX9_layPays_40 : decode cX9_layPays 40 = .ok (.imul, 1) := by decide +kernel
theorem dX9_layPays_41 : decode cX9_layPays 41 = .ok (.iastore, 1) := by decide +kernel
theorem dX9_layPays_42 : decode cX9_layPays 42 = .ok (.iinc 2 1, 3) := by decide +kernel
theorem dX9_layPays_45 : decode cX9_layPays 45 = .ok (.goto (-33), 3) := by decide +kernel
theorem dX9_layPays_48 : decode cX9_layPays 48 = .ok (.aload_n 0, 1) := by decide +kernel
theorem dX9_layPays_49 : decode cX9_layPays 49 = .ok (.getfield 22, 3) := by decide +kernel
theorem dX9_layPays_52 : decode cX9_layPays 52 = .ok (.iconst 1, 1) := by decide +kernel
theorem dX9_layPays_53 : decode cX9_layPays 53 = .ok (.iaload, 1) := by decide +kernel
theorem dX9_layPays_54 : decode cX9_layPays 54 = .ok (.iconst 4, 1) := by decide +kernel
theorem dX9_layPays_55 : decode cX9_layPays 55 = .ok (.if_icmp .ne 50, 3) := by decide +kernel
theorem dX9_layPays_58 : decode cX9_layPays 58 = .ok (.iconst 0, 1) := by decide +kernel
theorem dX9_layPays_59 : decode cX9_layPays 59 = .ok (.istore_n 2, 1) := by decide +kernel
theorem dX9_layPays_60 : decode cX9_layPays 60 = .ok (.iload_n 2, 1) := by decide +kernel
theorem dX9_layPays_61 : decode cX9_layPays 61 = .ok (.iload_n 1, 1) := by decide +kernel
theorem dX9_layPays_62 : decode cX9_layPays 62 = .ok (.if_icmp .ge 40, 3) := by decide +kernel
theorem dX9_layPays_65 : decode cX9_layPays 65 = .ok (.iconst 0, 1) := by decide +kernel
theorem dX9_layPays_66 : decode cX9_layPays 66 = .ok (.istore_n 3, 1) := by decide +kernel
theorem dX9_layPays_67 : decode cX9_layPays 67 = .ok (.iload_n 3, 1) := by decide +kernel
theorem dX9_layPays_68 : decode cX9_layPays 68 = .ok (.iload_n 1, 1) := by decide +kernel
theorem dX9_layPays_69 : decode cX9_layPays 69 = .ok (.if_icmp .ge 27, 3) := by decide +kernel
theorem dX9_layPays_72 : decode cX9_layPays 72 = .ok (.aload_n 0, 1) := by decide +kernel
theorem dX9_layPays_73 : decode cX9_layPays 73 = .ok (.getfield 67, 3) := by decide +kernel
theorem dX9_layPays_76 : decode cX9_layPays 76 = .ok (.iload_n 2, 1) := by decide +kernel
theorem dX9_layPays_77 : decode cX9_layPays 77 = .ok (.dup2, 1) := by decide +kernel
theorem dX9_layPays_78 : decode cX9_layPays 78 = .ok (.iaload, 1) := by decide +kernel
theorem dX9_layPays_79 : decode cX9_layPays 79 = .ok (.aload_n 0, 1) := by decide +kernel
theorem dX9_layPays_80 : decode cX9_layPays 80 = .ok (.getfield 22, 3) := by decide +kernel
theorem dX9_layPays_83 : decode cX9_layPays 83 = .ok (.bipush 14, 2) := by decide +kernel
theorem dX9_layPays_85 : decode cX9_layPays 85 = .ok (.iload_n 3, 1) := by decide +kernel
theorem dX9_layPays_86 : decode cX9_layPays 86 = .ok (.iadd, 1) := by decide +kernel
theorem dX9_layPays_87 : decode cX9_layPays 87 = .ok (.iaload, 1) := by decide +kernel
theorem dX9_layPays_88 : decode cX9_layPays 88 = .ok (.iadd, 1) := by decide +kernel
theorem dX9_layPays_89 : decode cX9_layPays 89 = .ok (.iastore, 1) := by decide +kernel
theorem dX9_layPays_90 : decode cX9_layPays 90 = .ok (.iinc 3 1, 3) := by decide +kernel
theorem dX9_layPays_93 : decode cX9_layPays 93 = .ok (.goto (-26), 3) := by decide +kernel
theorem dX9_layPays_96 : decode cX9_layPays 96 = .ok (.iinc 2 1, 3) := by decide +kernel
theorem dX9_layPays_99 : decode cX9_layPays 99 = .ok (.goto (-39), 3) := by decide +kernel
theorem dX9_layPays_102 : decode cX9_layPays 102 = .ok (.goto 96, 3) := by decide +kernel
theorem dX9_layPays_105 : decode cX9_layPays 105 = .ok (.iconst 0, 1) := by decide +kernel
theorem dX9_layPays_106 : decode cX9_layPays 106 = .ok (.istore_n 2, 1) := by decide +kernel
theorem dX9_layPays_107 : decode cX9_layPays 107 = .ok (.iload_n 2, 1) := by decide +kernel
theorem dX9_layPays_108 : decode cX9_layPays 108 = .ok (.aload_n 0, 1) := by decide +kernel
theorem dX9_layPays_109 : decode cX9_layPays 109 = .ok (.getfield 22, 3) := by decide +kernel
theorem dX9_layPays_112 : decode cX9_layPays 112 = .ok (.iconst 1, 1) := by decide +kernel
theorem dX9_layPays_113 : decode cX9_layPays 113 = .ok (.iaload, 1) := by decide +kernel
theorem dX9_layPays_114 : decode cX9_layPays 114 = .ok (.iconst 1, 1) := by decide +kernel
theorem dX9_layPays_115 : decode cX9_layPays 115 = .ok (.if_icmp .ne 7, 3) := by decide +kernel
theorem dX9_layPays_118 : decode cX9_layPays 118 = .ok (.iload_n 1, 1) := by decide +kernel
theorem dX9_layPays_119 : decode cX9_layPays 119 = .ok (.goto 4, 3) := by decide +kernel
theorem dX9_layPays_122 : decode cX9_layPays 122 = .ok (.iconst 1, 1) := by decide +kernel
theorem dX9_layPays_123 : decode cX9_layPays 123 = .ok (.if_icmp .ge 75, 3) := by decide +kernel
theorem dX9_layPays_126 : decode cX9_layPays 126 = .ok (.aload_n 0, 1) := by decide +kernel
theorem dX9_layPays_127 : decode cX9_layPays 127 = .ok (.iconst 0, 1) := by decide +kernel
theorem dX9_layPays_128 : decode cX9_layPays 128 = .ok (.iload_n 2, 1) := by decide +kernel
theorem dX9_layPays_129 : decode cX9_layPays 129 = .ok (.invokevirtual 227, 3) := by decide +kernel
theorem dX9_layPays_132 : decode cX9_layPays 132 = .ok (.iconst 0, 1) := by decide +kernel
theorem dX9_layPays_133 : decode cX9_layPays 133 = .ok (.istore_n 3, 1) := by decide +kernel
theorem dX9_layPays_134 : decode cX9_layPays 134 = .ok (.iload_n 3, 1) := by decide +kernel
theorem dX9_layPays_135 : decode cX9_layPays 135 = .ok (.iload_n 1, 1) := by decide +kernel
theorem dX9_layPays_136 : decode cX9_layPays 136 = .ok (.if_icmp .ge 56, 3) := by decide +kernel
theorem dX9_layPays_139 : decode cX9_layPays 139 = .ok (.aload_n 0, 1) := by decide +kernel
theorem dX9_layPays_140 : decode cX9_layPays 140 = .ok (.getfield 67, 3) := by decide +kernel
theorem dX9_layPays_143 : decode cX9_layPays 143 = .ok (.aload_n 0, 1) := by decide +kernel
theorem dX9_layPays_144 : decode cX9_layPays 144 = .ok (.getfield 58, 3) := by decide +kernel
theorem dX9_layPays_147 : decode cX9_layPays 147 = .ok (.iload_n 3, 1) := by decide +kernel
theorem dX9_layPays_148 : decode cX9_layPays 148 = .ok (.iaload, 1) := by decide +kernel
theorem dX9_layPays_149 : decode cX9_layPays 149 = .ok (.dup2, 1) := by decide +kernel
theorem dX9_layPays_150 : decode cX9_layPays 150 = .ok (.iaload, 1) := by decide +kernel
theorem dX9_layPays_151 : decode cX9_layPays 151 = .ok (.aload_n 0, 1) := by decide +kernel
theorem dX9_layPays_152 : decode cX9_layPays 152 = .ok (.getfield 22, 3) := by decide +kernel
theorem dX9_layPays_155 : decode cX9_layPays 155 = .ok (.bipush 14, 2) := by decide +kernel
theorem dX9_layPays_157 : decode cX9_layPays 157 = .ok (.iload_n 3, 1) := by decide +kernel
theorem dX9_layPays_158 : decode cX9_layPays 158 = .ok (.iadd, 1) := by decide +kernel
theorem dX9_layPays_159 : decode cX9_layPays 159 = .ok (.iaload, 1) := by decide +kernel
theorem dX9_layPays_160 : decode cX9_layPays 160 = .ok (.aload_n 0, 1) := by decide +kernel
theorem dX9_layPays_161 : decode cX9_layPays 161 = .ok (.getfield 22, 3) := by decide +kernel
theorem dX9_layPays_164 : decode cX9_layPays 164 = .ok (.iconst 1, 1) := by decide +kernel
theorem dX9_layPays_165 : decode cX9_layPays 165 = .ok (.iaload, 1) := by decide +kernel
theorem dX9_layPays_166 : decode cX9_layPays 166 = .ok (.iconst 1, 1) := by decide +kernel
theorem dX9_layPays_167 : decode cX9_layPays 167 = .ok (.if_icmp .ne 15, 3) := by decide +kernel
theorem dX9_layPays_170 : decode cX9_layPays 170 = .ok (.aload_n 0, 1) := by decide +kernel
theorem dX9_layPays_171 : decode cX9_layPays 171 = .ok (.getfield 22, 3) := by decide +kernel
theorem dX9_layPays_174 : decode cX9_layPays 174 = .ok (.bipush 20, 2) := by decide +kernel
theorem dX9_layPays_176 : decode cX9_layPays 176 = .ok (.iload_n 2, 1) := by decide +kernel
theorem dX9_layPays_177 : decode cX9_layPays 177 = .ok (.iadd, 1) := by decide +kernel
theorem dX9_layPays_178 : decode cX9_layPays 178 = .ok (.iaload, 1) := by decide +kernel
theorem dX9_layPays_179 : decode cX9_layPays 179 = .ok (.goto 4, 3) := by decide +kernel
theorem dX9_layPays_182 : decode cX9_layPays 182 = .ok (.iconst 1, 1) := by decide +kernel
theorem dX9_layPays_183 : decode cX9_layPays 183 = .ok (.imul, 1) := by decide +kernel
theorem dX9_layPays_184 : decode cX9_layPays 184 = .ok (.iadd, 1) := by decide +kernel
theorem dX9_layPays_185 : decode cX9_layPays 185 = .ok (.iastore, 1) := by decide +kernel
theorem dX9_layPays_186 : decode cX9_layPays 186 = .ok (.iinc 3 1, 3) := by decide +kernel
theorem dX9_layPays_189 : decode cX9_layPays 189 = .ok (.goto (-55), 3) := by decide +kernel
theorem dX9_layPays_192 : decode cX9_layPays 192 = .ok (.iinc 2 1, 3) := by decide +kernel
theorem dX9_layPays_195 : decode cX9_layPays 195 = .ok (.goto (-88), 3) := by decide +kernel
theorem dX9_layPays_198 : decode cX9_layPays 198 = .ok (.return_, 1) := by decide +kernel
theorem dX9_chooses_0 : decode cX9_chooses 0 = .ok (.aload_n 0, 1) := by decide +kernel
theorem dX9_chooses_1 : decode cX9_chooses 1 = .ok (.iload_n 1, 1) := by decide +kernel
theorem dX9_chooses_2 : decode cX9_chooses 2 = .ok (.invokevirtual 180, 3) := by decide +kernel
theorem dX9_chooses_5 : decode cX9_chooses 5 = .ok (.ifCond .ne 5, 3) := by decide +kernel
theorem dX9_chooses_8 : decode cX9_chooses 8 = .ok (.iconst (-1), 1) := by decide +kernel
theorem dX9_chooses_9 : decode cX9_chooses 9 = .ok (.ireturn, 1) := by decide +kernel
theorem dX9_chooses_10 : decode cX9_chooses 10 = .ok (.aload_n 0, 1) := by decide +kernel
theorem dX9_chooses_11 : decode cX9_chooses 11 = .ok (.iconst 0, 1) := by decide +kernel
theorem dX9_chooses_12 : decode cX9_chooses 12 = .ok (.invokevirtual 204, 3) := by decide +kernel
theorem dX9_chooses_15 : decode cX9_chooses 15 = .ok (.iconst 0, 1) := by decide +kernel
theorem dX9_chooses_16 : decode cX9_chooses 16 = .ok (.istore_n 3, 1) := by decide +kernel
theorem dX9_chooses_17 : decode cX9_chooses 17 = .ok (.aload_n 0, 1) := by decide +kernel
theorem dX9_chooses_18 : decode cX9_chooses 18 = .ok (.getfield 22, 3) := by decide +kernel
theorem dX9_chooses_21 : decode cX9_chooses 21 = .ok (.iconst 1, 1) := by decide +kernel
theorem dX9_chooses_22 : decode cX9_chooses 22 = .ok (.iaload, 1) := by decide +kernel
theorem dX9_chooses_23 : decode cX9_chooses 23 = .ok (.iconst 1, 1) := by decide +kernel
theorem dX9_chooses_24 : decode cX9_chooses 24 = .ok (.if_icmp .ne 41, 3) := by decide +kernel
theorem dX9_chooses_27 : decode cX9_chooses 27 = .ok (.aload_n 0, 1) := by decide +kernel
theorem dX9_chooses_28 : decode cX9_chooses 28 = .ok (.iload_n 2, 1) := by decide +kernel
theorem dX9_chooses_29 : decode cX9_chooses 29 = .ok (.invokevirtual 180, 3) := by decide +kernel
theorem dX9_chooses_32 : decode cX9_chooses 32 = .ok (.ifCond .ne 5, 3) := by decide +kernel
theorem dX9_chooses_35 : decode cX9_chooses 35 = .ok (.iconst (-1), 1) := by decide +kernel
theorem dX9_chooses_36 : decode cX9_chooses 36 = .ok (.ireturn, 1) := by decide +kernel
theorem dX9_chooses_37 : decode cX9_chooses 37 = .ok (.aload_n 0, 1) := by decide +kernel
theorem dX9_chooses_38 : decode cX9_chooses 38 = .ok (.invokevirtual 176, 3) := by decide +kernel
theorem dX9_chooses_41 : decode cX9_chooses 41 = .ok (.iconst 1, 1) := by decide +kernel
theorem dX9_chooses_42 : decode cX9_chooses 42 = .ok (.isub, 1) := by decide +kernel
theorem dX9_chooses_43 : decode cX9_chooses 43 = .ok (.aload_n 0, 1) := by decide +kernel
theorem dX9_chooses_44 : decode cX9_chooses 44 = .ok (.getfield 55, 3) := by decide +kernel
theorem dX9_chooses_47 : decode cX9_chooses 47 = .ok (.iload_n 2, 1) := by decide +kernel
theorem dX9_chooses_48 : decode cX9_chooses 48 = .ok (.iaload, 1) := by decide +kernel
theorem dX9_chooses_49 : decode cX9_chooses 49 = .ok (.isub, 1) := by decide +kernel
theorem dX9_chooses_50 : decode cX9_chooses 50 = .ok (.istore_n 3, 1) := by decide +kernel
theorem dX9_chooses_51 : decode cX9_chooses 51 = .ok (.aload_n 0, 1) := by decide +kernel
theorem dX9_chooses_52 : decode cX9_chooses 52 = .ok (.getfield 22, 3) := by decide +kernel
theorem dX9_chooses_55 : decode cX9_chooses 55 = .ok (.bipush 20, 2) := by decide +kernel
theorem dX9_chooses_57 : decode cX9_chooses 57 = .ok (.iload_n 3, 1) := by decide +kernel
theorem dX9_chooses_58 : decode cX9_chooses 58 = .ok (.iadd, 1) := by decide +kernel
theorem dX9_chooses_59 : decode cX9_chooses 59 = .ok (.iaload, 1) := by decide +kernel
theorem dX9_chooses_60 : decode cX9_chooses 60 = .ok (.ifCond .ne 5, 3) := by decide +kernel
theorem dX9_chooses_63 : decode cX9_chooses 63 = .ok (.iconst (-1), 1) := by decide +kernel
theorem dX9_chooses_64 : decode cX9_chooses 64 = .ok (.ireturn, 1) := by decide +kernel
theorem dX9_chooses_65 : decode cX9_chooses 65 = .ok (.aload_n 0, 1) := by decide +kernel
theorem dX9_chooses_66 : decode cX9_chooses 66 = .ok (.invokevirtual 231, 3) := by decide +kernel
theorem dX9_chooses_69 : decode cX9_chooses 69 = .ok (.ifCond .le 6, 3) := by decide +kernel
theorem dX9_chooses_72 : decode cX9_chooses 72 = .ok (.bipush (-2), 2) := by decide +kernel
theorem dX9_chooses_74 : decode cX9_chooses 74 = .ok (.ireturn, 1) := by decide +kernel
theorem dX9_chooses_75 : decode cX9_chooses 75 = .ok (.aload_n 0, 1) := by decide +kernel
theorem dX9_chooses_76 : decode cX9_chooses 76 = .ok (.getfield 22, 3) := by decide +kernel
theorem dX9_chooses_79 : decode cX9_chooses 79 = .ok (.iconst 1, 1) := by decide +kernel
theorem dX9_chooses_80 : decode cX9_chooses 80 = .ok (.iaload, 1) := by decide +kernel
theorem dX9_chooses_81 : decode cX9_chooses 81 = .ok (.iconst 4, 1) := by decide +kernel
theorem dX9_chooses_82 : decode cX9_chooses 82 = .ok (.if_icmp .ne 6, 3) := by decide +kernel
theorem dX9_chooses_85 : decode cX9_chooses 85 = .ok (.bipush (-4), 2) := by decide +kernel
theorem dX9_chooses_87 : decode cX9_chooses 87 = .ok (.ireturn, 1) := by decide +kernel
theorem dX9_chooses_88 : decode cX9_chooses 88 = .ok (.aload_n 0, 1) := by decide +kernel
theorem dX9_chooses_89 : decode cX9_chooses 89 = .ok (.iconst 0, 1) := by decide +kernel
theorem dX9_chooses_90 : decode cX9_chooses 90 = .ok (.iload_n 3, 1) := by decide +kernel
theorem dX9_chooses_91 : decode cX9_chooses 91 = .ok (.invokevirtual 227, 3) := by decide +kernel
theorem dX9_chooses_94 : decode cX9_chooses 94 = .ok (.aload_n 0, 1) := by decide +kernel
theorem dX9_chooses_95 : decode cX9_chooses 95 = .ok (.getfield 58, 3) := by decide +kernel
theorem dX9_chooses_98 : decode cX9_chooses 98 = .ok (.iload_n 1, 1) := by decide +kernel
theorem dX9_chooses_99 : decode cX9_chooses 99 = .ok (.iaload, 1) := by decide +kernel
theorem dX9_chooses_100 : decode cX9_chooses 100 = .ok (.ireturn, 1) := by decide +kernel
theorem dX9_lowest_0 : decode cX9_lowest 0 = .ok (.lload_n 0, 1) := by decide +kernel
theorem dX9_lowest_1 : decode cX9_lowest 1 = .ok (.lstore 5, 2) := by decide +kernel
theorem dX9_lowest_3 : decode cX9_lowest 3 = .ok (.lload_n 2, 1) := by decide +kernel
theorem dX9_lowest_4 : decode cX9_lowest 4 = .ok (.lstore 7, 2) := by decide +kernel
theorem dX9_lowest_6 : decode cX9_lowest 6 = .ok (.lload 7, 2) := by decide +kernel
theorem dX9_lowest_8 : decode cX9_lowest 8 = .ok (.lconst 0, 1) := by decide +kernel
theorem dX9_lowest_9 : decode cX9_lowest 9 = .ok (.lcmp, 1) := by decide +kernel
theorem dX9_lowest_10 : decode cX9_lowest 10 = .ok (.ifCond .eq 21, 3) := by decide +kernel
theorem dX9_lowest_13 : decode cX9_lowest 13 = .ok (.lload 5, 2) := by decide +kernel
theorem dX9_lowest_15 : decode cX9_lowest 15 = .ok (.lload 7, 2) := by decide +kernel
theorem dX9_lowest_17 : decode cX9_lowest 17 = .ok (.lrem, 1) := by decide +kernel
theorem dX9_lowest_18 : decode cX9_lowest 18 = .ok (.lstore 9, 2) := by decide +kernel
theorem dX9_lowest_20 : decode cX9_lowest 20 = .ok (.lload 7, 2) := by decide +kernel
theorem dX9_lowest_22 : decode cX9_lowest 22 = .ok (.lstore 5, 2) := by decide +kernel
theorem dX9_lowest_24 : decode cX9_lowest 24 = .ok (.lload 9, 2) := by decide +kernel
theorem dX9_lowest_26 : decode cX9_lowest 26 = .ok (.lstore 7, 2) := by decide +kernel
theorem dX9_lowest_28 : decode cX9_lowest 28 = .ok (.goto (-22), 3) := by decide +kernel
theorem dX9_lowest_31 : decode cX9_lowest 31 = .ok (.iload 4, 2) := by decide +kernel
theorem dX9_lowest_33 : decode cX9_lowest 33 = .ok (.ifCond .ne 7, 3) := by decide +kernel
theorem dX9_lowest_36 : decode cX9_lowest 36 = .ok (.lload_n 0, 1) := by decide +kernel
theorem dX9_lowest_37 : decode cX9_lowest 37 = .ok (.goto 4, 3) := by decide +kernel
theorem dX9_lowest_40 : decode cX9_lowest 40 = .ok (.lload_n 2, 1) := by decide +kernel
theorem dX9_lowest_41 : decode cX9_lowest 41 = .ok (.lload 5, 2) := by decide +kernel
theorem dX9_lowest_43 : decode cX9_lowest 43 = .ok (.ldiv, 1) := by decide +kernel
theorem dX9_lowest_44 : decode cX9_lowest 44 = .ok (.lreturn, 1) := by decide +kernel
theorem dX9_pay_0 : decode cX9_pay 0 = .ok (.aload_n 0, 1) := by decide +kernel
theorem dX9_pay_1 : decode cX9_pay 1 = .ok (.iload_n 1, 1) := by decide +kernel
theorem dX9_pay_2 : decode cX9_pay 2 = .ok (.invokevirtual 180, 3) := by decide +kernel
theorem dX9_pay_5 : decode cX9_pay 5 = .ok (.ifCond .eq 13, 3) := by decide +kernel
theorem dX9_pay_8 : decode cX9_pay 8 = .ok (.iload_n 2, 1) := by decide +kernel
theorem dX9_pay_9 : decode cX9_pay 9 = .ok (.i2l, 1) := by decide +kernel
theorem dX9_pay_10 : decode cX9_pay 10 = .ok (.lconst 0, 1) := by decide +kernel
theorem dX9_pay_11 : decode cX9_pay 11 = .ok (.lconst 1, 1) := by decide +kernel
theorem dX9_pay_12 : decode cX9_pay 12 = .ok (.invokestatic 96, 3) := by decide +kernel
theorem dX9_pay_15 : decode cX9_pay 15 = .ok (.ifCond .ne 5, 3) := by decide +kernel
theorem dX9_pay_18 : decode cX9_pay 18 = .ok (.iconst (-1), 1) := by decide +kernel
theorem dX9_pay_19 : decode cX9_pay 19 = .ok (.ireturn, 1) := by decide +kernel
theorem dX9_pay_20 : decode cX9_pay 20 = .ok (.aload_n 0, 1) := by decide +kernel
theorem dX9_pay_21 : decode cX9_pay 21 = .ok (.invokevirtual 231, 3) := by decide +kernel
theorem dX9_pay_24 : decode cX9_pay 24 = .ok (.ifCond .le 6, 3) := by decide +kernel
theorem dX9_pay_27 : decode cX9_pay 27 = .ok (.bipush (-2), 2) := by decide +kernel
theorem dX9_pay_29 : decode cX9_pay 29 = .ok (.ireturn, 1) := by decide +kernel
theorem dX9_pay_30 : decode cX9_pay 30 = .ok (.aload_n 0, 1) := by decide +kernel
theorem dX9_pay_31 : decode cX9_pay 31 = .ok (.invokevirtual 234, 3) := by decide +kernel
theorem dX9_pay_34 : decode cX9_pay 34 = .ok (.aload_n 0, 1) := by decide +kernel
theorem dX9_pay_35 : decode cX9_pay 35 = .ok (.getfield 67, 3) := by decide +kernel
theorem dX9_pay_38 : decode cX9_pay 38 = .ok (.iload_n 1, 1) := by decide +kernel
theorem dX9_pay_39 : decode cX9_pay 39 = .ok (.iaload, 1) := by decide +kernel
theorem dX9_pay_40 : decode cX9_pay 40 = .ok (.i2l, 1) := by decide +kernel
theorem dX9_pay_41 : decode cX9_pay 41 = .ok (.aload_n 0, 1) := by decide +kernel
theorem dX9_pay_42 : decode cX9_pay 42 = .ok (.invokevirtual 224, 3) := by decide +kernel
theorem dX9_pay_45 : decode cX9_pay 45 = .ok (.i2l, 1) := by decide +kernel
theorem dX9_pay_46 : decode cX9_pay 46 = .ok (.iload_n 2, 1) := by decide +kernel
theorem dX9_pay_47 : decode cX9_pay 47 = .ok (.invokestatic 237, 3) := by decide +kernel
theorem dX9_pay_50 : decode cX9_pay 50 = .ok (.l2i, 1) := by decide +kernel
theorem dX9_pay_51 : decode cX9_pay 51 = .ok (.ireturn, 1) := by decide +kernel
theorem dX9_layOpens_0 : decode cX9_layOpens 0 = .ok (.aload_n 0, 1) := by decide +kernel
theorem dX9_layOpens_1 : decode cX9_layOpens 1 = .ok (.iconst 0, 1) := by decide +kernel
theorem dX9_layOpens_2 : decode cX9_layOpens 2 = .ok (.putfield 241, 3) := by decide +kernel
theorem dX9_layOpens_5 : decode cX9_layOpens 5 = .ok (.iconst 0, 1) := by decide +kernel
theorem dX9_layOpens_6 : decode cX9_layOpens 6 = .ok (.istore_n 1, 1) := by decide +kernel
theorem dX9_layOpens_7 : decode cX9_layOpens 7 = .ok (.iload_n 1, 1) := by decide +kernel
theorem dX9_layOpens_8 : decode cX9_layOpens 8 = .ok (.aload_n 0, 1) := by decide +kernel
theorem dX9_layOpens_9 : decode cX9_layOpens 9 = .ok (.getfield 43, 3) := by decide +kernel
theorem dX9_layOpens_12 : decode cX9_layOpens 12 = .ok (.iconst 0, 1) := by decide +kernel
theorem dX9_layOpens_13 : decode cX9_layOpens 13 = .ok (.iaload, 1) := by decide +kernel
theorem dX9_layOpens_14 : decode cX9_layOpens 14 = .ok (.if_icmp .ge 39, 3) := by decide +kernel
theorem dX9_layOpens_17 : decode cX9_layOpens 17 = .ok (.aload_n 0, 1) := by decide +kernel
theorem dX9_layOpens_18 : decode cX9_layOpens 18 = .ok (.getfield 40, 3) := by decide +kernel
theorem dX9_layOpens_21 : decode cX9_layOpens 21 = .ok (.iload_n 1, 1) := by decide +kernel
theorem dX9_layOpens_22 : decode cX9_layOpens 22 = .ok (.iaload, 1) := by decide +kernel
theorem dX9_layOpens_23 : decode cX9_layOpens 23 = .ok (.iconst 2, 1) := by decide +kernel
theorem dX9_layOpens_24 : decode cX9_layOpens 24 = .ok (.if_icmp .ne 23, 3) := by decide +kernel
theorem dX9_layOpens_27 : decode cX9_layOpens 27 = .ok (.aload_n 0, 1) := by decide +kernel
theorem dX9_layOpens_28 : decode cX9_layOpens 28 = .ok (.getfield 70, 3) := by decide +kernel
theorem dX9_layOpens_31 : decode cX9_layOpens 31 = .ok (.aload_n 0, 1) := by decide +kernel
theorem dX9_layOpens_32 : decode cX9_layOpens 32 = .ok (.getfield 241, 3) := by decide +kernel
theorem dX9_layOpens_35 : decode cX9_layOpens 35 = .ok (.iload_n 1, 1) := by decide +kernel
theorem dX9_layOpens_36 : decode cX9_layOpens 36 = .ok (.iastore, 1) := by decide +kernel
theorem dX9_layOpens_37 : decode cX9_layOpens 37 = .ok (.aload_n 0, 1) := by decide +kernel
theorem dX9_layOpens_38 : decode cX9_layOpens 38 = .ok (.dup, 1) := by decide +kernel
theorem dX9_layOpens_39 : decode cX9_layOpens 39 = .ok (.getfield 241, 3) := by decide +kernel
theorem dX9_layOpens_42 : decode cX9_layOpens 42 = .ok (.iconst 1, 1) := by decide +kernel
theorem dX9_layOpens_43 : decode cX9_layOpens 43 = .ok (.iadd, 1) := by decide +kernel
theorem dX9_layOpens_44 : decode cX9_layOpens 44 = .ok (.putfield 241, 3) := by decide +kernel
theorem dX9_layOpens_47 : decode cX9_layOpens 47 = .ok (.iinc 1 1, 3) := by decide +kernel
theorem dX9_layOpens_50 : decode cX9_layOpens 50 = .ok (.goto (-43), 3) := by decide +kernel
theorem dX9_layOpens_53 : decode cX9_layOpens 53 = .ok (.return_, 1) := by decide +kernel
theorem dX9_setEnds_0 : decode cX9_setEnds 0 = .ok (.iconst 0, 1) := by decide +kernel
theorem dX9_setEnds_1 : decode cX9_setEnds 1 = .ok (.istore_n 2, 1) := by decide +kernel
theorem dX9_setEnds_2 : decode cX9_setEnds 2 = .ok (.iload_n 2, 1) := by decide +kernel
theorem dX9_setEnds_3 : decode cX9_setEnds 3 = .ok (.aload_n 0, 1) := by decide +kernel
theorem dX9_setEnds_4 : decode cX9_setEnds 4 = .ok (.getfield 241, 3) := by decide +kernel
theorem dX9_setEnds_7 : decode cX9_setEnds 7 = .ok (.if_icmp .ge 32, 3) := by decide +kernel
theorem dX9_setEnds_10 : decode cX9_setEnds 10 = .ok (.aload_n 0, 1) := by decide +kernel
theorem dX9_setEnds_11 : decode cX9_setEnds 11 = .ok (.getfield 40, 3) := by decide +kernel
theorem dX9_setEnds_14 : decode cX9_setEnds 14 = .ok (.aload_n 0, 1) := by decide +kernel
theorem dX9_setEnds_15 : decode cX9_setEnds 15 = .ok (.getfield 70, 3) := by decide +kernel
theorem dX9_setEnds_18 : decode cX9_setEnds 18 = .ok (.iload_n 2, 1) := by decide +kernel
theorem dX9_setEnds_19 : decode cX9_setEnds 19 = .ok (.iaload, 1) := by decide +kernel
theorem dX9_setEnds_20 : decode cX9_setEnds 20 = .ok (.iload_n 1, 1) := by decide +kernel
theorem dX9_setEnds_21 : decode cX9_setEnds 21 = .ok (.aload_n 0, 1) := by decide +kernel
theorem dX9_setEnds_22 : decode cX9_setEnds 22 = .ok (.getfield 241, 3) := by decide +kernel
theorem dX9_setEnds_25 : decode cX9_setEnds 25 = .ok (.iconst 1, 1) := by decide +kernel
theorem dX9_setEnds_26 : decode cX9_setEnds 26 = .ok (.isub, 1) := by decide +kernel
theorem dX9_setEnds_27 : decode cX9_setEnds 27 = .ok (.iload_n 2, 1) := by decide +kernel
theorem dX9_setEnds_28 : decode cX9_setEnds 28 = .ok (.isub, 1) := by decide +kernel
theorem dX9_setEnds_29 : decode cX9_setEnds 29 = .ok (.ishr, 1) := by decide +kernel
theorem dX9_setEnds_30 : decode cX9_setEnds 30 = .ok (.iconst 1, 1) := by decide +kernel
theorem dX9_setEnds_31 : decode cX9_setEnds 31 = .ok (.iand, 1) := by decide +kernel
theorem dX9_setEnds_32 : decode cX9_setEnds 32 = .ok (.iastore, 1) := by decide +kernel
theorem dX9_setEnds_33 : decode cX9_setEnds 33 = .ok (.iinc 2 1, 3) := by decide +kernel
theorem dX9_setEnds_36 : decode cX9_setEnds 36 = .ok (.goto (-34), 3) := by decide +kernel
theorem dX9_setEnds_39 : decode cX9_setEnds 39 = .ok (.return_, 1) := by decide +kernel
theorem dX9_setOpen_0 : decode cX9_setOpen 0 = .ok (.iconst 0, 1) := by decide +kernel
theorem dX9_setOpen_1 : decode cX9_setOpen 1 = .ok (.istore_n 1, 1) := by decide +kernel
theorem dX9_setOpen_2 : decode cX9_setOpen 2 = .ok (.iload_n 1, 1) := by decide +kernel
theorem dX9_setOpen_3 : decode cX9_setOpen 3 = .ok (.aload_n 0, 1) := by decide +kernel
theorem dX9_setOpen_4 : decode cX9_setOpen 4 = .ok (.getfield 241, 3) := by decide +kernel
theorem dX9_setOpen_7 : decode cX9_setOpen 7 = .ok (.if_icmp .ge 21, 3) := by decide +kernel
theorem dX9_setOpen_10 : decode cX9_setOpen 10 = .ok (.aload_n 0, 1) := by decide +kernel
theorem dX9_setOpen_11 : decode cX9_setOpen 11 = .ok (.getfield 40, 3) := by decide +kernel
theorem dX9_setOpen_14 : decode cX9_setOpen 14 = .ok (.aload_n 0, 1) := by decide +kernel
theorem dX9_setOpen_15 : decode cX9_setOpen 15 = .ok (.getfield 70, 3) := by decide +kernel
theorem dX9_setOpen_18 : decode cX9_setOpen 18 = .ok (.iload_n 1, 1) := by decide +kernel
theorem dX9_setOpen_19 : decode cX9_setOpen 19 = .ok (.iaload, 1) := by decide +kernel
theorem dX9_setOpen_20 : decode cX9_setOpen 20 = .ok (.iconst 2, 1) := by decide +kernel
theorem dX9_setOpen_21 : decode cX9_setOpen 21 = .ok (.iastore, 1) := by decide +kernel
theorem dX9_setOpen_22 : decode cX9_setOpen 22 = .ok (.iinc 1 1, 3) := by decide +kernel
theorem dX9_setOpen_25 : decode cX9_setOpen 25 = .ok (.goto (-23), 3) := by decide +kernel
theorem dX9_setOpen_28 : decode cX9_setOpen 28 = .ok (.return_, 1) := by decide +kernel
theorem dX9_may_0 : decode cX9_may 0 = .ok (.aload_n 0, 1) := by decide +kernel
theorem dX9_may_1 : decode cX9_may 1 = .ok (.iload_n 1, 1) := by decide +kernel
theorem dX9_may_2 : decode cX9_may 2 = .ok (.invokevirtual 180, 3) := by decide +kernel
theorem dX9_may_5 : decode cX9_may 5 = .ok (.ifCond .eq 11, 3) := by decide +kernel
theorem dX9_may_8 : decode cX9_may 8 = .ok (.aload_n 0, 1) := by decide +kernel
theorem dX9_may_9 : decode cX9_may 9 = .ok (.iload_n 2, 1) := by decide +kernel
theorem dX9_may_10 : decode cX9_may 10 = .ok (.invokevirtual 180, 3) := by decide +kernel
theorem dX9_may_13 : decode cX9_may 13 = .ok (.ifCond .ne 5, 3) := by decide +kernel
theorem dX9_may_16 : decode cX9_may 16 = .ok (.iconst (-1), 1) := by decide +kernel
theorem dX9_may_17 : decode cX9_may 17 = .ok (.ireturn, 1) := by decide +kernel
theorem dX9_may_18 : decode cX9_may 18 = .ok (.aload_n 0, 1) := by decide +kernel
theorem dX9_may_19 : decode cX9_may 19 = .ok (.invokevirtual 231, 3) := by decide +kernel
theorem dX9_may_22 : decode cX9_may 22 = .ok (.bipush 7, 2) := by decide +kernel
theorem dX9_may_24 : decode cX9_may 24 = .ok (.if_icmp .le 6, 3) := by decide +kernel
theorem dX9_may_27 : decode cX9_may 27 = .ok (.bipush (-2), 2) := by decide +kernel
theorem dX9_may_29 : decode cX9_may 29 = .ok (.ireturn, 1) := by decide +kernel
theorem dX9_may_30 : decode cX9_may 30 = .ok (.aload_n 0, 1) := by decide +kernel
theorem dX9_may_31 : decode cX9_may 31 = .ok (.invokevirtual 244, 3) := by decide +kernel
theorem dX9_may_34 : decode cX9_may 34 = .ok (.iconst 0, 1) := by decide +kernel
theorem dX9_may_35 : decode cX9_may 35 = .ok (.istore_n 3, 1) := by decide +kernel
theorem dX9_may_36 : decode cX9_may 36 = .ok (.iconst 0, 1) := by decide +kernel
theorem dX9_may_37 : decode cX9_may 37 = .ok (.istore 4, 2) := by decide +kernel
theorem dX9_may_39 : decode cX9_may 39 = .ok (.iload 4, 2) := by decide +kernel
theorem dX9_may_41 : decode cX9_may 41 = .ok (.iconst 1, 1) := by decide +kernel
theorem dX9_may_42 : decode cX9_may 42 = .ok (.aload_n 0, 1) := by decide +kernel
theorem dX9_may_43 : decode cX9_may 43 = .ok (.getfield 241, 3) := by decide +kernel
theorem dX9_may_46 : decode cX9_may 46 = .ok (.ishl, 1) := by decide +kernel
theorem dX9_may_47 : decode cX9_may 47 = .ok (.if_icmp .ge 119, 3) := by decide +kernel
theorem dX9_may_50 : decode cX9_may 50 = .ok (.aload_n 0, 1) := by decide +kernel
theorem dX9_may_51 : decode cX9_may 51 = .ok (.iload 4, 2) := by decide +kernel
theorem dX9_may_53 : decode cX9_may 53 = .ok (.invokevirtual 247, 3) := by decide +kernel
theorem dX9_may_56 : decode cX9_may 56 = .ok (.iconst 1, 1) := by decide +kernel
theorem dX9_may_57 : decode cX9_may 57 = .ok (.istore 5, 2) := by decide +kernel
theorem dX9_may_59 : decode cX9_may 59 = .ok (.iconst 0, 1) := by decide +kernel
theorem dX9_may_60 : decode cX9_may 60 = .ok (.istore 6, 2) := by decide +kernel
theorem dX9_may_62 : decode cX9_may 62 = .ok (.iload 6, 2) := by decide +kernel
theorem dX9_may_64 : decode cX9_may 64 = .ok (.aload_n 0, 1) := by decide +kernel
theorem dX9_may_65 : decode cX9_may 65 = .ok (.getfield 241, 3) := by decide +kernel
theorem dX9_may_68 : decode cX9_may 68 = .ok (.if_icmp .ge 62, 3) := by decide +kernel
theorem dX9_may_71 : decode cX9_may 71 = .ok (.aload_n 0, 1) := by decide +kernel
theorem dX9_may_72 : decode cX9_may 72 = .ok (.getfield 70, 3) := by decide +kernel
theorem dX9_may_75 : decode cX9_may 75 = .ok (.iload 6, 2) := by decide +kernel
theorem dX9_may_77 : decode cX9_may 77 = .ok (.iaload, 1) := by decide +kernel
theorem dX9_may_78 : decode cX9_may 78 = .ok (.istore 7, 2) := by decide +kernel
theorem dX9_may_80 : decode cX9_may 80 = .ok (.iload 5, 2) := by decide +kernel
theorem dX9_may_82 : decode cX9_may 82 = .ok (.ifCond .eq 39, 3) := by decide +kernel
theorem dX9_may_85 : decode cX9_may 85 = .ok (.aload_n 0, 1) := by decide +kernel
theorem dX9_may_86 : decode cX9_may 86 = .ok (.getfield 34, 3) := by decide +kernel
theorem dX9_may_89 : decode cX9_may 89 = .ok (.iload 7, 2) := by decide +kernel
theorem dX9_may_91 : decode cX9_may 91 = .ok (.iaload, 1) := by decide +kernel
theorem dX9_may_92 : decode cX9_may 92 = .ok (.iload_n 1, 1) := by decide +kernel
theorem dX9_may_93 : decode cX9_may 93 = .ok (.if_icmp .eq 14, 3) := by decide +kernel
theorem dX9_may_96 : decode cX9_may 96 = .ok (.aload_n 0, 1) := by decide +kernel
theorem dX9_may_97 : decode cX9_may 97 = .ok (.getfield 37, 3) := by decide +kernel
theorem dX9_may_100 : decode cX9_may 100 = .ok (.iload 7, 2) := by decide +kernel
theorem dX9_may_102 : decode cX9_may 102 = .ok (.iaload, 1) := by decide +kernel
theorem dX9_may_103 : decode cX9_may 103 = .ok (.iload_n 1, 1) := by decide +kernel
theorem dX9_may_104 : decode cX9_may 104 = .ok (.if_icmp .ne 13, 3) := by decide +kernel
theorem dX9_may_107 : decode cX9_may 107 = .ok (.aload_n 0, 1) := by decide +kernel
theorem dX9_may_108 : decode cX9_may 108 = .ok (.iload 7, 2) := by decide +kernel
theorem dX9_may_110 : decode cX9_may 110 = .ok (.invokevirtual 201, 3) := by decide +kernel
theorem dX9_may_113 : decode cX9_may 113 = .ok (.iload_n 1, 1) := by decide +kernel
theorem dX9_may_114 : decode cX9_may 114 = .ok (.if_icmp .ne 7, 3) := by decide +kernel
theorem dX9_may_117 : decode cX9_may 117 = .ok (.iconst 1, 1) := by decide +kernel
theorem dX9_may_118 : decode cX9_may 118 = .ok (.goto 4, 3) := by decide +kernel
theorem dX9_may_121 : decode cX9_may 121 = .ok (.iconst 0, 1) := by decide +kernel
theorem dX9_may_122 : decode cX9_may 122 = .ok (.istore 5, 2) := by decide +kernel
theorem dX9_may_124 : decode cX9_may 124 = .ok (.iinc 6 1, 3) := by decide +kernel
theorem dX9_may_127 : decode cX9_may 127 = .ok (.goto (-65), 3) := by decide +kernel
theorem dX9_may_130 : decode cX9_may 130 = .ok (.aload_n 0, 1) := by decide +kernel
theorem dX9_may_131 : decode cX9_may 131 = .ok (.iconst 0, 1) := by decide +kernel
theorem dX9_may_132 : decode cX9_may 132 = .ok (.invokevirtual 204, 3) := by decide +kernel
theorem dX9_may_135 : decode cX9_may 135 = .ok (.iload_n 3, 1) := by decide +kernel
theorem dX9_may_136 : decode cX9_may 136 = .ok (.ifCond .ne 18, 3) := by decide +kernel
theorem dX9_may_139 : decode cX9_may 139 = .ok (.iload 5, 2) := by decide +kernel
theorem dX9_may_141 : decode cX9_may 141 = .ok (.ifCond .eq 17, 3) := by decide +kernel
theorem dX9_may_144 : decode cX9_may 144 = .ok (.aload_n 0, 1) := by decide +kernel
theorem dX9_may_145 : decode cX9_may 145 = .ok (.getfield 55, 3) := by decide +kernel
theorem dX9_may_148 : decode cX9_may 148 = .ok (.iload_n 1, 1) := by decide +kernel
theorem dX9_may_149 : decode cX9_may 149 = .ok (.iaload, 1) := by decide +kernel
theorem dX9_may_150 : decode cX9_may 150 = .ok (.iload_n 2, 1) := by decide +kernel
theorem dX9_may_151 : decode cX9_may 151 = .ok (.if_icmp .gt 7, 3) := by decide +kernel
theorem dX9_may_154 : decode cX9_may 154 = .ok (.iconst 1, 1) := by decide +kernel
theorem dX9_may_155 : decode cX9_may 155 = .ok (.goto 4, 3) := by decide +kernel
theorem dX9_may_158 : decode cX9_may 158 = .ok (.iconst 0, 1) := by decide +kernel
theorem dX9_may_159 : decode cX9_may 159 = .ok (.istore_n 3, 1) := by decide +kernel
theorem dX9_may_160 : decode cX9_may 160 = .ok (.iinc 4 1, 3) := by decide +kernel
theorem dX9_may_163 : decode cX9_may 163 = .ok (.goto (-124), 3) := by decide +kernel
theorem dX9_may_166 : decode cX9_may 166 = .ok (.aload_n 0, 1) := by decide +kernel
theorem dX9_may_167 : decode cX9_may 167 = .ok (.invokevirtual 250, 3) := by decide +kernel
theorem dX9_may_170 : decode cX9_may 170 = .ok (.iload_n 3, 1) := by decide +kernel
theorem dX9_may_171 : decode cX9_may 171 = .ok (.ifCond .eq 7, 3) := by decide +kernel
theorem dX9_may_174 : decode cX9_may 174 = .ok (.iconst 1, 1) := by decide +kernel
theorem dX9_may_175 : decode cX9_may 175 = .ok (.goto 4, 3) := by decide +kernel
theorem dX9_may_178 : decode cX9_may 178 = .ok (.iconst 0, 1) := by decide +kernel
theorem dX9_may_179 : decode cX9_may 179 = .ok (.ireturn, 1) := by decide +kernel
theorem dX9_likely_0 : decode cX9_likely 0 = .ok (.lconst 1, 1) := by decide +kernel
theorem dX9_likely_1 : decode cX9_likely 1 = .ok (.lstore_n 3, 1) := by decide +kernel
theorem dX9_likely_2 : decode cX9_likely 2 = .ok (.iconst 0, 1) := by decide +kernel
theorem dX9_likely_3 : decode cX9_likely 3 = .ok (.istore 5, 2) := by decide +kernel
theorem dX9_likely_5 : decode cX9_likely 5 = .ok (.iload 5, 2) := by decide +kernel
theorem dX9_likely_7 : decode cX9_likely 7 = .ok (.aload_n 0, 1) := by decide +kernel
theorem dX9_likely_8 : decode cX9_likely 8 = .ok (.getfield 241, 3) := by decide +kernel
theorem dX9_likely_11 : decode cX9_likely 11 = .ok (.if_icmp .ge 82, 3) := by decide +kernel
theorem dX9_likely_14 : decode cX9_likely 14 = .ok (.aload_n 0, 1) := by decide +kernel
theorem dX9_likely_15 : decode cX9_likely 15 = .ok (.aload_n 0, 1) := by decide +kernel
theorem dX9_likely_16 : decode cX9_likely 16 = .ok (.getfield 70, 3) := by decide +kernel
theorem dX9_likely_19 : decode cX9_likely 19 = .ok (.iload 5, 2) := by decide +kernel
theorem dX9_likely_21 : decode cX9_likely 21 = .ok (.iaload, 1) := by decide +kernel
theorem dX9_likely_22 : decode cX9_likely 22 = .ok (.iconst 0, 1) := by decide +kernel
theorem dX9_likely_23 : decode cX9_likely 23 = .ok (.invokevirtual 193, 3) := by decide +kernel
theorem dX9_likely_26 : decode cX9_likely 26 = .ok (.istore 6, 2) := by decide +kernel
theorem dX9_likely_28 : decode cX9_likely 28 = .ok (.iload_n 1, 1) := by decide +kernel
theorem dX9_likely_29 : decode cX9_likely 29 = .ok (.aload_n 0, 1) := by decide +kernel
theorem dX9_likely_30 : decode cX9_likely 30 = .ok (.getfield 241, 3) := by decide +kernel
theorem dX9_likely_33 : decode cX9_likely 33 = .ok (.iconst 1, 1) := by decide +kernel
theorem dX9_likely_34 : decode cX9_likely 34 = .ok (.isub, 1) := by decide +kernel
theorem dX9_likely_35 : decode cX9_likely 35 = .ok (.iload 5, 2) := by decide +kernel
theorem dX9_likely_37 : decode cX9_likely 37 = .ok (.isub, 1) := by decide +kernel
theorem dX9_likely_38 : decode cX9_likely 38 = .ok (.ishr, 1) := by decide +kernel
theorem dX9_likely_39 : decode cX9_likely 39 = .ok (.iconst 1, 1) := by decide +kernel
theorem dX9_likely_40 : decode cX9_likely 40 = .ok (.iand, 1) := by decide +kernel
theorem dX9_likely_41 : decode cX9_likely 41 = .ok (.ifCond .ne 7, 3) := by decide +kernel
theorem dX9_likely_44 : decode cX9_likely 44 = .ok (.iconst 1, 1) := by decide +kernel
theorem dX9_likely_45 : decode cX9_likely 45 = .ok (.goto 4, 3) := by decide +kernel
theorem dX9_likely_48 : decode cX9_likely 48 = .ok (.iconst 0, 1) := by decide +kernel
theorem dX9_likely_49 : decode cX9_likely 49 = .ok (.istore 7, 2) := by decide +kernel
theorem dX9_likely_51 : decode cX9_likely 51 = .ok (.lload_n 3, 1) := by decide +kernel
theorem dX9_likely_52 : decode cX9_likely 52 = .ok (.aload_n 0, 1) := by decide +kernel
theorem dX9_likely_53 : decode cX9_likely 53 = .ok (.getfield 70, 3) := by decide +kernel
theorem dX9_likely_56 : decode cX9_likely 56 = .ok (.iload 5, 2) := by decide +kernel
theorem dX9_likely_58 : decode cX9_likely 58 = .ok (.iaload, 1) := by decide +kernel
theorem dX9_likely_59 : decode cX9_likely 59 = .ok (.iload_n 2, 1) := by decide +kernel
theorem dX9_likely_60 : decode cX9_likely 60 = .ok (.if_icmp .ne 7, 3) := by decide +kernel
theorem dX9_likely_63 : decode cX9_likely 63 = .ok (.lconst 1, 1) := by decide +kernel
theorem dX9_likely_64 : decode cX9_likely 64 = .ok (.goto 21, 3) := by decide +kernel
theorem dX9_likely_67 : decode cX9_likely 67 = .ok (.iload 7, 2) := by decide +kernel
theorem dX9_likely_69 : decode cX9_likely 69 = .ok (.ifCond .eq 9, 3) := by decide +kernel
theorem dX9_likely_72 : decode cX9_likely 72 = .ok (.iload 6, 2) := by decide +kernel
theorem dX9_likely_74 : decode cX9_likely 74 = .ok (.i2l, 1) := by decide +kernel
theorem dX9_likely_75 : decode cX9_likely 75 = .ok (.goto 10, 3) := by decide +kernel
theorem dX9_likely_78 : decode cX9_likely 78 = .ok (.ldc2_w 253, 3) := by decide +kernel
theorem dX9_likely_81 : decode cX9_likely 81 = .ok (.iload 6, 2) := by decide +kernel
theorem dX9_likely_83 : decode cX9_likely 83 = .ok (.i2l, 1) := by decide +kernel
theorem dX9_likely_84 : decode cX9_likely 84 = .ok (.lsub, 1) := by decide +kernel
theorem dX9_likely_85 : decode cX9_likely 85 = .ok (.lmul, 1) := by decide +kernel
theorem dX9_likely_86 : decode cX9_likely 86 = .ok (.lstore_n 3, 1) := by decide +kernel
theorem dX9_likely_87 : decode cX9_likely 87 = .ok (.iinc 5 1, 3) := by decide +kernel
theorem dX9_likely_90 : decode cX9_likely 90 = .ok (.goto (-85), 3) := by decide +kernel
theorem dX9_likely_93 : decode cX9_likely 93 = .ok (.lload_n 3, 1) := by decide +kernel
theorem dX9_likely_94 : decode cX9_likely 94 = .ok (.lreturn, 1) := by decide +kernel
theorem dX9_layWorth_0 : decode cX9_layWorth 0 = .ok (.aload_n 0, 1) := by decide +kernel
theorem dX9_layWorth_1 : decode cX9_layWorth 1 = .ok (.invokevirtual 244, 3) := by decide +kernel
theorem dX9_layWorth_4 : decode cX9_layWorth 4 = .ok (.aload_n 0, 1) := by decide +kernel
theorem dX9_layWorth_5 : decode cX9_layWorth 5 = .ok (.lconst 0, 1) := by decide +kernel
theorem dX9_layWorth_6 : decode cX9_layWorth 6 = .ok (.putfield 255, 3) := by decide +kernel
theorem dX9_layWorth_9 : decode cX9_layWorth 9 = .ok (.aload_n 0, 1) := by decide +kernel
theorem dX9_layWorth_10 : decode cX9_layWorth 10 = .ok (.aload_n 0, 1) := by decide +kernel
theorem dX9_layWorth_11 : decode cX9_layWorth 11 = .ok (.invokevirtual 224, 3) := by decide +kernel
theorem dX9_layWorth_14 : decode cX9_layWorth 14 = .ok (.i2l, 1) := by decide +kernel
theorem dX9_layWorth_15 : decode cX9_layWorth 15 = .ok (.putfield 259, 3) := by decide +kernel
theorem dX9_layWorth_18 : decode cX9_layWorth 18 = .ok (.iconst 0, 1) := by decide +kernel
theorem dX9_layWorth_19 : decode cX9_layWorth 19 = .ok (.istore 4, 2) := by decide +kernel
theorem dX9_layWorth_21 : decode cX9_layWorth 21 = .ok (.iload 4, 2) := by decide +kernel
theorem dX9_layWorth_23 : decode cX9_layWorth 23 = .ok (.aload_n 0, 1) := by decide +kernel
theorem dX9_layWorth_24 : decode cX9_layWorth 24 = .ok (.getfield 241, 3) := by decide +kernel
theorem dX9_layWorth_27 : decode cX9_layWorth 27 = .ok (.if_icmp .ge 36, 3) := by decide +kernel
theorem dX9_layWorth_30 : decode cX9_layWorth 30 = .ok (.aload_n 0, 1) := by decide +kernel
theorem dX9_layWorth_31 : decode cX9_layWorth 31 = .ok (.dup, 1) := by decide +kernel
theorem dX9_layWorth_32 : decode cX9_layWorth 32 = .ok (.getfield 259, 3) := by decide +kernel
theorem dX9_layWorth_35 : decode cX9_layWorth 35 = .ok (.aload_n 0, 1) := by decide +kernel
theorem dX9_layWorth_36 : decode cX9_layWorth 36 = .ok (.getfield 70, 3) := by decide +kernel
theorem dX9_layWorth_39 : decode cX9_layWorth 39 = .ok (.iload 4, 2) := by decide +kernel
theorem dX9_layWorth_41 : decode cX9_layWorth 41 = .ok (.iaload, 1) := by decide +kernel
theorem dX9_layWorth_42 : decode cX9_layWorth 42 = .ok (.iload_n 2, 1) := by decide +kernel
theorem dX9_layWorth_43 : decode cX9_layWorth 43 = .ok (.if_icmp .ne 7, 3) := by decide +kernel
theorem dX9_layWorth_46 : decode cX9_layWorth 46 = .ok (.lconst 1, 1) := by decide +kernel
theorem dX9_layWorth_47 : decode cX9_layWorth 47 = .ok (.goto 6, 3) := by decide +kernel
theorem dX9_layWorth_50 : decode cX9_layWorth 50 = .ok (.ldc2_w 253, 3) := by decide +kernel
theorem dX9_layWorth_53 : decode cX9_layWorth 53 = .ok (.lmul, 1) := by decide +kernel
theorem dX9_layWorth_54 : decode cX9_layWorth 54 = .ok (.putfield 259, 3) := by decide +kernel
theorem dX9_layWorth_57 : decode cX9_layWorth 57 = .ok (.iinc 4 1, 3) := by decide +kernel
theorem dX9_layWorth_60 : decode cX9_layWorth 60 = .ok (.goto (-39), 3) := by decide +kernel
theorem dX9_layWorth_63 : decode cX9_layWorth 63 = .ok (.iconst 0, 1) := by decide +kernel
theorem dX9_layWorth_64 : decode cX9_layWorth 64 = .ok (.istore 4, 2) := by decide +kernel
theorem dX9_layWorth_66 : decode cX9_layWorth 66 = .ok (.iload 4, 2) := by decide +kernel
theorem dX9_layWorth_68 : decode cX9_layWorth 68 = .ok (.iconst 1, 1) := by decide +kernel
theorem dX9_layWorth_69 : decode cX9_layWorth 69 = .ok (.aload_n 0, 1) := by decide +kernel
theorem dX9_layWorth_70 : decode cX9_layWorth 70 = .ok (.getfield 241, 3) := by decide +kernel
theorem dX9_layWorth_73 : decode cX9_layWorth 73 = .ok (.ishl, 1) := by decide +kernel
theorem dX9_layWorth_74 : decode cX9_layWorth 74 = .ok (.if_icmp .ge 59, 3) := by decide +kernel
theorem dX9_layWorth_77 : decode cX9_layWorth 77 = .ok (.aload_n 0, 1) := by decide +kernel
theorem dX9_layWorth_78 : decode cX9_layWorth 78 = .ok (.iload 4, 2) := by decide +kernel
theorem dX9_layWorth_80 : decode cX9_layWorth 80 = .ok (.invokevirtual 247, 3) := by decide +kernel
theorem dX9_layWorth_83 : decode cX9_layWorth 83 = .ok (.iload_n 2, 1) := by decide +kernel
theorem dX9_layWorth_84 : decode cX9_layWorth 84 = .ok (.bipush (-4), 2) := by decide +kernel
theorem dX9_layWorth_86 : decode cX9_layWorth 86 = .ok (.if_icmp .eq 13, 3) := by decide +kernel
theorem dX9_layWorth_89 : decode cX9_layWorth 89 = .ok (.aload_n 0, 1) := by decide +kernel
theorem dX9_layWorth_90 : decode cX9_layWorth 90 = .ok (.getfield 40, 3) := by decide +kernel
theorem dX9_layWorth_93 : decode cX9_layWorth 93 = .ok (.iload_n 2, 1) := by decide +kernel
theorem dX9_layWorth_94 : decode cX9_layWorth 94 = .ok (.iaload, 1) := by decide +kernel
theorem dX9_layWorth_95 : decode cX9_layWorth 95 = .ok (.iload_n 3, 1) := by decide +kernel
theorem dX9_layWorth_96 : decode cX9_layWorth 96 = .ok (.if_icmp .ne 31, 3) := by decide +kernel
theorem dX9_layWorth_99 : decode cX9_layWorth 99 = .ok (.aload_n 0, 1) := by decide +kernel
theorem dX9_layWorth_100 : decode cX9_layWorth 100 = .ok (.invokevirtual 234, 3) := by decide +kernel
theorem dX9_layWorth_103 : decode cX9_layWorth 103 = .ok (.aload_n 0, 1) := by decide +kernel
theorem dX9_layWorth_104 : decode cX9_layWorth 104 = .ok (.dup, 1) := by decide +kernel
theorem dX9_layWorth_105 : decode cX9_layWorth 105 = .ok (.getfield 255, 3) := by decide +kernel
theorem dX9_layWorth_108 : decode cX9_layWorth 108 = .ok (.aload_n 0, 1) := by decide +kernel
theorem dX9_layWorth_109 : decode cX9_layWorth 109 = .ok (.iload 4, 2) := by decide +kernel
theorem dX9_layWorth_111 : decode cX9_layWorth 111 = .ok (.iload_n 2, 1) := by decide +kernel
theorem dX9_layWorth_112 : decode cX9_layWorth 112 = .ok (.invokevirtual 262, 3) := by decide +kernel
theorem dX9_layWorth_115 : decode cX9_layWorth 115 = .ok (.aload_n 0, 1) := by decide +kernel
theorem dX9_layWorth_116 : decode cX9_layWorth 116 = .ok (.getfield 67, 3) := by decide +kernel
theorem dX9_layWorth_119 : decode cX9_layWorth 119 = .ok (.iload_n 1, 1) := by decide +kernel
theorem dX9_layWorth_120 : decode cX9_layWorth 120 = .ok (.iaload, 1) := by decide +kernel
theorem dX9_layWorth_121 : decode cX9_layWorth 121 = .ok (.i2l, 1) := by decide +kernel
theorem dX9_layWorth_122 : decode cX9_layWorth 122 = .ok (.lmul, 1) := by decide +kernel
theorem dX9_layWorth_123 : decode cX9_layWorth 123 = .ok (.ladd, 1) := by decide +kernel
theorem dX9_layWorth_124 : decode cX9_layWorth 124 = .ok (.putfield 255, 3) := by decide +kernel
theorem dX9_layWorth_127 : decode cX9_layWorth 127 = .ok (.iinc 4 1, 3) := by decide +kernel
theorem dX9_layWorth_130 : decode cX9_layWorth 130 = .ok (.goto (-64), 3) := by decide +kernel
theorem dX9_layWorth_133 : decode cX9_layWorth 133 = .ok (.aload_n 0, 1) := by decide +kernel
theorem dX9_layWorth_134 : decode cX9_layWorth 134 = .ok (.invokevirtual 250, 3) := by decide +kernel
theorem dX9_layWorth_137 : decode cX9_layWorth 137 = .ok (.return_, 1) := by decide +kernel
theorem dX9_worth_0 : decode cX9_worth 0 = .ok (.aload_n 0, 1) := by decide +kernel
theorem dX9_worth_1 : decode cX9_worth 1 = .ok (.iload_n 1, 1) := by decide +kernel
theorem dX9_worth_2 : decode cX9_worth 2 = .ok (.invokevirtual 180, 3) := by decide +kernel
theorem dX9_worth_5 : decode cX9_worth 5 = .ok (.ifCond .eq 13, 3) := by decide +kernel
theorem dX9_worth_8 : decode cX9_worth 8 = .ok (.iload_n 2, 1) := by decide +kernel
theorem dX9_worth_9 : decode cX9_worth 9 = .ok (.i2l, 1) := by decide +kernel
theorem dX9_worth_10 : decode cX9_worth 10 = .ok (.lconst 0, 1) := by decide +kernel
theorem dX9_worth_11 : decode cX9_worth 11 = .ok (.lconst 1, 1) := by decide +kernel
theorem dX9_worth_12 : decode cX9_worth 12 = .ok (.invokestatic 96, 3) := by decide +kernel
theorem dX9_worth_15 : decode cX9_worth 15 = .ok (.ifCond .ne 7, 3) := by decide +kernel
theorem dX9_worth_18 : decode cX9_worth 18 = .ok (.ldc2_w 266, 3) := by decide +kernel
theorem dX9_worth_21 : decode cX9_worth 21 = .ok (.lreturn, 1) := by decide +kernel
theorem dX9_worth_22 : decode cX9_worth 22 = .ok (.aload_n 0, 1) := by decide +kernel
theorem dX9_worth_23 : decode cX9_worth 23 = .ok (.invokevirtual 231, 3) := by decide +kernel
theorem dX9_worth_26 : decode cX9_worth 26 = .ok (.bipush 7, 2) := by decide +kernel
theorem dX9_worth_28 : decode cX9_worth 28 = .ok (.if_icmp .le 7, 3) := by decide +kernel
theorem dX9_worth_31 : decode cX9_worth 31 = .ok (.ldc2_w 268, 3) := by decide +kernel
theorem dX9_worth_34 : decode cX9_worth 34 = .ok (.lreturn, 1) := by decide +kernel
theorem dX9_worth_35 : decode cX9_worth 35 = .ok (.aload_n 0, 1) := by decide +kernel
theorem dX9_worth_36 : decode cX9_worth 36 = .ok (.iload_n 1, 1) := by decide +kernel
theorem dX9_worth_37 : decode cX9_worth 37 = .ok (.bipush (-4), 2) := by decide +kernel
theorem dX9_worth_39 : decode cX9_worth 39 = .ok (.iconst 0, 1) := by decide +kernel
theorem dX9_worth_40 : decode cX9_worth 40 = .ok (.invokevirtual 270, 3) := by decide +kernel
theorem dX9_worth_43 : decode cX9_worth 43 = .ok (.aload_n 0, 1) := by decide +kernel
theorem dX9_worth_44 : decode cX9_worth 44 = .ok (.getfield 255, 3) := by decide +kernel
theorem dX9_worth_47 : decode cX9_worth 47 = .ok (.aload_n 0, 1) := by decide +kernel
theorem dX9_worth_48 : decode cX9_worth 48 = .ok (.getfield 259, 3) := by decide +kernel
theorem dX9_worth_51 : decode cX9_worth 51 = .ok (.iload_n 2, 1) := by decide +kernel
theorem dX9_worth_52 : decode cX9_worth 52 = .ok (.invokestatic 237, 3) := by decide +kernel
theorem dX9_worth_55 : decode cX9_worth 55 = .ok (.lreturn, 1) := by decide +kernel
theorem dX9_isOpen_0 : decode cX9_isOpen 0 = .ok (.aload_n 0, 1) := by decide +kernel
theorem dX9_isOpen_1 : decode cX9_isOpen 1 = .ok (.iload_n 1, 1) := by decide +kernel
theorem dX9_isOpen_2 : decode cX9_isOpen 2 = .ok (.invokevirtual 190, 3) := by decide +kernel
theorem dX9_isOpen_5 : decode cX9_isOpen 5 = .ok (.ifCond .eq 17, 3) := by decide +kernel
theorem dX9_isOpen_8 : decode cX9_isOpen 8 = .ok (.aload_n 0, 1) := by decide +kernel
theorem dX9_isOpen_9 : decode cX9_isOpen 9 = .ok (.getfield 40, 3) := by decide +kernel
theorem dX9_isOpen_12 : decode cX9_isOpen 12 = .ok (.iload_n 1, 1) := by decide +kernel
theorem dX9_isOpen_13 : decode cX9_isOpen 13 = .ok (.iaload, 1) := by decide +kernel
theorem dX9_isOpen_14 : decode cX9_isOpen 14 = .ok (.iconst 2, 1) := by decide +kernel
theorem dX9_isOpen_15 : decode cX9_isOpen 15 = .ok (.if_icmp .ne 7, 3) := by decide +kernel
theorem dX9_isOpen_18 : decode cX9_isOpen 18 = .ok (.iconst 1, 1) := by decide +kernel
theorem dX9_isOpen_19 : decode cX9_isOpen 19 = .ok (.goto 4, 3) := by decide +kernel
theorem dX9_isOpen_22 : decode cX9_isOpen 22 = .ok (.iconst 0, 1) := by decide +kernel
theorem dX9_isOpen_23 : decode cX9_isOpen 23 = .ok (.ireturn, 1) := by decide +kernel
theorem dX9_worthIf_0 : decode cX9_worthIf 0 = .ok (.aload_n 0, 1) := by decide +kernel
theorem dX9_worthIf_1 : decode cX9_worthIf 1 = .ok (.iload_n 1, 1) := by decide +kernel
theorem dX9_worthIf_2 : decode cX9_worthIf 2 = .ok (.invokevirtual 180, 3) := by decide +kernel
theorem dX9_worthIf_5 : decode cX9_worthIf 5 = .ok (.ifCond .eq 42, 3) := by decide +kernel
theorem dX9_worthIf_8 : decode cX9_worthIf 8 = .ok (.aload_n 0, 1) := by decide +kernel
theorem dX9_worthIf_9 : decode cX9_worthIf 9 = .ok (.iload_n 2, 1) := by decide +kernel
theorem dX9_worthIf_10 : decode cX9_worthIf 10 = .ok (.invokevirtual 274, 3) := by decide +kernel
theorem dX9_worthIf_13 : decode cX9_worthIf 13 = .ok (.ifCond .eq 34, 3) := by decide +kernel
theorem dX9_worthIf_16 : decode cX9_worthIf 16 = .ok (.aload_n 0, 1) := by decide +kernel
theorem dX9_worthIf_17 : decode cX9_worthIf 17 = .ok (.getfield 34, 3) := by decide +kernel
theorem dX9_worthIf_20 : decode cX9_worthIf 20 = .ok (.iload_n 2, 1) := by decide +kernel
theorem dX9_worthIf_21 : decode cX9_worthIf 21 = .ok (.iaload, 1) := by decide +kernel
theorem dX9_worthIf_22 : decode cX9_worthIf 22 = .ok (.iload_n 1, 1) := by decide +kernel
theorem dX9_worthIf_23 : decode cX9_worthIf 23 = .ok (.if_icmp .eq 13, 3) := by decide +kernel
theorem dX9_worthIf_26 : decode cX9_worthIf 26 = .ok (.aload_n 0, 1) := by decide +kernel
theorem dX9_worthIf_27 : decode cX9_worthIf 27 = .ok (.getfield 37, 3) := by decide +kernel
theorem dX9_worthIf_30 : decode cX9_worthIf 30 = .ok (.iload_n 2, 1) := by decide +kernel
theorem dX9_worthIf_31 : decode cX9_worthIf 31 = .ok (.iaload, 1) := by decide +kernel
theorem dX9_worthIf_32 : decode cX9_worthIf 32 = .ok (.iload_n 1, 1) := by decide +kernel
theorem dX9_worthIf_33 : decode cX9_worthIf 33 = .ok (.if_icmp .ne 14, 3) := by decide +kernel
theorem dX9_worthIf_36 : decode cX9_worthIf 36 = .ok (.iload 4, 2) := by decide +kernel
theorem dX9_worthIf_38 : decode cX9_worthIf 38 = .ok (.i2l, 1) := by decide +kernel
theorem dX9_worthIf_39 : decode cX9_worthIf 39 = .ok (.lconst 0, 1) := by decide +kernel
theorem dX9_worthIf_40 : decode cX9_worthIf 40 = .ok (.lconst 1, 1) := by decide +kernel
theorem dX9_worthIf_41 : decode cX9_worthIf 41 = .ok (.invokestatic 96, 3) := by decide +kernel
theorem dX9_worthIf_44 : decode cX9_worthIf 44 = .ok (.ifCond .ne 7, 3) := by decide +kernel
theorem dX9_worthIf_47 : decode cX9_worthIf 47 = .ok (.ldc2_w 266, 3) := by decide +kernel
theorem dX9_worthIf_50 : decode cX9_worthIf 50 = .ok (.lreturn, 1) := by decide +kernel
theorem dX9_worthIf_51 : decode cX9_worthIf 51 = .ok (.aload_n 0, 1) := by decide +kernel
theorem dX9_worthIf_52 : decode cX9_worthIf 52 = .ok (.invokevirtual 231, 3) := by decide +kernel
theorem dX9_worthIf_55 : decode cX9_worthIf 55 = .ok (.bipush 7, 2) := by decide +kernel
theorem dX9_worthIf_57 : decode cX9_worthIf 57 = .ok (.if_icmp .le 7, 3) := by decide +kernel
theorem dX9_worthIf_60 : decode cX9_worthIf 60 = .ok (.ldc2_w 268, 3) := by decide +kernel
theorem dX9_worthIf_63 : decode cX9_worthIf 63 = .ok (.lreturn, 1) := by decide +kernel
theorem dX9_worthIf_64 : decode cX9_worthIf 64 = .ok (.aload_n 0, 1) := by decide +kernel
theorem dX9_worthIf_65 : decode cX9_worthIf 65 = .ok (.iload_n 1, 1) := by decide +kernel
theorem dX9_worthIf_66 : decode cX9_worthIf 66 = .ok (.iload_n 2, 1) := by decide +kernel
theorem dX9_worthIf_67 : decode cX9_worthIf 67 = .ok (.iload_n 3, 1) := by decide +kernel
theorem dX9_worthIf_68 : decode cX9_worthIf 68 = .ok (.aload_n 0, 1) := by decide +kernel
theorem dX9_worthIf_69 : decode cX9_worthIf 69 = .ok (.getfield 34, 3) := by decide +kernel
theorem dX9_worthIf_72 : decode cX9_worthIf 72 = .ok (.iload_n 2, 1) := by decide +kernel
theorem dX9_worthIf_73 : decode cX9_worthIf 73 = .ok (.iaload, 1) := by decide +kernel
theorem dX9_worthIf_74 : decode cX9_worthIf 74 = .ok (.iload_n 1, 1) := by decide +kernel
theorem dX9_worthIf_75 : decode cX9_worthIf 75 = .ok (.if_icmp .ne 7, 3) := by decide +kernel
theorem dX9_worthIf_78 : decode cX9_worthIf 78 = .ok (.iconst 1, 1) := by decide +kernel
theorem dX9_worthIf_79 : decode cX9_worthIf 79 = .ok (.goto 4, 3) := by decide +kernel
theorem dX9_worthIf_82 : decode cX9_worthIf 82 = .ok (.iconst 0, 1) := by decide +kernel
theorem dX9_worthIf_83 : decode cX9_worthIf 83 = .ok (.if_icmp .ne 7, 3) := by decide +kernel
theorem dX9_worthIf_86 : decode cX9_worthIf 86 = .ok (.iconst 0, 1) := by decide +kernel
theorem dX9_worthIf_87 : decode cX9_worthIf 87 = .ok (.goto 4, 3) := by decide +kernel
theorem dX9_worthIf_90 : decode cX9_worthIf 90 = .ok (.iconst 1, 1) := by decide +kernel
theorem dX9_worthIf_91 : decode cX9_worthIf 91 = .ok (.invokevirtual 270, 3) := by decide +kernel
theorem dX9_worthIf_94 : decode cX9_worthIf 94 = .ok (.aload_n 0, 1) := by decide +kernel
theorem dX9_worthIf_95 : decode cX9_worthIf 95 = .ok (.getfield 255, 3) := by decide +kernel
theorem dX9_worthIf_98 : decode cX9_worthIf 98 = .ok (.aload_n 0, 1) := by decide +kernel
theorem dX9_worthIf_99 : decode cX9_worthIf 99 = .ok (.getfield 259, 3) := by decide +kernel
theorem dX9_worthIf_102 : decode cX9_worthIf 102 = .ok (.iload 4, 2) := by decide +kernel
theorem dX9_worthIf_104 : decode cX9_worthIf 104 = .ok (.invokestatic 237, 3) := by decide +kernel
theorem dX9_worthIf_107 : decode cX9_worthIf 107 = .ok (.lreturn, 1) := by decide +kernel
theorem dX9_doesWant_0 : decode cX9_doesWant 0 = .ok (.aload_n 0, 1) := by decide +kernel
theorem dX9_doesWant_1 : decode cX9_doesWant 1 = .ok (.getfield 34, 3) := by decide +kernel
theorem dX9_doesWant_4 : decode cX9_doesWant 4 = .ok (.iload_n 2, 1) := by decide +kernel
theorem dX9_doesWant_5 : decode cX9_doesWant 5 = .ok (.iaload, 1) := by decide +kernel
theorem dX9_doesWant_6 : decode cX9_doesWant 6 = .ok (.iload_n 1, 1) := by decide +kernel
theorem dX9_doesWant_7 : decode cX9_doesWant 7 = .ok (.if_icmp .ne 7, 3) := by decide +kernel
theorem dX9_doesWant_10 : decode cX9_doesWant 10 = .ok (.iconst 0, 1) := by decide +kernel
theorem dX9_doesWant_11 : decode cX9_doesWant 11 = .ok (.goto 4, 3) := by decide +kernel
theorem dX9_doesWant_14 : decode cX9_doesWant 14 = .ok (.iconst 1, 1) := by decide +kernel
theorem dX9_doesWant_15 : decode cX9_doesWant 15 = .ok (.istore_n 3, 1) := by decide +kernel
theorem dX9_doesWant_16 : decode cX9_doesWant 16 = .ok (.aload_n 0, 1) := by decide +kernel
theorem dX9_doesWant_17 : decode cX9_doesWant 17 = .ok (.iload_n 1, 1) := by decide +kernel
theorem dX9_doesWant_18 : decode cX9_doesWant 18 = .ok (.iload_n 2, 1) := by decide +kernel
theorem dX9_doesWant_19 : decode cX9_doesWant 19 = .ok (.iload_n 3, 1) := by decide +kernel
theorem dX9_doesWant_20 : decode cX9_doesWant 20 = .ok (.invokevirtual 270, 3) := by decide +kernel
theorem dX9_doesWant_23 : decode cX9_doesWant 23 = .ok (.aload_n 0, 1) := by decide +kernel
theorem dX9_doesWant_24 : decode cX9_doesWant 24 = .ok (.getfield 255, 3) := by decide +kernel
theorem dX9_doesWant_27 : decode cX9_doesWant 27 = .ok (.lstore 4, 2) := by decide +kernel
theorem dX9_doesWant_29 : decode cX9_doesWant 29 = .ok (.aload_n 0, 1) := by decide +kernel
theorem dX9_doesWant_30 : decode cX9_doesWant 30 = .ok (.iload_n 1, 1) := by decide +kernel
theorem dX9_doesWant_31 : decode cX9_doesWant 31 = .ok (.iload_n 2, 1) := by decide +kernel
theorem dX9_doesWant_32 : decode cX9_doesWant 32 = .ok (.iconst 1, 1) := by decide +kernel
theorem dX9_doesWant_33 : decode cX9_doesWant 33 = .ok (.iload_n 3, 1) := by decide +kernel
theorem dX9_doesWant_34 : decode cX9_doesWant 34 = .ok (.isub, 1) := by decide +kernel
theorem dX9_doesWant_35 : decode cX9_doesWant 35 = .ok (.invokevirtual 270, 3) := by decide +kernel
theorem dX9_doesWant_38 : decode cX9_doesWant 38 = .ok (.aload_n 0, 1) := by decide +kernel
theorem dX9_doesWant_39 : decode cX9_doesWant 39 = .ok (.getfield 255, 3) := by decide +kernel
theorem dX9_doesWant_42 : decode cX9_doesWant 42 = .ok (.lload 4, 2) := by decide +kernel
theorem dX9_doesWant_44 : decode cX9_doesWant 44 = .ok (.lcmp, 1) := by decide +kernel
theorem dX9_doesWant_45 : decode cX9_doesWant 45 = .ok (.ifCond .le 7, 3) := by decide +kernel
theorem dX9_doesWant_48 : decode cX9_doesWant 48 = .ok (.iconst 1, 1) := by decide +kernel
theorem dX9_doesWant_49 : decode cX9_doesWant 49 = .ok (.goto 4, 3) := by decide +kernel
theorem dX9_doesWant_52 : decode cX9_doesWant 52 = .ok (.iconst 0, 1) := by decide +kernel
theorem dX9_doesWant_53 : decode cX9_doesWant 53 = .ok (.ireturn, 1) := by decide +kernel
theorem dX9_wanted_0 : decode cX9_wanted 0 = .ok (.aload_n 0, 1) := by decide +kernel
theorem dX9_wanted_1 : decode cX9_wanted 1 = .ok (.aload_n 0, 1) := by decide +kernel
theorem dX9_wanted_2 : decode cX9_wanted 2 = .ok (.getfield 34, 3) := by decide +kernel
theorem dX9_wanted_5 : decode cX9_wanted 5 = .ok (.iload_n 1, 1) := by decide +kernel
theorem dX9_wanted_6 : decode cX9_wanted 6 = .ok (.iaload, 1) := by decide +kernel
theorem dX9_wanted_7 : decode cX9_wanted 7 = .ok (.iload_n 1, 1) := by decide +kernel
theorem dX9_wanted_8 : decode cX9_wanted 8 = .ok (.invokevirtual 277, 3) := by decide +kernel
theorem dX9_wanted_11 : decode cX9_wanted 11 = .ok (.ifCond .eq 7, 3) := by decide +kernel
theorem dX9_wanted_14 : decode cX9_wanted 14 = .ok (.iconst 1, 1) := by decide +kernel
theorem dX9_wanted_15 : decode cX9_wanted 15 = .ok (.goto 4, 3) := by decide +kernel
theorem dX9_wanted_18 : decode cX9_wanted 18 = .ok (.iconst 0, 1) := by decide +kernel
theorem dX9_wanted_19 : decode cX9_wanted 19 = .ok (.aload_n 0, 1) := by decide +kernel
theorem dX9_wanted_20 : decode cX9_wanted 20 = .ok (.aload_n 0, 1) := by decide +kernel
theorem dX9_wanted_21 : decode cX9_wanted 21 = .ok (.getfield 37, 3) := by decide +kernel
theorem dX9_wanted_24 : decode cX9_wanted 24 = .ok (.iload_n 1, 1) := by decide +kernel
theorem dX9_wanted_25 : decode cX9_wanted 25 = .ok (.iaload, 1) := by decide +kernel
theorem dX9_wanted_26 : decode cX9_wanted 26 = .ok (.iload_n 1, 1) := by decide +kernel
theorem dX9_wanted_27 : decode cX9_wanted 27 = .ok (.invokevirtual 277, 3) := by decide +kernel
theorem dX9_wanted_30 : decode cX9_wanted 30 = .ok (.ifCond .eq 7, 3) := by decide +kernel
theorem dX9_wanted_33 : decode cX9_wanted 33 = .ok (.iconst 2, 1) := by decide +kernel
theorem dX9_wanted_34 : decode cX9_wanted 34 = .ok (.goto 4, 3) := by decide +kernel
theorem dX9_wanted_37 : decode cX9_wanted 37 = .ok (.iconst 0, 1) := by decide +kernel
theorem dX9_wanted_38 : decode cX9_wanted 38 = .ok (.iadd, 1) := by decide +kernel
theorem dX9_wanted_39 : decode cX9_wanted 39 = .ok (.ireturn, 1) := by decide +kernel
theorem dX9_wants_0 : decode cX9_wants 0 = .ok (.aload_n 0, 1) := by decide +kernel
theorem dX9_wants_1 : decode cX9_wants 1 = .ok (.iload_n 1, 1) := by decide +kernel
theorem dX9_wants_2 : decode cX9_wants 2 = .ok (.invokevirtual 274, 3) := by decide +kernel
theorem dX9_wants_5 : decode cX9_wants 5 = .ok (.ifCond .ne 5, 3) := by decide +kernel
theorem dX9_wants_8 : decode cX9_wants 8 = .ok (.iconst (-1), 1) := by decide +kernel
theorem dX9_wants_9 : decode cX9_wants 9 = .ok (.ireturn, 1) := by decide +kernel
theorem dX9_wants_10 : decode cX9_wants 10 = .ok (.aload_n 0, 1) := by decide +kernel
theorem dX9_wants_11 : decode cX9_wants 11 = .ok (.invokevirtual 231, 3) := by decide +kernel
theorem dX9_wants_14 : decode cX9_wants 14 = .ok (.bipush 7, 2) := by decide +kernel
theorem dX9_wants_16 : decode cX9_wants 16 = .ok (.if_icmp .le 8, 3) := by decide +kernel
theorem dX9_wants_19 : decode cX9_wants 19 = .ok (.bipush (-2), 2) := by decide +kernel
theorem dX9_wants_21 : decode cX9_wants 21 = .ok (.goto 8, 3) := by decide +kernel
theorem dX9_wants_24 : decode cX9_wants 24 = .ok (.aload_n 0, 1) := by decide +kernel
theorem dX9_wants_25 : decode cX9_wants 25 = .ok (.iload_n 1, 1) := by decide +kernel
theorem dX9_wants_26 : decode cX9_wants 26 = .ok (.invokevirtual 280, 3) := by decide +kernel
theorem dX9_wants_29 : decode cX9_wants 29 = .ok (.ireturn, 1) := by decide +kernel
theorem dX9_lose_0 : decode cX9_lose 0 = .ok (.iload_n 2, 1) := by decide +kernel
theorem dX9_lose_1 : decode cX9_lose 1 = .ok (.i2l, 1) := by decide +kernel
theorem dX9_lose_2 : decode cX9_lose 2 = .ok (.lconst 0, 1) := by decide +kernel
theorem dX9_lose_3 : decode cX9_lose 3 = .ok (.ldc2_w 196, 3) := by decide +kernel
theorem dX9_lose_6 : decode cX9_lose 6 = .ok (.invokestatic 96, 3) := by decide +kernel
theorem dX9_lose_9 : decode cX9_lose 9 = .ok (.ifCond .eq 16, 3) := by decide +kernel
theorem dX9_lose_12 : decode cX9_lose 12 = .ok (.iload_n 2, 1) := by decide +kernel
theorem dX9_lose_13 : decode cX9_lose 13 = .ok (.iconst 1, 1) := by decide +kernel
theorem dX9_lose_14 : decode cX9_lose 14 = .ok (.if_icmp .eq 13, 3) := by decide +kernel
theorem dX9_lose_17 : decode cX9_lose 17 = .ok (.aload_n 0, 1) := by decide +kernel
theorem dX9_lose_18 : decode cX9_lose 18 = .ok (.iload_n 1, 1) := by decide +kernel
theorem dX9_lose_19 : decode cX9_lose 19 = .ok (.invokevirtual 180, 3) := by decide +kernel
theorem dX9_lose_22 : decode cX9_lose 22 = .ok (.ifCond .ne 5, 3) := by decide +kernel
theorem dX9_lose_25 : decode cX9_lose 25 = .ok (.iconst (-1), 1) := by decide +kernel
theorem dX9_lose_26 : decode cX9_lose 26 = .ok (.ireturn, 1) := by decide +kernel
theorem dX9_lose_27 : decode cX9_lose 27 = .ok (.aload_n 0, 1) := by decide +kernel
theorem dX9_lose_28 : decode cX9_lose 28 = .ok (.invokevirtual 231, 3) := by decide +kernel
theorem dX9_lose_31 : decode cX9_lose 31 = .ok (.bipush 7, 2) := by decide +kernel
theorem dX9_lose_33 : decode cX9_lose 33 = .ok (.if_icmp .le 6, 3) := by decide +kernel
theorem dX9_lose_36 : decode cX9_lose 36 = .ok (.bipush (-2), 2) := by decide +kernel
theorem dX9_lose_38 : decode cX9_lose 38 = .ok (.ireturn, 1) := by decide +kernel
theorem dX9_lose_39 : decode cX9_lose 39 = .ok (.bipush (-4), 2) := by decide +kernel
theorem dX9_lose_41 : decode cX9_lose 41 = .ok (.istore_n 3, 1) := by decide +kernel
theorem dX9_lose_42 : decode cX9_lose 42 = .ok (.iconst 0, 1) := by decide +kernel
theorem dX9_lose_43 : decode cX9_lose 43 = .ok (.istore 4, 2) := by decide +kernel
theorem dX9_lose_45 : decode cX9_lose 45 = .ok (.iconst 0, 1) := by decide +kernel
theorem dX9_lose_46 : decode cX9_lose 46 = .ok (.istore 5, 2) := by decide +kernel
theorem dX9_lose_48 : decode cX9_lose 48 = .ok (.iload 5, 2) := by decide +kernel
theorem dX9_lose_50 : decode cX9_lose 50 = .ok (.aload_n 0, 1) := by decide +kernel
theorem dX9_lose_51 : decode cX9_lose 51 = .ok (.getfield 43, 3) := by decide +kernel
theorem dX9_lose_54 : decode cX9_lose 54 = .ok (.iconst 0, 1) := by decide +kernel
theorem dX9_lose_55 : decode cX9_lose 55 = .ok (.iaload, 1) := by decide +kernel
theorem dX9_lose_56 : decode cX9_lose 56 = .ok (.if_icmp .ge 158, 3) := by decide +kernel
theorem dX9_lose_59 : decode cX9_lose 59 = .ok (.aload_n 0, 1) := by decide +kernel
theorem dX9_lose_60 : decode cX9_lose 60 = .ok (.getfield 40, 3) := by decide +kernel
theorem dX9_lose_63 : decode cX9_lose 63 = .ok (.iload 5, 2) := by decide +kernel
theorem dX9_lose_65 : decode cX9_lose 65 = .ok (.iaload, 1) := by decide +kernel
theorem dX9_lose_66 : decode cX9_lose 66 = .ok (.iconst 2, 1) := by decide +kernel
theorem dX9_lose_67 : decode cX9_lose 67 = .ok (.if_icmp .ne 141, 3) := by decide +kernel
theorem dX9_lose_70 : decode cX9_lose 70 = .ok (.iload_n 2, 1) := by decide +kernel
theorem dX9_lose_71 : decode cX9_lose 71 = .ok (.iconst 1, 1) := by decide +kernel
theorem dX9_lose_72 : decode cX9_lose 72 = .ok (.if_icmp .eq 25, 3) := by decide +kernel
theorem dX9_lose_75 : decode cX9_lose 75 = .ok (.aload_n 0, 1) := by decide +kernel
theorem dX9_lose_76 : decode cX9_lose 76 = .ok (.getfield 34, 3) := by decide +kernel
theorem dX9_lose_79 : decode cX9_lose 79 = .ok (.iload 5, 2) := by decide +kernel
theorem dX9_lose_81 : decode cX9_lose 81 = .ok (.iaload, 1) := by decide +kernel
theorem dX9_lose_82 : decode cX9_lose 82 = .ok (.iload_n 1, 1) := by decide +kernel
theorem dX9_lose_83 : decode cX9_lose 83 = .ok (.if_icmp .eq 14, 3) := by decide +kernel
theorem dX9_lose_86 : decode cX9_lose 86 = .ok (.aload_n 0, 1) := by decide +kernel
theorem dX9_lose_87 : decode cX9_lose 87 = .ok (.getfield 37, 3) := by decide +kernel
theorem dX9_lose_90 : decode cX9_lose 90 = .ok (.iload 5, 2) := by decide +kernel
theorem dX9_lose_92 : decode cX9_lose 92 = .ok (.iaload, 1) := by decide +kernel
theorem dX9_lose_93 : decode cX9_lose 93 = .ok (.iload_n 1, 1) := by decide +kernel
theorem dX9_lose_94 : decode cX9_lose 94 = .ok (.if_icmp .ne 12, 3) := by decide +kernel
theorem dX9_lose_97 : decode cX9_lose 97 = .ok (.aload_n 0, 1) := by decide +kernel
theorem dX9_lose_98 : decode cX9_lose 98 = .ok (.iload 5, 2) := by decide +kernel
theorem dX9_lose_100 : decode cX9_lose 100 = .ok (.invokevirtual 280, 3) := by decide +kernel
theorem dX9_lose_103 : decode cX9_lose 103 = .ok (.goto 4, 3) := by decide +kernel
theorem dX9_lose_106 : decode cX9_lose 106 = .ok (.iconst 0, 1) := by decide +kernel
theorem dX9_lose_107 : decode cX9_lose 107 = .ok (.istore 6, 2) := by decide +kernel
theorem dX9_lose_109 : decode cX9_lose 109 = .ok (.iload_n 2, 1) := by decide +kernel
theorem dX9_lose_110 : decode cX9_lose 110 = .ok (.iconst 1, 1) := by decide +kernel
theorem dX9_lose_111 : decode cX9_lose 111 = .ok (.if_icmp .ne 17, 3) := by decide +kernel
theorem dX9_lose_114 : decode cX9_lose 114 = .ok (.iload 6, 2) := by decide +kernel
theorem dX9_lose_116 : decode cX9_lose 116 = .ok (.iconst 3, 1) := by decide +kernel
theorem dX9_lose_117 : decode cX9_lose 117 = .ok (.if_icmp .ne 7, 3) := by decide +kernel
theorem dX9_lose_120 : decode cX9_lose 120 = .ok (.iconst 1, 1) := by decide +kernel
theorem dX9_lose_121 : decode cX9_lose 121 = .ok (.goto 52, 3) := by decide +kernel
theorem dX9_lose_124 : decode cX9_lose 124 = .ok (.iconst 0, 1) := by decide +kernel
theorem dX9_lose_125 : decode cX9_lose 125 = .ok (.goto 48, 3) := by decide +kernel
theorem dX9_lose_128 : decode cX9_lose 128 = .ok (.iload 6, 2) := by decide +kernel
theorem dX9_lose_130 : decode cX9_lose 130 = .ok (.iconst 3, 1) := by decide +kernel
theorem dX9_lose_131 : decode cX9_lose 131 = .ok (.if_icmp .eq 37, 3) := by decide +kernel
theorem dX9_lose_134 : decode cX9_lose 134 = .ok (.iload 6, 2) := by decide +kernel
theorem dX9_lose_136 : decode cX9_lose 136 = .ok (.iconst 1, 1) := by decide +kernel
theorem dX9_lose_137 : decode cX9_lose 137 = .ok (.if_icmp .ne 14, 3) := by decide +kernel
theorem dX9_lose_140 : decode cX9_lose 140 = .ok (.aload_n 0, 1) := by decide +kernel
theorem dX9_lose_141 : decode cX9_lose 141 = .ok (.getfield 34, 3) := by decide +kernel
theorem dX9_lose_144 : decode cX9_lose 144 = .ok (.iload 5, 2) := by decide +kernel
theorem dX9_lose_146 : decode cX9_lose 146 = .ok (.iaload, 1) := by decide +kernel
theorem dX9_lose_147 : decode cX9_lose 147 = .ok (.iload_n 1, 1) := by decide +kernel
theorem dX9_lose_148 : decode cX9_lose 148 = .ok (.if_icmp .eq 20, 3) := by decide +kernel
theorem dX9_lose_151 : decode cX9_lose 151 = .ok (.iload 6, 2) := by decide +kernel
theorem dX9_lose_153 : decode cX9_lose 153 = .ok (.iconst 2, 1) := by decide +kernel
theorem dX9_lose_154 : decode cX9_lose 154 = .ok (.if_icmp .ne 18, 3) := by decide +kernel
theorem dX9_lose_157 : decode cX9_lose 157 = .ok (.aload_n 0, 1) := by decide +kernel
theorem dX9_lose_158 : decode cX9_lose 158 = .ok (.getfield 37, 3) := by decide +kernel
theorem dX9_lose_161 : decode cX9_lose 161 = .ok (.iload 5, 2) := by decide +kernel
theorem dX9_lose_163 : decode cX9_lose 163 = .ok (.iaload, 1) := by decide +kernel
theorem dX9_lose_164 : decode cX9_lose 164 = .ok (.iload_n 1, 1) := by decide +kernel
theorem dX9_lose_165 : decode cX9_lose 165 = .ok (.if_icmp .ne 7, 3) := by decide +kernel
theorem dX9_lose_168 : decode cX9_lose 168 = .ok (.iconst 1, 1) := by decide +kernel
theorem dX9_lose_169 : decode cX9_lose 169 = .ok (.goto 4, 3) := by decide +kernel
theorem dX9_lose_172 : decode cX9_lose 172 = .ok (.iconst 0, 1) := by decide +kernel
theorem dX9_lose_173 : decode cX9_lose 173 = .ok (.istore 7, 2) := by decide +kernel
theorem dX9_lose_175 : decode cX9_lose 175 = .ok (.iload 4, 2) := by decide +kernel
theorem dX9_lose_177 : decode cX9_lose 177 = .ok (.iload 7, 2) := by decide +kernel
theorem dX9_lose_179 : decode cX9_lose 179 = .ok (.ifCond .eq 7, 3) := by decide +kernel
theorem dX9_lose_182 : decode cX9_lose 182 = .ok (.iconst 1, 1) := by decide +kernel
theorem dX9_lose_183 : decode cX9_lose 183 = .ok (.goto 4, 3) := by decide +kernel
theorem dX9_lose_186 : decode cX9_lose 186 = .ok (.iconst 0, 1) := by decide +kernel
theorem dX9_lose_187 : decode cX9_lose 187 = .ok (.iadd, 1) := by decide +kernel
theorem dX9_lose_188 : decode cX9_lose 188 = .ok (.istore 4, 2) := by decide +kernel
theorem dX9_lose_190 : decode cX9_lose 190 = .ok (.iload 7, 2) := by decide +kernel
theorem dX9_lose_192 : decode cX9_lose 192 = .ok (.ifCond .eq 14, 3) := by decide +kernel
theorem dX9_lose_195 : decode cX9_lose 195 = .ok (.iload_n 3, 1) := by decide +kernel
theorem dX9_lose_196 : decode cX9_lose 196 = .ok (.bipush (-4), 2) := by decide +kernel
theorem dX9_lose_198 : decode cX9_lose 198 = .ok (.if_icmp .ne 8, 3) := by decide +kernel
theorem dX9_lose_201 : decode cX9_lose 201 = .ok (.iload 5, 2) := by decide +kernel
theorem dX9_lose_203 : decode cX9_lose 203 = .ok (.goto 4, 3) := by decide +kernel
theorem dX9_lose_206 : decode cX9_lose 206 = .ok (.iload_n 3, 1) := by decide +kernel
theorem dX9_lose_207 : decode cX9_lose 207 = .ok (.istore_n 3, 1) := by decide +kernel
theorem dX9_lose_208 : decode cX9_lose 208 = .ok (.iinc 5 1, 3) := by decide +kernel
theorem dX9_lose_211 : decode cX9_lose 211 = .ok (.goto (-163), 3) := by decide +kernel
theorem dX9_lose_214 : decode cX9_lose 214 = .ok (.iload_n 2, 1) := by decide +kernel
theorem dX9_lose_215 : decode cX9_lose 215 = .ok (.iconst 2, 1) := by decide +kernel
theorem dX9_lose_216 : decode cX9_lose 216 = .ok (.if_icmp .ne 8, 3) := by decide +kernel
theorem dX9_lose_219 : decode cX9_lose 219 = .ok (.iload 4, 2) := by decide +kernel
theorem dX9_lose_221 : decode cX9_lose 221 = .ok (.goto 4, 3) := by decide +kernel
theorem dX9_lose_224 : decode cX9_lose 224 = .ok (.iload_n 3, 1) := by decide +kernel
theorem dX9_lose_225 : decode cX9_lose 225 = .ok (.ireturn, 1) := by decide +kernel
theorem dX9_odds_0 : decode cX9_odds 0 = .ok (.aload_n 0, 1) := by decide +kernel
theorem dX9_odds_1 : decode cX9_odds 1 = .ok (.iload_n 1, 1) := by decide +kernel
theorem dX9_odds_2 : decode cX9_odds 2 = .ok (.invokevirtual 180, 3) := by decide +kernel
theorem dX9_odds_5 : decode cX9_odds 5 = .ok (.ifCond .eq 21, 3) := by decide +kernel
theorem dX9_odds_8 : decode cX9_odds 8 = .ok (.aload_n 0, 1) := by decide +kernel
theorem dX9_odds_9 : decode cX9_odds 9 = .ok (.iload_n 2, 1) := by decide +kernel
theorem dX9_odds_10 : decode cX9_odds 10 = .ok (.invokevirtual 180, 3) := by decide +kernel
theorem dX9_odds_13 : decode cX9_odds 13 = .ok (.ifCond .eq 13, 3) := by decide +kernel
theorem dX9_odds_16 : decode cX9_odds 16 = .ok (.iload_n 3, 1) := by decide +kernel
theorem dX9_odds_17 : decode cX9_odds 17 = .ok (.i2l, 1) := by decide +kernel
theorem dX9_odds_18 : decode cX9_odds 18 = .ok (.lconst 0, 1) := by decide +kernel
theorem dX9_odds_19 : decode cX9_odds 19 = .ok (.lconst 1, 1) := by decide +kernel
theorem dX9_odds_20 : decode cX9_odds 20 = .ok (.invokestatic 96, 3) := by decide +kernel
theorem dX9_odds_23 : decode cX9_odds 23 = .ok (.ifCond .ne 7, 3) := by decide +kernel
theorem dX9_odds_26 : decode cX9_odds 26 = .ok (.ldc2_w 266, 3) := by decide +kernel
theorem dX9_odds_29 : decode cX9_odds 29 = .ok (.lreturn, 1) := by decide +kernel
theorem dX9_odds_30 : decode cX9_odds 30 = .ok (.aload_n 0, 1) := by decide +kernel
theorem dX9_odds_31 : decode cX9_odds 31 = .ok (.invokevirtual 231, 3) := by decide +kernel
theorem dX9_odds_34 : decode cX9_odds 34 = .ok (.bipush 7, 2) := by decide +kernel
theorem dX9_odds_36 : decode cX9_odds 36 = .ok (.if_icmp .le 7, 3) := by decide +kernel
theorem dX9_odds_39 : decode cX9_odds 39 = .ok (.ldc2_w 268, 3) := by decide +kernel
theorem dX9_odds_42 : decode cX9_odds 42 = .ok (.lreturn, 1) := by decide +kernel
theorem dX9_odds_43 : decode cX9_odds 43 = .ok (.aload_n 0, 1) := by decide +kernel
theorem dX9_odds_44 : decode cX9_odds 44 = .ok (.invokevirtual 244, 3) := by decide +kernel
theorem dX9_odds_47 : decode cX9_odds 47 = .ok (.lconst 0, 1) := by decide +kernel
theorem dX9_odds_48 : decode cX9_odds 48 = .ok (.lstore 4, 2) := by decide +kernel
theorem dX9_odds_50 : decode cX9_odds 50 = .ok (.iconst 0, 1) := by decide +kernel
theorem dX9_odds_51 : decode cX9_odds 51 = .ok (.istore 6, 2) := by decide +kernel
theorem dX9_odds_53 : decode cX9_odds 53 = .ok (.iload 6, 2) := by decide +kernel
theorem dX9_odds_55 : decode cX9_odds 55 = .ok (.iconst 1, 1) := by decide +kernel
theorem dX9_odds_56 : decode cX9_odds 56 = .ok (.aload_n 0, 1) := by decide +kernel
theorem dX9_odds_57 : decode cX9_odds 57 = .ok (.getfield 241, 3) := by decide +kernel
theorem dX9_odds_60 : decode cX9_odds 60 = .ok (.ishl, 1) := by decide +kernel
theorem dX9_odds_61 : decode cX9_odds 61 = .ok (.if_icmp .ge 47, 3) := by decide +kernel
theorem dX9_odds_64 : decode cX9_odds 64 = .ok (.aload_n 0, 1) := by decide +kernel
theorem dX9_odds_65 : decode cX9_odds 65 = .ok (.iload 6, 2) := by decide +kernel
theorem dX9_odds_67 : decode cX9_odds 67 = .ok (.invokevirtual 247, 3) := by decide +kernel
theorem dX9_odds_70 : decode cX9_odds 70 = .ok (.aload_n 0, 1) := by decide +kernel
theorem dX9_odds_71 : decode cX9_odds 71 = .ok (.iconst 0, 1) := by decide +kernel
theorem dX9_odds_72 : decode cX9_odds 72 = .ok (.invokevirtual 204, 3) := by decide +kernel
theorem dX9_odds_75 : decode cX9_odds 75 = .ok (.lload 4, 2) := by decide +kernel
theorem dX9_odds_77 : decode cX9_odds 77 = .ok (.aload_n 0, 1) := by decide +kernel
theorem dX9_odds_78 : decode cX9_odds 78 = .ok (.getfield 55, 3) := by decide +kernel
theorem dX9_odds_81 : decode cX9_odds 81 = .ok (.iload_n 1, 1) := by decide +kernel
theorem dX9_odds_82 : decode cX9_odds 82 = .ok (.iaload, 1) := by decide +kernel
theorem dX9_odds_83 : decode cX9_odds 83 = .ok (.iload_n 2, 1) := by decide +kernel
theorem dX9_odds_84 : decode cX9_odds 84 = .ok (.if_icmp .ne 14, 3) := by decide +kernel
theorem dX9_odds_87 : decode cX9_odds 87 = .ok (.aload_n 0, 1) := by decide +kernel
theorem dX9_odds_88 : decode cX9_odds 88 = .ok (.iload 6, 2) := by decide +kernel
theorem dX9_odds_90 : decode cX9_odds 90 = .ok (.bipush (-4), 2) := by decide +kernel
theorem dX9_odds_92 : decode cX9_odds 92 = .ok (.invokevirtual 262, 3) := by decide +kernel
theorem dX9_odds_95 : decode cX9_odds 95 = .ok (.goto 4, 3) := by decide +kernel
theorem dX9_odds_98 : decode cX9_odds 98 = .ok (.lconst 0, 1) := by decide +kernel
theorem dX9_odds_99 : decode cX9_odds 99 = .ok (.ladd, 1) := by decide +kernel
theorem dX9_odds_100 : decode cX9_odds 100 = .ok (.lstore 4, 2) := by decide +kernel
theorem dX9_odds_102 : decode cX9_odds 102 = .ok (.iinc 6 1, 3) := by decide +kernel
theorem dX9_odds_105 : decode cX9_odds 105 = .ok (.goto (-52), 3) := by decide +kernel
theorem dX9_odds_108 : decode cX9_odds 108 = .ok (.aload_n 0, 1) := by decide +kernel
theorem dX9_odds_109 : decode cX9_odds 109 = .ok (.invokevirtual 250, 3) := by decide +kernel
theorem dX9_odds_112 : decode cX9_odds 112 = .ok (.lload 4, 2) := by decide +kernel
theorem dX9_odds_114 : decode cX9_odds 114 = .ok (.lconst 1, 1) := by decide +kernel
theorem dX9_odds_115 : decode cX9_odds 115 = .ok (.iconst 4, 1) := by decide +kernel
theorem dX9_odds_116 : decode cX9_odds 116 = .ok (.aload_n 0, 1) := by decide +kernel
theorem dX9_odds_117 : decode cX9_odds 117 = .ok (.getfield 241, 3) := by decide +kernel
theorem dX9_odds_120 : decode cX9_odds 120 = .ok (.imul, 1) := by decide +kernel
theorem dX9_odds_121 : decode cX9_odds 121 = .ok (.lshl, 1) := by decide +kernel
theorem dX9_odds_122 : decode cX9_odds 122 = .ok (.iload_n 3, 1) := by decide +kernel
theorem dX9_odds_123 : decode cX9_odds 123 = .ok (.invokestatic 237, 3) := by decide +kernel
theorem dX9_odds_126 : decode cX9_odds 126 = .ok (.lreturn, 1) := by decide +kernel
theorem dX9_layLeaves_0 : decode cX9_layLeaves 0 = .ok (.aload_n 0, 1) := by decide +kernel
theorem dX9_layLeaves_1 : decode cX9_layLeaves 1 = .ok (.invokevirtual 244, 3) := by decide +kernel
theorem dX9_layLeaves_4 : decode cX9_layLeaves 4 = .ok (.aload_n 0, 1) := by decide +kernel
theorem dX9_layLeaves_5 : decode cX9_layLeaves 5 = .ok (.aload_n 0, 1) := by decide +kernel
theorem dX9_layLeaves_6 : decode cX9_layLeaves 6 = .ok (.invokevirtual 224, 3) := by decide +kernel
theorem dX9_layLeaves_9 : decode cX9_layLeaves 9 = .ok (.i2l, 1) := by decide +kernel
theorem dX9_layLeaves_10 : decode cX9_layLeaves 10 = .ok (.putfield 283, 3) := by decide +kernel
theorem dX9_layLeaves_13 : decode cX9_layLeaves 13 = .ok (.iconst 0, 1) := by decide +kernel
theorem dX9_layLeaves_14 : decode cX9_layLeaves 14 = .ok (.istore_n 1, 1) := by decide +kernel
theorem dX9_layLeaves_15 : decode cX9_layLeaves 15 = .ok (.iload_n 1, 1) := by decide +kernel
theorem dX9_layLeaves_16 : decode cX9_layLeaves 16 = .ok (.iconst 1, 1) := by decide +kernel
theorem dX9_layLeaves_17 : decode cX9_layLeaves 17 = .ok (.aload_n 0, 1) := by decide +kernel
theorem dX9_layLeaves_18 : decode cX9_layLeaves 18 = .ok (.getfield 241, 3) := by decide +kernel
theorem dX9_layLeaves_21 : decode cX9_layLeaves 21 = .ok (.ishl, 1) := by decide +kernel
theorem dX9_layLeaves_22 : decode cX9_layLeaves 22 = .ok (.if_icmp .ge 62, 3) := by decide +kernel
theorem dX9_layLeaves_25 : decode cX9_layLeaves 25 = .ok (.aload_n 0, 1) := by decide +kernel
theorem dX9_layLeaves_26 : decode cX9_layLeaves 26 = .ok (.iload_n 1, 1) := by decide +kernel
theorem dX9_layLeaves_27 : decode cX9_layLeaves 27 = .ok (.invokevirtual 247, 3) := by decide +kernel
theorem dX9_layLeaves_30 : decode cX9_layLeaves 30 = .ok (.aload_n 0, 1) := by decide +kernel
theorem dX9_layLeaves_31 : decode cX9_layLeaves 31 = .ok (.invokevirtual 234, 3) := by decide +kernel
theorem dX9_layLeaves_34 : decode cX9_layLeaves 34 = .ok (.iconst 0, 1) := by decide +kernel
theorem dX9_layLeaves_35 : decode cX9_layLeaves 35 = .ok (.istore_n 2, 1) := by decide +kernel
theorem dX9_layLeaves_36 : decode cX9_layLeaves 36 = .ok (.iload_n 2, 1) := by decide +kernel
theorem dX9_layLeaves_37 : decode cX9_layLeaves 37 = .ok (.bipush 6, 2) := by decide +kernel
theorem dX9_layLeaves_39 : decode cX9_layLeaves 39 = .ok (.if_icmp .ge 39, 3) := by decide +kernel
theorem dX9_layLeaves_42 : decode cX9_layLeaves 42 = .ok (.aload_n 0, 1) := by decide +kernel
theorem dX9_layLeaves_43 : decode cX9_layLeaves 43 = .ok (.getfield 73, 3) := by decide +kernel
theorem dX9_layLeaves_46 : decode cX9_layLeaves 46 = .ok (.bipush 6, 2) := by decide +kernel
theorem dX9_layLeaves_48 : decode cX9_layLeaves 48 = .ok (.iload_n 1, 1) := by decide +kernel
theorem dX9_layLeaves_49 : decode cX9_layLeaves 49 = .ok (.imul, 1) := by decide +kernel
theorem dX9_layLeaves_50 : decode cX9_layLeaves 50 = .ok (.iload_n 2, 1) := by decide +kernel
theorem dX9_layLeaves_51 : decode cX9_layLeaves 51 = .ok (.iadd, 1) := by decide +kernel
theorem dX9_layLeaves_52 : decode cX9_layLeaves 52 = .ok (.iload_n 2, 1) := by decide +kernel
theorem dX9_layLeaves_53 : decode cX9_layLeaves 53 = .ok (.aload_n 0, 1) := by decide +kernel
theorem dX9_layLeaves_54 : decode cX9_layLeaves 54 = .ok (.invokevirtual 176, 3) := by decide +kernel
theorem dX9_layLeaves_57 : decode cX9_layLeaves 57 = .ok (.if_icmp .ge 13, 3) := by decide +kernel
theorem dX9_layLeaves_60 : decode cX9_layLeaves 60 = .ok (.aload_n 0, 1) := by decide +kernel
theorem dX9_layLeaves_61 : decode cX9_layLeaves 61 = .ok (.getfield 67, 3) := by decide +kernel
theorem dX9_layLeaves_64 : decode cX9_layLeaves 64 = .ok (.iload_n 2, 1) := by decide +kernel
theorem dX9_layLeaves_65 : decode cX9_layLeaves 65 = .ok (.iaload, 1) := by decide +kernel
theorem dX9_layLeaves_66 : decode cX9_layLeaves 66 = .ok (.i2l, 1) := by decide +kernel
theorem dX9_layLeaves_67 : decode cX9_layLeaves 67 = .ok (.goto 4, 3) := by decide +kernel
theorem dX9_layLeaves_70 : decode cX9_layLeaves 70 = .ok (.lconst 0, 1) := by decide +kernel
theorem dX9_layLeaves_71 : decode cX9_layLeaves 71 = .ok (.lastore, 1) := by decide +kernel
theorem dX9_layLeaves_72 : decode cX9_layLeaves 72 = .ok (.iinc 2 1, 3) := by decide +kernel
theorem dX9_layLeaves_75 : decode cX9_layLeaves 75 = .ok (.goto (-39), 3) := by decide +kernel
theorem dX9_layLeaves_78 : decode cX9_layLeaves 78 = .ok (.iinc 1 1, 3) := by decide +kernel
theorem dX9_layLeaves_81 : decode cX9_layLeaves 81 = .ok (.goto (-66), 3) := by decide +kernel
theorem dX9_layLeaves_84 : decode cX9_layLeaves 84 = .ok (.aload_n 0, 1) := by decide +kernel
theorem dX9_layLeaves_85 : decode cX9_layLeaves 85 = .ok (.invokevirtual 250, 3) := by decide +kernel
theorem dX9_layLeaves_88 : decode cX9_layLeaves 88 = .ok (.return_, 1) := by decide +kernel
theorem dX9_mean_0 : decode cX9_mean 0 = .ok (.iload_n 3, 1) := by decide +kernel
theorem dX9_mean_1 : decode cX9_mean 1 = .ok (.i2l, 1) := by decide +kernel
theorem dX9_mean_2 : decode cX9_mean 2 = .ok (.aload_n 0, 1) := by decide +kernel
theorem dX9_mean_3 : decode cX9_mean 3 = .ok (.getfield 73, 3) := by decide +kernel
theorem dX9_mean_6 : decode cX9_mean 6 = .ok (.bipush 6, 2) := by decide +kernel
theorem dX9_mean_8 : decode cX9_mean 8 = .ok (.iconst 2, 1) := by decide +kernel
theorem dX9_mean_9 : decode cX9_mean 9 = .ok (.iload_n 1, 1) := by decide +kernel
theorem dX9_mean_10 : decode cX9_mean 10 = .ok (.imul, 1) := by decide +kernel
theorem dX9_mean_11 : decode cX9_mean 11 = .ok (.imul, 1) := by decide +kernel
theorem dX9_mean_12 : decode cX9_mean 12 = .ok (.iload_n 2, 1) := by decide +kernel
theorem dX9_mean_13 : decode cX9_mean 13 = .ok (.iadd, 1) := by decide +kernel
theorem dX9_mean_14 : decode cX9_mean 14 = .ok (.laload, 1) := by decide +kernel
theorem dX9_mean_15 : decode cX9_mean 15 = .ok (.lmul, 1) := by decide +kernel
theorem dX9_mean_16 : decode cX9_mean 16 = .ok (.bipush 16, 2) := by decide +kernel
theorem dX9_mean_18 : decode cX9_mean 18 = .ok (.iload_n 3, 1) := by decide +kernel
theorem dX9_mean_19 : decode cX9_mean 19 = .ok (.isub, 1) := by decide +kernel
theorem dX9_mean_20 : decode cX9_mean 20 = .ok (.i2l, 1) := by decide +kernel
theorem dX9_mean_21 : decode cX9_mean 21 = .ok (.aload_n 0, 1) := by decide +kernel
theorem dX9_mean_22 : decode cX9_mean 22 = .ok (.getfield 73, 3) := by decide +kernel
theorem dX9_mean_25 : decode cX9_mean 25 = .ok (.bipush 6, 2) := by decide +kernel
theorem dX9_mean_27 : decode cX9_mean 27 = .ok (.iconst 2, 1) := by decide +kernel
theorem dX9_mean_28 : decode cX9_mean 28 = .ok (.iload_n 1, 1) := by decide +kernel
theorem dX9_mean_29 : decode cX9_mean 29 = .ok (.imul, 1) := by decide +kernel
theorem dX9_mean_30 : decode cX9_mean 30 = .ok (.iconst 1, 1) := by decide +kernel
theorem dX9_mean_31 : decode cX9_mean 31 = .ok (.iadd, 1) := by decide +kernel
theorem dX9_mean_32 : decode cX9_mean 32 = .ok (.imul, 1) := by decide +kernel
theorem dX9_mean_33 : decode cX9_mean 33 = .ok (.iload_n 2, 1) := by decide +kernel
theorem dX9_mean_34 : decode cX9_mean 34 = .ok (.iadd, 1) := by decide +kernel
theorem dX9_mean_35 : decode cX9_mean 35 = .ok (.laload, 1) := by decide +kernel
theorem dX9_mean_36 : decode cX9_mean 36 = .ok (.lmul, 1) := by decide +kernel
theorem dX9_mean_37 : decode cX9_mean 37 = .ok (.ladd, 1) := by decide +kernel
theorem dX9_mean_38 : decode cX9_mean 38 = .ok (.lreturn, 1) := by decide +kernel
theorem dX9_findPair_0 : decode cX9_findPair 0 = .ok (.aload_n 0, 1) := by decide +kernel
theorem dX9_findPair_1 : decode cX9_findPair 1 = .ok (.iconst 0, 1) := by decide +kernel
theorem dX9_findPair_2 : decode cX9_findPair 2 = .ok (.putfield 286, 3) := by decide +kernel
theorem dX9_findPair_5 : decode cX9_findPair 5 = .ok (.aload_n 0, 1) := by decide +kernel
theorem dX9_findPair_6 : decode cX9_findPair 6 = .ok (.iconst 0, 1) := by decide +kernel
theorem dX9_findPair_7 : decode cX9_findPair 7 = .ok (.putfield 289, 3) := by decide +kernel
theorem dX9_findPair_10 : decode cX9_findPair 10 = .ok (.iconst 0, 1) := by decide +kernel
theorem dX9_findPair_11 : decode cX9_findPair 11 = .ok (.istore_n 3, 1) := by decide +kernel
theorem dX9_findPair_12 : decode cX9_findPair 12 = .ok (.iload_n 3, 1) := by decide +kernel
theorem dX9_findPair_13 : decode cX9_findPair 13 = .ok (.iconst 4, 1) := by decide +kernel
theorem dX9_findPair_14 : decode cX9_findPair 14 = .ok (.if_icmp .ge 137, 3) := by decide +kernel
theorem dX9_findPair_17 : decode cX9_findPair 17 = .ok (.aload_n 0, 1) := by decide +kernel
theorem dX9_findPair_18 : decode cX9_findPair 18 = .ok (.getfield 286, 3) := by decide +kernel
theorem dX9_findPair_21 : decode cX9_findPair 21 = .ok (.ifCond .ne 130, 3) := by decide +kernel
theorem dX9_findPair_24 : decode cX9_findPair 24 = .ok (.aload_n 0, 1) := by decide +kernel
theorem dX9_findPair_25 : decode cX9_findPair 25 = .ok (.iload_n 1, 1) := by decide +kernel
theorem dX9_findPair_26 : decode cX9_findPair 26 = .ok (.aload_n 0, 1) := by decide +kernel
theorem dX9_findPair_27 : decode cX9_findPair 27 = .ok (.getfield 34, 3) := by decide +kernel
theorem dX9_findPair_30 : decode cX9_findPair 30 = .ok (.iload_n 2, 1) := by decide +kernel
theorem dX9_findPair_31 : decode cX9_findPair 31 = .ok (.iaload, 1) := by decide +kernel
theorem dX9_findPair_32 : decode cX9_findPair 32 = .ok (.aload_n 0, 1) := by decide +kernel
theorem dX9_findPair_33 : decode cX9_findPair 33 = .ok (.iload_n 2, 1) := by decide +kernel
theorem dX9_findPair_34 : decode cX9_findPair 34 = .ok (.iload_n 3, 1) := by decide +kernel
theorem dX9_findPair_35 : decode cX9_findPair 35 = .ok (.invokevirtual 193, 3) := by decide +kernel
theorem dX9_findPair_38 : decode cX9_findPair 38 = .ok (.invokevirtual 292, 3) := by decide +kernel
theorem dX9_findPair_41 : decode cX9_findPair 41 = .ok (.lstore 4, 2) := by decide +kernel
theorem dX9_findPair_43 : decode cX9_findPair 43 = .ok (.aload_n 0, 1) := by decide +kernel
theorem dX9_findPair_44 : decode cX9_findPair 44 = .ok (.iload_n 1, 1) := by decide +kernel
theorem dX9_findPair_45 : decode cX9_findPair 45 = .ok (.aload_n 0, 1) := by decide +kernel
theorem dX9_findPair_46 : decode cX9_findPair 46 = .ok (.getfield 34, 3) := by decide +kernel
theorem dX9_findPair_49 : decode cX9_findPair 49 = .ok (.iload_n 2, 1) := by decide +kernel
theorem dX9_findPair_50 : decode cX9_findPair 50 = .ok (.iaload, 1) := by decide +kernel
theorem dX9_findPair_51 : decode cX9_findPair 51 = .ok (.aload_n 0, 1) := by decide +kernel
theorem dX9_findPair_52 : decode cX9_findPair 52 = .ok (.iload_n 2, 1) := by decide +kernel
theorem dX9_findPair_53 : decode cX9_findPair 53 = .ok (.iload_n 3, 1) := by decide +kernel
theorem dX9_findPair_54 : decode cX9_findPair 54 = .ok (.iconst 2, 1) := by decide +kernel
theorem dX9_findPair_55 : decode cX9_findPair 55 = .ok (.ixor, 1) := by decide +kernel
theorem dX9_findPair_56 : decode cX9_findPair 56 = .ok (.invokevirtual 193, 3) := by decide +kernel
theorem dX9_findPair_59 : decode cX9_findPair 59 = .ok (.invokevirtual 292, 3) := by decide +kernel
theorem dX9_findPair_62 : decode cX9_findPair 62 = .ok (.lstore 6, 2) := by decide +kernel
theorem dX9_findPair_64 : decode cX9_findPair 64 = .ok (.aload_n 0, 1) := by decide +kernel
theorem dX9_findPair_65 : decode cX9_findPair 65 = .ok (.iload_n 1, 1) := by decide +kernel
theorem dX9_findPair_66 : decode cX9_findPair 66 = .ok (.aload_n 0, 1) := by decide +kernel
theorem dX9_findPair_67 : decode cX9_findPair 67 = .ok (.getfield 37, 3) := by decide +kernel
theorem dX9_findPair_70 : decode cX9_findPair 70 = .ok (.iload_n 2, 1) := by decide +kernel
theorem dX9_findPair_71 : decode cX9_findPair 71 = .ok (.iaload, 1) := by decide +kernel
theorem dX9_findPair_72 : decode cX9_findPair 72 = .ok (.aload_n 0, 1) := by decide +kernel
theorem dX9_findPair_73 : decode cX9_findPair 73 = .ok (.iload_n 2, 1) := by decide +kernel
theorem dX9_findPair_74 : decode cX9_findPair 74 = .ok (.iload_n 3, 1) := by decide +kernel
theorem dX9_findPair_75 : decode cX9_findPair 75 = .ok (.invokevirtual 193, 3) := by decide +kernel
theorem dX9_findPair_78 : decode cX9_findPair 78 = .ok (.invokevirtual 292, 3) := by decide +kernel
theorem dX9_findPair_81 : decode cX9_findPair 81 = .ok (.lstore 8, 2) := by decide +kernel
theorem dX9_findPair_83 : decode cX9_findPair 83 = .ok (.aload_n 0, 1) := by decide +kernel
theorem dX9_findPair_84 : decode cX9_findPair 84 = .ok (.iload_n 1, 1) := by decide +kernel
theorem dX9_findPair_85 : decode cX9_findPair 85 = .ok (.aload_n 0, 1) := by decide +kernel
theorem dX9_findPair_86 : decode cX9_findPair 86 = .ok (.getfield 37, 3) := by decide +kernel
theorem dX9_findPair_89 : decode cX9_findPair 89 = .ok (.iload_n 2, 1) := by decide +kernel
theorem dX9_findPair_90 : decode cX9_findPair 90 = .ok (.iaload, 1) := by decide +kernel
theorem dX9_findPair_91 : decode cX9_findPair 91 = .ok (.aload_n 0, 1) := by decide +kernel
theorem dX9_findPair_92 : decode cX9_findPair 92 = .ok (.iload_n 2, 1) := by decide +kernel
theorem dX9_findPair_93 : decode cX9_findPair 93 = .ok (.iload_n 3, 1) := by decide +kernel
theorem dX9_findPair_94 : decode cX9_findPair 94 = .ok (.iconst 1, 1) := by decide +kernel
theorem dX9_findPair_95 : decode cX9_findPair 95 = .ok (.ixor, 1) := by decide +kernel
theorem dX9_findPair_96 : decode cX9_findPair 96 = .ok (.invokevirtual 193, 3) := by decide +kernel
theorem dX9_findPair_99 : decode cX9_findPair 99 = .ok (.invokevirtual 292, 3) := by decide +kernel
theorem dX9_findPair_102 : decode cX9_findPair 102 = .ok (.lstore 10, 2) := by decide +kernel
theorem dX9_findPair_104 : decode cX9_findPair 104 = .ok (.aload_n 0, 1) := by decide +kernel
theorem dX9_findPair_105 : decode cX9_findPair 105 = .ok (.lload 6, 2) := by decide +kernel
theorem dX9_findPair_107 : decode cX9_findPair 107 = .ok (.lload 4, 2) := by decide +kernel
theorem dX9_findPair_109 : decode cX9_findPair 109 = .ok (.lcmp, 1) := by decide +kernel
theorem dX9_findPair_110 : decode cX9_findPair 110 = .ok (.ifCond .gt 15, 3) := by decide +kernel
theorem dX9_findPair_113 : decode cX9_findPair 113 = .ok (.lload 10, 2) := by decide +kernel
theorem dX9_findPair_115 : decode cX9_findPair 115 = .ok (.lload 8, 2) := by decide +kernel
theorem dX9_findPair_117 : decode cX9_findPair 117 = .ok (.lcmp, 1) := by decide +kernel
theorem dX9_findPair_118 : decode cX9_findPair 118 = .ok (.ifCond .gt 7, 3) := by decide +kernel
theorem dX9_findPair_121 : decode cX9_findPair 121 = .ok (.iconst 1, 1) := by decide +kernel
theorem dX9_findPair_122 : decode cX9_findPair 122 = .ok (.goto 4, 3) := by decide +kernel
theorem dX9_findPair_125 : decode cX9_findPair 125 = .ok (.iconst 0, 1) := by decide +kernel
theorem dX9_findPair_126 : decode cX9_findPair 126 = .ok (.putfield 286, 3) := by decide +kernel
theorem dX9_findPair_129 : decode cX9_findPair 129 = .ok (.aload_n 0, 1) := by decide +kernel
theorem dX9_findPair_130 : decode cX9_findPair 130 = .ok (.aload_n 0, 1) := by decide +kernel
theorem dX9_findPair_131 : decode cX9_findPair 131 = .ok (.getfield 286, 3) := by decide +kernel
theorem dX9_findPair_134 : decode cX9_findPair 134 = .ok (.ifCond .eq 7, 3) := by decide +kernel
theorem dX9_findPair_137 : decode cX9_findPair 137 = .ok (.iload_n 3, 1) := by decide +kernel
theorem dX9_findPair_138 : decode cX9_findPair 138 = .ok (.goto 4, 3) := by decide +kernel
theorem dX9_findPair_141 : decode cX9_findPair 141 = .ok (.iconst 0, 1) := by decide +kernel
theorem dX9_findPair_142 : decode cX9_findPair 142 = .ok (.putfield 289, 3) := by decide +kernel
theorem dX9_findPair_145 : decode cX9_findPair 145 = .ok (.iinc 3 1, 3) := by decide +kernel
theorem dX9_findPair_148 : decode cX9_findPair 148 = .ok (.goto (-136), 3) := by decide +kernel
theorem dX9_findPair_151 : decode cX9_findPair 151 = .ok (.return_, 1) := by decide +kernel
theorem dX9_layBack_0 : decode cX9_layBack 0 = .ok (.aload_n 0, 1) := by decide +kernel
theorem dX9_layBack_1 : decode cX9_layBack 1 = .ok (.invokevirtual 296, 3) := by decide +kernel
theorem dX9_layBack_4 : decode cX9_layBack 4 = .ok (.aload_n 0, 1) := by decide +kernel
theorem dX9_layBack_5 : decode cX9_layBack 5 = .ok (.getfield 241, 3) := by decide +kernel
theorem dX9_layBack_8 : decode cX9_layBack 8 = .ok (.iconst 1, 1) := by decide +kernel
theorem dX9_layBack_9 : decode cX9_layBack 9 = .ok (.isub, 1) := by decide +kernel
theorem dX9_layBack_10 : decode cX9_layBack 10 = .ok (.istore_n 2, 1) := by decide +kernel
theorem dX9_layBack_11 : decode cX9_layBack 11 = .ok (.iload_n 2, 1) := by decide +kernel
theorem dX9_layBack_12 : decode cX9_layBack 12 = .ok (.ifCond .lt 117, 3) := by decide +kernel
theorem dX9_layBack_15 : decode cX9_layBack 15 = .ok (.aload_n 0, 1) := by decide +kernel
theorem dX9_layBack_16 : decode cX9_layBack 16 = .ok (.getfield 70, 3) := by decide +kernel
theorem dX9_layBack_19 : decode cX9_layBack 19 = .ok (.iload_n 2, 1) := by decide +kernel
theorem dX9_layBack_20 : decode cX9_layBack 20 = .ok (.iaload, 1) := by decide +kernel
theorem dX9_layBack_21 : decode cX9_layBack 21 = .ok (.istore_n 3, 1) := by decide +kernel
theorem dX9_layBack_22 : decode cX9_layBack 22 = .ok (.iconst 0, 1) := by decide +kernel
theorem dX9_layBack_23 : decode cX9_layBack 23 = .ok (.istore 4, 2) := by decide +kernel
theorem dX9_layBack_25 : decode cX9_layBack 25 = .ok (.iload 4, 2) := by decide +kernel
theorem dX9_layBack_27 : decode cX9_layBack 27 = .ok (.iconst 1, 1) := by decide +kernel
theorem dX9_layBack_28 : decode cX9_layBack 28 = .ok (.iload_n 2, 1) := by decide +kernel
theorem dX9_layBack_29 : decode cX9_layBack 29 = .ok (.ishl, 1) := by decide +kernel
theorem dX9_layBack_30 : decode cX9_layBack 30 = .ok (.if_icmp .ge 81, 3) := by decide +kernel
theorem dX9_layBack_33 : decode cX9_layBack 33 = .ok (.aload_n 0, 1) := by decide +kernel
theorem dX9_layBack_34 : decode cX9_layBack 34 = .ok (.iconst 0, 1) := by decide +kernel
theorem dX9_layBack_35 : decode cX9_layBack 35 = .ok (.putfield 289, 3) := by decide +kernel
theorem dX9_layBack_38 : decode cX9_layBack 38 = .ok (.iload_n 1, 1) := by decide +kernel
theorem dX9_layBack_39 : decode cX9_layBack 39 = .ok (.ifCond .eq 13, 3) := by decide +kernel
theorem dX9_layBack_42 : decode cX9_layBack 42 = .ok (.aload_n 0, 1) := by decide +kernel
theorem dX9_layBack_43 : decode cX9_layBack 43 = .ok (.iload 4, 2) := by decide +kernel
theorem dX9_layBack_45 : decode cX9_layBack 45 = .ok (.iload_n 3, 1) := by decide +kernel
theorem dX9_layBack_46 : decode cX9_layBack 46 = .ok (.invokevirtual 299, 3) := by decide +kernel
theorem dX9_layBack_49 : decode cX9_layBack 49 = .ok (.goto 10, 3) := by decide +kernel
theorem dX9_layBack_52 : decode cX9_layBack 52 = .ok (.aload_n 0, 1) := by decide +kernel
theorem dX9_layBack_53 : decode cX9_layBack 53 = .ok (.iload 4, 2) := by decide +kernel
theorem dX9_layBack_55 : decode cX9_layBack 55 = .ok (.iload_n 3, 1) := by decide +kernel
theorem dX9_layBack_56 : decode cX9_layBack 56 = .ok (.invokevirtual 302, 3) := by decide +kernel
theorem dX9_layBack_59 : decode cX9_layBack 59 = .ok (.iconst 0, 1) := by decide +kernel
theorem dX9_layBack_60 : decode cX9_layBack 60 = .ok (.istore 5, 2) := by decide +kernel
theorem dX9_layBack_62 : decode cX9_layBack 62 = .ok (.iload 5, 2) := by decide +kernel
theorem dX9_layBack_64 : decode cX9_layBack 64 = .ok (.bipush 6, 2) := by decide +kernel
theorem dX9_layBack_66 : decode cX9_layBack 66 = .ok (.if_icmp .ge 39, 3) := by decide +kernel
theorem dX9_layBack_69 : decode cX9_layBack 69 = .ok (.aload_n 0, 1) := by decide +kernel
theorem dX9_layBack_70 : decode cX9_layBack 70 = .ok (.getfield 73, 3) := by decide +kernel
theorem dX9_layBack_73 : decode cX9_layBack 73 = .ok (.bipush 6, 2) := by decide +kernel
theorem dX9_layBack_75 : decode cX9_layBack 75 = .ok (.iload 4, 2) := by decide +kernel
theorem dX9_layBack_77 : decode cX9_layBack 77 = .ok (.imul, 1) := by decide +kernel
theorem dX9_layBack_78 : decode cX9_layBack 78 = .ok (.iload 5, 2) := by decide +kernel
theorem dX9_layBack_80 : decode cX9_layBack 80 = .ok (.iadd, 1) := by decide +kernel
theorem dX9_layBack_81 : decode cX9_layBack 81 = .ok (.aload_n 0, 1) := by decide +kernel
theorem dX9_layBack_82 : decode cX9_layBack 82 = .ok (.iload 4, 2) := by decide +kernel
theorem dX9_layBack_84 : decode cX9_layBack 84 = .ok (.iload 5, 2) := by decide +kernel
theorem dX9_layBack_86 : decode cX9_layBack 86 = .ok (.aload_n 0, 1) := by decide +kernel
theorem dX9_layBack_87 : decode cX9_layBack 87 = .ok (.iload_n 3, 1) := by decide +kernel
theorem dX9_layBack_88 : decode cX9_layBack 88 = .ok (.aload_n 0, 1) := by decide +kernel
theorem dX9_layBack_89 : decode cX9_layBack 89 = .ok (.getfield 289, 3) := by decide +kernel
theorem dX9_layBack_92 : decode cX9_layBack 92 = .ok (.invokevirtual 193, 3) := by decide +kernel
theorem dX9_layBack_95 : decode cX9_layBack 95 = .ok (.invokevirtual 292, 3) := by decide +kernel
theorem dX9_layBack_98 : decode cX9_layBack 98 = .ok (.lastore, 1) := by decide +kernel
theorem dX9_layBack_99 : decode cX9_layBack 99 = .ok (.iinc 5 1, 3) := by decide +kernel
theorem dX9_layBack_102 : decode cX9_layBack 102 = .ok (.goto (-40), 3) := by decide +kernel
theorem dX9_layBack_105 : decode cX9_layBack 105 = .ok (.iinc 4 1, 3) := by decide +kernel
theorem dX9_layBack_108 : decode cX9_layBack 108 = .ok (.goto (-83), 3) := by decide +kernel
theorem dX9_layBack_111 : decode cX9_layBack 111 = .ok (.aload_n 0, 1) := by decide +kernel
theorem dX9_layBack_112 : decode cX9_layBack 112 = .ok (.dup, 1) := by decide +kernel
theorem dX9_layBack_113 : decode cX9_layBack 113 = .ok (.getfield 283, 3) := by decide +kernel
theorem dX9_layBack_116 : decode cX9_layBack 116 = .ok (.ldc2_w 253, 3) := by decide +kernel
theorem dX9_layBack_119 : decode cX9_layBack 119 = .ok (.lmul, 1) := by decide +kernel
theorem dX9_layBack_120 : decode cX9_layBack 120 = .ok (.putfield 283, 3) := by decide +kernel
theorem dX9_layBack_123 : decode cX9_layBack 123 = .ok (.iinc 2 (-1), 3) := by decide +kernel
theorem dX9_layBack_126 : decode cX9_layBack 126 = .ok (.goto (-115), 3) := by decide +kernel
theorem dX9_layBack_129 : decode cX9_layBack 129 = .ok (.return_, 1) := by decide +kernel
theorem dX9_lookAt_0 : decode cX9_lookAt 0 = .ok (.aload_n 0, 1) := by decide +kernel
theorem dX9_lookAt_1 : decode cX9_lookAt 1 = .ok (.dup, 1) := by decide +kernel
theorem dX9_lookAt_2 : decode cX9_lookAt 2 = .ok (.getfield 305, 3) := by decide +kernel
theorem dX9_lookAt_5 : decode cX9_lookAt 5 = .ok (.iconst 1, 1) := by decide +kernel
theorem dX9_lookAt_6 : decode cX9_lookAt 6 = .ok (.iadd, 1) := by decide +kernel
theorem dX9_lookAt_7 : decode cX9_lookAt 7 = .ok (.putfield 305, 3) := by decide +kernel
theorem dX9_lookAt_10 : decode cX9_lookAt 10 = .ok (.aload_n 0, 1) := by decide +kernel
theorem dX9_lookAt_11 : decode cX9_lookAt 11 = .ok (.getfield 34, 3) := by decide +kernel
theorem dX9_lookAt_14 : decode cX9_lookAt 14 = .ok (.iload_n 2, 1) := by decide +kernel
theorem dX9_lookAt_15 : decode cX9_lookAt 15 = .ok (.iaload, 1) := by decide +kernel
theorem dX9_lookAt_16 : decode cX9_lookAt 16 = .ok (.istore_n 3, 1) := by decide +kernel
theorem dX9_lookAt_17 : decode cX9_lookAt 17 = .ok (.aload_n 0, 1) := by decide +kernel
theorem dX9_lookAt_18 : decode cX9_lookAt 18 = .ok (.getfield 37, 3) := by decide +kernel
theorem dX9_lookAt_21 : decode cX9_lookAt 21 = .ok (.iload_n 2, 1) := by decide +kernel
theorem dX9_lookAt_22 : decode cX9_lookAt 22 = .ok (.iaload, 1) := by decide +kernel
theorem dX9_lookAt_23 : decode cX9_lookAt 23 = .ok (.istore 4, 2) := by decide +kernel
theorem dX9_lookAt_25 : decode cX9_lookAt 25 = .ok (.iconst 0, 1) := by decide +kernel
theorem dX9_lookAt_26 : decode cX9_lookAt 26 = .ok (.istore 5, 2) := by decide +kernel
theorem dX9_lookAt_28 : decode cX9_lookAt 28 = .ok (.iload 5, 2) := by decide +kernel
theorem dX9_lookAt_30 : decode cX9_lookAt 30 = .ok (.aload_n 0, 1) := by decide +kernel
theorem dX9_lookAt_31 : decode cX9_lookAt 31 = .ok (.getfield 73, 3) := by decide +kernel
theorem dX9_lookAt_34 : decode cX9_lookAt 34 = .ok (.bipush 6, 2) := by decide +kernel
theorem dX9_lookAt_36 : decode cX9_lookAt 36 = .ok (.iconst 2, 1) := by decide +kernel
theorem dX9_lookAt_37 : decode cX9_lookAt 37 = .ok (.iload_n 1, 1) := by decide +kernel
theorem dX9_lookAt_38 : decode cX9_lookAt 38 = .ok (.imul, 1) := by decide +kernel
theorem dX9_lookAt_39 : decode cX9_lookAt 39 = .ok (.iconst 1, 1) := by decide +kernel
theorem dX9_lookAt_40 : decode cX9_lookAt 40 = .ok (.iadd, 1) := by decide +kernel
theorem dX9_lookAt_41 : decode cX9_lookAt 41 = .ok (.imul, 1) := by decide +kernel
theorem dX9_lookAt_42 : decode cX9_lookAt 42 = .ok (.iload_n 3, 1) := by decide +kernel
theorem dX9_lookAt_43 : decode cX9_lookAt 43 = .ok (.iadd, 1) := by decide +kernel
theorem dX9_lookAt_44 : decode cX9_lookAt 44 = .ok (.laload, 1) := by decide +kernel
theorem dX9_lookAt_45 : decode cX9_lookAt 45 = .ok (.aload_n 0, 1) := by decide +kernel
theorem dX9_lookAt_46 : decode cX9_lookAt 46 = .ok (.getfield 73, 3) := by decide +kernel
theorem dX9_lookAt_49 : decode cX9_lookAt 49 = .ok (.bipush 6, 2) := by decide +kernel
theorem dX9_lookAt_51 : decode cX9_lookAt 51 = .ok (.iconst 2, 1) := by decide +kernel
theorem dX9_lookAt_52 : decode cX9_lookAt 52 = .ok (.iload_n 1, 1) := by decide +kernel
theorem dX9_lookAt_53 : decode cX9_lookAt 53 = .ok (.imul, 1) := by decide +kernel
theorem dX9_lookAt_54 : decode cX9_lookAt 54 = .ok (.imul, 1) := by decide +kernel
theorem dX9_lookAt_55 : decode cX9_lookAt 55 = .ok (.iload_n 3, 1) := by decide +kernel
theorem dX9_lookAt_56 : decode cX9_lookAt 56 = .ok (.iadd, 1) := by decide +kernel
theorem dX9_lookAt_57 : decode cX9_lookAt 57 = .ok (.laload, 1) := by decide +kernel
theorem dX9_lookAt_58 : decode cX9_lookAt 58 = .ok (.lcmp, 1) := by decide +kernel
theorem dX9_lookAt_59 : decode cX9_lookAt 59 = .ok (.ifCond .le 7, 3) := by decide +kernel
theorem dX9_lookAt_62 : decode cX9_lookAt 62 = .ok (.iconst 1, 1) := by decide +kernel
theorem dX9_lookAt_63 : decode cX9_lookAt 63 = .ok (.goto 4, 3) := by decide +kernel
theorem dX9_lookAt_66 : decode cX9_lookAt 66 = .ok (.iconst 0, 1) := by decide +kernel
theorem dX9_lookAt_67 : decode cX9_lookAt 67 = .ok (.iadd, 1) := by decide +kernel
theorem dX9_lookAt_68 : decode cX9_lookAt 68 = .ok (.istore 5, 2) := by decide +kernel
theorem dX9_lookAt_70 : decode cX9_lookAt 70 = .ok (.iload 5, 2) := by decide +kernel
theorem dX9_lookAt_72 : decode cX9_lookAt 72 = .ok (.aload_n 0, 1) := by decide +kernel
theorem dX9_lookAt_73 : decode cX9_lookAt 73 = .ok (.getfield 73, 3) := by decide +kernel
theorem dX9_lookAt_76 : decode cX9_lookAt 76 = .ok (.bipush 6, 2) := by decide +kernel
theorem dX9_lookAt_78 : decode cX9_lookAt 78 = .ok (.iconst 2, 1) := by decide +kernel
theorem dX9_lookAt_79 : decode cX9_lookAt 79 = .ok (.iload_n 1, 1) := by decide +kernel
theorem dX9_lookAt_80 : decode cX9_lookAt 80 = .ok (.imul, 1) := by decide +kernel
theorem dX9_lookAt_81 : decode cX9_lookAt 81 = .ok (.imul, 1) := by decide +kernel
theorem dX9_lookAt_82 : decode cX9_lookAt 82 = .ok (.iload 4, 2) := by decide +kernel
theorem dX9_lookAt_84 : decode cX9_lookAt 84 = .ok (.iadd, 1) := by decide +kernel
theorem dX9_lookAt_85 : decode cX9_lookAt 85 = .ok (.laload, 1) := by decide +kernel
theorem dX9_lookAt_86 : decode cX9_lookAt 86 = .ok (.aload_n 0, 1) := by decide +kernel
theorem dX9_lookAt_87 : decode cX9_lookAt 87 = .ok (.getfield 73, 3) := by decide +kernel
theorem dX9_lookAt_90 : decode cX9_lookAt 90 = .ok (.bipush 6, 2) := by decide +kernel
theorem dX9_lookAt_92 : decode cX9_lookAt 92 = .ok (.iconst 2, 1) := by decide +kernel
theorem dX9_lookAt_93 : decode cX9_lookAt 93 = .ok (.iload_n 1, 1) := by decide +kernel
theorem dX9_lookAt_94 : decode cX9_lookAt 94 = .ok (.imul, 1) := by decide +kernel
theorem dX9_lookAt_95 : decode cX9_lookAt 95 = .ok (.iconst 1, 1) := by decide +kernel
theorem dX9_lookAt_96 : decode cX9_lookAt 96 = .ok (.iadd, 1) := by decide +kernel
theorem dX9_lookAt_97 : decode cX9_lookAt 97 = .ok (.imul, 1) := by decide +kernel
theorem dX9_lookAt_98 : decode cX9_lookAt 98 = .ok (.iload 4, 2) := by decide +kernel
theorem dX9_lookAt_100 : decode cX9_lookAt 100 = .ok (.iadd, 1) := by decide +kernel
theorem dX9_lookAt_101 : decode cX9_lookAt 101 = .ok (.laload, 1) := by decide +kernel
theorem dX9_lookAt_102 : decode cX9_lookAt 102 = .ok (.lcmp, 1) := by decide +kernel
theorem dX9_lookAt_103 : decode cX9_lookAt 103 = .ok (.ifCond .le 7, 3) := by decide +kernel
theorem dX9_lookAt_106 : decode cX9_lookAt 106 = .ok (.iconst 1, 1) := by decide +kernel
theorem dX9_lookAt_107 : decode cX9_lookAt 107 = .ok (.goto 4, 3) := by decide +kernel
theorem dX9_lookAt_110 : decode cX9_lookAt 110 = .ok (.iconst 0, 1) := by decide +kernel
theorem dX9_lookAt_111 : decode cX9_lookAt 111 = .ok (.iadd, 1) := by decide +kernel
theorem dX9_lookAt_112 : decode cX9_lookAt 112 = .ok (.istore 5, 2) := by decide +kernel
theorem dX9_lookAt_114 : decode cX9_lookAt 114 = .ok (.aload_n 0, 1) := by decide +kernel
theorem dX9_lookAt_115 : decode cX9_lookAt 115 = .ok (.dup, 1) := by decide +kernel
theorem dX9_lookAt_116 : decode cX9_lookAt 116 = .ok (.getfield 308, 3) := by decide +kernel
theorem dX9_lookAt_119 : decode cX9_lookAt 119 = .ok (.iload 5, 2) := by decide +kernel
theorem dX9_lookAt_121 : decode cX9_lookAt 121 = .ok (.iadd, 1) := by decide +kernel
theorem dX9_lookAt_122 : decode cX9_lookAt 122 = .ok (.putfield 308, 3) := by decide +kernel
theorem dX9_lookAt_125 : decode cX9_lookAt 125 = .ok (.aload_n 0, 1) := by decide +kernel
theorem dX9_lookAt_126 : decode cX9_lookAt 126 = .ok (.iload 5, 2) := by decide +kernel
theorem dX9_lookAt_128 : decode cX9_lookAt 128 = .ok (.ifCond .le 7, 3) := by decide +kernel
theorem dX9_lookAt_131 : decode cX9_lookAt 131 = .ok (.iload_n 2, 1) := by decide +kernel
theorem dX9_lookAt_132 : decode cX9_lookAt 132 = .ok (.goto 7, 3) := by decide +kernel
theorem dX9_lookAt_135 : decode cX9_lookAt 135 = .ok (.aload_n 0, 1) := by decide +kernel
theorem dX9_lookAt_136 : decode cX9_lookAt 136 = .ok (.getfield 311, 3) := by decide +kernel
theorem dX9_lookAt_139 : decode cX9_lookAt 139 = .ok (.putfield 311, 3) := by decide +kernel
theorem dX9_lookAt_142 : decode cX9_lookAt 142 = .ok (.return_, 1) := by decide +kernel
theorem dX9_play_0 : decode cX9_play 0 = .ok (.iload_n 1, 1) := by decide +kernel
theorem dX9_play_1 : decode cX9_play 1 = .ok (.i2l, 1) := by decide +kernel
theorem dX9_play_2 : decode cX9_play 2 = .ok (.lconst 0, 1) := by decide +kernel
theorem dX9_play_3 : decode cX9_play 3 = .ok (.ldc2_w 196, 3) := by decide +kernel
theorem dX9_play_6 : decode cX9_play 6 = .ok (.invokestatic 96, 3) := by decide +kernel
theorem dX9_play_9 : decode cX9_play 9 = .ok (.ifCond .ne 5, 3) := by decide +kernel
theorem dX9_play_12 : decode cX9_play 12 = .ok (.iconst (-1), 1) := by decide +kernel
theorem dX9_play_13 : decode cX9_play 13 = .ok (.ireturn, 1) := by decide +kernel
theorem dX9_play_14 : decode cX9_play 14 = .ok (.aload_n 0, 1) := by decide +kernel
theorem dX9_play_15 : decode cX9_play 15 = .ok (.invokevirtual 231, 3) := by decide +kernel
theorem dX9_play_18 : decode cX9_play 18 = .ok (.istore_n 2, 1) := by decide +kernel
theorem dX9_play_19 : decode cX9_play 19 = .ok (.iload_n 2, 1) := by decide +kernel
theorem dX9_play_20 : decode cX9_play 20 = .ok (.iconst 5, 1) := by decide +kernel
theorem dX9_play_21 : decode cX9_play 21 = .ok (.if_icmp .gt 7, 3) := by decide +kernel
theorem dX9_play_24 : decode cX9_play 24 = .ok (.iload_n 2, 1) := by decide +kernel
theorem dX9_play_25 : decode cX9_play 25 = .ok (.ifCond .ne 6, 3) := by decide +kernel
theorem dX9_play_28 : decode cX9_play 28 = .ok (.bipush (-2), 2) := by decide +kernel
theorem dX9_play_30 : decode cX9_play 30 = .ok (.ireturn, 1) := by decide +kernel
theorem dX9_play_31 : decode cX9_play 31 = .ok (.aload_n 0, 1) := by decide +kernel
theorem dX9_play_32 : decode cX9_play 32 = .ok (.iconst 1, 1) := by decide +kernel
theorem dX9_play_33 : decode cX9_play 33 = .ok (.invokevirtual 314, 3) := by decide +kernel
theorem dX9_play_36 : decode cX9_play 36 = .ok (.iload_n 1, 1) := by decide +kernel
theorem dX9_play_37 : decode cX9_play 37 = .ok (.ifCond .ne 10, 3) := by decide +kernel
theorem dX9_play_40 : decode cX9_play 40 = .ok (.aload_n 0, 1) := by decide +kernel
theorem dX9_play_41 : decode cX9_play 41 = .ok (.getfield 289, 3) := by decide +kernel
theorem dX9_play_44 : decode cX9_play 44 = .ok (.goto 29, 3) := by decide +kernel
theorem dX9_play_47 : decode cX9_play 47 = .ok (.iload_n 1, 1) := by decide +kernel
theorem dX9_play_48 : decode cX9_play 48 = .ok (.iconst 1, 1) := by decide +kernel
theorem dX9_play_49 : decode cX9_play 49 = .ok (.if_icmp .ne 18, 3) := by decide +kernel
theorem dX9_play_52 : decode cX9_play 52 = .ok (.aload_n 0, 1) := by decide +kernel
theorem dX9_play_53 : decode cX9_play 53 = .ok (.getfield 286, 3) := by decide +kernel
theorem dX9_play_56 : decode cX9_play 56 = .ok (.ifCond .eq 7, 3) := by decide +kernel
theorem dX9_play_59 : decode cX9_play 59 = .ok (.iconst 1, 1) := by decide +kernel
theorem dX9_play_60 : decode cX9_play 60 = .ok (.goto 13, 3) := by decide +kernel
theorem dX9_play_63 : decode cX9_play 63 = .ok (.iconst 0, 1) := by decide +kernel
theorem dX9_play_64 : decode cX9_play 64 = .ok (.goto 9, 3) := by decide +kernel
theorem dX9_play_67 : decode cX9_play 67 = .ok (.aload_n 0, 1) := by decide +kernel
theorem dX9_play_68 : decode cX9_play 68 = .ok (.getfield 70, 3) := by decide +kernel
theorem dX9_play_71 : decode cX9_play 71 = .ok (.iconst 0, 1) := by decide +kernel
theorem dX9_play_72 : decode cX9_play 72 = .ok (.iaload, 1) := by decide +kernel
theorem dX9_play_73 : decode cX9_play 73 = .ok (.ireturn, 1) := by decide +kernel
theorem dX9_played_0 : decode cX9_played 0 = .ok (.aload_n 0, 1) := by decide +kernel
theorem dX9_played_1 : decode cX9_played 1 = .ok (.iload_n 1, 1) := by decide +kernel
theorem dX9_played_2 : decode cX9_played 2 = .ok (.invokevirtual 180, 3) := by decide +kernel
theorem dX9_played_5 : decode cX9_played 5 = .ok (.ifCond .eq 13, 3) := by decide +kernel
theorem dX9_played_8 : decode cX9_played 8 = .ok (.iload_n 2, 1) := by decide +kernel
theorem dX9_played_9 : decode cX9_played 9 = .ok (.i2l, 1) := by decide +kernel
theorem dX9_played_10 : decode cX9_played 10 = .ok (.lconst 0, 1) := by decide +kernel
theorem dX9_played_11 : decode cX9_played 11 = .ok (.lconst 1, 1) := by decide +kernel
theorem dX9_played_12 : decode cX9_played 12 = .ok (.invokestatic 96, 3) := by decide +kernel
theorem dX9_played_15 : decode cX9_played 15 = .ok (.ifCond .ne 7, 3) := by decide +kernel
theorem dX9_played_18 : decode cX9_played 18 = .ok (.ldc2_w 266, 3) := by decide +kernel
theorem dX9_played_21 : decode cX9_played 21 = .ok (.lreturn, 1) := by decide +kernel
theorem dX9_played_22 : decode cX9_played 22 = .ok (.aload_n 0, 1) := by decide +kernel
theorem dX9_played_23 : decode cX9_played 23 = .ok (.invokevirtual 231, 3) := by decide +kernel
theorem dX9_played_26 : decode cX9_played 26 = .ok (.iconst 5, 1) := by decide +kernel
theorem dX9_played_27 : decode cX9_played 27 = .ok (.if_icmp .le 7, 3) := by decide +kernel
theorem dX9_played_30 : decode cX9_played 30 = .ok (.ldc2_w 268, 3) := by decide +kernel
theorem dX9_played_33 : decode cX9_played 33 = .ok (.lreturn, 1) := by decide +kernel
theorem dX9_played_34 : decode cX9_played 34 = .ok (.aload_n 0, 1) := by decide +kernel
theorem dX9_played_35 : decode cX9_played 35 = .ok (.iconst 1, 1) := by decide +kernel
theorem dX9_played_36 : decode cX9_played 36 = .ok (.invokevirtual 314, 3) := by decide +kernel
theorem dX9_played_39 : decode cX9_played 39 = .ok (.aload_n 0, 1) := by decide +kernel
theorem dX9_played_40 : decode cX9_played 40 = .ok (.getfield 73, 3) := by decide +kernel
theorem dX9_played_43 : decode cX9_played 43 = .ok (.iload_n 1, 1) := by decide +kernel
theorem dX9_played_44 : decode cX9_played 44 = .ok (.laload, 1) := by decide +kernel
theorem dX9_played_45 : decode cX9_played 45 = .ok (.aload_n 0, 1) := by decide +kernel
theorem dX9_played_46 : decode cX9_played 46 = .ok (.getfield 283, 3) := by decide +kernel
theorem dX9_played_49 : decode cX9_played 49 = .ok (.iload_n 2, 1) := by decide +kernel
theorem dX9_played_50 : decode cX9_played 50 = .ok (.invokestatic 237, 3) := by decide +kernel
theorem dX9_played_53 : decode cX9_played 53 = .ok (.lreturn, 1) := by decide +kernel
theorem dX9_pays_0 : decode cX9_pays 0 = .ok (.iload_n 1, 1) := by decide +kernel
theorem dX9_pays_1 : decode cX9_pays 1 = .ok (.i2l, 1) := by decide +kernel
theorem dX9_pays_2 : decode cX9_pays 2 = .ok (.lconst 0, 1) := by decide +kernel
theorem dX9_pays_3 : decode cX9_pays 3 = .ok (.ldc2_w 196, 3) := by decide +kernel
theorem dX9_pays_6 : decode cX9_pays 6 = .ok (.invokestatic 96, 3) := by decide +kernel
theorem dX9_pays_9 : decode cX9_pays 9 = .ok (.ifCond .ne 5, 3) := by decide +kernel
theorem dX9_pays_12 : decode cX9_pays 12 = .ok (.iconst (-1), 1) := by decide +kernel
theorem dX9_pays_13 : decode cX9_pays 13 = .ok (.ireturn, 1) := by decide +kernel
theorem dX9_pays_14 : decode cX9_pays 14 = .ok (.aload_n 0, 1) := by decide +kernel
theorem dX9_pays_15 : decode cX9_pays 15 = .ok (.invokevirtual 231, 3) := by decide +kernel
theorem dX9_pays_18 : decode cX9_pays 18 = .ok (.bipush 7, 2) := by decide +kernel
theorem dX9_pays_20 : decode cX9_pays 20 = .ok (.if_icmp .le 6, 3) := by decide +kernel
theorem dX9_pays_23 : decode cX9_pays 23 = .ok (.bipush (-2), 2) := by decide +kernel
theorem dX9_pays_25 : decode cX9_pays 25 = .ok (.ireturn, 1) := by decide +kernel
theorem dX9_pays_26 : decode cX9_pays 26 = .ok (.aload_n 0, 1) := by decide +kernel
theorem dX9_pays_27 : decode cX9_pays 27 = .ok (.iconst 0, 1) := by decide +kernel
theorem dX9_pays_28 : decode cX9_pays 28 = .ok (.putfield 305, 3) := by decide +kernel
theorem dX9_pays_31 : decode cX9_pays 31 = .ok (.aload_n 0, 1) := by decide +kernel
theorem dX9_pays_32 : decode cX9_pays 32 = .ok (.iconst 0, 1) := by decide +kernel
theorem dX9_pays_33 : decode cX9_pays 33 = .ok (.putfield 308, 3) := by decide +kernel
theorem dX9_pays_36 : decode cX9_pays 36 = .ok (.aload_n 0, 1) := by decide +kernel
theorem dX9_pays_37 : decode cX9_pays 37 = .ok (.bipush (-4), 2) := by decide +kernel
theorem dX9_pays_39 : decode cX9_pays 39 = .ok (.putfield 311, 3) := by decide +kernel
theorem dX9_pays_42 : decode cX9_pays 42 = .ok (.aload_n 0, 1) := by decide +kernel
theorem dX9_pays_43 : decode cX9_pays 43 = .ok (.iconst 0, 1) := by decide +kernel
theorem dX9_pays_44 : decode cX9_pays 44 = .ok (.invokevirtual 314, 3) := by decide +kernel
theorem dX9_pays_47 : decode cX9_pays 47 = .ok (.iload_n 1, 1) := by decide +kernel
theorem dX9_pays_48 : decode cX9_pays 48 = .ok (.ifCond .ne 10, 3) := by decide +kernel
theorem dX9_pays_51 : decode cX9_pays 51 = .ok (.aload_n 0, 1) := by decide +kernel
theorem dX9_pays_52 : decode cX9_pays 52 = .ok (.getfield 308, 3) := by decide +kernel
theorem dX9_pays_55 : decode cX9_pays 55 = .ok (.goto 19, 3) := by decide +kernel
theorem dX9_pays_58 : decode cX9_pays 58 = .ok (.iload_n 1, 1) := by decide +kernel
theorem dX9_pays_59 : decode cX9_pays 59 = .ok (.iconst 1, 1) := by decide +kernel
theorem dX9_pays_60 : decode cX9_pays 60 = .ok (.if_icmp .ne 10, 3) := by decide +kernel
theorem dX9_pays_63 : decode cX9_pays 63 = .ok (.aload_n 0, 1) := by decide +kernel
theorem dX9_pays_64 : decode cX9_pays 64 = .ok (.getfield 311, 3) := by decide +kernel
theorem dX9_pays_67 : decode cX9_pays 67 = .ok (.goto 7, 3) := by decide +kernel
theorem dX9_pays_70 : decode cX9_pays 70 = .ok (.aload_n 0, 1) := by decide +kernel
theorem dX9_pays_71 : decode cX9_pays 71 = .ok (.getfield 305, 3) := by decide +kernel
theorem dX9_pays_74 : decode cX9_pays 74 = .ok (.ireturn, 1) := by decide +kernel
theorem dX9_drawOf_0 : decode cX9_drawOf 0 = .ok (.aload_n 0, 1) := by decide +kernel
theorem dX9_drawOf_1 : decode cX9_drawOf 1 = .ok (.aload_n 0, 1) := by decide +kernel
theorem dX9_drawOf_2 : decode cX9_drawOf 2 = .ok (.getfield 318, 3) := by decide +kernel
theorem dX9_drawOf_5 : decode cX9_drawOf 5 = .ok (.ldc_w 321, 3) := by decide +kernel
theorem dX9_drawOf_8 : decode cX9_drawOf 8 = .ok (.imul, 1) := by decide +kernel
theorem dX9_drawOf_9 : decode cX9_drawOf 9 = .ok (.sipush 12345, 3) := by decide +kernel
theorem dX9_drawOf_12 : decode cX9_drawOf 12 = .ok (.iadd, 1) := by decide +kernel
theorem dX9_drawOf_13 : decode cX9_drawOf 13 = .ok (.putfield 318, 3) := by decide +kernel
theorem dX9_drawOf_16 : decode cX9_drawOf 16 = .ok (.aload_n 0, 1) := by decide +kernel
theorem dX9_drawOf_17 : decode cX9_drawOf 17 = .ok (.getfield 318, 3) := by decide +kernel
theorem dX9_drawOf_20 : decode cX9_drawOf 20 = .ok (.bipush 16, 2) := by decide +kernel
theorem dX9_drawOf_22 : decode cX9_drawOf 22 = .ok (.ishr, 1) := by decide +kernel
theorem dX9_drawOf_23 : decode cX9_drawOf 23 = .ok (.sipush 32767, 3) := by decide +kernel
theorem dX9_drawOf_26 : decode cX9_drawOf 26 = .ok (.iand, 1) := by decide +kernel
theorem dX9_drawOf_27 : decode cX9_drawOf 27 = .ok (.iload_n 1, 1) := by decide +kernel
theorem dX9_drawOf_28 : decode cX9_drawOf 28 = .ok (.irem, 1) := by decide +kernel
theorem dX9_drawOf_29 : decode cX9_drawOf 29 = .ok (.ireturn, 1) := by decide +kernel
theorem dX9_apart_0 : decode cX9_apart 0 = .ok (.bipush 10, 2) := by decide +kernel
theorem dX9_apart_2 : decode cX9_apart 2 = .ok (.istore_n 1, 1) := by decide +kernel
theorem dX9_apart_3 : decode cX9_apart 3 = .ok (.iconst 0, 1) := by decide +kernel
theorem dX9_apart_4 : decode cX9_apart 4 = .ok (.istore_n 2, 1) := by decide +kernel
theorem dX9_apart_5 : decode cX9_apart 5 = .ok (.iconst 0, 1) := by decide +kernel
theorem dX9_apart_6 : decode cX9_apart 6 = .ok (.istore_n 3, 1) := by decide +kernel
theorem dX9_apart_7 : decode cX9_apart 7 = .ok (.iload_n 3, 1) := by decide +kernel
theorem dX9_apart_8 : decode cX9_apart 8 = .ok (.aload_n 0, 1) := by decide +kernel
theorem dX9_apart_9 : decode cX9_apart 9 = .ok (.invokevirtual 176, 3) := by decide +kernel
theorem dX9_apart_12 : decode cX9_apart 12 = .ok (.if_icmp .ge 51, 3) := by decide +kernel
theorem dX9_apart_15 : decode cX9_apart 15 = .ok (.aload_n 0, 1) := by decide +kernel
theorem dX9_apart_16 : decode cX9_apart 16 = .ok (.getfield 46, 3) := by decide +kernel
theorem dX9_apart_19 : decode cX9_apart 19 = .ok (.iload_n 3, 1) := by decide +kernel
theorem dX9_apart_20 : decode cX9_apart 20 = .ok (.iaload, 1) := by decide +kernel
theorem dX9_apart_21 : decode cX9_apart 21 = .ok (.iload_n 1, 1) := by decide +kernel
theorem dX9_apart_22 : decode cX9_apart 22 = .ok (.if_icmp .ge 12, 3) := by decide +kernel
theorem dX9_apart_25 : decode cX9_apart 25 = .ok (.aload_n 0, 1) := by decide +kernel
theorem dX9_apart_26 : decode cX9_apart 26 = .ok (.getfield 46, 3) := by decide +kernel
theorem dX9_apart_29 : decode cX9_apart 29 = .ok (.iload_n 3, 1) := by decide +kernel
theorem dX9_apart_30 : decode cX9_apart 30 = .ok (.iaload, 1) := by decide +kernel
theorem dX9_apart_31 : decode cX9_apart 31 = .ok (.goto 4, 3) := by decide +kernel
theorem dX9_apart_34 : decode cX9_apart 34 = .ok (.iload_n 1, 1) := by decide +kernel
theorem dX9_apart_35 : decode cX9_apart 35 = .ok (.istore_n 1, 1) := by decide +kernel
theorem dX9_apart_36 : decode cX9_apart 36 = .ok (.aload_n 0, 1) := by decide +kernel
theorem dX9_apart_37 : decode cX9_apart 37 = .ok (.getfield 46, 3) := by decide +kernel
theorem dX9_apart_40 : decode cX9_apart 40 = .ok (.iload_n 3, 1) := by decide +kernel
theorem dX9_apart_41 : decode cX9_apart 41 = .ok (.iaload, 1) := by decide +kernel
theorem dX9_apart_42 : decode cX9_apart 42 = .ok (.iload_n 2, 1) := by decide +kernel
theorem dX9_apart_43 : decode cX9_apart 43 = .ok (.if_icmp .le 12, 3) := by decide +kernel
theorem dX9_apart_46 : decode cX9_apart 46 = .ok (.aload_n 0, 1) := by decide +kernel
theorem dX9_apart_47 : decode cX9_apart 47 = .ok (.getfield 46, 3) := by decide +kernel
theorem dX9_apart_50 : decode cX9_apart 50 = .ok (.iload_n 3, 1) := by decide +kernel
theorem dX9_apart_51 : decode cX9_apart 51 = .ok (.iaload, 1) := by decide +kernel
theorem dX9_apart_52 : decode cX9_apart 52 = .ok (.goto 4, 3) := by decide +kernel
theorem dX9_apart_55 : decode cX9_apart 55 = .ok (.iload_n 2, 1) := by decide +kernel
theorem dX9_apart_56 : decode cX9_apart 56 = .ok (.istore_n 2, 1) := by decide +kernel
theorem dX9_apart_57 : decode cX9_apart 57 = .ok (.iinc 3 1, 3) := by decide +kernel
theorem dX9_apart_60 : decode cX9_apart 60 = .ok (.goto (-53), 3) := by decide +kernel
theorem dX9_apart_63 : decode cX9_apart 63 = .ok (.iload_n 2, 1) := by decide +kernel
theorem dX9_apart_64 : decode cX9_apart 64 = .ok (.iload_n 1, 1) := by decide +kernel
theorem dX9_apart_65 : decode cX9_apart 65 = .ok (.isub, 1) := by decide +kernel
theorem dX9_apart_66 : decode cX9_apart 66 = .ok (.ireturn, 1) := by decide +kernel
theorem dX9_oneYear_0 : decode cX9_oneYear 0 = .ok (.aload_n 0, 1) := by decide +kernel
theorem dX9_oneYear_1 : decode cX9_oneYear 1 = .ok (.invokevirtual 176, 3) := by decide +kernel
theorem dX9_oneYear_4 : decode cX9_oneYear 4 = .ok (.istore_n 2, 1) := by decide +kernel
theorem dX9_oneYear_5 : decode cX9_oneYear 5 = .ok (.aload_n 0, 1) := by decide +kernel
theorem dX9_oneYear_6 : decode cX9_oneYear 6 = .ok (.getfield 43, 3) := by decide +kernel
theorem dX9_oneYear_9 : decode cX9_oneYear 9 = .ok (.iconst 1, 1) := by decide +kernel
theorem dX9_oneYear_10 : decode cX9_oneYear 10 = .ok (.iconst 0, 1) := by decide +kernel
theorem dX9_oneYear_11 : decode cX9_oneYear 11 = .ok (.iastore, 1) := by decide +kernel
theorem dX9_oneYear_12 : decode cX9_oneYear 12 = .ok (.iconst 0, 1) := by decide +kernel
theorem dX9_oneYear_13 : decode cX9_oneYear 13 = .ok (.istore_n 3, 1) := by decide +kernel
theorem dX9_oneYear_14 : decode cX9_oneYear 14 = .ok (.iload_n 3, 1) := by decide +kernel
theorem dX9_oneYear_15 : decode cX9_oneYear 15 = .ok (.iload_n 2, 1) := by decide +kernel
theorem dX9_oneYear_16 : decode cX9_oneYear 16 = .ok (.if_icmp .ge 101, 3) := by decide +kernel
theorem dX9_oneYear_19 : decode cX9_oneYear 19 = .ok (.iload_n 3, 1) := by decide +kernel
theorem dX9_oneYear_20 : decode cX9_oneYear 20 = .ok (.iconst 1, 1) := by decide +kernel
theorem dX9_oneYear_21 : decode cX9_oneYear 21 = .ok (.iadd, 1) := by decide +kernel
theorem dX9_oneYear_22 : decode cX9_oneYear 22 = .ok (.istore 4, 2) := by decide +kernel
theorem dX9_oneYear_24 : decode cX9_oneYear 24 = .ok (.iload 4, 2) := by decide +kernel
theorem dX9_oneYear_26 : decode cX9_oneYear 26 = .ok (.iload_n 2, 1) := by decide +kernel
theorem dX9_oneYear_27 : decode cX9_oneYear 27 = .ok (.if_icmp .ge 84, 3) := by decide +kernel
theorem dX9_oneYear_30 : decode cX9_oneYear 30 = .ok (.bipush 30, 2) := by decide +kernel
theorem dX9_oneYear_32 : decode cX9_oneYear 32 = .ok (.aload_n 0, 1) := by decide +kernel
theorem dX9_oneYear_33 : decode cX9_oneYear 33 = .ok (.getfield 43, 3) := by decide +kernel
theorem dX9_oneYear_36 : decode cX9_oneYear 36 = .ok (.iconst 1, 1) := by decide +kernel
theorem dX9_oneYear_37 : decode cX9_oneYear 37 = .ok (.iaload, 1) := by decide +kernel
theorem dX9_oneYear_38 : decode cX9_oneYear 38 = .ok (.iadd, 1) := by decide +kernel
theorem dX9_oneYear_39 : decode cX9_oneYear 39 = .ok (.istore 5, 2) := by decide +kernel
theorem dX9_oneYear_41 : decode cX9_oneYear 41 = .ok (.aload_n 0, 1) := by decide +kernel
theorem dX9_oneYear_42 : decode cX9_oneYear 42 = .ok (.getfield 34, 3) := by decide +kernel
theorem dX9_oneYear_45 : decode cX9_oneYear 45 = .ok (.iload 5, 2) := by decide +kernel
theorem dX9_oneYear_47 : decode cX9_oneYear 47 = .ok (.iload_n 3, 1) := by decide +kernel
theorem dX9_oneYear_48 : decode cX9_oneYear 48 = .ok (.iastore, 1) := by decide +kernel
theorem dX9_oneYear_49 : decode cX9_oneYear 49 = .ok (.aload_n 0, 1) := by decide +kernel
theorem dX9_oneYear_50 : decode cX9_oneYear 50 = .ok (.getfield 37, 3) := by decide +kernel
theorem dX9_oneYear_53 : decode cX9_oneYear 53 = .ok (.iload 5, 2) := by decide +kernel
theorem dX9_oneYear_55 : decode cX9_oneYear 55 = .ok (.iload 4, 2) := by decide +kernel
theorem dX9_oneYear_57 : decode cX9_oneYear 57 = .ok (.iastore, 1) := by decide +kernel
theorem dX9_oneYear_58 : decode cX9_oneYear 58 = .ok (.aload_n 0, 1) := by decide +kernel
theorem dX9_oneYear_59 : decode cX9_oneYear 59 = .ok (.getfield 40, 3) := by decide +kernel
theorem dX9_oneYear_62 : decode cX9_oneYear 62 = .ok (.iload 5, 2) := by decide +kernel
theorem dX9_oneYear_64 : decode cX9_oneYear 64 = .ok (.aload_n 0, 1) := by decide +kernel
theorem dX9_oneYear_65 : decode cX9_oneYear 65 = .ok (.bipush 16, 2) := by decide +kernel
theorem dX9_oneYear_67 : decode cX9_oneYear 67 = .ok (.invokevirtual 322, 3) := by decide +kernel
theorem dX9_oneYear_70 : decode cX9_oneYear 70 = .ok (.aload_n 0, 1) := by decide +kernel
theorem dX9_oneYear_71 : decode cX9_oneYear 71 = .ok (.getfield 46, 3) := by decide +kernel
theorem dX9_oneYear_74 : decode cX9_oneYear 74 = .ok (.iload_n 3, 1) := by decide +kernel
theorem dX9_oneYear_75 : decode cX9_oneYear 75 = .ok (.iaload, 1) := by decide +kernel
theorem dX9_oneYear_76 : decode cX9_oneYear 76 = .ok (.aload_n 0, 1) := by decide +kernel
theorem dX9_oneYear_77 : decode cX9_oneYear 77 = .ok (.getfield 46, 3) := by decide +kernel
theorem dX9_oneYear_80 : decode cX9_oneYear 80 = .ok (.iload 4, 2) := by decide +kernel
theorem dX9_oneYear_82 : decode cX9_oneYear 82 = .ok (.iaload, 1) := by decide +kernel
theorem dX9_oneYear_83 : decode cX9_oneYear 83 = .ok (.invokestatic 187, 3) := by decide +kernel
theorem dX9_oneYear_86 : decode cX9_oneYear 86 = .ok (.if_icmp .ge 7, 3) := by decide +kernel
theorem dX9_oneYear_89 : decode cX9_oneYear 89 = .ok (.iconst 0, 1) := by decide +kernel
theorem dX9_oneYear_90 : decode cX9_oneYear 90 = .ok (.goto 4, 3) := by decide +kernel
theorem dX9_oneYear_93 : decode cX9_oneYear 93 = .ok (.iconst 1, 1) := by decide +kernel
theorem dX9_oneYear_94 : decode cX9_oneYear 94 = .ok (.iastore, 1) := by decide +kernel
theorem dX9_oneYear_95 : decode cX9_oneYear 95 = .ok (.aload_n 0, 1) := by decide +kernel
theorem dX9_oneYear_96 : decode cX9_oneYear 96 = .ok (.getfield 43, 3) := by decide +kernel
theorem dX9_oneYear_99 : decode cX9_oneYear 99 = .ok (.iconst 1, 1) := by decide +kernel
theorem dX9_oneYear_100 : decode cX9_oneYear 100 = .ok (.dup2, 1) := by decide +kernel
theorem dX9_oneYear_101 : decode cX9_oneYear 101 = .ok (.iaload, 1) := by decide +kernel
theorem dX9_oneYear_102 : decode cX9_oneYear 102 = .ok (.iconst 1, 1) := by decide +kernel
theorem dX9_oneYear_103 : decode cX9_oneYear 103 = .ok (.iadd, 1) := by decide +kernel
theorem dX9_oneYear_104 : decode cX9_oneYear 104 = .ok (.iastore, 1) := by decide +kernel
theorem dX9_oneYear_105 : decode cX9_oneYear 105 = .ok (.iinc 4 1, 3) := by decide +kernel
theorem dX9_oneYear_108 : decode cX9_oneYear 108 = .ok (.goto (-84), 3) := by decide +kernel
theorem dX9_oneYear_111 : decode cX9_oneYear 111 = .ok (.iinc 3 1, 3) := by decide +kernel
theorem dX9_oneYear_114 : decode cX9_oneYear 114 = .ok (.goto (-100), 3) := by decide +kernel
theorem dX9_oneYear_117 : decode cX9_oneYear 117 = .ok (.aload_n 0, 1) := by decide +kernel
theorem dX9_oneYear_118 : decode cX9_oneYear 118 = .ok (.iconst 1, 1) := by decide +kernel
theorem dX9_oneYear_119 : decode cX9_oneYear 119 = .ok (.invokevirtual 204, 3) := by decide +kernel
theorem dX9_oneYear_122 : decode cX9_oneYear 122 = .ok (.aload_n 0, 1) := by decide +kernel
theorem dX9_oneYear_123 : decode cX9_oneYear 123 = .ok (.getfield 80, 3) := by decide +kernel
theorem dX9_oneYear_126 : decode cX9_oneYear 126 = .ok (.iload_n 1, 1) := by decide +kernel
theorem dX9_oneYear_127 : decode cX9_oneYear 127 = .ok (.aload_n 0, 1) := by decide +kernel
theorem dX9_oneYear_128 : decode cX9_oneYear 128 = .ok (.getfield 52, 3) := by decide +kernel
theorem dX9_oneYear_131 : decode cX9_oneYear 131 = .ok (.iconst 0, 1) := by decide +kernel
theorem dX9_oneYear_132 : decode cX9_oneYear 132 = .ok (.iaload, 1) := by decide +kernel
theorem dX9_oneYear_133 : decode cX9_oneYear 133 = .ok (.iastore, 1) := by decide +kernel
theorem dX9_oneYear_134 : decode cX9_oneYear 134 = .ok (.aload_n 0, 1) := by decide +kernel
theorem dX9_oneYear_135 : decode cX9_oneYear 135 = .ok (.getfield 77, 3) := by decide +kernel
theorem dX9_oneYear_138 : decode cX9_oneYear 138 = .ok (.iload_n 1, 1) := by decide +kernel
theorem dX9_oneYear_139 : decode cX9_oneYear 139 = .ok (.aload_n 0, 1) := by decide +kernel
theorem dX9_oneYear_140 : decode cX9_oneYear 140 = .ok (.getfield 52, 3) := by decide +kernel
theorem dX9_oneYear_143 : decode cX9_oneYear 143 = .ok (.iload_n 2, 1) := by decide +kernel
theorem dX9_oneYear_144 : decode cX9_oneYear 144 = .ok (.iconst 1, 1) := by decide +kernel
theorem dX9_oneYear_145 : decode cX9_oneYear 145 = .ok (.isub, 1) := by decide +kernel
theorem dX9_oneYear_146 : decode cX9_oneYear 146 = .ok (.iaload, 1) := by decide +kernel
theorem dX9_oneYear_147 : decode cX9_oneYear 147 = .ok (.iastore, 1) := by decide +kernel
theorem dX9_oneYear_148 : decode cX9_oneYear 148 = .ok (.iconst 0, 1) := by decide +kernel
theorem dX9_oneYear_149 : decode cX9_oneYear 149 = .ok (.istore_n 3, 1) := by decide +kernel
theorem dX9_oneYear_150 : decode cX9_oneYear 150 = .ok (.aload_n 0, 1) := by decide +kernel
theorem dX9_oneYear_151 : decode cX9_oneYear 151 = .ok (.getfield 22, 3) := by decide +kernel
theorem dX9_oneYear_154 : decode cX9_oneYear 154 = .ok (.iconst 1, 1) := by decide +kernel
theorem dX9_oneYear_155 : decode cX9_oneYear 155 = .ok (.iaload, 1) := by decide +kernel
theorem dX9_oneYear_156 : decode cX9_oneYear 156 = .ok (.iconst 1, 1) := by decide +kernel
theorem dX9_oneYear_157 : decode cX9_oneYear 157 = .ok (.if_icmp .ne 47, 3) := by decide +kernel
theorem dX9_oneYear_160 : decode cX9_oneYear 160 = .ok (.aload_n 0, 1) := by decide +kernel
theorem dX9_oneYear_161 : decode cX9_oneYear 161 = .ok (.aload_n 0, 1) := by decide +kernel
theorem dX9_oneYear_162 : decode cX9_oneYear 162 = .ok (.invokevirtual 221, 3) := by decide +kernel
theorem dX9_oneYear_165 : decode cX9_oneYear 165 = .ok (.invokevirtual 322, 3) := by decide +kernel
theorem dX9_oneYear_168 : decode cX9_oneYear 168 = .ok (.istore 4, 2) := by decide +kernel
theorem dX9_oneYear_170 : decode cX9_oneYear 170 = .ok (.iload 4, 2) := by decide +kernel
theorem dX9_oneYear_172 : decode cX9_oneYear 172 = .ok (.aload_n 0, 1) := by decide +kernel
theorem dX9_oneYear_173 : decode cX9_oneYear 173 = .ok (.getfield 22, 3) := by decide +kernel
theorem dX9_oneYear_176 : decode cX9_oneYear 176 = .ok (.bipush 20, 2) := by decide +kernel
theorem dX9_oneYear_178 : decode cX9_oneYear 178 = .ok (.iload_n 3, 1) := by decide +kernel
theorem dX9_oneYear_179 : decode cX9_oneYear 179 = .ok (.iadd, 1) := by decide +kernel
theorem dX9_oneYear_180 : decode cX9_oneYear 180 = .ok (.iaload, 1) := by decide +kernel
theorem dX9_oneYear_181 : decode cX9_oneYear 181 = .ok (.if_icmp .lt 23, 3) := by decide +kernel
theorem dX9_oneYear_184 : decode cX9_oneYear 184 = .ok (.iload 4, 2) := by decide +kernel
theorem dX9_oneYear_186 : decode cX9_oneYear 186 = .ok (.aload_n 0, 1) := by decide +kernel
theorem dX9_oneYear_187 : decode cX9_oneYear 187 = .ok (.getfield 22, 3) := by decide +kernel
theorem dX9_oneYear_190 : decode cX9_oneYear 190 = .ok (.bipush 20, 2) := by decide +kernel
theorem dX9_oneYear_192 : decode cX9_oneYear 192 = .ok (.iload_n 3, 1) := by decide +kernel
theorem dX9_oneYear_193 : decode cX9_oneYear 193 = .ok (.iadd, 1) := by decide +kernel
theorem dX9_oneYear_194 : decode cX9_oneYear 194 = .ok (.iaload, 1) := by decide +kernel
theorem dX9_oneYear_195 : decode cX9_oneYear 195 = .ok (.isub, 1) := by decide +kernel
theorem dX9_oneYear_196 : decode cX9_oneYear 196 = .ok (.istore 4, 2) := by decide +kernel
theorem dX9_oneYear_198 : decode cX9_oneYear 198 = .ok (.iinc 3 1, 3) := by decide +kernel
theorem dX9_oneYear_201 : decode cX9_oneYear 201 = .ok (.goto (-31), 3) := by decide +kernel
theorem dX9_oneYear_204 : decode cX9_oneYear 204 = .ok (.aload_n 0, 1) := by decide +kernel
theorem dX9_oneYear_205 : decode cX9_oneYear 205 = .ok (.iconst 1, 1) := by decide +kernel
theorem dX9_oneYear_206 : decode cX9_oneYear 206 = .ok (.iload_n 3, 1) := by decide +kernel
theorem dX9_oneYear_207 : decode cX9_oneYear 207 = .ok (.invokevirtual 227, 3) := by decide +kernel
theorem dX9_oneYear_210 : decode cX9_oneYear 210 = .ok (.iconst 0, 1) := by decide +kernel
theorem dX9_oneYear_211 : decode cX9_oneYear 211 = .ok (.istore 4, 2) := by decide +kernel
theorem dX9_oneYear_213 : decode cX9_oneYear 213 = .ok (.iload 4, 2) := by decide +kernel
theorem dX9_oneYear_215 : decode cX9_oneYear 215 = .ok (.iload_n 2, 1) := by decide +kernel
theorem dX9_oneYear_216 : decode cX9_oneYear 216 = .ok (.if_icmp .ge 75, 3) := by decide +kernel
theorem dX9_oneYear_219 : decode cX9_oneYear 219 = .ok (.aload_n 0, 1) := by decide +kernel
theorem dX9_oneYear_220 : decode cX9_oneYear 220 = .ok (.getfield 46, 3) := by decide +kernel
theorem dX9_oneYear_223 : decode cX9_oneYear 223 = .ok (.aload_n 0, 1) := by decide +kernel
theorem dX9_oneYear_224 : decode cX9_oneYear 224 = .ok (.getfield 58, 3) := by decide +kernel
theorem dX9_oneYear_227 : decode cX9_oneYear 227 = .ok (.iload 4, 2) := by decide +kernel
theorem dX9_oneYear_229 : decode cX9_oneYear 229 = .ok (.iaload, 1) := by decide +kernel
theorem dX9_oneYear_230 : decode cX9_oneYear 230 = .ok (.iaload, 1) := by decide +kernel
theorem dX9_oneYear_231 : decode cX9_oneYear 231 = .ok (.aload_n 0, 1) := by decide +kernel
theorem dX9_oneYear_232 : decode cX9_oneYear 232 = .ok (.getfield 22, 3) := by decide +kernel
theorem dX9_oneYear_235 : decode cX9_oneYear 235 = .ok (.bipush 14, 2) := by decide +kernel
theorem dX9_oneYear_237 : decode cX9_oneYear 237 = .ok (.iload 4, 2) := by decide +kernel
theorem dX9_oneYear_239 : decode cX9_oneYear 239 = .ok (.iadd, 1) := by decide +kernel
theorem dX9_oneYear_240 : decode cX9_oneYear 240 = .ok (.iaload, 1) := by decide +kernel
theorem dX9_oneYear_241 : decode cX9_oneYear 241 = .ok (.bipush 10, 2) := by decide +kernel
theorem dX9_oneYear_243 : decode cX9_oneYear 243 = .ok (.idiv, 1) := by decide +kernel
theorem dX9_oneYear_244 : decode cX9_oneYear 244 = .ok (.iadd, 1) := by decide +kernel
theorem dX9_oneYear_245 : decode cX9_oneYear 245 = .ok (.iconst 1, 1) := by decide +kernel
theorem dX9_oneYear_246 : decode cX9_oneYear 246 = .ok (.isub, 1) := by decide +kernel
theorem dX9_oneYear_247 : decode cX9_oneYear 247 = .ok (.istore 5, 2) := by decide +kernel
theorem dX9_oneYear_249 : decode cX9_oneYear 249 = .ok (.aload_n 0, 1) := by decide +kernel
theorem dX9_oneYear_250 : decode cX9_oneYear 250 = .ok (.getfield 46, 3) := by decide +kernel
theorem dX9_oneYear_253 : decode cX9_oneYear 253 = .ok (.aload_n 0, 1) := by decide +kernel
theorem dX9_oneYear_254 : decode cX9_oneYear 254 = .ok (.getfield 58, 3) := by decide +kernel
theorem dX9_oneYear_257 : decode cX9_oneYear 257 = .ok (.iload 4, 2) := by decide +kernel
theorem dX9_oneYear_259 : decode cX9_oneYear 259 = .ok (.iaload, 1) := by decide +kernel
theorem dX9_oneYear_260 : decode cX9_oneYear 260 = .ok (.iload 5, 2) := by decide +kernel
theorem dX9_oneYear_262 : decode cX9_oneYear 262 = .ok (.iconst 1, 1) := by decide +kernel
theorem dX9_oneYear_263 : decode cX9_oneYear 263 = .ok (.if_icmp .ge 7, 3) := by decide +kernel
theorem dX9_oneYear_266 : decode cX9_oneYear 266 = .ok (.iconst 1, 1) := by decide +kernel
theorem dX9_oneYear_267 : decode cX9_oneYear 267 = .ok (.goto 17, 3) := by decide +kernel
theorem dX9_oneYear_270 : decode cX9_oneYear 270 = .ok (.iload 5, 2) := by decide +kernel
theorem dX9_oneYear_272 : decode cX9_oneYear 272 = .ok (.bipush 9, 2) := by decide +kernel
theorem dX9_oneYear_274 : decode cX9_oneYear 274 = .ok (.if_icmp .le 8, 3) := by decide +kernel
theorem dX9_oneYear_277 : decode cX9_oneYear 277 = .ok (.bipush 9, 2) := by decide +kernel
theorem dX9_oneYear_279 : decode cX9_oneYear 279 = .ok (.goto 5, 3) := by decide +kernel
theorem dX9_oneYear_282 : decode cX9_oneYear 282 = .ok (.iload 5, 2) := by decide +kernel
theorem dX9_oneYear_284 : decode cX9_oneYear 284 = .ok (.iastore, 1) := by decide +kernel
theorem dX9_oneYear_285 : decode cX9_oneYear 285 = .ok (.iinc 4 1, 3) := by decide +kernel
theorem dX9_oneYear_288 : decode cX9_oneYear 288 = .ok (.goto (-75), 3) := by decide +kernel
theorem dX9_oneYear_291 : decode cX9_oneYear 291 = .ok (.aload_n 0, 1) := by decide +kernel
theorem dX9_oneYear_292 : decode cX9_oneYear 292 = .ok (.aload_n 0, 1) := by decide +kernel
theorem dX9_oneYear_293 : decode cX9_oneYear 293 = .ok (.invokevirtual 325, 3) := by decide +kernel
theorem dX9_oneYear_296 : decode cX9_oneYear 296 = .ok (.aload_n 0, 1) := by decide +kernel
theorem dX9_oneYear_297 : decode cX9_oneYear 297 = .ok (.getfield 328, 3) := by decide +kernel
theorem dX9_oneYear_300 : decode cX9_oneYear 300 = .ok (.if_icmp .le 10, 3) := by decide +kernel
theorem dX9_oneYear_303 : decode cX9_oneYear 303 = .ok (.aload_n 0, 1) := by decide +kernel
theorem dX9_oneYear_304 : decode cX9_oneYear 304 = .ok (.invokevirtual 325, 3) := by decide +kernel
theorem dX9_oneYear_307 : decode cX9_oneYear 307 = .ok (.goto 7, 3) := by decide +kernel
theorem dX9_oneYear_310 : decode cX9_oneYear 310 = .ok (.aload_n 0, 1) := by decide +kernel
theorem dX9_oneYear_311 : decode cX9_oneYear 311 = .ok (.getfield 328, 3) := by decide +kernel
theorem dX9_oneYear_314 : decode cX9_oneYear 314 = .ok (.putfield 328, 3) := by decide +kernel
theorem dX9_oneYear_317 : decode cX9_oneYear 317 = .ok (.return_, 1) := by decide +kernel
theorem dX9_years_0 : decode cX9_years 0 = .ok (.iload_n 1, 1) := by decide +kernel
theorem dX9_years_1 : decode cX9_years 1 = .ok (.i2l, 1) := by decide +kernel
theorem dX9_years_2 : decode cX9_years 2 = .ok (.lconst 1, 1) := by decide +kernel
theorem dX9_years_3 : decode cX9_years 3 = .ok (.ldc2_w 331, 3) := by decide +kernel
theorem dX9_years_6 : decode cX9_years 6 = .ok (.invokestatic 96, 3) := by decide +kernel
theorem dX9_years_9 : decode cX9_years 9 = .ok (.ifCond .eq 32, 3) := by decide +kernel
theorem dX9_years_12 : decode cX9_years 12 = .ok (.iload_n 3, 1) := by decide +kernel
theorem dX9_years_13 : decode cX9_years 13 = .ok (.i2l, 1) := by decide +kernel
theorem dX9_years_14 : decode cX9_years 14 = .ok (.lconst 0, 1) := by decide +kernel
theorem dX9_years_15 : decode cX9_years 15 = .ok (.ldc2_w 333, 3) := by decide +kernel
theorem dX9_years_18 : decode cX9_years 18 = .ok (.invokestatic 96, 3) := by decide +kernel
theorem dX9_years_21 : decode cX9_years 21 = .ok (.ifCond .ne 22, 3) := by decide +kernel
theorem dX9_years_24 : decode cX9_years 24 = .ok (.iload_n 3, 1) := by decide +kernel
theorem dX9_years_25 : decode cX9_years 25 = .ok (.bipush 10, 2) := by decide +kernel
theorem dX9_years_27 : decode cX9_years 27 = .ok (.if_icmp .lt 14, 3) := by decide +kernel
theorem dX9_years_30 : decode cX9_years 30 = .ok (.aload_n 0, 1) := by decide +kernel
theorem dX9_years_31 : decode cX9_years 31 = .ok (.iload_n 3, 1) := by decide +kernel
theorem dX9_years_32 : decode cX9_years 32 = .ok (.bipush 10, 2) := by decide +kernel
theorem dX9_years_34 : decode cX9_years 34 = .ok (.isub, 1) := by decide +kernel
theorem dX9_years_35 : decode cX9_years 35 = .ok (.invokevirtual 180, 3) := by decide +kernel
theorem dX9_years_38 : decode cX9_years 38 = .ok (.ifCond .ne 5, 3) := by decide +kernel
theorem dX9_years_41 : decode cX9_years 41 = .ok (.iconst (-1), 1) := by decide +kernel
theorem dX9_years_42 : decode cX9_years 42 = .ok (.ireturn, 1) := by decide +kernel
theorem dX9_years_43 : decode cX9_years 43 = .ok (.aload_n 0, 1) := by decide +kernel
theorem dX9_years_44 : decode cX9_years 44 = .ok (.iload_n 2, 1) := by decide +kernel
theorem dX9_years_45 : decode cX9_years 45 = .ok (.putfield 318, 3) := by decide +kernel
theorem dX9_years_48 : decode cX9_years 48 = .ok (.aload_n 0, 1) := by decide +kernel
theorem dX9_years_49 : decode cX9_years 49 = .ok (.iconst 0, 1) := by decide +kernel
theorem dX9_years_50 : decode cX9_years 50 = .ok (.putfield 328, 3) := by decide +kernel
theorem dX9_years_53 : decode cX9_years 53 = .ok (.iconst 0, 1) := by decide +kernel
theorem dX9_years_54 : decode cX9_years 54 = .ok (.istore 4, 2) := by decide +kernel
theorem dX9_years_56 : decode cX9_years 56 = .ok (.iload 4, 2) := by decide +kernel
theorem dX9_years_58 : decode cX9_years 58 = .ok (.bipush 6, 2) := by decide +kernel
theorem dX9_years_60 : decode cX9_years 60 = .ok (.if_icmp .ge 25, 3) := by decide +kernel
theorem dX9_years_63 : decode cX9_years 63 = .ok (.aload_n 0, 1) := by decide +kernel
theorem dX9_years_64 : decode cX9_years 64 = .ok (.getfield 46, 3) := by decide +kernel
theorem dX9_years_67 : decode cX9_years 67 = .ok (.iload 4, 2) := by decide +kernel
theorem dX9_years_69 : decode cX9_years 69 = .ok (.aload_n 0, 1) := by decide +kernel
theorem dX9_years_70 : decode cX9_years 70 = .ok (.getfield 22, 3) := by decide +kernel
theorem dX9_years_73 : decode cX9_years 73 = .ok (.iconst 2, 1) := by decide +kernel
theorem dX9_years_74 : decode cX9_years 74 = .ok (.iload 4, 2) := by decide +kernel
theorem dX9_years_76 : decode cX9_years 76 = .ok (.iadd, 1) := by decide +kernel
theorem dX9_years_77 : decode cX9_years 77 = .ok (.iaload, 1) := by decide +kernel
theorem dX9_years_78 : decode cX9_years 78 = .ok (.iastore, 1) := by decide +kernel
theorem dX9_years_79 : decode cX9_years 79 = .ok (.iinc 4 1, 3) := by decide +kernel
theorem dX9_years_82 : decode cX9_years 82 = .ok (.goto (-26), 3) := by decide +kernel
theorem dX9_years_85 : decode cX9_years 85 = .ok (.iconst 0, 1) := by decide +kernel
theorem dX9_years_86 : decode cX9_years 86 = .ok (.istore 4, 2) := by decide +kernel
theorem dX9_years_88 : decode cX9_years 88 = .ok (.bipush (-4), 2) := by decide +kernel
theorem dX9_years_90 : decode cX9_years 90 = .ok (.istore 5, 2) := by decide +kernel
theorem dX9_years_92 : decode cX9_years 92 = .ok (.iconst 0, 1) := by decide +kernel
theorem dX9_years_93 : decode cX9_years 93 = .ok (.istore 6, 2) := by decide +kernel
theorem dX9_years_95 : decode cX9_years 95 = .ok (.iload 6, 2) := by decide +kernel
theorem dX9_years_97 : decode cX9_years 97 = .ok (.iload_n 1, 1) := by decide +kernel
theorem dX9_years_98 : decode cX9_years 98 = .ok (.if_icmp .ge 91, 3) := by decide +kernel
theorem dX9_years_101 : decode cX9_years 101 = .ok (.aload_n 0, 1) := by decide +kernel
theorem dX9_years_102 : decode cX9_years 102 = .ok (.iload 6, 2) := by decide +kernel
theorem dX9_years_104 : decode cX9_years 104 = .ok (.invokevirtual 335, 3) := by decide +kernel
theorem dX9_years_107 : decode cX9_years 107 = .ok (.iload 4, 2) := by decide +kernel
theorem dX9_years_109 : decode cX9_years 109 = .ok (.iconst 1, 1) := by decide +kernel
theorem dX9_years_110 : decode cX9_years 110 = .ok (.aload_n 0, 1) := by decide +kernel
theorem dX9_years_111 : decode cX9_years 111 = .ok (.getfield 80, 3) := by decide +kernel
theorem dX9_years_114 : decode cX9_years 114 = .ok (.iload 6, 2) := by decide +kernel
theorem dX9_years_116 : decode cX9_years 116 = .ok (.iaload, 1) := by decide +kernel
theorem dX9_years_117 : decode cX9_years 117 = .ok (.ishl, 1) := by decide +kernel
theorem dX9_years_118 : decode cX9_years 118 = .ok (.ior, 1) := by decide +kernel
theorem dX9_years_119 : decode cX9_years 119 = .ok (.istore 4, 2) := by decide +kernel
theorem dX9_years_121 : decode cX9_years 121 = .ok (.iconst 0, 1) := by decide +kernel
theorem dX9_years_122 : decode cX9_years 122 = .ok (.istore 7, 2) := by decide +kernel
theorem dX9_years_124 : decode cX9_years 124 = .ok (.iload 7, 2) := by decide +kernel
theorem dX9_years_126 : decode cX9_years 126 = .ok (.iload 6, 2) := by decide +kernel
theorem dX9_years_128 : decode cX9_years 128 = .ok (.if_icmp .ge 55, 3) := by decide +kernel
theorem dX9_years_131 : decode cX9_years 131 = .ok (.aload_n 0, 1) := by decide +kernel
theorem dX9_years_132 : decode cX9_years 132 = .ok (.getfield 77, 3) := by decide +kernel
theorem dX9_years_135 : decode cX9_years 135 = .ok (.iload 7, 2) := by decide +kernel
theorem dX9_years_137 : decode cX9_years 137 = .ok (.iaload, 1) := by decide +kernel
theorem dX9_years_138 : decode cX9_years 138 = .ok (.aload_n 0, 1) := by decide +kernel
theorem dX9_years_139 : decode cX9_years 139 = .ok (.getfield 80, 3) := by decide +kernel
theorem dX9_years_142 : decode cX9_years 142 = .ok (.iload 6, 2) := by decide +kernel
theorem dX9_years_144 : decode cX9_years 144 = .ok (.iaload, 1) := by decide +kernel
theorem dX9_years_145 : decode cX9_years 145 = .ok (.if_icmp .ne 28, 3) := by decide +kernel
theorem dX9_years_148 : decode cX9_years 148 = .ok (.iload 5, 2) := by decide +kernel
theorem dX9_years_150 : decode cX9_years 150 = .ok (.bipush (-4), 2) := by decide +kernel
theorem dX9_years_152 : decode cX9_years 152 = .ok (.if_icmp .eq 13, 3) := by decide +kernel
theorem dX9_years_155 : decode cX9_years 155 = .ok (.iload 6, 2) := by decide +kernel
theorem dX9_years_157 : decode cX9_years 157 = .ok (.iload 7, 2) := by decide +kernel
theorem dX9_years_159 : decode cX9_years 159 = .ok (.isub, 1) := by decide +kernel
theorem dX9_years_160 : decode cX9_years 160 = .ok (.iload 5, 2) := by decide +kernel
theorem dX9_years_162 : decode cX9_years 162 = .ok (.if_icmp .ge 11, 3) := by decide +kernel
theorem dX9_years_165 : decode cX9_years 165 = .ok (.iload 6, 2) := by decide +kernel
theorem dX9_years_167 : decode cX9_years 167 = .ok (.iload 7, 2) := by decide +kernel
theorem dX9_years_169 : decode cX9_years 169 = .ok (.isub, 1) := by decide +kernel
theorem dX9_years_170 : decode cX9_years 170 = .ok (.goto 5, 3) := by decide +kernel
theorem dX9_years_173 : decode cX9_years 173 = .ok (.iload 5, 2) := by decide +kernel
theorem dX9_years_175 : decode cX9_years 175 = .ok (.istore 5, 2) := by decide +kernel
theorem dX9_years_177 : decode cX9_years 177 = .ok (.iinc 7 1, 3) := by decide +kernel
theorem dX9_years_180 : decode cX9_years 180 = .ok (.goto (-56), 3) := by decide +kernel
theorem dX9_years_183 : decode cX9_years 183 = .ok (.iinc 6 1, 3) := by decide +kernel
theorem dX9_years_186 : decode cX9_years 186 = .ok (.goto (-91), 3) := by decide +kernel
theorem dX9_years_189 : decode cX9_years 189 = .ok (.iconst 0, 1) := by decide +kernel
theorem dX9_years_190 : decode cX9_years 190 = .ok (.istore 6, 2) := by decide +kernel
theorem dX9_years_192 : decode cX9_years 192 = .ok (.iconst 0, 1) := by decide +kernel
theorem dX9_years_193 : decode cX9_years 193 = .ok (.istore 7, 2) := by decide +kernel
theorem dX9_years_195 : decode cX9_years 195 = .ok (.iload 7, 2) := by decide +kernel
theorem dX9_years_197 : decode cX9_years 197 = .ok (.bipush 6, 2) := by decide +kernel
theorem dX9_years_199 : decode cX9_years 199 = .ok (.if_icmp .ge 21, 3) := by decide +kernel
theorem dX9_years_202 : decode cX9_years 202 = .ok (.iload 6, 2) := by decide +kernel
theorem dX9_years_204 : decode cX9_years 204 = .ok (.iload 4, 2) := by decide +kernel
theorem dX9_years_206 : decode cX9_years 206 = .ok (.iload 7, 2) := by decide +kernel
theorem dX9_years_208 : decode cX9_years 208 = .ok (.ishr, 1) := by decide +kernel
theorem dX9_years_209 : decode cX9_years 209 = .ok (.iconst 1, 1) := by decide +kernel
theorem dX9_years_210 : decode cX9_years 210 = .ok (.iand, 1) := by decide +kernel
theorem dX9_years_211 : decode cX9_years 211 = .ok (.iadd, 1) := by decide +kernel
theorem dX9_years_212 : decode cX9_years 212 = .ok (.istore 6, 2) := by decide +kernel
theorem dX9_years_214 : decode cX9_years 214 = .ok (.iinc 7 1, 3) := by decide +kernel
theorem dX9_years_217 : decode cX9_years 217 = .ok (.goto (-22), 3) := by decide +kernel
theorem dX9_years_220 : decode cX9_years 220 = .ok (.iload_n 3, 1) := by decide +kernel
theorem dX9_years_221 : decode cX9_years 221 = .ok (.ifCond .ne 14, 3) := by decide +kernel
theorem dX9_years_224 : decode cX9_years 224 = .ok (.aload_n 0, 1) := by decide +kernel
theorem dX9_years_225 : decode cX9_years 225 = .ok (.getfield 80, 3) := by decide +kernel
theorem dX9_years_228 : decode cX9_years 228 = .ok (.iload_n 1, 1) := by decide +kernel
theorem dX9_years_229 : decode cX9_years 229 = .ok (.iconst 1, 1) := by decide +kernel
theorem dX9_years_230 : decode cX9_years 230 = .ok (.isub, 1) := by decide +kernel
theorem dX9_years_231 : decode cX9_years 231 = .ok (.iaload, 1) := by decide +kernel
theorem dX9_years_232 : decode cX9_years 232 = .ok (.goto 56, 3) := by decide +kernel
theorem dX9_years_235 : decode cX9_years 235 = .ok (.iload_n 3, 1) := by decide +kernel
theorem dX9_years_236 : decode cX9_years 236 = .ok (.iconst 1, 1) := by decide +kernel
theorem dX9_years_237 : decode cX9_years 237 = .ok (.if_icmp .ne 8, 3) := by decide +kernel
theorem dX9_years_240 : decode cX9_years 240 = .ok (.iload 6, 2) := by decide +kernel
theorem dX9_years_242 : decode cX9_years 242 = .ok (.goto 46, 3) := by decide +kernel
theorem dX9_years_245 : decode cX9_years 245 = .ok (.iload_n 3, 1) := by decide +kernel
theorem dX9_years_246 : decode cX9_years 246 = .ok (.iconst 2, 1) := by decide +kernel
theorem dX9_years_247 : decode cX9_years 247 = .ok (.if_icmp .ne 10, 3) := by decide +kernel
theorem dX9_years_250 : decode cX9_years 250 = .ok (.aload_n 0, 1) := by decide +kernel
theorem dX9_years_251 : decode cX9_years 251 = .ok (.invokevirtual 325, 3) := by decide +kernel
theorem dX9_years_254 : decode cX9_years 254 = .ok (.goto 34, 3) := by decide +kernel
theorem dX9_years_257 : decode cX9_years 257 = .ok (.iload_n 3, 1) := by decide +kernel
theorem dX9_years_258 : decode cX9_years 258 = .ok (.iconst 3, 1) := by decide +kernel
theorem dX9_years_259 : decode cX9_years 259 = .ok (.if_icmp .ne 10, 3) := by decide +kernel
theorem dX9_years_262 : decode cX9_years 262 = .ok (.aload_n 0, 1) := by decide +kernel
theorem dX9_years_263 : decode cX9_years 263 = .ok (.getfield 328, 3) := by decide +kernel
theorem dX9_years_266 : decode cX9_years 266 = .ok (.goto 22, 3) := by decide +kernel
theorem dX9_years_269 : decode cX9_years 269 = .ok (.iload_n 3, 1) := by decide +kernel
theorem dX9_years_270 : decode cX9_years 270 = .ok (.iconst 4, 1) := by decide +kernel
theorem dX9_years_271 : decode cX9_years 271 = .ok (.if_icmp .ne 8, 3) := by decide +kernel
theorem dX9_years_274 : decode cX9_years 274 = .ok (.iload 5, 2) := by decide +kernel
theorem dX9_years_276 : decode cX9_years 276 = .ok (.goto 12, 3) := by decide +kernel
theorem dX9_years_279 : decode cX9_years 279 = .ok (.aload_n 0, 1) := by decide +kernel
theorem dX9_years_280 : decode cX9_years 280 = .ok (.getfield 46, 3) := by decide +kernel
theorem dX9_years_283 : decode cX9_years 283 = .ok (.iload_n 3, 1) := by decide +kernel
theorem dX9_years_284 : decode cX9_years 284 = .ok (.bipush 10, 2) := by decide +kernel
theorem dX9_years_286 : decode cX9_years 286 = .ok (.isub, 1) := by decide +kernel
theorem dX9_years_287 : decode cX9_years 287 = .ok (.iaload, 1) := by decide +kernel
theorem dX9_years_288 : decode cX9_years 288 = .ok (.ireturn, 1) := by decide +kernel
theorem dX9_thumbUp_0 : decode cX9_thumbUp 0 = .ok (.lconst 0, 1) := by decide +kernel
theorem dX9_thumbUp_1 : decode cX9_thumbUp 1 = .ok (.lstore_n 2, 1) := by decide +kernel
theorem dX9_thumbUp_2 : decode cX9_thumbUp 2 = .ok (.iload_n 1, 1) := by decide +kernel
theorem dX9_thumbUp_3 : decode cX9_thumbUp 3 = .ok (.istore 4, 2) := by decide +kernel
theorem dX9_thumbUp_5 : decode cX9_thumbUp 5 = .ok (.iload 4, 2) := by decide +kernel
theorem dX9_thumbUp_7 : decode cX9_thumbUp 7 = .ok (.iload_n 0, 1) := by decide +kernel
theorem dX9_thumbUp_8 : decode cX9_thumbUp 8 = .ok (.if_icmp .gt 73, 3) := by decide +kernel
theorem dX9_thumbUp_11 : decode cX9_thumbUp 11 = .ok (.lconst 1, 1) := by decide +kernel
theorem dX9_thumbUp_12 : decode cX9_thumbUp 12 = .ok (.lstore 5, 2) := by decide +kernel
theorem dX9_thumbUp_14 : decode cX9_thumbUp 14 = .ok (.iconst 0, 1) := by decide +kernel
theorem dX9_thumbUp_15 : decode cX9_thumbUp 15 = .ok (.istore 7, 2) := by decide +kernel
theorem dX9_thumbUp_17 : decode cX9_thumbUp 17 = .ok (.iload 7, 2) := by decide +kernel
theorem dX9_thumbUp_19 : decode cX9_thumbUp 19 = .ok (.iload 4, 2) := by decide +kernel
theorem dX9_thumbUp_21 : decode cX9_thumbUp 21 = .ok (.if_icmp .ge 25, 3) := by decide +kernel
theorem dX9_thumbUp_24 : decode cX9_thumbUp 24 = .ok (.lload 5, 2) := by decide +kernel
theorem dX9_thumbUp_26 : decode cX9_thumbUp 26 = .ok (.iload_n 0, 1) := by decide +kernel
theorem dX9_thumbUp_27 : decode cX9_thumbUp 27 = .ok (.iload 7, 2) := by decide +kernel
theorem dX9_thumbUp_29 : decode cX9_thumbUp 29 = .ok (.isub, 1) := by decide +kernel
theorem dX9_thumbUp_30 : decode cX9_thumbUp 30 = .ok (.i2l, 1) := by decide +kernel
theorem dX9_thumbUp_31 : decode cX9_thumbUp 31 = .ok (.lmul, 1) := by decide +kernel
theorem dX9_thumbUp_32 : decode cX9_thumbUp 32 = .ok (.iload 7, 2) := by decide +kernel
theorem dX9_thumbUp_34 : decode cX9_thumbUp 34 = .ok (.iconst 1, 1) := by decide +kernel
theorem dX9_thumbUp_35 : decode cX9_thumbUp 35 = .ok (.iadd, 1) := by decide +kernel
theorem dX9_thumbUp_36 : decode cX9_thumbUp 36 = .ok (.i2l, 1) := by decide +kernel
theorem dX9_thumbUp_37 : decode cX9_thumbUp 37 = .ok (.ldiv, 1) := by decide +kernel
theorem dX9_thumbUp_38 : decode cX9_thumbUp 38 = .ok (.lstore 5, 2) := by decide +kernel
theorem dX9_thumbUp_40 : decode cX9_thumbUp 40 = .ok (.iinc 7 1, 3) := by decide +kernel
theorem dX9_thumbUp_43 : decode cX9_thumbUp 43 = .ok (.goto (-26), 3) := by decide +kernel
theorem dX9_thumbUp_46 : decode cX9_thumbUp 46 = .ok (.iload 4, 2) := by decide +kernel
theorem dX9_thumbUp_48 : decode cX9_thumbUp 48 = .ok (.istore 7, 2) := by decide +kernel
theorem dX9_thumbUp_50 : decode cX9_thumbUp 50 = .ok (.iload 7, 2) := by decide +kernel
theorem dX9_thumbUp_52 : decode cX9_thumbUp 52 = .ok (.iload_n 0, 1) := by decide +kernel
theorem dX9_thumbUp_53 : decode cX9_thumbUp 53 = .ok (.if_icmp .ge 17, 3) := by decide +kernel
theorem dX9_thumbUp_56 : decode cX9_thumbUp 56 = .ok (.lload 5, 2) := by decide +kernel
theorem dX9_thumbUp_58 : decode cX9_thumbUp 58 = .ok (.ldc2_w 338, 3) := by decide +kernel
theorem dX9_thumbUp_61 : decode cX9_thumbUp 61 = .ok (.lmul, 1) := by decide +kernel
theorem dX9_thumbUp_62 : decode cX9_thumbUp 62 = .ok (.lstore 5, 2) := by decide +kernel
theorem dX9_thumbUp_64 : decode cX9_thumbUp 64 = .ok (.iinc 7 1, 3) := by decide +kernel
theorem dX9_thumbUp_67 : decode cX9_thumbUp 67 = .ok (.goto (-17), 3) := by decide +kernel
theorem dX9_thumbUp_70 : decode cX9_thumbUp 70 = .ok (.lload_n 2, 1) := by decide +kernel
theorem dX9_thumbUp_71 : decode cX9_thumbUp 71 = .ok (.lload 5, 2) := by decide +kernel
theorem dX9_thumbUp_73 : decode cX9_thumbUp 73 = .ok (.ladd, 1) := by decide +kernel
theorem dX9_thumbUp_74 : decode cX9_thumbUp 74 = .ok (.lstore_n 2, 1) := by decide +kernel
theorem dX9_thumbUp_75 : decode cX9_thumbUp 75 = .ok (.iinc 4 1, 3) := by decide +kernel
theorem dX9_thumbUp_78 : decode cX9_thumbUp 78 = .ok (.goto (-73), 3) := by decide +kernel
theorem dX9_thumbUp_81 : decode cX9_thumbUp 81 = .ok (.lload_n 2, 1) := by decide +kernel
theorem dX9_thumbUp_82 : decode cX9_thumbUp 82 = .ok (.lreturn, 1) := by decide +kernel
theorem dX9_sixes_0 : decode cX9_sixes 0 = .ok (.lconst 1, 1) := by decide +kernel
theorem dX9_sixes_1 : decode cX9_sixes 1 = .ok (.lstore_n 1, 1) := by decide +kernel
theorem dX9_sixes_2 : decode cX9_sixes 2 = .ok (.iconst 0, 1) := by decide +kernel
theorem dX9_sixes_3 : decode cX9_sixes 3 = .ok (.istore_n 3, 1) := by decide +kernel
theorem dX9_sixes_4 : decode cX9_sixes 4 = .ok (.iload_n 3, 1) := by decide +kernel
theorem dX9_sixes_5 : decode cX9_sixes 5 = .ok (.iload_n 0, 1) := by decide +kernel
theorem dX9_sixes_6 : decode cX9_sixes 6 = .ok (.if_icmp .ge 15, 3) := by decide +kernel
theorem dX9_sixes_9 : decode cX9_sixes 9 = .ok (.lload_n 1, 1) := by decide +kernel
theorem dX9_sixes_10 : decode cX9_sixes 10 = .ok (.ldc2_w 340, 3) := by decide +kernel
theorem dX9_sixes_13 : decode cX9_sixes 13 = .ok (.lmul, 1) := by decide +kernel
theorem dX9_sixes_14 : decode cX9_sixes 14 = .ok (.lstore_n 1, 1) := by decide +kernel
theorem dX9_sixes_15 : decode cX9_sixes 15 = .ok (.iinc 3 1, 3) := by decide +kernel
theorem dX9_sixes_18 : decode cX9_sixes 18 = .ok (.goto (-14), 3) := by decide +kernel
theorem dX9_sixes_21 : decode cX9_sixes 21 = .ok (.lload_n 1, 1) := by decide +kernel
theorem dX9_sixes_22 : decode cX9_sixes 22 = .ok (.lreturn, 1) := by decide +kernel
theorem dX9_thumbs_0 : decode cX9_thumbs 0 = .ok (.iload_n 1, 1) := by decide +kernel
theorem dX9_thumbs_1 : decode cX9_thumbs 1 = .ok (.i2l, 1) := by decide +kernel
theorem dX9_thumbs_2 : decode cX9_thumbs 2 = .ok (.lconst 1, 1) := by decide +kernel
theorem dX9_thumbs_3 : decode cX9_thumbs 3 = .ok (.ldc2_w 342, 3) := by decide +kernel
theorem dX9_thumbs_6 : decode cX9_thumbs 6 = .ok (.invokestatic 96, 3) := by decide +kernel
theorem dX9_thumbs_9 : decode cX9_thumbs 9 = .ok (.ifCond .eq 40, 3) := by decide +kernel
theorem dX9_thumbs_12 : decode cX9_thumbs 12 = .ok (.iload_n 2, 1) := by decide +kernel
theorem dX9_thumbs_13 : decode cX9_thumbs 13 = .ok (.i2l, 1) := by decide +kernel
theorem dX9_thumbs_14 : decode cX9_thumbs 14 = .ok (.lconst 0, 1) := by decide +kernel
theorem dX9_thumbs_15 : decode cX9_thumbs 15 = .ok (.iload_n 1, 1) := by decide +kernel
theorem dX9_thumbs_16 : decode cX9_thumbs 16 = .ok (.i2l, 1) := by decide +kernel
theorem dX9_thumbs_17 : decode cX9_thumbs 17 = .ok (.invokestatic 96, 3) := by decide +kernel
theorem dX9_thumbs_20 : decode cX9_thumbs 20 = .ok (.ifCond .eq 29, 3) := by decide +kernel
theorem dX9_thumbs_23 : decode cX9_thumbs 23 = .ok (.iload_n 3, 1) := by decide +kernel
theorem dX9_thumbs_24 : decode cX9_thumbs 24 = .ok (.i2l, 1) := by decide +kernel
theorem dX9_thumbs_25 : decode cX9_thumbs 25 = .ok (.lconst 0, 1) := by decide +kernel
theorem dX9_thumbs_26 : decode cX9_thumbs 26 = .ok (.lconst 1, 1) := by decide +kernel
theorem dX9_thumbs_27 : decode cX9_thumbs 27 = .ok (.invokestatic 96, 3) := by decide +kernel
theorem dX9_thumbs_30 : decode cX9_thumbs 30 = .ok (.ifCond .eq 19, 3) := by decide +kernel
theorem dX9_thumbs_33 : decode cX9_thumbs 33 = .ok (.iload_n 1, 1) := by decide +kernel
theorem dX9_thumbs_34 : decode cX9_thumbs 34 = .ok (.iload_n 2, 1) := by decide +kernel
theorem dX9_thumbs_35 : decode cX9_thumbs 35 = .ok (.invokestatic 344, 3) := by decide +kernel
theorem dX9_thumbs_38 : decode cX9_thumbs 38 = .ok (.iload_n 1, 1) := by decide +kernel
theorem dX9_thumbs_39 : decode cX9_thumbs 39 = .ok (.invokestatic 347, 3) := by decide +kernel
theorem dX9_thumbs_42 : decode cX9_thumbs 42 = .ok (.iload_n 3, 1) := by decide +kernel
theorem dX9_thumbs_43 : decode cX9_thumbs 43 = .ok (.invokestatic 237, 3) := by decide +kernel
theorem dX9_thumbs_46 : decode cX9_thumbs 46 = .ok (.goto 6, 3) := by decide +kernel
theorem dX9_thumbs_49 : decode cX9_thumbs 49 = .ok (.ldc2_w 266, 3) := by decide +kernel
theorem dX9_thumbs_52 : decode cX9_thumbs 52 = .ok (.lreturn, 1) := by decide +kernel
theorem dX9_fine_0 : decode cX9_fine 0 = .ok (.iload_n 1, 1) := by decide +kernel
theorem dX9_fine_1 : decode cX9_fine 1 = .ok (.i2l, 1) := by decide +kernel
theorem dX9_fine_2 : decode cX9_fine 2 = .ok (.lconst 1, 1) := by decide +kernel
theorem dX9_fine_3 : decode cX9_fine 3 = .ok (.ldc2_w 342, 3) := by decide +kernel
theorem dX9_fine_6 : decode cX9_fine 6 = .ok (.invokestatic 96, 3) := by decide +kernel
theorem dX9_fine_9 : decode cX9_fine 9 = .ok (.ifCond .eq 17, 3) := by decide +kernel
theorem dX9_fine_12 : decode cX9_fine 12 = .ok (.iload_n 2, 1) := by decide +kernel
theorem dX9_fine_13 : decode cX9_fine 13 = .ok (.i2l, 1) := by decide +kernel
theorem dX9_fine_14 : decode cX9_fine 14 = .ok (.ldc2_w 196, 3) := by decide +kernel
theorem dX9_fine_17 : decode cX9_fine 17 = .ok (.ldc2_w 351, 3) := by decide +kernel
theorem dX9_fine_20 : decode cX9_fine 20 = .ok (.invokestatic 96, 3) := by decide +kernel
theorem dX9_fine_23 : decode cX9_fine 23 = .ok (.ifCond .ne 5, 3) := by decide +kernel
theorem dX9_fine_26 : decode cX9_fine 26 = .ok (.iconst (-1), 1) := by decide +kernel
theorem dX9_fine_27 : decode cX9_fine 27 = .ok (.ireturn, 1) := by decide +kernel
theorem dX9_fine_28 : decode cX9_fine 28 = .ok (.iconst 0, 1) := by decide +kernel
theorem dX9_fine_29 : decode cX9_fine 29 = .ok (.istore_n 3, 1) := by decide +kernel
theorem dX9_fine_30 : decode cX9_fine 30 = .ok (.iload_n 3, 1) := by decide +kernel
theorem dX9_fine_31 : decode cX9_fine 31 = .ok (.iload_n 1, 1) := by decide +kernel
theorem dX9_fine_32 : decode cX9_fine 32 = .ok (.if_icmp .gt 27, 3) := by decide +kernel
theorem dX9_fine_35 : decode cX9_fine 35 = .ok (.iload_n 1, 1) := by decide +kernel
theorem dX9_fine_36 : decode cX9_fine 36 = .ok (.iload_n 3, 1) := by decide +kernel
theorem dX9_fine_37 : decode cX9_fine 37 = .ok (.invokestatic 344, 3) := by decide +kernel
theorem dX9_fine_40 : decode cX9_fine 40 = .ok (.iload_n 2, 1) := by decide +kernel
theorem dX9_fine_41 : decode cX9_fine 41 = .ok (.i2l, 1) := by decide +kernel
theorem dX9_fine_42 : decode cX9_fine 42 = .ok (.lmul, 1) := by decide +kernel
theorem dX9_fine_43 : decode cX9_fine 43 = .ok (.iload_n 1, 1) := by decide +kernel
theorem dX9_fine_44 : decode cX9_fine 44 = .ok (.invokestatic 347, 3) := by decide +kernel
theorem dX9_fine_47 : decode cX9_fine 47 = .ok (.lcmp, 1) := by decide +kernel
theorem dX9_fine_48 : decode cX9_fine 48 = .ok (.ifCond .gt 5, 3) := by decide +kernel
theorem dX9_fine_51 : decode cX9_fine 51 = .ok (.iload_n 3, 1) := by decide +kernel
theorem dX9_fine_52 : decode cX9_fine 52 = .ok (.ireturn, 1) := by decide +kernel
theorem dX9_fine_53 : decode cX9_fine 53 = .ok (.iinc 3 1, 3) := by decide +kernel
theorem dX9_fine_56 : decode cX9_fine 56 = .ok (.goto (-26), 3) := by decide +kernel
theorem dX9_fine_59 : decode cX9_fine 59 = .ok (.bipush (-4), 2) := by decide +kernel
theorem dX9_fine_61 : decode cX9_fine 61 = .ok (.ireturn, 1) := by decide +kernel
theorem dX9_sheet_0 : decode cX9_sheet 0 = .ok (.iload_n 1, 1) := by decide +kernel
theorem dX9_sheet_1 : decode cX9_sheet 1 = .ok (.i2l, 1) := by decide +kernel
theorem dX9_sheet_2 : decode cX9_sheet 2 = .ok (.lconst 0, 1) := by decide +kernel
theorem dX9_sheet_3 : decode cX9_sheet 3 = .ok (.ldc2_w 353, 3) := by decide +kernel
theorem dX9_sheet_6 : decode cX9_sheet 6 = .ok (.invokestatic 96, 3) := by decide +kernel
theorem dX9_sheet_9 : decode cX9_sheet 9 = .ok (.ifCond .eq 21, 3) := by decide +kernel
theorem dX9_sheet_12 : decode cX9_sheet 12 = .ok (.iload_n 2, 1) := by decide +kernel
theorem dX9_sheet_13 : decode cX9_sheet 13 = .ok (.i2l, 1) := by decide +kernel
theorem dX9_sheet_14 : decode cX9_sheet 14 = .ok (.lconst 0, 1) := by decide +kernel
theorem dX9_sheet_15 : decode cX9_sheet 15 = .ok (.ldc2_w 196, 3) := by decide +kernel
theorem dX9_sheet_18 : decode cX9_sheet 18 = .ok (.invokestatic 96, 3) := by decide +kernel
theorem dX9_sheet_21 : decode cX9_sheet 21 = .ok (.ifCond .eq 9, 3) := by decide +kernel
theorem dX9_sheet_24 : decode cX9_sheet 24 = .ok (.iload_n 3, 1) := by decide +kernel
theorem dX9_sheet_25 : decode cX9_sheet 25 = .ok (.bipush 40, 2) := by decide +kernel
theorem dX9_sheet_27 : decode cX9_sheet 27 = .ok (.if_icmp .le 5, 3) := by decide +kernel
theorem dX9_sheet_30 : decode cX9_sheet 30 = .ok (.iconst (-1), 1) := by decide +kernel
theorem dX9_sheet_31 : decode cX9_sheet 31 = .ok (.ireturn, 1) := by decide +kernel
theorem dX9_sheet_32 : decode cX9_sheet 32 = .ok (.iload_n 3, 1) := by decide +kernel
theorem dX9_sheet_33 : decode cX9_sheet 33 = .ok (.ifCond .ge 6, 3) := by decide +kernel
theorem dX9_sheet_36 : decode cX9_sheet 36 = .ok (.bipush (-14), 2) := by decide +kernel
theorem dX9_sheet_38 : decode cX9_sheet 38 = .ok (.ireturn, 1) := by decide +kernel
theorem dX9_sheet_39 : decode cX9_sheet 39 = .ok (.aload_n 0, 1) := by decide +kernel
theorem dX9_sheet_40 : decode cX9_sheet 40 = .ok (.getfield 83, 3) := by decide +kernel
theorem dX9_sheet_43 : decode cX9_sheet 43 = .ok (.iload_n 1, 1) := by decide +kernel
theorem dX9_sheet_44 : decode cX9_sheet 44 = .ok (.iload_n 2, 1) := by decide +kernel
theorem dX9_sheet_45 : decode cX9_sheet 45 = .ok (.iastore, 1) := by decide +kernel
theorem dX9_sheet_46 : decode cX9_sheet 46 = .ok (.aload_n 0, 1) := by decide +kernel
theorem dX9_sheet_47 : decode cX9_sheet 47 = .ok (.getfield 86, 3) := by decide +kernel
theorem dX9_sheet_50 : decode cX9_sheet 50 = .ok (.iload_n 1, 1) := by decide +kernel
theorem dX9_sheet_51 : decode cX9_sheet 51 = .ok (.iload_n 3, 1) := by decide +kernel
theorem dX9_sheet_52 : decode cX9_sheet 52 = .ok (.iastore, 1) := by decide +kernel
theorem dX9_sheet_53 : decode cX9_sheet 53 = .ok (.iconst 0, 1) := by decide +kernel
theorem dX9_sheet_54 : decode cX9_sheet 54 = .ok (.istore 4, 2) := by decide +kernel
theorem dX9_sheet_56 : decode cX9_sheet 56 = .ok (.iload 4, 2) := by decide +kernel
theorem dX9_sheet_58 : decode cX9_sheet 58 = .ok (.bipush 40, 2) := by decide +kernel
theorem dX9_sheet_60 : decode cX9_sheet 60 = .ok (.if_icmp .ge 22, 3) := by decide +kernel
theorem dX9_sheet_63 : decode cX9_sheet 63 = .ok (.aload_n 0, 1) := by decide +kernel
theorem dX9_sheet_64 : decode cX9_sheet 64 = .ok (.getfield 89, 3) := by decide +kernel
theorem dX9_sheet_67 : decode cX9_sheet 67 = .ok (.bipush 40, 2) := by decide +kernel
theorem dX9_sheet_69 : decode cX9_sheet 69 = .ok (.iload_n 1, 1) := by decide +kernel
theorem dX9_sheet_70 : decode cX9_sheet 70 = .ok (.imul, 1) := by decide +kernel
theorem dX9_sheet_71 : decode cX9_sheet 71 = .ok (.iload 4, 2) := by decide +kernel
theorem dX9_sheet_73 : decode cX9_sheet 73 = .ok (.iadd, 1) := by decide +kernel
theorem dX9_sheet_74 : decode cX9_sheet 74 = .ok (.iconst 0, 1) := by decide +kernel
theorem dX9_sheet_75 : decode cX9_sheet 75 = .ok (.iastore, 1) := by decide +kernel
theorem dX9_sheet_76 : decode cX9_sheet 76 = .ok (.iinc 4 1, 3) := by decide +kernel
theorem dX9_sheet_79 : decode cX9_sheet 79 = .ok (.goto (-23), 3) := by decide +kernel
theorem dX9_sheet_82 : decode cX9_sheet 82 = .ok (.iconst 1, 1) := by decide +kernel
theorem dX9_sheet_83 : decode cX9_sheet 83 = .ok (.ireturn, 1) := by decide +kernel
theorem dX9_lay_0 : decode cX9_lay 0 = .ok (.iload_n 1, 1) := by decide +kernel
theorem dX9_lay_1 : decode cX9_lay 1 = .ok (.i2l, 1) := by decide +kernel
theorem dX9_lay_2 : decode cX9_lay 2 = .ok (.lconst 0, 1) := by decide +kernel
theorem dX9_lay_3 : decode cX9_lay 3 = .ok (.ldc2_w 353, 3) := by decide +kernel
theorem dX9_lay_6 : decode cX9_lay 6 = .ok (.invokestatic 96, 3) := by decide +kernel
theorem dX9_lay_9 : decode cX9_lay 9 = .ok (.ifCond .ne 5, 3) := by decide +kernel
theorem dX9_lay_12 : decode cX9_lay 12 = .ok (.iconst (-1), 1) := by decide +kernel
theorem dX9_lay_13 : decode cX9_lay 13 = .ok (.ireturn, 1) := by decide +kernel
theorem dX9_lay_14 : decode cX9_lay 14 = .ok (.aload_n 0, 1) := by decide +kernel
theorem dX9_lay_15 : decode cX9_lay 15 = .ok (.getfield 83, 3) := by decide +kernel
theorem dX9_lay_18 : decode cX9_lay 18 = .ok (.iload_n 1, 1) := by decide +kernel
theorem dX9_lay_19 : decode cX9_lay 19 = .ok (.iaload, 1) := by decide +kernel
theorem dX9_lay_20 : decode cX9_lay 20 = .ok (.bipush (-4), 2) := by decide +kernel
theorem dX9_lay_22 : decode cX9_lay 22 = .ok (.if_icmp .ne 6, 3) := by decide +kernel
theorem dX9_lay_25 : decode cX9_lay 25 = .ok (.bipush (-11), 2) := by decide +kernel
theorem dX9_lay_27 : decode cX9_lay 27 = .ok (.ireturn, 1) := by decide +kernel
theorem dX9_lay_28 : decode cX9_lay 28 = .ok (.iload_n 2, 1) := by decide +kernel
theorem dX9_lay_29 : decode cX9_lay 29 = .ok (.i2l, 1) := by decide +kernel
theorem dX9_lay_30 : decode cX9_lay 30 = .ok (.lconst 0, 1) := by decide +kernel
theorem dX9_lay_31 : decode cX9_lay 31 = .ok (.aload_n 0, 1) := by decide +kernel
theorem dX9_lay_32 : decode cX9_lay 32 = .ok (.getfield 86, 3) := by decide +kernel
theorem dX9_lay_35 : decode cX9_lay 35 = .ok (.iload_n 1, 1) := by decide +kernel
theorem dX9_lay_36 : decode cX9_lay 36 = .ok (.iaload, 1) := by decide +kernel
theorem dX9_lay_37 : decode cX9_lay 37 = .ok (.iconst 1, 1) := by decide +kernel
theorem dX9_lay_38 : decode cX9_lay 38 = .ok (.isub, 1) := by decide +kernel
theorem dX9_lay_39 : decode cX9_lay 39 = .ok (.i2l, 1) := by decide +kernel
theorem dX9_lay_40 : decode cX9_lay 40 = .ok (.invokestatic 96, 3) := by decide +kernel
theorem dX9_lay_43 : decode cX9_lay 43 = .ok (.ifCond .ne 6, 3) := by decide +kernel
theorem dX9_lay_46 : decode cX9_lay 46 = .ok (.bipush (-12), 2) := by decide +kernel
theorem dX9_lay_48 : decode cX9_lay 48 = .ok (.ireturn, 1) := by decide +kernel
theorem dX9_lay_49 : decode cX9_lay 49 = .ok (.aload_n 0, 1) := by decide +kernel
theorem dX9_lay_50 : decode cX9_lay 50 = .ok (.getfield 89, 3) := by decide +kernel
theorem dX9_lay_53 : decode cX9_lay 53 = .ok (.bipush 40, 2) := by decide +kernel
theorem dX9_lay_55 : decode cX9_lay 55 = .ok (.iload_n 1, 1) := by decide +kernel
theorem dX9_lay_56 : decode cX9_lay 56 = .ok (.imul, 1) := by decide +kernel
theorem dX9_lay_57 : decode cX9_lay 57 = .ok (.iload_n 2, 1) := by decide +kernel
theorem dX9_lay_58 : decode cX9_lay 58 = .ok (.iadd, 1) := by decide +kernel
theorem dX9_lay_59 : decode cX9_lay 59 = .ok (.aload_n 0, 1) := by decide +kernel
theorem dX9_lay_60 : decode cX9_lay 60 = .ok (.getfield 83, 3) := by decide +kernel
theorem dX9_lay_63 : decode cX9_lay 63 = .ok (.iload_n 1, 1) := by decide +kernel
theorem dX9_lay_64 : decode cX9_lay 64 = .ok (.iaload, 1) := by decide +kernel
theorem dX9_lay_65 : decode cX9_lay 65 = .ok (.ifCond .ne 13, 3) := by decide +kernel
theorem dX9_lay_68 : decode cX9_lay 68 = .ok (.iload_n 3, 1) := by decide +kernel
theorem dX9_lay_69 : decode cX9_lay 69 = .ok (.bipush 24, 2) := by decide +kernel
theorem dX9_lay_71 : decode cX9_lay 71 = .ok (.ishl, 1) := by decide +kernel
theorem dX9_lay_72 : decode cX9_lay 72 = .ok (.bipush 24, 2) := by decide +kernel
theorem dX9_lay_74 : decode cX9_lay 74 = .ok (.ishr, 1) := by decide +kernel
theorem dX9_lay_75 : decode cX9_lay 75 = .ok (.goto 24, 3) := by decide +kernel
theorem dX9_lay_78 : decode cX9_lay 78 = .ok (.aload_n 0, 1) := by decide +kernel
theorem dX9_lay_79 : decode cX9_lay 79 = .ok (.getfield 83, 3) := by decide +kernel
theorem dX9_lay_82 : decode cX9_lay 82 = .ok (.iload_n 1, 1) := by decide +kernel
theorem dX9_lay_83 : decode cX9_lay 83 = .ok (.iaload, 1) := by decide +kernel
theorem dX9_lay_84 : decode cX9_lay 84 = .ok (.iconst 1, 1) := by decide +kernel
theorem dX9_lay_85 : decode cX9_lay 85 = .ok (.if_icmp .ne 13, 3) := by decide +kernel
theorem dX9_lay_88 : decode cX9_lay 88 = .ok (.iload_n 3, 1) := by decide +kernel
theorem dX9_lay_89 : decode cX9_lay 89 = .ok (.bipush 16, 2) := by decide +kernel
theorem dX9_lay_91 : decode cX9_lay 91 = .ok (.ishl, 1) := by decide +kernel
theorem dX9_lay_92 : decode cX9_lay 92 = .ok (.bipush 16, 2) := by decide +kernel
theorem dX9_lay_94 : decode cX9_lay 94 = .ok (.ishr, 1) := by decide +kernel
theorem dX9_lay_95 : decode cX9_lay 95 = .ok (.goto 4, 3) := by decide +kernel
theorem dX9_lay_98 : decode cX9_lay 98 = .ok (.iload_n 3, 1) := by decide +kernel
theorem dX9_lay_99 : decode cX9_lay 99 = .ok (.iastore, 1) := by decide +kernel
theorem dX9_lay_100 : decode cX9_lay 100 = .ok (.iconst 1, 1) := by decide +kernel
theorem dX9_lay_101 : decode cX9_lay 101 = .ok (.ireturn, 1) := by decide +kernel
theorem dX9_read_0 : decode cX9_read 0 = .ok (.iload_n 1, 1) := by decide +kernel
theorem dX9_read_1 : decode cX9_read 1 = .ok (.i2l, 1) := by decide +kernel
theorem dX9_read_2 : decode cX9_read 2 = .ok (.lconst 0, 1) := by decide +kernel
theorem dX9_read_3 : decode cX9_read 3 = .ok (.ldc2_w 353, 3) := by decide +kernel
theorem dX9_read_6 : decode cX9_read 6 = .ok (.invokestatic 96, 3) := by decide +kernel
theorem dX9_read_9 : decode cX9_read 9 = .ok (.ifCond .eq 51, 3) := by decide +kernel
theorem dX9_read_12 : decode cX9_read 12 = .ok (.iload_n 2, 1) := by decide +kernel
theorem dX9_read_13 : decode cX9_read 13 = .ok (.i2l, 1) := by decide +kernel
theorem dX9_read_14 : decode cX9_read 14 = .ok (.lconst 0, 1) := by decide +kernel
theorem dX9_read_15 : decode cX9_read 15 = .ok (.ldc2_w 196, 3) := by decide +kernel
theorem dX9_read_18 : decode cX9_read 18 = .ok (.invokestatic 96, 3) := by decide +kernel
theorem dX9_read_21 : decode cX9_read 21 = .ok (.ifCond .eq 39, 3) := by decide +kernel
theorem dX9_read_24 : decode cX9_read 24 = .ok (.iload 5, 2) := by decide +kernel
theorem dX9_read_26 : decode cX9_read 26 = .ok (.i2l, 1) := by decide +kernel
theorem dX9_read_27 : decode cX9_read 27 = .ok (.lconst 0, 1) := by decide +kernel
theorem dX9_read_28 : decode cX9_read 28 = .ok (.ldc2_w 355, 3) := by decide +kernel
theorem dX9_read_31 : decode cX9_read 31 = .ok (.invokestatic 96, 3) := by decide +kernel
theorem dX9_read_34 : decode cX9_read 34 = .ok (.ifCond .eq 26, 3) := by decide +kernel
theorem dX9_read_37 : decode cX9_read 37 = .ok (.iload 4, 2) := by decide +kernel
theorem dX9_read_39 : decode cX9_read 39 = .ok (.ifCond .lt 21, 3) := by decide +kernel
theorem dX9_read_42 : decode cX9_read 42 = .ok (.iload 4, 2) := by decide +kernel
theorem dX9_read_44 : decode cX9_read 44 = .ok (.i2l, 1) := by decide +kernel
theorem dX9_read_45 : decode cX9_read 45 = .ok (.iload 5, 2) := by decide +kernel
theorem dX9_read_47 : decode cX9_read 47 = .ok (.i2l, 1) := by decide +kernel
theorem dX9_read_48 : decode cX9_read 48 = .ok (.ladd, 1) := by decide +kernel
theorem dX9_read_49 : decode cX9_read 49 = .ok (.aload_n 0, 1) := by decide +kernel
theorem dX9_read_50 : decode cX9_read 50 = .ok (.getfield 43, 3) := by decide +kernel
theorem dX9_read_53 : decode cX9_read 53 = .ok (.iconst 0, 1) := by decide +kernel
theorem dX9_read_54 : decode cX9_read 54 = .ok (.iaload, 1) := by decide +kernel
theorem dX9_read_55 : decode cX9_read 55 = .ok (.i2l, 1) := by decide +kernel
theorem dX9_read_56 : decode cX9_read 56 = .ok (.lcmp, 1) := by decide +kernel
theorem dX9_read_57 : decode cX9_read 57 = .ok (.ifCond .le 5, 3) := by decide +kernel
theorem dX9_read_60 : decode cX9_read 60 = .ok (.iconst (-1), 1) := by decide +kernel
theorem dX9_read_61 : decode cX9_read 61 = .ok (.ireturn, 1) := by decide +kernel
theorem dX9_read_62 : decode cX9_read 62 = .ok (.iconst 0, 1) := by decide +kernel
theorem dX9_read_63 : decode cX9_read 63 = .ok (.istore 6, 2) := by decide +kernel
theorem dX9_read_65 : decode cX9_read 65 = .ok (.iconst 0, 1) := by decide +kernel
theorem dX9_read_66 : decode cX9_read 66 = .ok (.istore 7, 2) := by decide +kernel
theorem dX9_read_68 : decode cX9_read 68 = .ok (.iconst 0, 1) := by decide +kernel
theorem dX9_read_69 : decode cX9_read 69 = .ok (.istore 8, 2) := by decide +kernel
theorem dX9_read_71 : decode cX9_read 71 = .ok (.iload 8, 2) := by decide +kernel
theorem dX9_read_73 : decode cX9_read 73 = .ok (.iload 5, 2) := by decide +kernel
theorem dX9_read_75 : decode cX9_read 75 = .ok (.if_icmp .ge 123, 3) := by decide +kernel
theorem dX9_read_78 : decode cX9_read 78 = .ok (.iload 6, 2) := by decide +kernel
theorem dX9_read_80 : decode cX9_read 80 = .ok (.ifCond .ne 118, 3) := by decide +kernel
theorem dX9_read_83 : decode cX9_read 83 = .ok (.aload_n 0, 1) := by decide +kernel
theorem dX9_read_84 : decode cX9_read 84 = .ok (.getfield 83, 3) := by decide +kernel
theorem dX9_read_87 : decode cX9_read 87 = .ok (.iload_n 1, 1) := by decide +kernel
theorem dX9_read_88 : decode cX9_read 88 = .ok (.iaload, 1) := by decide +kernel
theorem dX9_read_89 : decode cX9_read 89 = .ok (.bipush (-4), 2) := by decide +kernel
theorem dX9_read_91 : decode cX9_read 91 = .ok (.if_icmp .ne 7, 3) := by decide +kernel
theorem dX9_read_94 : decode cX9_read 94 = .ok (.iconst 1, 1) := by decide +kernel
theorem dX9_read_95 : decode cX9_read 95 = .ok (.goto 44, 3) := by decide +kernel
theorem dX9_read_98 : decode cX9_read 98 = .ok (.aload_n 0, 1) := by decide +kernel
theorem dX9_read_99 : decode cX9_read 99 = .ok (.getfield 83, 3) := by decide +kernel
theorem dX9_read_102 : decode cX9_read 102 = .ok (.iload_n 1, 1) := by decide +kernel
theorem dX9_read_103 : decode cX9_read 103 = .ok (.iaload, 1) := by decide +kernel
theorem dX9_read_104 : decode cX9_read 104 = .ok (.iload_n 2, 1) := by decide +kernel
theorem dX9_read_105 : decode cX9_read 105 = .ok (.if_icmp .eq 7, 3) := by decide +kernel
theorem dX9_read_108 : decode cX9_read 108 = .ok (.iconst 3, 1) := by decide +kernel
theorem dX9_read_109 : decode cX9_read 109 = .ok (.goto 30, 3) := by decide +kernel
theorem dX9_read_112 : decode cX9_read 112 = .ok (.iload_n 3, 1) := by decide +kernel
theorem dX9_read_113 : decode cX9_read 113 = .ok (.i2l, 1) := by decide +kernel
theorem dX9_read_114 : decode cX9_read 114 = .ok (.iload 8, 2) := by decide +kernel
theorem dX9_read_116 : decode cX9_read 116 = .ok (.i2l, 1) := by decide +kernel
theorem dX9_read_117 : decode cX9_read 117 = .ok (.ladd, 1) := by decide +kernel
theorem dX9_read_118 : decode cX9_read 118 = .ok (.lconst 0, 1) := by decide +kernel
theorem dX9_read_119 : decode cX9_read 119 = .ok (.aload_n 0, 1) := by decide +kernel
theorem dX9_read_120 : decode cX9_read 120 = .ok (.getfield 86, 3) := by decide +kernel
theorem dX9_read_123 : decode cX9_read 123 = .ok (.iload_n 1, 1) := by decide +kernel
theorem dX9_read_124 : decode cX9_read 124 = .ok (.iaload, 1) := by decide +kernel
theorem dX9_read_125 : decode cX9_read 125 = .ok (.iconst 1, 1) := by decide +kernel
theorem dX9_read_126 : decode cX9_read 126 = .ok (.isub, 1) := by decide +kernel
theorem dX9_read_127 : decode cX9_read 127 = .ok (.i2l, 1) := by decide +kernel
theorem dX9_read_128 : decode cX9_read 128 = .ok (.invokestatic 96, 3) := by decide +kernel
theorem dX9_read_131 : decode cX9_read 131 = .ok (.ifCond .ne 7, 3) := by decide +kernel
theorem dX9_read_134 : decode cX9_read 134 = .ok (.iconst 2, 1) := by decide +kernel
theorem dX9_read_135 : decode cX9_read 135 = .ok (.goto 4, 3) := by decide +kernel
theorem dX9_read_138 : decode cX9_read 138 = .ok (.iconst 0, 1) := by decide +kernel
theorem dX9_read_139 : decode cX9_read 139 = .ok (.istore 6, 2) := by decide +kernel
theorem dX9_read_141 : decode cX9_read 141 = .ok (.iload 6, 2) := by decide +kernel
theorem dX9_read_143 : decode cX9_read 143 = .ok (.ifCond .ne 34, 3) := by decide +kernel
theorem dX9_read_146 : decode cX9_read 146 = .ok (.aload_n 0, 1) := by decide +kernel
theorem dX9_read_147 : decode cX9_read 147 = .ok (.getfield 89, 3) := by decide +kernel
theorem dX9_read_150 : decode cX9_read 150 = .ok (.bipush 40, 2) := by decide +kernel
theorem dX9_read_152 : decode cX9_read 152 = .ok (.iload_n 1, 1) := by decide +kernel
theorem dX9_read_153 : decode cX9_read 153 = .ok (.imul, 1) := by decide +kernel
theorem dX9_read_154 : decode cX9_read 154 = .ok (.iload_n 3, 1) := by decide +kernel
theorem dX9_read_155 : decode cX9_read 155 = .ok (.iadd, 1) := by decide +kernel
theorem dX9_read_156 : decode cX9_read 156 = .ok (.iload 8, 2) := by decide +kernel
theorem dX9_read_158 : decode cX9_read 158 = .ok (.iadd, 1) := by decide +kernel
theorem dX9_read_159 : decode cX9_read 159 = .ok (.iaload, 1) := by decide +kernel
theorem dX9_read_160 : decode cX9_read 160 = .ok (.i2l, 1) := by decide +kernel
theorem dX9_read_161 : decode cX9_read 161 = .ok (.lconst 0, 1) := by decide +kernel
theorem dX9_read_162 : decode cX9_read 162 = .ok (.ldc2_w 196, 3) := by decide +kernel
theorem dX9_read_165 : decode cX9_read 165 = .ok (.invokestatic 96, 3) := by decide +kernel
theorem dX9_read_168 : decode cX9_read 168 = .ok (.ifCond .ne 9, 3) := by decide +kernel
theorem dX9_read_171 : decode cX9_read 171 = .ok (.bipush (-20), 2) := by decide +kernel
theorem dX9_read_173 : decode cX9_read 173 = .ok (.iload 8, 2) := by decide +kernel
theorem dX9_read_175 : decode cX9_read 175 = .ok (.isub, 1) := by decide +kernel
theorem dX9_read_176 : decode cX9_read 176 = .ok (.ireturn, 1) := by decide +kernel
theorem dX9_read_177 : decode cX9_read 177 = .ok (.iload 7, 2) := by decide +kernel
theorem dX9_read_179 : decode cX9_read 179 = .ok (.iload 6, 2) := by decide +kernel
theorem dX9_read_181 : decode cX9_read 181 = .ok (.ifCond .ne 7, 3) := by decide +kernel
theorem dX9_read_184 : decode cX9_read 184 = .ok (.iconst 1, 1) := by decide +kernel
theorem dX9_read_185 : decode cX9_read 185 = .ok (.goto 4, 3) := by decide +kernel
theorem dX9_read_188 : decode cX9_read 188 = .ok (.iconst 0, 1) := by decide +kernel
theorem dX9_read_189 : decode cX9_read 189 = .ok (.iadd, 1) := by decide +kernel
theorem dX9_read_190 : decode cX9_read 190 = .ok (.istore 7, 2) := by decide +kernel
theorem dX9_read_192 : decode cX9_read 192 = .ok (.iinc 8 1, 3) := by decide +kernel
theorem dX9_read_195 : decode cX9_read 195 = .ok (.goto (-124), 3) := by decide +kernel
theorem dX9_read_198 : decode cX9_read 198 = .ok (.iconst 0, 1) := by decide +kernel
theorem dX9_read_199 : decode cX9_read 199 = .ok (.istore 8, 2) := by decide +kernel
theorem dX9_read_201 : decode cX9_read 201 = .ok (.iconst 0, 1) := by decide +kernel
theorem dX9_read_202 : decode cX9_read 202 = .ok (.istore 9, 2) := by decide +kernel
theorem dX9_read_204 : decode cX9_read 204 = .ok (.iload 9, 2) := by decide +kernel
theorem dX9_read_206 : decode cX9_read 206 = .ok (.iload 7, 2) := by decide +kernel
theorem dX9_read_208 : decode cX9_read 208 = .ok (.if_icmp .ge 62, 3) := by decide +kernel
theorem dX9_read_211 : decode cX9_read 211 = .ok (.aload_n 0, 1) := by decide +kernel
theorem dX9_read_212 : decode cX9_read 212 = .ok (.getfield 89, 3) := by decide +kernel
theorem dX9_read_215 : decode cX9_read 215 = .ok (.bipush 40, 2) := by decide +kernel
theorem dX9_read_217 : decode cX9_read 217 = .ok (.iload_n 1, 1) := by decide +kernel
theorem dX9_read_218 : decode cX9_read 218 = .ok (.imul, 1) := by decide +kernel
theorem dX9_read_219 : decode cX9_read 219 = .ok (.iload_n 3, 1) := by decide +kernel
theorem dX9_read_220 : decode cX9_read 220 = .ok (.iadd, 1) := by decide +kernel
theorem dX9_read_221 : decode cX9_read 221 = .ok (.iload 9, 2) := by decide +kernel
theorem dX9_read_223 : decode cX9_read 223 = .ok (.iadd, 1) := by decide +kernel
theorem dX9_read_224 : decode cX9_read 224 = .ok (.iaload, 1) := by decide +kernel
theorem dX9_read_225 : decode cX9_read 225 = .ok (.istore 10, 2) := by decide +kernel
theorem dX9_read_227 : decode cX9_read 227 = .ok (.iload 8, 2) := by decide +kernel
theorem dX9_read_229 : decode cX9_read 229 = .ok (.aload_n 0, 1) := by decide +kernel
theorem dX9_read_230 : decode cX9_read 230 = .ok (.getfield 40, 3) := by decide +kernel
theorem dX9_read_233 : decode cX9_read 233 = .ok (.iload 4, 2) := by decide +kernel
theorem dX9_read_235 : decode cX9_read 235 = .ok (.iload 9, 2) := by decide +kernel
theorem dX9_read_237 : decode cX9_read 237 = .ok (.iadd, 1) := by decide +kernel
theorem dX9_read_238 : decode cX9_read 238 = .ok (.iaload, 1) := by decide +kernel
theorem dX9_read_239 : decode cX9_read 239 = .ok (.iload 10, 2) := by decide +kernel
theorem dX9_read_241 : decode cX9_read 241 = .ok (.if_icmp .eq 7, 3) := by decide +kernel
theorem dX9_read_244 : decode cX9_read 244 = .ok (.iconst 1, 1) := by decide +kernel
theorem dX9_read_245 : decode cX9_read 245 = .ok (.goto 4, 3) := by decide +kernel
theorem dX9_read_248 : decode cX9_read 248 = .ok (.iconst 0, 1) := by decide +kernel
theorem dX9_read_249 : decode cX9_read 249 = .ok (.iadd, 1) := by decide +kernel
theorem dX9_read_250 : decode cX9_read 250 = .ok (.istore 8, 2) := by decide +kernel
theorem dX9_read_252 : decode cX9_read 252 = .ok (.aload_n 0, 1) := by decide +kernel
theorem dX9_read_253 : decode cX9_read 253 = .ok (.getfield 40, 3) := by decide +kernel
theorem dX9_read_256 : decode cX9_read 256 = .ok (.iload 4, 2) := by decide +kernel
theorem dX9_read_258 : decode cX9_read 258 = .ok (.iload 9, 2) := by decide +kernel
theorem dX9_read_260 : decode cX9_read 260 = .ok (.iadd, 1) := by decide +kernel
theorem dX9_read_261 : decode cX9_read 261 = .ok (.iload 10, 2) := by decide +kernel
theorem dX9_read_263 : decode cX9_read 263 = .ok (.iastore, 1) := by decide +kernel
theorem dX9_read_264 : decode cX9_read 264 = .ok (.iinc 9 1, 3) := by decide +kernel
theorem dX9_read_267 : decode cX9_read 267 = .ok (.goto (-63), 3) := by decide +kernel
theorem dX9_read_270 : decode cX9_read 270 = .ok (.aload_n 0, 1) := by decide +kernel
theorem dX9_read_271 : decode cX9_read 271 = .ok (.iload 6, 2) := by decide +kernel
theorem dX9_read_273 : decode cX9_read 273 = .ok (.putfield 357, 3) := by decide +kernel
theorem dX9_read_276 : decode cX9_read 276 = .ok (.iload 8, 2) := by decide +kernel
theorem dX9_read_278 : decode cX9_read 278 = .ok (.ireturn, 1) := by decide +kernel
theorem dX9_torn_0 : decode cX9_torn 0 = .ok (.aload_n 0, 1) := by decide +kernel
theorem dX9_torn_1 : decode cX9_torn 1 = .ok (.getfield 357, 3) := by decide +kernel
theorem dX9_torn_4 : decode cX9_torn 4 = .ok (.ireturn, 1) := by decide +kernel
theorem dX9_count_0 : decode cX9_count 0 = .ok (.iload_n 1, 1) := by decide +kernel
theorem dX9_count_1 : decode cX9_count 1 = .ok (.tableswitch 89 0 5 #[39, 44, 51, 56, 61, 66], 39) := by decide +kernel
theorem dX9_count_40 : decode cX9_count 40 = .ok (.aload_n 0, 1) := by decide +kernel
theorem dX9_count_41 : decode cX9_count 41 = .ok (.invokevirtual 176, 3) := by decide +kernel
theorem dX9_count_44 : decode cX9_count 44 = .ok (.ireturn, 1) := by decide +kernel
theorem dX9_count_45 : decode cX9_count 45 = .ok (.aload_n 0, 1) := by decide +kernel
theorem dX9_count_46 : decode cX9_count 46 = .ok (.getfield 43, 3) := by decide +kernel
theorem dX9_count_49 : decode cX9_count 49 = .ok (.iconst 0, 1) := by decide +kernel
theorem dX9_count_50 : decode cX9_count 50 = .ok (.iaload, 1) := by decide +kernel
theorem dX9_count_51 : decode cX9_count 51 = .ok (.ireturn, 1) := by decide +kernel
theorem dX9_count_52 : decode cX9_count 52 = .ok (.aload_n 0, 1) := by decide +kernel
theorem dX9_count_53 : decode cX9_count 53 = .ok (.invokevirtual 231, 3) := by decide +kernel
theorem dX9_count_56 : decode cX9_count 56 = .ok (.ireturn, 1) := by decide +kernel
theorem dX9_count_57 : decode cX9_count 57 = .ok (.aload_n 0, 1) := by decide +kernel
theorem dX9_count_58 : decode cX9_count 58 = .ok (.invokevirtual 221, 3) := by decide +kernel
theorem dX9_count_61 : decode cX9_count 61 = .ok (.ireturn, 1) := by decide +kernel
theorem dX9_count_62 : decode cX9_count 62 = .ok (.aload_n 0, 1) := by decide +kernel
theorem dX9_count_63 : decode cX9_count 63 = .ok (.getfield 92, 3) := by decide +kernel
theorem dX9_count_66 : decode cX9_count 66 = .ok (.ireturn, 1) := by decide +kernel
theorem dX9_count_67 : decode cX9_count 67 = .ok (.aload_n 0, 1) := by decide +kernel
theorem dX9_count_68 : decode cX9_count 68 = .ok (.getfield 83, 3) := by decide +kernel
theorem dX9_count_71 : decode cX9_count 71 = .ok (.iconst 0, 1) := by decide +kernel
theorem dX9_count_72 : decode cX9_count 72 = .ok (.iaload, 1) := by decide +kernel
theorem dX9_count_73 : decode cX9_count 73 = .ok (.bipush (-4), 2) := by decide +kernel
theorem dX9_count_75 : decode cX9_count 75 = .ok (.if_icmp .ne 8, 3) := by decide +kernel
theorem dX9_count_78 : decode cX9_count 78 = .ok (.bipush (-4), 2) := by decide +kernel
theorem dX9_count_80 : decode cX9_count 80 = .ok (.goto 9, 3) := by decide +kernel
theorem dX9_count_83 : decode cX9_count 83 = .ok (.aload_n 0, 1) := by decide +kernel
theorem dX9_count_84 : decode cX9_count 84 = .ok (.getfield 86, 3) := by decide +kernel
theorem dX9_count_87 : decode cX9_count 87 = .ok (.iconst 0, 1) := by decide +kernel
theorem dX9_count_88 : decode cX9_count 88 = .ok (.iaload, 1) := by decide +kernel
theorem dX9_count_89 : decode cX9_count 89 = .ok (.ireturn, 1) := by decide +kernel
theorem dX9_count_90 : decode cX9_count 90 = .ok (.iconst (-1), 1) := by decide +kernel
theorem dX9_count_91 : decode cX9_count 91 = .ok (.ireturn, 1) := by decide +kernel
