theorem dX8_change_0 : decode cX8_change 0 = .ok (.aload_n 0, 1) := by decide +kernel
theorem dX8_change_1 : decode cX8_change 1 = .ok (.invokevirtual 92, 3) := by decide +kernel
theorem dX8_change_4 : decode cX8_change 4 = .ok (.istore_n 1, 1) := by decide +kernel
theorem dX8_change_5 : decode cX8_change 5 = .ok (.iload_n 1, 1) := by decide +kernel
theorem dX8_change_6 : decode cX8_change 6 = .ok (.ifCond .ne 8, 3) := by decide +kernel
theorem dX8_change_9 : decode cX8_change 9 = .ok (.aload_n 0, 1) := by decide +kernel
theorem dX8_change_10 : decode cX8_change 10 = .ok (.invokevirtual 95, 3) := by decide +kernel
theorem dX8_change_13 : decode cX8_change 13 = .ok (.ireturn, 1) := by decide +kernel
theorem dX8_change_14 : decode cX8_change 14 = .ok (.aload_n 0, 1) := by decide +kernel
theorem dX8_change_15 : decode cX8_change 15 = .ok (.getfield 22, 3) := by decide +kernel
theorem dX8_change_18 : decode cX8_change 18 = .ok (.iload_n 1, 1) := by decide +kernel
theorem dX8_change_19 : decode cX8_change 19 = .ok (.aaload, 1) := by decide +kernel
theorem dX8_change_20 : decode cX8_change 20 = .ok (.astore_n 2, 1) := by decide +kernel
theorem dX8_change_21 : decode cX8_change 21 = .ok (.aload_n 0, 1) := by decide +kernel
theorem dX8_change_22 : decode cX8_change 22 = .ok (.bipush 6, 2) := by decide +kernel
theorem dX8_change_24 : decode cX8_change 24 = .ok (.invokevirtual 69, 3) := by decide +kernel
theorem dX8_change_27 : decode cX8_change 27 = .ok (.tableswitch 518 0 4 #[33, 110, 167, 242, 350], 33) := by decide +kernel
theorem dX8_change_60 : decode cX8_change 60 = .ok (.aload_n 0, 1) := by decide +kernel
theorem dX8_change_61 : decode cX8_change 61 = .ok (.getfield 26, 3) := by decide +kernel
theorem dX8_change_64 : decode cX8_change 64 = .ok (.iload_n 1, 1) := by decide +kernel
theorem dX8_change_65 : decode cX8_change 65 = .ok (.aaload, 1) := by decide +kernel
theorem dX8_change_66 : decode cX8_change 66 = .ok (.iconst 0, 1) := by decide +kernel
theorem dX8_change_67 : decode cX8_change 67 = .ok (.iaload, 1) := by decide +kernel
theorem dX8_change_68 : decode cX8_change 68 = .ok (.istore_n 3, 1) := by decide +kernel
theorem dX8_change_69 : decode cX8_change 69 = .ok (.aload_n 0, 1) := by decide +kernel
theorem dX8_change_70 : decode cX8_change 70 = .ok (.getfield 26, 3) := by decide +kernel
theorem dX8_change_73 : decode cX8_change 73 = .ok (.iload_n 1, 1) := by decide +kernel
theorem dX8_change_74 : decode cX8_change 74 = .ok (.aaload, 1) := by decide +kernel
theorem dX8_change_75 : decode cX8_change 75 = .ok (.iconst 0, 1) := by decide +kernel
theorem dX8_change_76 : decode cX8_change 76 = .ok (.aload_n 0, 1) := by decide +kernel
theorem dX8_change_77 : decode cX8_change 77 = .ok (.bipush 61, 2) := by decide +kernel
theorem dX8_change_79 : decode cX8_change 79 = .ok (.invokevirtual 69, 3) := by decide +kernel
theorem dX8_change_82 : decode cX8_change 82 = .ok (.bipush 30, 2) := by decide +kernel
theorem dX8_change_84 : decode cX8_change 84 = .ok (.isub, 1) := by decide +kernel
theorem dX8_change_85 : decode cX8_change 85 = .ok (.iastore, 1) := by decide +kernel
theorem dX8_change_86 : decode cX8_change 86 = .ok (.aload_n 0, 1) := by decide +kernel
theorem dX8_change_87 : decode cX8_change 87 = .ok (.getfield 26, 3) := by decide +kernel
theorem dX8_change_90 : decode cX8_change 90 = .ok (.iload_n 1, 1) := by decide +kernel
theorem dX8_change_91 : decode cX8_change 91 = .ok (.aaload, 1) := by decide +kernel
theorem dX8_change_92 : decode cX8_change 92 = .ok (.iconst 1, 1) := by decide +kernel
theorem dX8_change_93 : decode cX8_change 93 = .ok (.aload_n 0, 1) := by decide +kernel
theorem dX8_change_94 : decode cX8_change 94 = .ok (.bipush 61, 2) := by decide +kernel
theorem dX8_change_96 : decode cX8_change 96 = .ok (.invokevirtual 69, 3) := by decide +kernel
theorem dX8_change_99 : decode cX8_change 99 = .ok (.bipush 30, 2) := by decide +kernel
theorem dX8_change_101 : decode cX8_change 101 = .ok (.isub, 1) := by decide +kernel
theorem dX8_change_102 : decode cX8_change 102 = .ok (.iastore, 1) := by decide +kernel
theorem dX8_change_103 : decode cX8_change 103 = .ok (.aload_n 0, 1) := by decide +kernel
theorem dX8_change_104 : decode cX8_change 104 = .ok (.getfield 10, 3) := by decide +kernel
theorem dX8_change_107 : decode cX8_change 107 = .ok (.iload_n 1, 1) := by decide +kernel
theorem dX8_change_108 : decode cX8_change 108 = .ok (.aload_n 0, 1) := by decide +kernel
theorem dX8_change_109 : decode cX8_change 109 = .ok (.getfield 26, 3) := by decide +kernel
theorem dX8_change_112 : decode cX8_change 112 = .ok (.iload_n 1, 1) := by decide +kernel
theorem dX8_change_113 : decode cX8_change 113 = .ok (.aaload, 1) := by decide +kernel
theorem dX8_change_114 : decode cX8_change 114 = .ok (.iconst 0, 1) := by decide +kernel
theorem dX8_change_115 : decode cX8_change 115 = .ok (.iaload, 1) := by decide +kernel
theorem dX8_change_116 : decode cX8_change 116 = .ok (.aload_n 0, 1) := by decide +kernel
theorem dX8_change_117 : decode cX8_change 117 = .ok (.getfield 26, 3) := by decide +kernel
theorem dX8_change_120 : decode cX8_change 120 = .ok (.iload_n 1, 1) := by decide +kernel
theorem dX8_change_121 : decode cX8_change 121 = .ok (.aaload, 1) := by decide +kernel
theorem dX8_change_122 : decode cX8_change 122 = .ok (.iconst 1, 1) := by decide +kernel
theorem dX8_change_123 : decode cX8_change 123 = .ok (.iaload, 1) := by decide +kernel
theorem dX8_change_124 : decode cX8_change 124 = .ok (.invokevirtual 98, 3) := by decide +kernel
theorem dX8_change_127 : decode cX8_change 127 = .ok (.iload_n 3, 1) := by decide +kernel
theorem dX8_change_128 : decode cX8_change 128 = .ok (.if_icmp .ne 7, 3) := by decide +kernel
theorem dX8_change_131 : decode cX8_change 131 = .ok (.iconst 1, 1) := by decide +kernel
theorem dX8_change_132 : decode cX8_change 132 = .ok (.goto 4, 3) := by decide +kernel
theorem dX8_change_135 : decode cX8_change 135 = .ok (.iconst 0, 1) := by decide +kernel
theorem dX8_change_136 : decode cX8_change 136 = .ok (.ireturn, 1) := by decide +kernel
theorem dX8_change_137 : decode cX8_change 137 = .ok (.aload_n 2, 1) := by decide +kernel
theorem dX8_change_138 : decode cX8_change 138 = .ok (.iconst 4, 1) := by decide +kernel
theorem dX8_change_139 : decode cX8_change 139 = .ok (.iaload, 1) := by decide +kernel
theorem dX8_change_140 : decode cX8_change 140 = .ok (.bipush 10, 2) := by decide +kernel
theorem dX8_change_142 : decode cX8_change 142 = .ok (.imul, 1) := by decide +kernel
theorem dX8_change_143 : decode cX8_change 143 = .ok (.aload_n 2, 1) := by decide +kernel
theorem dX8_change_144 : decode cX8_change 144 = .ok (.iconst 5, 1) := by decide +kernel
theorem dX8_change_145 : decode cX8_change 145 = .ok (.iaload, 1) := by decide +kernel
theorem dX8_change_146 : decode cX8_change 146 = .ok (.iadd, 1) := by decide +kernel
theorem dX8_change_147 : decode cX8_change 147 = .ok (.istore 4, 2) := by decide +kernel
theorem dX8_change_149 : decode cX8_change 149 = .ok (.aload_n 2, 1) := by decide +kernel
theorem dX8_change_150 : decode cX8_change 150 = .ok (.iconst 4, 1) := by decide +kernel
theorem dX8_change_151 : decode cX8_change 151 = .ok (.iconst 1, 1) := by decide +kernel
theorem dX8_change_152 : decode cX8_change 152 = .ok (.aload_n 0, 1) := by decide +kernel
theorem dX8_change_153 : decode cX8_change 153 = .ok (.iconst 4, 1) := by decide +kernel
theorem dX8_change_154 : decode cX8_change 154 = .ok (.invokevirtual 69, 3) := by decide +kernel
theorem dX8_change_157 : decode cX8_change 157 = .ok (.iadd, 1) := by decide +kernel
theorem dX8_change_158 : decode cX8_change 158 = .ok (.iastore, 1) := by decide +kernel
theorem dX8_change_159 : decode cX8_change 159 = .ok (.aload_n 2, 1) := by decide +kernel
theorem dX8_change_160 : decode cX8_change 160 = .ok (.iconst 5, 1) := by decide +kernel
theorem dX8_change_161 : decode cX8_change 161 = .ok (.iconst 1, 1) := by decide +kernel
theorem dX8_change_162 : decode cX8_change 162 = .ok (.aload_n 0, 1) := by decide +kernel
theorem dX8_change_163 : decode cX8_change 163 = .ok (.iconst 4, 1) := by decide +kernel
theorem dX8_change_164 : decode cX8_change 164 = .ok (.invokevirtual 69, 3) := by decide +kernel
theorem dX8_change_167 : decode cX8_change 167 = .ok (.iadd, 1) := by decide +kernel
theorem dX8_change_168 : decode cX8_change 168 = .ok (.iastore, 1) := by decide +kernel
theorem dX8_change_169 : decode cX8_change 169 = .ok (.aload_n 0, 1) := by decide +kernel
theorem dX8_change_170 : decode cX8_change 170 = .ok (.getfield 10, 3) := by decide +kernel
theorem dX8_change_173 : decode cX8_change 173 = .ok (.iload_n 1, 1) := by decide +kernel
theorem dX8_change_174 : decode cX8_change 174 = .ok (.aload_n 2, 1) := by decide +kernel
theorem dX8_change_175 : decode cX8_change 175 = .ok (.iconst 4, 1) := by decide +kernel
theorem dX8_change_176 : decode cX8_change 176 = .ok (.iaload, 1) := by decide +kernel
theorem dX8_change_177 : decode cX8_change 177 = .ok (.aload_n 2, 1) := by decide +kernel
theorem dX8_change_178 : decode cX8_change 178 = .ok (.iconst 5, 1) := by decide +kernel
theorem dX8_change_179 : decode cX8_change 179 = .ok (.iaload, 1) := by decide +kernel
theorem dX8_change_180 : decode cX8_change 180 = .ok (.invokevirtual 102, 3) := by decide +kernel
theorem dX8_change_183 : decode cX8_change 183 = .ok (.iload 4, 2) := by decide +kernel
theorem dX8_change_185 : decode cX8_change 185 = .ok (.if_icmp .ne 7, 3) := by decide +kernel
theorem dX8_change_188 : decode cX8_change 188 = .ok (.iconst 1, 1) := by decide +kernel
theorem dX8_change_189 : decode cX8_change 189 = .ok (.goto 4, 3) := by decide +kernel
theorem dX8_change_192 : decode cX8_change 192 = .ok (.iconst 0, 1) := by decide +kernel
theorem dX8_change_193 : decode cX8_change 193 = .ok (.ireturn, 1) := by decide +kernel
theorem dX8_change_194 : decode cX8_change 194 = .ok (.aload_n 0, 1) := by decide +kernel
theorem dX8_change_195 : decode cX8_change 195 = .ok (.getfield 26, 3) := by decide +kernel
theorem dX8_change_198 : decode cX8_change 198 = .ok (.iload_n 1, 1) := by decide +kernel
theorem dX8_change_199 : decode cX8_change 199 = .ok (.aaload, 1) := by decide +kernel
theorem dX8_change_200 : decode cX8_change 200 = .ok (.iconst 2, 1) := by decide +kernel
theorem dX8_change_201 : decode cX8_change 201 = .ok (.iaload, 1) := by decide +kernel
theorem dX8_change_202 : decode cX8_change 202 = .ok (.istore 5, 2) := by decide +kernel
theorem dX8_change_204 : decode cX8_change 204 = .ok (.aload_n 0, 1) := by decide +kernel
theorem dX8_change_205 : decode cX8_change 205 = .ok (.getfield 26, 3) := by decide +kernel
theorem dX8_change_208 : decode cX8_change 208 = .ok (.iload_n 1, 1) := by decide +kernel
theorem dX8_change_209 : decode cX8_change 209 = .ok (.aaload, 1) := by decide +kernel
theorem dX8_change_210 : decode cX8_change 210 = .ok (.iconst 2, 1) := by decide +kernel
theorem dX8_change_211 : decode cX8_change 211 = .ok (.aload_n 0, 1) := by decide +kernel
theorem dX8_change_212 : decode cX8_change 212 = .ok (.iconst 4, 1) := by decide +kernel
theorem dX8_change_213 : decode cX8_change 213 = .ok (.invokevirtual 69, 3) := by decide +kernel
theorem dX8_change_216 : decode cX8_change 216 = .ok (.iastore, 1) := by decide +kernel
theorem dX8_change_217 : decode cX8_change 217 = .ok (.aload_n 0, 1) := by decide +kernel
theorem dX8_change_218 : decode cX8_change 218 = .ok (.getfield 29, 3) := by decide +kernel
theorem dX8_change_221 : decode cX8_change 221 = .ok (.iload_n 1, 1) := by decide +kernel
theorem dX8_change_222 : decode cX8_change 222 = .ok (.aload_n 0, 1) := by decide +kernel
theorem dX8_change_223 : decode cX8_change 223 = .ok (.iconst 2, 1) := by decide +kernel
theorem dX8_change_224 : decode cX8_change 224 = .ok (.invokevirtual 69, 3) := by decide +kernel
theorem dX8_change_227 : decode cX8_change 227 = .ok (.ifCond .ne 7, 3) := by decide +kernel
theorem dX8_change_230 : decode cX8_change 230 = .ok (.iconst 1, 1) := by decide +kernel
theorem dX8_change_231 : decode cX8_change 231 = .ok (.goto 4, 3) := by decide +kernel
theorem dX8_change_234 : decode cX8_change 234 = .ok (.iconst 0, 1) := by decide +kernel
theorem dX8_change_235 : decode cX8_change 235 = .ok (.bastore, 1) := by decide +kernel
theorem dX8_change_236 : decode cX8_change 236 = .ok (.aload_n 0, 1) := by decide +kernel
theorem dX8_change_237 : decode cX8_change 237 = .ok (.getfield 10, 3) := by decide +kernel
theorem dX8_change_240 : decode cX8_change 240 = .ok (.iload_n 1, 1) := by decide +kernel
theorem dX8_change_241 : decode cX8_change 241 = .ok (.aload_n 0, 1) := by decide +kernel
theorem dX8_change_242 : decode cX8_change 242 = .ok (.getfield 26, 3) := by decide +kernel
theorem dX8_change_245 : decode cX8_change 245 = .ok (.iload_n 1, 1) := by decide +kernel
theorem dX8_change_246 : decode cX8_change 246 = .ok (.aaload, 1) := by decide +kernel
theorem dX8_change_247 : decode cX8_change 247 = .ok (.iconst 2, 1) := by decide +kernel
theorem dX8_change_248 : decode cX8_change 248 = .ok (.iaload, 1) := by decide +kernel
theorem dX8_change_249 : decode cX8_change 249 = .ok (.aload_n 0, 1) := by decide +kernel
theorem dX8_change_250 : decode cX8_change 250 = .ok (.getfield 29, 3) := by decide +kernel
theorem dX8_change_253 : decode cX8_change 253 = .ok (.iload_n 1, 1) := by decide +kernel
theorem dX8_change_254 : decode cX8_change 254 = .ok (.baload, 1) := by decide +kernel
theorem dX8_change_255 : decode cX8_change 255 = .ok (.invokevirtual 105, 3) := by decide +kernel
theorem dX8_change_258 : decode cX8_change 258 = .ok (.iload 5, 2) := by decide +kernel
theorem dX8_change_260 : decode cX8_change 260 = .ok (.if_icmp .ne 7, 3) := by decide +kernel
theorem dX8_change_263 : decode cX8_change 263 = .ok (.iconst 1, 1) := by decide +kernel
theorem dX8_change_264 : decode cX8_change 264 = .ok (.goto 4, 3) := by decide +kernel
theorem dX8_change_267 : decode cX8_change 267 = .ok (.iconst 0, 1) := by decide +kernel
theorem dX8_change_268 : decode cX8_change 268 = .ok (.ireturn, 1) := by decide +kernel
theorem dX8_change_269 : decode cX8_change 269 = .ok (.aload_n 0, 1) := by decide +kernel
theorem dX8_change_270 : decode cX8_change 270 = .ok (.getfield 26, 3) := by decide +kernel
theorem dX8_change_273 : decode cX8_change 273 = .ok (.iload_n 1, 1) := by decide +kernel
theorem dX8_change_274 : decode cX8_change 274 = .ok (.aaload, 1) := by decide +kernel
theorem dX8_change_275 : decode cX8_change 275 = .ok (.iconst 3, 1) := by decide +kernel
theorem dX8_change_276 : decode cX8_change 276 = .ok (.iaload, 1) := by decide +kernel
theorem dX8_change_277 : decode cX8_change 277 = .ok (.istore 6, 2) := by decide +kernel
theorem dX8_change_279 : decode cX8_change 279 = .ok (.aload_n 2, 1) := by decide +kernel
theorem dX8_change_280 : decode cX8_change 280 = .ok (.bipush 6, 2) := by decide +kernel
theorem dX8_change_282 : decode cX8_change 282 = .ok (.aload_n 0, 1) := by decide +kernel
theorem dX8_change_283 : decode cX8_change 283 = .ok (.bipush 7, 2) := by decide +kernel
theorem dX8_change_285 : decode cX8_change 285 = .ok (.invokevirtual 69, 3) := by decide +kernel
theorem dX8_change_288 : decode cX8_change 288 = .ok (.iconst 3, 1) := by decide +kernel
theorem dX8_change_289 : decode cX8_change 289 = .ok (.isub, 1) := by decide +kernel
theorem dX8_change_290 : decode cX8_change 290 = .ok (.iastore, 1) := by decide +kernel
theorem dX8_change_291 : decode cX8_change 291 = .ok (.aload_n 0, 1) := by decide +kernel
theorem dX8_change_292 : decode cX8_change 292 = .ok (.getfield 26, 3) := by decide +kernel
theorem dX8_change_295 : decode cX8_change 295 = .ok (.iload_n 1, 1) := by decide +kernel
theorem dX8_change_296 : decode cX8_change 296 = .ok (.aaload, 1) := by decide +kernel
theorem dX8_change_297 : decode cX8_change 297 = .ok (.iconst 3, 1) := by decide +kernel
theorem dX8_change_298 : decode cX8_change 298 = .ok (.aload_n 0, 1) := by decide +kernel
theorem dX8_change_299 : decode cX8_change 299 = .ok (.bipush 6, 2) := by decide +kernel
theorem dX8_change_301 : decode cX8_change 301 = .ok (.invokevirtual 69, 3) := by decide +kernel
theorem dX8_change_304 : decode cX8_change 304 = .ok (.ifCond .ne 7, 3) := by decide +kernel
theorem dX8_change_307 : decode cX8_change 307 = .ok (.iconst 0, 1) := by decide +kernel
theorem dX8_change_308 : decode cX8_change 308 = .ok (.goto 11, 3) := by decide +kernel
theorem dX8_change_311 : decode cX8_change 311 = .ok (.iconst 1, 1) := by decide +kernel
theorem dX8_change_312 : decode cX8_change 312 = .ok (.aload_n 0, 1) := by decide +kernel
theorem dX8_change_313 : decode cX8_change 313 = .ok (.bipush 100, 2) := by decide +kernel
theorem dX8_change_315 : decode cX8_change 315 = .ok (.invokevirtual 69, 3) := by decide +kernel
theorem dX8_change_318 : decode cX8_change 318 = .ok (.iadd, 1) := by decide +kernel
theorem dX8_change_319 : decode cX8_change 319 = .ok (.iastore, 1) := by decide +kernel
theorem dX8_change_320 : decode cX8_change 320 = .ok (.aload_n 0, 1) := by decide +kernel
theorem dX8_change_321 : decode cX8_change 321 = .ok (.getfield 33, 3) := by decide +kernel
theorem dX8_change_324 : decode cX8_change 324 = .ok (.iload_n 1, 1) := by decide +kernel
theorem dX8_change_325 : decode cX8_change 325 = .ok (.aload_n 0, 1) := by decide +kernel
theorem dX8_change_326 : decode cX8_change 326 = .ok (.bipush 6, 2) := by decide +kernel
theorem dX8_change_328 : decode cX8_change 328 = .ok (.invokevirtual 69, 3) := by decide +kernel
theorem dX8_change_331 : decode cX8_change 331 = .ok (.ifCond .ne 7, 3) := by decide +kernel
theorem dX8_change_334 : decode cX8_change 334 = .ok (.iconst 1, 1) := by decide +kernel
theorem dX8_change_335 : decode cX8_change 335 = .ok (.goto 4, 3) := by decide +kernel
theorem dX8_change_338 : decode cX8_change 338 = .ok (.iconst 0, 1) := by decide +kernel
theorem dX8_change_339 : decode cX8_change 339 = .ok (.bastore, 1) := by decide +kernel
theorem dX8_change_340 : decode cX8_change 340 = .ok (.aload_n 0, 1) := by decide +kernel
theorem dX8_change_341 : decode cX8_change 341 = .ok (.getfield 10, 3) := by decide +kernel
theorem dX8_change_344 : decode cX8_change 344 = .ok (.iload_n 1, 1) := by decide +kernel
theorem dX8_change_345 : decode cX8_change 345 = .ok (.aload_n 2, 1) := by decide +kernel
theorem dX8_change_346 : decode cX8_change 346 = .ok (.bipush 6, 2) := by decide +kernel
theorem dX8_change_348 : decode cX8_change 348 = .ok (.iaload, 1) := by decide +kernel
theorem dX8_change_349 : decode cX8_change 349 = .ok (.aload_n 0, 1) := by decide +kernel
theorem dX8_change_350 : decode cX8_change 350 = .ok (.getfield 26, 3) := by decide +kernel
theorem dX8_change_353 : decode cX8_change 353 = .ok (.iload_n 1, 1) := by decide +kernel
theorem dX8_change_354 : decode cX8_change 354 = .ok (.aaload, 1) := by decide +kernel
theorem dX8_change_355 : decode cX8_change 355 = .ok (.iconst 3, 1) := by decide +kernel
theorem dX8_change_356 : decode cX8_change 356 = .ok (.iaload, 1) := by decide +kernel
theorem dX8_change_357 : decode cX8_change 357 = .ok (.aload_n 0, 1) := by decide +kernel
theorem dX8_change_358 : decode cX8_change 358 = .ok (.getfield 33, 3) := by decide +kernel
theorem dX8_change_361 : decode cX8_change 361 = .ok (.iload_n 1, 1) := by decide +kernel
theorem dX8_change_362 : decode cX8_change 362 = .ok (.baload, 1) := by decide +kernel
theorem dX8_change_363 : decode cX8_change 363 = .ok (.invokevirtual 109, 3) := by decide +kernel
theorem dX8_change_366 : decode cX8_change 366 = .ok (.iload 6, 2) := by decide +kernel
theorem dX8_change_368 : decode cX8_change 368 = .ok (.if_icmp .ne 7, 3) := by decide +kernel
theorem dX8_change_371 : decode cX8_change 371 = .ok (.iconst 1, 1) := by decide +kernel
theorem dX8_change_372 : decode cX8_change 372 = .ok (.goto 4, 3) := by decide +kernel
theorem dX8_change_375 : decode cX8_change 375 = .ok (.iconst 0, 1) := by decide +kernel
theorem dX8_change_376 : decode cX8_change 376 = .ok (.ireturn, 1) := by decide +kernel
theorem dX8_change_377 : decode cX8_change 377 = .ok (.aload_n 0, 1) := by decide +kernel
theorem dX8_change_378 : decode cX8_change 378 = .ok (.getfield 36, 3) := by decide +kernel
theorem dX8_change_381 : decode cX8_change 381 = .ok (.iload_n 1, 1) := by decide +kernel
theorem dX8_change_382 : decode cX8_change 382 = .ok (.aaload, 1) := by decide +kernel
theorem dX8_change_383 : decode cX8_change 383 = .ok (.ifnull 7, 3) := by decide +kernel
theorem dX8_change_386 : decode cX8_change 386 = .ok (.iconst 1, 1) := by decide +kernel
theorem dX8_change_387 : decode cX8_change 387 = .ok (.goto 4, 3) := by decide +kernel
theorem dX8_change_390 : decode cX8_change 390 = .ok (.iconst 0, 1) := by decide +kernel
theorem dX8_change_391 : decode cX8_change 391 = .ok (.istore 7, 2) := by decide +kernel
theorem dX8_change_393 : decode cX8_change 393 = .ok (.iconst 4, 1) := by decide +kernel
theorem dX8_change_394 : decode cX8_change 394 = .ok (.newarray .int, 2) := by decide +kernel
theorem dX8_change_396 : decode cX8_change 396 = .ok (.dup, 1) := by decide +kernel
theorem dX8_change_397 : decode cX8_change 397 = .ok (.iconst 0, 1) := by decide +kernel
theorem dX8_change_398 : decode cX8_change 398 = .ok (.aload_n 0, 1) := by decide +kernel
theorem dX8_change_399 : decode cX8_change 399 = .ok (.bipush 30, 2) := by decide +kernel
theorem dX8_change_401 : decode cX8_change 401 = .ok (.invokevirtual 69, 3) := by decide +kernel
theorem dX8_change_404 : decode cX8_change 404 = .ok (.bipush 20, 2) := by decide +kernel
theorem dX8_change_406 : decode cX8_change 406 = .ok (.isub, 1) := by decide +kernel
theorem dX8_change_407 : decode cX8_change 407 = .ok (.iastore, 1) := by decide +kernel
theorem dX8_change_408 : decode cX8_change 408 = .ok (.dup, 1) := by decide +kernel
theorem dX8_change_409 : decode cX8_change 409 = .ok (.iconst 1, 1) := by decide +kernel
theorem dX8_change_410 : decode cX8_change 410 = .ok (.aload_n 0, 1) := by decide +kernel
theorem dX8_change_411 : decode cX8_change 411 = .ok (.bipush 30, 2) := by decide +kernel
theorem dX8_change_413 : decode cX8_change 413 = .ok (.invokevirtual 69, 3) := by decide +kernel
theorem dX8_change_416 : decode cX8_change 416 = .ok (.bipush 20, 2) := by decide +kernel
theorem dX8_change_418 : decode cX8_change 418 = .ok (.isub, 1) := by decide +kernel
theorem dX8_change_419 : decode cX8_change 419 = .ok (.iastore, 1) := by decide +kernel
theorem dX8_change_420 : decode cX8_change 420 = .ok (.dup, 1) := by decide +kernel
theorem dX8_change_421 : decode cX8_change 421 = .ok (.iconst 2, 1) := by decide +kernel
theorem dX8_change_422 : decode cX8_change 422 = .ok (.iconst 0, 1) := by decide +kernel
theorem dX8_change_423 : decode cX8_change 423 = .ok (.iastore, 1) := by decide +kernel
theorem dX8_change_424 : decode cX8_change 424 = .ok (.dup, 1) := by decide +kernel
theorem dX8_change_425 : decode cX8_change 425 = .ok (.iconst 3, 1) := by decide +kernel
theorem dX8_change_426 : decode cX8_change 426 = .ok (.iconst 0, 1) := by decide +kernel
theorem dX8_change_427 : decode cX8_change 427 = .ok (.iastore, 1) := by decide +kernel
theorem dX8_change_428 : decode cX8_change 428 = .ok (.astore 8, 2) := by decide +kernel
theorem dX8_change_430 : decode cX8_change 430 = .ok (.aload 8, 2) := by decide +kernel
theorem dX8_change_432 : decode cX8_change 432 = .ok (.iconst 2, 1) := by decide +kernel
theorem dX8_change_433 : decode cX8_change 433 = .ok (.aload 8, 2) := by decide +kernel
theorem dX8_change_435 : decode cX8_change 435 = .ok (.iconst 0, 1) := by decide +kernel
theorem dX8_change_436 : decode cX8_change 436 = .ok (.iaload, 1) := by decide +kernel
theorem dX8_change_437 : decode cX8_change 437 = .ok (.aload_n 0, 1) := by decide +kernel
theorem dX8_change_438 : decode cX8_change 438 = .ok (.bipush 60, 2) := by decide +kernel
theorem dX8_change_440 : decode cX8_change 440 = .ok (.invokevirtual 69, 3) := by decide +kernel
theorem dX8_change_443 : decode cX8_change 443 = .ok (.iadd, 1) := by decide +kernel
theorem dX8_change_444 : decode cX8_change 444 = .ok (.iastore, 1) := by decide +kernel
theorem dX8_change_445 : decode cX8_change 445 = .ok (.aload 8, 2) := by decide +kernel
theorem dX8_change_447 : decode cX8_change 447 = .ok (.iconst 3, 1) := by decide +kernel
theorem dX8_change_448 : decode cX8_change 448 = .ok (.aload 8, 2) := by decide +kernel
theorem dX8_change_450 : decode cX8_change 450 = .ok (.iconst 1, 1) := by decide +kernel
theorem dX8_change_451 : decode cX8_change 451 = .ok (.iaload, 1) := by decide +kernel
theorem dX8_change_452 : decode cX8_change 452 = .ok (.aload_n 0, 1) := by decide +kernel
theorem dX8_change_453 : decode cX8_change 453 = .ok (.bipush 60, 2) := by decide +kernel
theorem dX8_change_455 : decode cX8_change 455 = .ok (.invokevirtual 69, 3) := by decide +kernel
theorem dX8_change_458 : decode cX8_change 458 = .ok (.iadd, 1) := by decide +kernel
theorem dX8_change_459 : decode cX8_change 459 = .ok (.iastore, 1) := by decide +kernel
theorem dX8_change_460 : decode cX8_change 460 = .ok (.aload_n 0, 1) := by decide +kernel
theorem dX8_change_461 : decode cX8_change 461 = .ok (.getfield 36, 3) := by decide +kernel
theorem dX8_change_464 : decode cX8_change 464 = .ok (.iload_n 1, 1) := by decide +kernel
theorem dX8_change_465 : decode cX8_change 465 = .ok (.aload_n 0, 1) := by decide +kernel
theorem dX8_change_466 : decode cX8_change 466 = .ok (.iconst 4, 1) := by decide +kernel
theorem dX8_change_467 : decode cX8_change 467 = .ok (.invokevirtual 69, 3) := by decide +kernel
theorem dX8_change_470 : decode cX8_change 470 = .ok (.ifCond .ne 7, 3) := by decide +kernel
theorem dX8_change_473 : decode cX8_change 473 = .ok (.aconst_null, 1) := by decide +kernel
theorem dX8_change_474 : decode cX8_change 474 = .ok (.goto 5, 3) := by decide +kernel
theorem dX8_change_477 : decode cX8_change 477 = .ok (.aload 8, 2) := by decide +kernel
theorem dX8_change_479 : decode cX8_change 479 = .ok (.aastore, 1) := by decide +kernel
theorem dX8_change_480 : decode cX8_change 480 = .ok (.aload_n 0, 1) := by decide +kernel
theorem dX8_change_481 : decode cX8_change 481 = .ok (.getfield 36, 3) := by decide +kernel
theorem dX8_change_484 : decode cX8_change 484 = .ok (.iload_n 1, 1) := by decide +kernel
theorem dX8_change_485 : decode cX8_change 485 = .ok (.aaload, 1) := by decide +kernel
theorem dX8_change_486 : decode cX8_change 486 = .ok (.ifnonnull 24, 3) := by decide +kernel
theorem dX8_change_489 : decode cX8_change 489 = .ok (.aload_n 0, 1) := by decide +kernel
theorem dX8_change_490 : decode cX8_change 490 = .ok (.getfield 10, 3) := by decide +kernel
theorem dX8_change_493 : decode cX8_change 493 = .ok (.iload_n 1, 1) := by decide +kernel
theorem dX8_change_494 : decode cX8_change 494 = .ok (.invokevirtual 113, 3) := by decide +kernel
theorem dX8_change_497 : decode cX8_change 497 = .ok (.iload 7, 2) := by decide +kernel
theorem dX8_change_499 : decode cX8_change 499 = .ok (.if_icmp .ne 7, 3) := by decide +kernel
theorem dX8_change_502 : decode cX8_change 502 = .ok (.iconst 1, 1) := by decide +kernel
theorem dX8_change_503 : decode cX8_change 503 = .ok (.goto 41, 3) := by decide +kernel
theorem dX8_change_506 : decode cX8_change 506 = .ok (.iconst 0, 1) := by decide +kernel
theorem dX8_change_507 : decode cX8_change 507 = .ok (.goto 37, 3) := by decide +kernel
theorem dX8_change_510 : decode cX8_change 510 = .ok (.aload_n 0, 1) := by decide +kernel
theorem dX8_change_511 : decode cX8_change 511 = .ok (.getfield 10, 3) := by decide +kernel
theorem dX8_change_514 : decode cX8_change 514 = .ok (.iload_n 1, 1) := by decide +kernel
theorem dX8_change_515 : decode cX8_change 515 = .ok (.aload 8, 2) := by decide +kernel
theorem dX8_change_517 : decode cX8_change 517 = .ok (.iconst 0, 1) := by decide +kernel
theorem dX8_change_518 : decode cX8_change 518 = .ok (.iaload, 1) := by decide +kernel
theorem dX8_change_519 : decode cX8_change 519 = .ok (.aload 8, 2) := by decide +kernel
theorem dX8_change_521 : decode cX8_change 521 = .ok (.iconst 1, 1) := by decide +kernel
theorem dX8_change_522 : decode cX8_change 522 = .ok (.iaload, 1) := by decide +kernel
theorem dX8_change_523 : decode cX8_change 523 = .ok (.aload 8, 2) := by decide +kernel
theorem dX8_change_525 : decode cX8_change 525 = .ok (.iconst 2, 1) := by decide +kernel
theorem dX8_change_526 : decode cX8_change 526 = .ok (.iaload, 1) := by decide +kernel
theorem dX8_change_527 : decode cX8_change 527 = .ok (.aload 8, 2) := by decide +kernel
theorem dX8_change_529 : decode cX8_change 529 = .ok (.iconst 3, 1) := by decide +kernel
theorem dX8_change_530 : decode cX8_change 530 = .ok (.iaload, 1) := by decide +kernel
theorem dX8_change_531 : decode cX8_change 531 = .ok (.invokevirtual 116, 3) := by decide +kernel
theorem dX8_change_534 : decode cX8_change 534 = .ok (.iload 7, 2) := by decide +kernel
theorem dX8_change_536 : decode cX8_change 536 = .ok (.if_icmp .ne 7, 3) := by decide +kernel
theorem dX8_change_539 : decode cX8_change 539 = .ok (.iconst 1, 1) := by decide +kernel
theorem dX8_change_540 : decode cX8_change 540 = .ok (.goto 4, 3) := by decide +kernel
theorem dX8_change_543 : decode cX8_change 543 = .ok (.iconst 0, 1) := by decide +kernel
theorem dX8_change_544 : decode cX8_change 544 = .ok (.ireturn, 1) := by decide +kernel
theorem dX8_change_545 : decode cX8_change 545 = .ok (.aload_n 0, 1) := by decide +kernel
theorem dX8_change_546 : decode cX8_change 546 = .ok (.iload_n 1, 1) := by decide +kernel
theorem dX8_change_547 : decode cX8_change 547 = .ok (.aload_n 0, 1) := by decide +kernel
theorem dX8_change_548 : decode cX8_change 548 = .ok (.invokevirtual 77, 3) := by decide +kernel
theorem dX8_change_551 : decode cX8_change 551 = .ok (.invokevirtual 119, 3) := by decide +kernel
theorem dX8_change_554 : decode cX8_change 554 = .ok (.ireturn, 1) := by decide +kernel
theorem dX1_init_0 : decode cX1_init 0 = .ok (.aload_n 0, 1) := by decide +kernel
theorem dX1_init_1 : decode cX1_init 1 = .ok (.invokespecial 1, 3) := by decide +kernel
theorem dX1_init_4 : decode cX1_init 4 = .ok (.return_, 1) := by decide +kernel
theorem dX0_init_0 : decode cX0_init 0 = .ok (.aload_n 0, 1) := by decide +kernel
theorem dX0_init_1 : decode cX0_init 1 = .ok (.invokespecial 1, 3) := by decide +kernel
theorem dX0_init_4 : decode cX0_init 4 = .ok (.aload_n 0, 1) := by decide +kernel
theorem dX0_init_5 : decode cX0_init 5 = .ok (.new 7, 3) := by decide +kernel
theorem dX0_init_8 : decode cX0_init 8 = .ok (.dup, 1) := by decide +kernel
theorem dX0_init_9 : decode cX0_init 9 = .ok (.invokespecial 9, 3) := by decide +kernel
theorem dX0_init_12 : decode cX0_init 12 = .ok (.putfield 10, 3) := by decide +kernel
theorem dX0_init_15 : decode cX0_init 15 = .ok (.aload_n 0, 1) := by decide +kernel
theorem dX0_init_16 : decode cX0_init 16 = .ok (.new 7, 3) := by decide +kernel
theorem dX0_init_19 : decode cX0_init 19 = .ok (.dup, 1) := by decide +kernel
theorem dX0_init_20 : decode cX0_init 20 = .ok (.invokespecial 9, 3) := by decide +kernel
theorem dX0_init_23 : decode cX0_init 23 = .ok (.putfield 16, 3) := by decide +kernel
theorem dX0_init_26 : decode cX0_init 26 = .ok (.aload_n 0, 1) := by decide +kernel
theorem dX0_init_27 : decode cX0_init 27 = .ok (.new 7, 3) := by decide +kernel
theorem dX0_init_30 : decode cX0_init 30 = .ok (.dup, 1) := by decide +kernel
theorem dX0_init_31 : decode cX0_init 31 = .ok (.invokespecial 9, 3) := by decide +kernel
theorem dX0_init_34 : decode cX0_init 34 = .ok (.putfield 19, 3) := by decide +kernel
theorem dX0_init_37 : decode cX0_init 37 = .ok (.aload_n 0, 1) := by decide +kernel
theorem dX0_init_38 : decode cX0_init 38 = .ok (.new 7, 3) := by decide +kernel
theorem dX0_init_41 : decode cX0_init 41 = .ok (.dup, 1) := by decide +kernel
theorem dX0_init_42 : decode cX0_init 42 = .ok (.invokespecial 9, 3) := by decide +kernel
theorem dX0_init_45 : decode cX0_init 45 = .ok (.putfield 22, 3) := by decide +kernel
theorem dX0_init_48 : decode cX0_init 48 = .ok (.return_, 1) := by decide +kernel
theorem dX5_init_0 : decode cX5_init 0 = .ok (.aload_n 0, 1) := by decide +kernel
theorem dX5_init_1 : decode cX5_init 1 = .ok (.invokespecial 3, 3) := by decide +kernel
theorem dX5_init_4 : decode cX5_init 4 = .ok (.aload_n 0, 1) := by decide +kernel
theorem dX5_init_5 : decode cX5_init 5 = .ok (.lconst 1, 1) := by decide +kernel
theorem dX5_init_6 : decode cX5_init 6 = .ok (.putfield 9, 3) := by decide +kernel
theorem dX5_init_9 : decode cX5_init 9 = .ok (.return_, 1) := by decide +kernel
theorem dX7_init_0 : decode cX7_init 0 = .ok (.aload_n 0, 1) := by decide +kernel
theorem dX7_init_1 : decode cX7_init 1 = .ok (.invokespecial 1, 3) := by decide +kernel
theorem dX7_init_4 : decode cX7_init 4 = .ok (.aload_n 0, 1) := by decide +kernel
theorem dX7_init_5 : decode cX7_init 5 = .ok (.bipush 30, 2) := by decide +kernel
theorem dX7_init_7 : decode cX7_init 7 = .ok (.anewarray 9, 3) := by decide +kernel
theorem dX7_init_10 : decode cX7_init 10 = .ok (.putfield 11, 3) := by decide +kernel
theorem dX7_init_13 : decode cX7_init 13 = .ok (.aload_n 0, 1) := by decide +kernel
theorem dX7_init_14 : decode cX7_init 14 = .ok (.bipush 12, 2) := by decide +kernel
theorem dX7_init_16 : decode cX7_init 16 = .ok (.anewarray 15, 3) := by decide +kernel
theorem dX7_init_19 : decode cX7_init 19 = .ok (.putfield 17, 3) := by decide +kernel
theorem dX7_init_22 : decode cX7_init 22 = .ok (.aload_n 0, 1) := by decide +kernel
theorem dX7_init_23 : decode cX7_init 23 = .ok (.new 9, 3) := by decide +kernel
theorem dX7_init_26 : decode cX7_init 26 = .ok (.dup, 1) := by decide +kernel
theorem dX7_init_27 : decode cX7_init 27 = .ok (.iconst 0, 1) := by decide +kernel
theorem dX7_init_28 : decode cX7_init 28 = .ok (.iconst 0, 1) := by decide +kernel
theorem dX7_init_29 : decode cX7_init 29 = .ok (.iconst 0, 1) := by decide +kernel
theorem dX7_init_30 : decode cX7_init 30 = .ok (.iconst 0, 1) := by decide +kernel
theorem dX7_init_31 : decode cX7_init 31 = .ok (.invokespecial 21, 3) := by decide +kernel
theorem dX7_init_34 : decode cX7_init 34 = .ok (.putfield 24, 3) := by decide +kernel
theorem dX7_init_37 : decode cX7_init 37 = .ok (.aload_n 0, 1) := by decide +kernel
theorem dX7_init_38 : decode cX7_init 38 = .ok (.new 28, 3) := by decide +kernel
theorem dX7_init_41 : decode cX7_init 41 = .ok (.dup, 1) := by decide +kernel
theorem dX7_init_42 : decode cX7_init 42 = .ok (.invokespecial 30, 3) := by decide +kernel
theorem dX7_init_45 : decode cX7_init 45 = .ok (.putfield 31, 3) := by decide +kernel
theorem dX7_init_48 : decode cX7_init 48 = .ok (.aload_n 0, 1) := by decide +kernel
theorem dX7_init_49 : decode cX7_init 49 = .ok (.new 35, 3) := by decide +kernel
theorem dX7_init_52 : decode cX7_init 52 = .ok (.dup, 1) := by decide +kernel
theorem dX7_init_53 : decode cX7_init 53 = .ok (.invokespecial 37, 3) := by decide +kernel
theorem dX7_init_56 : decode cX7_init 56 = .ok (.putfield 38, 3) := by decide +kernel
theorem dX7_init_59 : decode cX7_init 59 = .ok (.aload_n 0, 1) := by decide +kernel
theorem dX7_init_60 : decode cX7_init 60 = .ok (.getfield 11, 3) := by decide +kernel
theorem dX7_init_63 : decode cX7_init 63 = .ok (.iconst 0, 1) := by decide +kernel
theorem dX7_init_64 : decode cX7_init 64 = .ok (.aload_n 0, 1) := by decide +kernel
theorem dX7_init_65 : decode cX7_init 65 = .ok (.getfield 24, 3) := by decide +kernel
theorem dX7_init_68 : decode cX7_init 68 = .ok (.aastore, 1) := by decide +kernel
theorem dX7_init_69 : decode cX7_init 69 = .ok (.aload_n 0, 1) := by decide +kernel
theorem dX7_init_70 : decode cX7_init 70 = .ok (.iconst 1, 1) := by decide +kernel
theorem dX7_init_71 : decode cX7_init 71 = .ok (.putfield 42, 3) := by decide +kernel
theorem dX7_init_74 : decode cX7_init 74 = .ok (.aload_n 0, 1) := by decide +kernel
theorem dX7_init_75 : decode cX7_init 75 = .ok (.aload_n 0, 1) := by decide +kernel
theorem dX7_init_76 : decode cX7_init 76 = .ok (.getfield 24, 3) := by decide +kernel
theorem dX7_init_79 : decode cX7_init 79 = .ok (.putfield 46, 3) := by decide +kernel
theorem dX7_init_82 : decode cX7_init 82 = .ok (.aload_n 0, 1) := by decide +kernel
theorem dX7_init_83 : decode cX7_init 83 = .ok (.iconst 1, 1) := by decide +kernel
theorem dX7_init_84 : decode cX7_init 84 = .ok (.putfield 49, 3) := by decide +kernel
theorem dX7_init_87 : decode cX7_init 87 = .ok (.return_, 1) := by decide +kernel
theorem dX8_init_0 : decode cX8_init 0 = .ok (.aload_n 0, 1) := by decide +kernel
theorem dX8_init_1 : decode cX8_init 1 = .ok (.invokespecial 1, 3) := by decide +kernel
theorem dX8_init_4 : decode cX8_init 4 = .ok (.aload_n 0, 1) := by decide +kernel
theorem dX8_init_5 : decode cX8_init 5 = .ok (.new 7, 3) := by decide +kernel
theorem dX8_init_8 : decode cX8_init 8 = .ok (.dup, 1) := by decide +kernel
theorem dX8_init_9 : decode cX8_init 9 = .ok (.invokespecial 9, 3) := by decide +kernel
theorem dX8_init_12 : decode cX8_init 12 = .ok (.putfield 10, 3) := by decide +kernel
theorem dX8_init_15 : decode cX8_init 15 = .ok (.aload_n 0, 1) := by decide +kernel
theorem dX8_init_16 : decode cX8_init 16 = .ok (.iconst 1, 1) := by decide +kernel
theorem dX8_init_17 : decode cX8_init 17 = .ok (.putfield 16, 3) := by decide +kernel
theorem dX8_init_20 : decode cX8_init 20 = .ok (.aload_n 0, 1) := by decide +kernel
theorem dX8_init_21 : decode cX8_init 21 = .ok (.bipush 30, 2) := by decide +kernel
theorem dX8_init_23 : decode cX8_init 23 = .ok (.anewarray 20, 3) := by decide +kernel
theorem dX8_init_26 : decode cX8_init 26 = .ok (.putfield 22, 3) := by decide +kernel
theorem dX8_init_29 : decode cX8_init 29 = .ok (.aload_n 0, 1) := by decide +kernel
theorem dX8_init_30 : decode cX8_init 30 = .ok (.bipush 30, 2) := by decide +kernel
theorem dX8_init_32 : decode cX8_init 32 = .ok (.anewarray 20, 3) := by decide +kernel
theorem dX8_init_35 : decode cX8_init 35 = .ok (.putfield 26, 3) := by decide +kernel
theorem dX8_init_38 : decode cX8_init 38 = .ok (.aload_n 0, 1) := by decide +kernel
theorem dX8_init_39 : decode cX8_init 39 = .ok (.bipush 30, 2) := by decide +kernel
theorem dX8_init_41 : decode cX8_init 41 = .ok (.newarray .boolean, 2) := by decide +kernel
theorem dX8_init_43 : decode cX8_init 43 = .ok (.putfield 29, 3) := by decide +kernel
theorem dX8_init_46 : decode cX8_init 46 = .ok (.aload_n 0, 1) := by decide +kernel
theorem dX8_init_47 : decode cX8_init 47 = .ok (.bipush 30, 2) := by decide +kernel
theorem dX8_init_49 : decode cX8_init 49 = .ok (.newarray .boolean, 2) := by decide +kernel
theorem dX8_init_51 : decode cX8_init 51 = .ok (.putfield 33, 3) := by decide +kernel
theorem dX8_init_54 : decode cX8_init 54 = .ok (.aload_n 0, 1) := by decide +kernel
theorem dX8_init_55 : decode cX8_init 55 = .ok (.bipush 30, 2) := by decide +kernel
theorem dX8_init_57 : decode cX8_init 57 = .ok (.anewarray 20, 3) := by decide +kernel
theorem dX8_init_60 : decode cX8_init 60 = .ok (.putfield 36, 3) := by decide +kernel
theorem dX8_init_63 : decode cX8_init 63 = .ok (.aload_n 0, 1) := by decide +kernel
theorem dX8_init_64 : decode cX8_init 64 = .ok (.bipush 12, 2) := by decide +kernel
theorem dX8_init_66 : decode cX8_init 66 = .ok (.anewarray 20, 3) := by decide +kernel
theorem dX8_init_69 : decode cX8_init 69 = .ok (.putfield 39, 3) := by decide +kernel
theorem dX8_init_72 : decode cX8_init 72 = .ok (.aload_n 0, 1) := by decide +kernel
theorem dX8_init_73 : decode cX8_init 73 = .ok (.bipush 12, 2) := by decide +kernel
theorem dX8_init_75 : decode cX8_init 75 = .ok (.iconst 0, 1) := by decide +kernel
theorem dX8_init_76 : decode cX8_init 76 = .ok (.multianewarray 42 2, 4) := by decide +kernel
theorem dX8_init_80 : decode cX8_init 80 = .ok (.putfield 43, 3) := by decide +kernel
theorem dX8_init_83 : decode cX8_init 83 = .ok (.aload_n 0, 1) := by decide +kernel
theorem dX8_init_84 : decode cX8_init 84 = .ok (.aload_n 1, 1) := by decide +kernel
theorem dX8_init_85 : decode cX8_init 85 = .ok (.putfield 46, 3) := by decide +kernel
theorem dX8_init_88 : decode cX8_init 88 = .ok (.aload_n 0, 1) := by decide +kernel
theorem dX8_init_89 : decode cX8_init 89 = .ok (.iload_n 2, 1) := by decide +kernel
theorem dX8_init_90 : decode cX8_init 90 = .ok (.putfield 49, 3) := by decide +kernel
theorem dX8_init_93 : decode cX8_init 93 = .ok (.aload_n 0, 1) := by decide +kernel
theorem dX8_init_94 : decode cX8_init 94 = .ok (.iconst 0, 1) := by decide +kernel
theorem dX8_init_95 : decode cX8_init 95 = .ok (.iconst (-1), 1) := by decide +kernel
theorem dX8_init_96 : decode cX8_init 96 = .ok (.iconst 0, 1) := by decide +kernel
theorem dX8_init_97 : decode cX8_init 97 = .ok (.iconst 0, 1) := by decide +kernel
theorem dX8_init_98 : decode cX8_init 98 = .ok (.iconst 0, 1) := by decide +kernel
theorem dX8_init_99 : decode cX8_init 99 = .ok (.invokevirtual 52, 3) := by decide +kernel
theorem dX8_init_102 : decode cX8_init 102 = .ok (.return_, 1) := by decide +kernel
theorem dX6_endTrack_0 : decode cX6_endTrack 0 = .ok (.aload_n 0, 1) := by decide +kernel
theorem dX6_endTrack_1 : decode cX6_endTrack 1 = .ok (.iconst 1, 1) := by decide +kernel
theorem dX6_endTrack_2 : decode cX6_endTrack 2 = .ok (.putfield 50, 3) := by decide +kernel
theorem dX6_endTrack_5 : decode cX6_endTrack 5 = .ok (.aload_n 0, 1) := by decide +kernel
theorem dX6_endTrack_6 : decode cX6_endTrack 6 = .ok (.aconst_null, 1) := by decide +kernel
theorem dX6_endTrack_7 : decode cX6_endTrack 7 = .ok (.putfield 40, 3) := by decide +kernel
theorem dX6_endTrack_10 : decode cX6_endTrack 10 = .ok (.aload_n 0, 1) := by decide +kernel
theorem dX6_endTrack_11 : decode cX6_endTrack 11 = .ok (.iconst 0, 1) := by decide +kernel
theorem dX6_endTrack_12 : decode cX6_endTrack 12 = .ok (.putfield 47, 3) := by decide +kernel
theorem dX6_endTrack_15 : decode cX6_endTrack 15 = .ok (.return_, 1) := by decide +kernel
theorem dX4_vanish_0 : decode cX4_vanish 0 = .ok (.aload_n 0, 1) := by decide +kernel
theorem dX4_vanish_1 : decode cX4_vanish 1 = .ok (.iconst 1, 1) := by decide +kernel
theorem dX4_vanish_2 : decode cX4_vanish 2 = .ok (.putfield 61, 3) := by decide +kernel
theorem dX4_vanish_5 : decode cX4_vanish 5 = .ok (.aload_n 0, 1) := by decide +kernel
theorem dX4_vanish_6 : decode cX4_vanish 6 = .ok (.getfield 14, 3) := by decide +kernel
theorem dX4_vanish_9 : decode cX4_vanish 9 = .ok (.invokevirtual 65, 3) := by decide +kernel
theorem dX4_vanish_12 : decode cX4_vanish 12 = .ok (.aload_n 0, 1) := by decide +kernel
theorem dX4_vanish_13 : decode cX4_vanish 13 = .ok (.getfield 20, 3) := by decide +kernel
theorem dX4_vanish_16 : decode cX4_vanish 16 = .ok (.invokevirtual 65, 3) := by decide +kernel
theorem dX4_vanish_19 : decode cX4_vanish 19 = .ok (.aload_n 0, 1) := by decide +kernel
theorem dX4_vanish_20 : decode cX4_vanish 20 = .ok (.getfield 23, 3) := by decide +kernel
theorem dX4_vanish_23 : decode cX4_vanish 23 = .ok (.invokevirtual 65, 3) := by decide +kernel
theorem dX4_vanish_26 : decode cX4_vanish 26 = .ok (.aload_n 0, 1) := by decide +kernel
theorem dX4_vanish_27 : decode cX4_vanish 27 = .ok (.getfield 26, 3) := by decide +kernel
theorem dX4_vanish_30 : decode cX4_vanish 30 = .ok (.invokevirtual 65, 3) := by decide +kernel
theorem dX4_vanish_33 : decode cX4_vanish 33 = .ok (.return_, 1) := by decide +kernel
theorem dX7_remove_0 : decode cX7_remove 0 = .ok (.aload_n 0, 1) := by decide +kernel
theorem dX7_remove_1 : decode cX7_remove 1 = .ok (.iload_n 1, 1) := by decide +kernel
theorem dX7_remove_2 : decode cX7_remove 2 = .ok (.invokevirtual 88, 3) := by decide +kernel
theorem dX7_remove_5 : decode cX7_remove 5 = .ok (.astore_n 2, 1) := by decide +kernel
theorem dX7_remove_6 : decode cX7_remove 6 = .ok (.iconst 0, 1) := by decide +kernel
theorem dX7_remove_7 : decode cX7_remove 7 = .ok (.istore_n 3, 1) := by decide +kernel
theorem dX7_remove_8 : decode cX7_remove 8 = .ok (.aload_n 0, 1) := by decide +kernel
theorem dX7_remove_9 : decode cX7_remove 9 = .ok (.getfield 46, 3) := by decide +kernel
theorem dX7_remove_12 : decode cX7_remove 12 = .ok (.astore 4, 2) := by decide +kernel
theorem dX7_remove_14 : decode cX7_remove 14 = .ok (.aload 4, 2) := by decide +kernel
theorem dX7_remove_16 : decode cX7_remove 16 = .ok (.ifnull 30, 3) := by decide +kernel
theorem dX7_remove_19 : decode cX7_remove 19 = .ok (.aload 4, 2) := by decide +kernel
theorem dX7_remove_21 : decode cX7_remove 21 = .ok (.aload_n 2, 1) := by decide +kernel
theorem dX7_remove_22 : decode cX7_remove 22 = .ok (.invokevirtual 91, 3) := by decide +kernel
theorem dX7_remove_25 : decode cX7_remove 25 = .ok (.ifCond .eq 11, 3) := by decide +kernel
theorem dX7_remove_28 : decode cX7_remove 28 = .ok (.aload 4, 2) := by decide +kernel
theorem dX7_remove_30 : decode cX7_remove 30 = .ok (.invokevirtual 95, 3) := by decide +kernel
theorem dX7_remove_33 : decode cX7_remove 33 = .ok (.iinc 3 1, 3) := by decide +kernel
theorem dX7_remove_36 : decode cX7_remove 36 = .ok (.aload 4, 2) := by decide +kernel
theorem dX7_remove_38 : decode cX7_remove 38 = .ok (.getfield 98, 3) := by decide +kernel
theorem dX7_remove_41 : decode cX7_remove 41 = .ok (.astore 4, 2) := by decide +kernel
theorem dX7_remove_43 : decode cX7_remove 43 = .ok (.goto (-29), 3) := by decide +kernel
theorem dX7_remove_46 : decode cX7_remove 46 = .ok (.aload_n 2, 1) := by decide +kernel
theorem dX7_remove_47 : decode cX7_remove 47 = .ok (.invokevirtual 101, 3) := by decide +kernel
theorem dX7_remove_50 : decode cX7_remove 50 = .ok (.aload_n 0, 1) := by decide +kernel
theorem dX7_remove_51 : decode cX7_remove 51 = .ok (.invokevirtual 82, 3) := by decide +kernel
theorem dX7_remove_54 : decode cX7_remove 54 = .ok (.iload_n 3, 1) := by decide +kernel
theorem dX7_remove_55 : decode cX7_remove 55 = .ok (.ireturn, 1) := by decide +kernel
theorem dX8_remove_0 : decode cX8_remove 0 = .ok (.aload_n 0, 1) := by decide +kernel
theorem dX8_remove_1 : decode cX8_remove 1 = .ok (.invokevirtual 92, 3) := by decide +kernel
theorem dX8_remove_4 : decode cX8_remove 4 = .ok (.istore_n 1, 1) := by decide +kernel
theorem dX8_remove_5 : decode cX8_remove 5 = .ok (.iload_n 1, 1) := by decide +kernel
theorem dX8_remove_6 : decode cX8_remove 6 = .ok (.ifCond .ne 5, 3) := by decide +kernel
theorem dX8_remove_9 : decode cX8_remove 9 = .ok (.iconst 1, 1) := by decide +kernel
theorem dX8_remove_10 : decode cX8_remove 10 = .ok (.ireturn, 1) := by decide +kernel
theorem dX8_remove_11 : decode cX8_remove 11 = .ok (.iconst 0, 1) := by decide +kernel
theorem dX8_remove_12 : decode cX8_remove 12 = .ok (.istore_n 2, 1) := by decide +kernel
theorem dX8_remove_13 : decode cX8_remove 13 = .ok (.aload_n 0, 1) := by decide +kernel
theorem dX8_remove_14 : decode cX8_remove 14 = .ok (.getfield 16, 3) := by decide +kernel
theorem dX8_remove_17 : decode cX8_remove 17 = .ok (.newarray .boolean, 2) := by decide +kernel
theorem dX8_remove_19 : decode cX8_remove 19 = .ok (.astore_n 3, 1) := by decide +kernel
theorem dX8_remove_20 : decode cX8_remove 20 = .ok (.iconst 1, 1) := by decide +kernel
theorem dX8_remove_21 : decode cX8_remove 21 = .ok (.istore 4, 2) := by decide +kernel
theorem dX8_remove_23 : decode cX8_remove 23 = .ok (.iload 4, 2) := by decide +kernel
theorem dX8_remove_25 : decode cX8_remove 25 = .ok (.aload_n 0, 1) := by decide +kernel
theorem dX8_remove_26 : decode cX8_remove 26 = .ok (.getfield 16, 3) := by decide +kernel
theorem dX8_remove_29 : decode cX8_remove 29 = .ok (.if_icmp .ge 52, 3) := by decide +kernel
theorem dX8_remove_32 : decode cX8_remove 32 = .ok (.aload_n 3, 1) := by decide +kernel
theorem dX8_remove_33 : decode cX8_remove 33 = .ok (.iload 4, 2) := by decide +kernel
theorem dX8_remove_35 : decode cX8_remove 35 = .ok (.aload_n 0, 1) := by decide +kernel
theorem dX8_remove_36 : decode cX8_remove 36 = .ok (.iload 4, 2) := by decide +kernel
theorem dX8_remove_38 : decode cX8_remove 38 = .ok (.invokevirtual 73, 3) := by decide +kernel
theorem dX8_remove_41 : decode cX8_remove 41 = .ok (.ifCond .eq 17, 3) := by decide +kernel
theorem dX8_remove_44 : decode cX8_remove 44 = .ok (.aload_n 0, 1) := by decide +kernel
theorem dX8_remove_45 : decode cX8_remove 45 = .ok (.iload 4, 2) := by decide +kernel
theorem dX8_remove_47 : decode cX8_remove 47 = .ok (.iload_n 1, 1) := by decide +kernel
theorem dX8_remove_48 : decode cX8_remove 48 = .ok (.invokevirtual 84, 3) := by decide +kernel
theorem dX8_remove_51 : decode cX8_remove 51 = .ok (.ifCond .eq 7, 3) := by decide +kernel
theorem dX8_remove_54 : decode cX8_remove 54 = .ok (.iconst 1, 1) := by decide +kernel
theorem dX8_remove_55 : decode cX8_remove 55 = .ok (.goto 4, 3) := by decide +kernel
theorem dX8_remove_58 : decode cX8_remove 58 = .ok (.iconst 0, 1) := by decide +kernel
theorem dX8_remove_59 : decode cX8_remove 59 = .ok (.bastore, 1) := by decide +kernel
theorem dX8_remove_60 : decode cX8_remove 60 = .ok (.iload_n 2, 1) := by decide +kernel
theorem dX8_remove_61 : decode cX8_remove 61 = .ok (.aload_n 3, 1) := by decide +kernel
theorem dX8_remove_62 : decode cX8_remove 62 = .ok (.iload 4, 2) := by decide +kernel
theorem dX8_remove_64 : decode cX8_remove 64 = .ok (.baload, 1) := by decide +kernel
theorem dX8_remove_65 : decode cX8_remove 65 = .ok (.ifCond .eq 7, 3) := by decide +kernel
theorem dX8_remove_68 : decode cX8_remove 68 = .ok (.iconst 1, 1) := by decide +kernel
theorem dX8_remove_69 : decode cX8_remove 69 = .ok (.goto 4, 3) := by decide +kernel
theorem dX8_remove_72 : decode cX8_remove 72 = .ok (.iconst 0, 1) := by decide +kernel
theorem dX8_remove_73 : decode cX8_remove 73 = .ok (.iadd, 1) := by decide +kernel
theorem dX8_remove_74 : decode cX8_remove 74 = .ok (.istore_n 2, 1) := by decide +kernel
theorem dX8_remove_75 : decode cX8_remove 75 = .ok (.iinc 4 1, 3) := by decide +kernel
theorem dX8_remove_78 : decode cX8_remove 78 = .ok (.goto (-55), 3) := by decide +kernel
theorem dX8_remove_81 : decode cX8_remove 81 = .ok (.iconst 1, 1) := by decide +kernel
theorem dX8_remove_82 : decode cX8_remove 82 = .ok (.istore 4, 2) := by decide +kernel
theorem dX8_remove_84 : decode cX8_remove 84 = .ok (.iload 4, 2) := by decide +kernel
theorem dX8_remove_86 : decode cX8_remove 86 = .ok (.aload_n 0, 1) := by decide +kernel
theorem dX8_remove_87 : decode cX8_remove 87 = .ok (.getfield 16, 3) := by decide +kernel
theorem dX8_remove_90 : decode cX8_remove 90 = .ok (.if_icmp .ge 27, 3) := by decide +kernel
theorem dX8_remove_93 : decode cX8_remove 93 = .ok (.aload_n 3, 1) := by decide +kernel
theorem dX8_remove_94 : decode cX8_remove 94 = .ok (.iload 4, 2) := by decide +kernel
theorem dX8_remove_96 : decode cX8_remove 96 = .ok (.baload, 1) := by decide +kernel
theorem dX8_remove_97 : decode cX8_remove 97 = .ok (.ifCond .eq 14, 3) := by decide +kernel
theorem dX8_remove_100 : decode cX8_remove 100 = .ok (.aload_n 0, 1) := by decide +kernel
theorem dX8_remove_101 : decode cX8_remove 101 = .ok (.getfield 22, 3) := by decide +kernel
theorem dX8_remove_104 : decode cX8_remove 104 = .ok (.iload 4, 2) := by decide +kernel
theorem dX8_remove_106 : decode cX8_remove 106 = .ok (.aaload, 1) := by decide +kernel
theorem dX8_remove_107 : decode cX8_remove 107 = .ok (.iconst 0, 1) := by decide +kernel
theorem dX8_remove_108 : decode cX8_remove 108 = .ok (.bipush (-2), 2) := by decide +kernel
theorem dX8_remove_110 : decode cX8_remove 110 = .ok (.iastore, 1) := by decide +kernel
theorem dX8_remove_111 : decode cX8_remove 111 = .ok (.iinc 4 1, 3) := by decide +kernel
theorem dX8_remove_114 : decode cX8_remove 114 = .ok (.goto (-30), 3) := by decide +kernel
theorem dX8_remove_117 : decode cX8_remove 117 = .ok (.iconst 0, 1) := by decide +kernel
theorem dX8_remove_118 : decode cX8_remove 118 = .ok (.istore 4, 2) := by decide +kernel
theorem dX8_remove_120 : decode cX8_remove 120 = .ok (.iload 4, 2) := by decide +kernel
theorem dX8_remove_122 : decode cX8_remove 122 = .ok (.aload_n 0, 1) := by decide +kernel
theorem dX8_remove_123 : decode cX8_remove 123 = .ok (.getfield 134, 3) := by decide +kernel
theorem dX8_remove_126 : decode cX8_remove 126 = .ok (.if_icmp .ge 35, 3) := by decide +kernel
theorem dX8_remove_129 : decode cX8_remove 129 = .ok (.aload_n 0, 1) := by decide +kernel
theorem dX8_remove_130 : decode cX8_remove 130 = .ok (.aload_n 0, 1) := by decide +kernel
theorem dX8_remove_131 : decode cX8_remove 131 = .ok (.getfield 39, 3) := by decide +kernel
theorem dX8_remove_134 : decode cX8_remove 134 = .ok (.iload 4, 2) := by decide +kernel
theorem dX8_remove_136 : decode cX8_remove 136 = .ok (.aaload, 1) := by decide +kernel
theorem dX8_remove_137 : decode cX8_remove 137 = .ok (.iconst 0, 1) := by decide +kernel
theorem dX8_remove_138 : decode cX8_remove 138 = .ok (.iaload, 1) := by decide +kernel
theorem dX8_remove_139 : decode cX8_remove 139 = .ok (.invokevirtual 73, 3) := by decide +kernel
theorem dX8_remove_142 : decode cX8_remove 142 = .ok (.ifCond .ne 13, 3) := by decide +kernel
theorem dX8_remove_145 : decode cX8_remove 145 = .ok (.aload_n 0, 1) := by decide +kernel
theorem dX8_remove_146 : decode cX8_remove 146 = .ok (.getfield 43, 3) := by decide +kernel
theorem dX8_remove_149 : decode cX8_remove 149 = .ok (.iload 4, 2) := by decide +kernel
theorem dX8_remove_151 : decode cX8_remove 151 = .ok (.iconst 0, 1) := by decide +kernel
theorem dX8_remove_152 : decode cX8_remove 152 = .ok (.newarray .int, 2) := by decide +kernel
theorem dX8_remove_154 : decode cX8_remove 154 = .ok (.aastore, 1) := by decide +kernel
theorem dX8_remove_155 : decode cX8_remove 155 = .ok (.iinc 4 1, 3) := by decide +kernel
theorem dX8_remove_158 : decode cX8_remove 158 = .ok (.goto (-38), 3) := by decide +kernel
theorem dX8_remove_161 : decode cX8_remove 161 = .ok (.aload_n 0, 1) := by decide +kernel
theorem dX8_remove_162 : decode cX8_remove 162 = .ok (.getfield 10, 3) := by decide +kernel
theorem dX8_remove_165 : decode cX8_remove 165 = .ok (.iload_n 1, 1) := by decide +kernel
theorem dX8_remove_166 : decode cX8_remove 166 = .ok (.invokevirtual 137, 3) := by decide +kernel
theorem dX8_remove_169 : decode cX8_remove 169 = .ok (.iload_n 2, 1) := by decide +kernel
theorem dX8_remove_170 : decode cX8_remove 170 = .ok (.if_icmp .ne 7, 3) := by decide +kernel
theorem dX8_remove_173 : decode cX8_remove 173 = .ok (.iconst 1, 1) := by decide +kernel
theorem dX8_remove_174 : decode cX8_remove 174 = .ok (.goto 4, 3) := by decide +kernel
theorem dX8_remove_177 : decode cX8_remove 177 = .ok (.iconst 0, 1) := by decide +kernel
theorem dX8_remove_178 : decode cX8_remove 178 = .ok (.ireturn, 1) := by decide +kernel
noncomputable def f_X8_change_L136 (s0 : Int32) (h : fSt) : Option (Int32 × fSt) := if s0 = 0 ∨ s0 = 1 then some (s0, h) else none
noncomputable def f_X8_change_L193 (s0 : Int32) (h : fSt) : Option (Int32 × fSt) := if s0 = 0 ∨ s0 = 1 then some (s0, h) else none
noncomputable def f_X8_change_L268 (s0 : Int32) (h : fSt) : Option (Int32 × fSt) := if s0 = 0 ∨ s0 = 1 then some (s0, h) else none
noncomputable def f_X8_change_L235 (a0 : Option Nat) (a1 : Int32) (a5 : Int32) (s2 : Int32) (s1 : Int32) (s0 : Option Nat) (h : fSt) : Option (Int32 × fSt) := (fsI h s0 1 s1 (vp_nar .boolean s2)).bind fun h4 => (fgR h4 a0 8 0).bind fun x6 => (fgR h4 a0 8 5).bind fun x8 => (faR h4 x8 4 a1).bind fun x10 => (faI h4 x10 0 (2 : Int32)).bind fun x12 => (fgR h4 a0 8 6).bind fun x14 => (faI h4 x14 1 a1).bind fun x16 => (fobj h4 x6 7).bind fun b20 => (f_X7_turn b20 a1 x12 x16 h4).bind fun r18 => Sum.elim (fun v22 => (if v22 = a5 then f_X8_change_L268 (1 : Int32) r18.2 else f_X8_change_L268 (0 : Int32) r18.2)) (fun _ => none) r18.1
noncomputable def f_X8_change_L376 (s0 : Int32) (h : fSt) : Option (Int32 × fSt) := if s0 = 0 ∨ s0 = 1 then some (s0, h) else none
noncomputable def f_X8_change_L339 (a0 : Option Nat) (a1 : Int32) (a2 : Option Nat) (a6 : Int32) (s2 : Int32) (s1 : Int32) (s0 : Option Nat) (h : fSt) : Option (Int32 × fSt) := (fsI h s0 1 s1 (vp_nar .boolean s2)).bind fun h27 => (fgR h27 a0 8 0).bind fun x29 => (faI h27 a2 0 (6 : Int32)).bind fun x31 => (fgR h27 a0 8 5).bind fun x33 => (faR h27 x33 4 a1).bind fun x35 => (faI h27 x35 0 (3 : Int32)).bind fun x37 => (fgR h27 a0 8 7).bind fun x39 => (faI h27 x39 1 a1).bind fun x41 => (fobj h27 x29 7).bind fun b45 => (f_X7_look b45 a1 x31 x37 x41 h27).bind fun r43 => Sum.elim (fun v47 => (if v47 = a6 then f_X8_change_L376 (1 : Int32) r43.2 else f_X8_change_L376 (0 : Int32) r43.2)) (fun _ => none) r43.1
noncomputable def f_X8_change_L319 (a0 : Option Nat) (a1 : Int32) (a2 : Option Nat) (a6 : Int32) (s2 : Int32) (s1 : Int32) (s0 : Option Nat) (h : fSt) : Option (Int32 × fSt) := (fsI h s0 0 s1 s2).bind fun h51 => (fgR h51 a0 8 7).bind fun x53 => (fobj h51 a0 8).bind fun b57 => (f_X8_draw b57 (6 : Int32) h51).bind fun r55 => (if r55.1 = 0 then f_X8_change_L339 a0 a1 a2 a6 (1 : Int32) a1 x53 r55.2 else f_X8_change_L339 a0 a1 a2 a6 (0 : Int32) a1 x53 r55.2)
noncomputable def f_X8_change_L544 (s0 : Int32) (h : fSt) : Option (Int32 × fSt) := if s0 = 0 ∨ s0 = 1 then some (s0, h) else none
noncomputable def f_X8_change_L479 (a0 : Option Nat) (a1 : Int32) (a7 : Int32) (a8 : Option Nat) (s2 : Option Nat) (s1 : Int32) (s0 : Option Nat) (h : fSt) : Option (Int32 × fSt) := (fsA h s0 4 0 s1 s2).bind fun h61 => (fgR h61 a0 8 8).bind fun x63 => (faR h61 x63 4 a1).bind fun x65 => (if x65 = none then (fgR h61 a0 8 0).bind fun x86 => (fobj h61 x86 7).bind fun b90 => (f_X7_uncut b90 a1 h61).bind fun r88 => Sum.elim (fun v92 => (if v92 = a7 then f_X8_change_L544 (1 : Int32) r88.2 else f_X8_change_L544 (0 : Int32) r88.2)) (fun _ => none) r88.1 else (fgR h61 a0 8 0).bind fun x68 => (faI h61 a8 0 (0 : Int32)).bind fun x70 => (faI h61 a8 0 (1 : Int32)).bind fun x72 => (faI h61 a8 0 (2 : Int32)).bind fun x74 => (faI h61 a8 0 (3 : Int32)).bind fun x76 => (fobj h61 x68 7).bind fun b80 => (f_X7_cut b80 a1 x70 x72 x74 x76 h61).bind fun r78 => Sum.elim (fun v82 => (if v82 = a7 then f_X8_change_L544 (1 : Int32) r78.2 else f_X8_change_L544 (0 : Int32) r78.2)) (fun _ => none) r78.1)
noncomputable def f_X8_change_L391 (a0 : Option Nat) (a1 : Int32) (s0 : Int32) (h : fSt) : Option (Int32 × fSt) := (if (4 : Int32) < 0 ∨ 67000000 < ((4 : Int32)).toNatClampNeg then none else (fnew h (.inr (0, ((4 : Int32)).toNatClampNeg, .inl (fun _ => 0))) ((4 : Int32)).toNatClampNeg).bind fun r97 => (fobj r97.2 a0 8).bind fun b101 => (f_X8_draw b101 (30 : Int32) r97.2).bind fun r99 => (fsI r99.2 (some r97.1) 0 (0 : Int32) (r99.1 - (20 : Int32))).bind fun h103 => (fobj h103 a0 8).bind fun b107 => (f_X8_draw b107 (30 : Int32) h103).bind fun r105 => (fsI r105.2 (some r97.1) 0 (1 : Int32) (r105.1 - (20 : Int32))).bind fun h109 => (fsI h109 (some r97.1) 0 (2 : Int32) (0 : Int32)).bind fun h111 => (fsI h111 (some r97.1) 0 (3 : Int32) (0 : Int32)).bind fun h113 => (faI h113 (some r97.1) 0 (0 : Int32)).bind fun x115 => (fobj h113 a0 8).bind fun b119 => (f_X8_draw b119 (60 : Int32) h113).bind fun r117 => (fsI r117.2 (some r97.1) 0 (2 : Int32) (x115 + r117.1)).bind fun h121 => (faI h121 (some r97.1) 0 (1 : Int32)).bind fun x123 => (fobj h121 a0 8).bind fun b127 => (f_X8_draw b127 (60 : Int32) h121).bind fun r125 => (fsI r125.2 (some r97.1) 0 (3 : Int32) (x123 + r125.1)).bind fun h129 => (fgR h129 a0 8 8).bind fun x131 => (fobj h129 a0 8).bind fun b135 => (f_X8_draw b135 (4 : Int32) h129).bind fun r133 => (if r133.1 = 0 then f_X8_change_L479 a0 a1 s0 (some r97.1) none a1 x131 r133.2 else f_X8_change_L479 a0 a1 s0 (some r97.1) (some r97.1) a1 x131 r133.2))
noncomputable def f_X8_change_L0 (a0 : Option Nat) (h : fSt) : Option (Int32 × fSt) := (fobj h a0 8).bind fun b140 => (f_X8_one b140 h).bind fun r138 => (if r138.1 = 0 then (fobj r138.2 a0 8).bind fun b301 => (f_X8_add b301 r138.2).bind fun r299 => if r299.1 = 0 ∨ r299.1 = 1 then some (r299.1, r299.2) else none else (fgR r138.2 a0 8 4).bind fun x143 => (faR r138.2 x143 4 r138.1).bind fun x145 => (fobj r138.2 a0 8).bind fun b149 => (f_X8_draw b149 (6 : Int32) r138.2).bind fun r147 => (if r147.1 = (0 : Int32) then (fgR r147.2 a0 8 5).bind fun x152 => (faR r147.2 x152 4 r138.1).bind fun x154 => (faI r147.2 x154 0 (0 : Int32)).bind fun x156 => (fgR r147.2 a0 8 5).bind fun x158 => (faR r147.2 x158 4 r138.1).bind fun x160 => (fobj r147.2 a0 8).bind fun b164 => (f_X8_draw b164 (61 : Int32) r147.2).bind fun r162 => (fsI r162.2 x160 0 (0 : Int32) (r162.1 - (30 : Int32))).bind fun h166 => (fgR h166 a0 8 5).bind fun x168 => (faR h166 x168 4 r138.1).bind fun x170 => (fobj h166 a0 8).bind fun b174 => (f_X8_draw b174 (61 : Int32) h166).bind fun r172 => (fsI r172.2 x170 0 (1 : Int32) (r172.1 - (30 : Int32))).bind fun h176 => (fgR h176 a0 8 0).bind fun x178 => (fgR h176 a0 8 5).bind fun x180 => (faR h176 x180 4 r138.1).bind fun x182 => (faI h176 x182 0 (0 : Int32)).bind fun x184 => (fgR h176 a0 8 5).bind fun x186 => (faR h176 x186 4 r138.1).bind fun x188 => (faI h176 x188 0 (1 : Int32)).bind fun x190 => (fobj h176 x178 7).bind fun b194 => (f_X7_move b194 r138.1 x184 x190 h176).bind fun r192 => Sum.elim (fun v196 => (if v196 = x156 then f_X8_change_L136 (1 : Int32) r192.2 else f_X8_change_L136 (0 : Int32) r192.2)) (fun _ => none) r192.1 else (if r147.1 = (1 : Int32) then (faI r147.2 x145 0 (4 : Int32)).bind fun x201 => (faI r147.2 x145 0 (5 : Int32)).bind fun x203 => (fobj r147.2 a0 8).bind fun b207 => (f_X8_draw b207 (4 : Int32) r147.2).bind fun r205 => (fsI r205.2 x145 0 (4 : Int32) ((1 : Int32) + r205.1)).bind fun h209 => (fobj h209 a0 8).bind fun b213 => (f_X8_draw b213 (4 : Int32) h209).bind fun r211 => (fsI r211.2 x145 0 (5 : Int32) ((1 : Int32) + r211.1)).bind fun h215 => (fgR h215 a0 8 0).bind fun x217 => (faI h215 x145 0 (4 : Int32)).bind fun x219 => (faI h215 x145 0 (5 : Int32)).bind fun x221 => (fobj h215 x217 7).bind fun b225 => (f_X7_scale b225 r138.1 x219 x221 h215).bind fun r223 => Sum.elim (fun v227 => (if v227 = ((x201 * (10 : Int32)) + x203) then f_X8_change_L193 (1 : Int32) r223.2 else f_X8_change_L193 (0 : Int32) r223.2)) (fun _ => none) r223.1 else (if r147.1 = (2 : Int32) then (fgR r147.2 a0 8 5).bind fun x232 => (faR r147.2 x232 4 r138.1).bind fun x234 => (faI r147.2 x234 0 (2 : Int32)).bind fun x236 => (fgR r147.2 a0 8 5).bind fun x238 => (faR r147.2 x238 4 r138.1).bind fun x240 => (fobj r147.2 a0 8).bind fun b244 => (f_X8_draw b244 (4 : Int32) r147.2).bind fun r242 => (fsI r242.2 x240 0 (2 : Int32) r242.1).bind fun h246 => (fgR h246 a0 8 6).bind fun x248 => (fobj h246 a0 8).bind fun b252 => (f_X8_draw b252 (2 : Int32) h246).bind fun r250 => (if r250.1 = 0 then f_X8_change_L235 a0 r138.1 x236 (1 : Int32) r138.1 x248 r250.2 else f_X8_change_L235 a0 r138.1 x236 (0 : Int32) r138.1 x248 r250.2) else (if r147.1 = (3 : Int32) then (fgR r147.2 a0 8 5).bind fun x256 => (faR r147.2 x256 4 r138.1).bind fun x258 => (faI r147.2 x258 0 (3 : Int32)).bind fun x260 => (fobj r147.2 a0 8).bind fun b264 => (f_X8_draw b264 (7 : Int32) r147.2).bind fun r262 => (fsI r262.2 x145 0 (6 : Int32) (r262.1 - (3 : Int32))).bind fun h266 => (fgR h266 a0 8 5).bind fun x268 => (faR h266 x268 4 r138.1).bind fun x270 => (fobj h266 a0 8).bind fun b274 => (f_X8_draw b274 (6 : Int32) h266).bind fun r272 => (if r272.1 = 0 then f_X8_change_L319 a0 r138.1 x145 x260 (0 : Int32) (3 : Int32) x270 r272.2 else (fobj r272.2 a0 8).bind fun b279 => (f_X8_draw b279 (100 : Int32) r272.2).bind fun r277 => f_X8_change_L319 a0 r138.1 x145 x260 ((1 : Int32) + r277.1) (3 : Int32) x270 r277.2) else (if r147.1 = (4 : Int32) then (fgR r147.2 a0 8 8).bind fun x282 => (faR r147.2 x282 4 r138.1).bind fun x284 => (if x284 = none then f_X8_change_L391 a0 r138.1 (0 : Int32) r147.2 else f_X8_change_L391 a0 r138.1 (1 : Int32) r147.2) else (fobj r147.2 a0 8).bind fun b289 => (f_X8_any b289 r147.2).bind fun r287 => (fobj r287.2 a0 8).bind fun b293 => (f_X8_hang b293 r138.1 r287.1 r287.2).bind fun r291 => Sum.elim (fun v295 => if v295 = 0 ∨ v295 = 1 then some (v295, r291.2) else none) (fun _ => none) r291.1))))))
noncomputable def f_X8_change (o : Nat) (h : fSt) : Option (Int32 × fSt) := f_X8_change_L0 (some o) h
noncomputable def f_X1_init_L0 (a0 : Option Nat) (h : fSt) : Option (Unit × fSt) := (fobj h a0 1).bind fun b1 => some ((), h)
noncomputable def f_X1_init (o : Nat) (h : fSt) : Option (Unit × fSt) := f_X1_init_L0 (some o) h
noncomputable def f_X0_init_L0 (a0 : Option Nat) (h : fSt) : Option (Unit × fSt) := (fobj h a0 0).bind fun b1 => (fnew h (.inl (1, [.long 0, .long 0])) 2).bind fun r3 => (f_X1_init r3.1 r3.2).bind fun r5 => (fput r5.2 a0 0 0 (va_rf (some r3.1))).bind fun h7 => (fnew h7 (.inl (1, [.long 0, .long 0])) 2).bind fun r9 => (f_X1_init r9.1 r9.2).bind fun r11 => (fput r11.2 a0 0 1 (va_rf (some r9.1))).bind fun h13 => (fnew h13 (.inl (1, [.long 0, .long 0])) 2).bind fun r15 => (f_X1_init r15.1 r15.2).bind fun r17 => (fput r17.2 a0 0 2 (va_rf (some r15.1))).bind fun h19 => (fnew h19 (.inl (1, [.long 0, .long 0])) 2).bind fun r21 => (f_X1_init r21.1 r21.2).bind fun r23 => (fput r23.2 a0 0 3 (va_rf (some r21.1))).bind fun h25 => some ((), h25)
noncomputable def f_X0_init (o : Nat) (h : fSt) : Option (Unit × fSt) := f_X0_init_L0 (some o) h
noncomputable def f_X5_init_L0 (a0 : Option Nat) (h : fSt) : Option (Unit × fSt) := (fobj h a0 5).bind fun b1 => (fput h a0 5 2 (.long (1 : Int64))).bind fun h3 => some ((), h3)
noncomputable def f_X5_init (o : Nat) (h : fSt) : Option (Unit × fSt) := f_X5_init_L0 (some o) h
noncomputable def f_X7_init_L0 (a0 : Option Nat) (h : fSt) : Option (Unit × fSt) := (fobj h a0 7).bind fun b1 => (if (30 : Int32) < 0 ∨ 67000000 < ((30 : Int32)).toNatClampNeg then none else (fnew h (.inr (2, ((30 : Int32)).toNatClampNeg, .inr (.inr (.inr (.inr (fun _ => none)))))) ((30 : Int32)).toNatClampNeg).bind fun r4 => (fput r4.2 a0 7 0 (va_rf (some r4.1))).bind fun h6 => (if (12 : Int32) < 0 ∨ 67000000 < ((12 : Int32)).toNatClampNeg then none else (fnew h6 (.inr (3, ((12 : Int32)).toNatClampNeg, .inr (.inr (.inr (.inr (fun _ => none)))))) ((12 : Int32)).toNatClampNeg).bind fun r9 => (fput r9.2 a0 7 1 (va_rf (some r9.1))).bind fun h11 => (fnew h11 (.inl (4, [.int 0, .int 0, .null, .null, .null, .null, .null, .int 0, .int 0, .int 0, .int 0, .int 0, .null, .int 0, .null, .null, .null, .null, .int 0])) 19).bind fun r13 => (f_X4_init r13.1 (0 : Int32) (0 : Int32) (0 : Int32) (0 : Int32) r13.2).bind fun r15 => (fput r15.2 a0 7 2 (va_rf (some r13.1))).bind fun h17 => (fnew h17 (.inl (5, [.long 0, .long 0, .long 0, .int 0])) 4).bind fun r19 => (f_X5_init r19.1 r19.2).bind fun r21 => (fput r21.2 a0 7 3 (va_rf (some r19.1))).bind fun h23 => (fnew h23 (.inl (0, [.null, .null, .null, .null])) 4).bind fun r25 => (f_X0_init r25.1 r25.2).bind fun r27 => (fput r27.2 a0 7 4 (va_rf (some r25.1))).bind fun h29 => (fgR h29 a0 7 0).bind fun x31 => (fgR h29 a0 7 2).bind fun x33 => (fsR h29 x31 2 4 (0 : Int32) x33).bind fun h35 => (fput h35 a0 7 5 (.int (1 : Int32))).bind fun h37 => (fgR h37 a0 7 2).bind fun x39 => (fput h37 a0 7 8 (va_rf x39)).bind fun h41 => (fput h41 a0 7 9 (.int (1 : Int32))).bind fun h43 => some ((), h43)))
noncomputable def f_X7_init (o : Nat) (h : fSt) : Option (Unit × fSt) := f_X7_init_L0 (some o) h
noncomputable def f_X8_init_L0 (a0 : Option Nat) (a1 : Option Nat) (a2 : Int32) (h : fSt) : Option (Unit × fSt) := (fobj h a0 8).bind fun b1 => (fnew h (.inl (7, [.null, .null, .null, .null, .null, .int 0, .int 0, .int 0, .null, .int 0])) 10).bind fun r3 => (f_X7_init r3.1 r3.2).bind fun r5 => (fput r5.2 a0 8 0 (va_rf (some r3.1))).bind fun h7 => (fput h7 a0 8 3 (.int (1 : Int32))).bind fun h9 => (if (30 : Int32) < 0 ∨ 67000000 < ((30 : Int32)).toNatClampNeg then none else (fnew h9 (.inr (4, ((30 : Int32)).toNatClampNeg, .inr (.inr (.inr (.inr (fun _ => none)))))) ((30 : Int32)).toNatClampNeg).bind fun r12 => (fput r12.2 a0 8 4 (va_rf (some r12.1))).bind fun h14 => (if (30 : Int32) < 0 ∨ 67000000 < ((30 : Int32)).toNatClampNeg then none else (fnew h14 (.inr (4, ((30 : Int32)).toNatClampNeg, .inr (.inr (.inr (.inr (fun _ => none)))))) ((30 : Int32)).toNatClampNeg).bind fun r17 => (fput r17.2 a0 8 5 (va_rf (some r17.1))).bind fun h19 => (if (30 : Int32) < 0 ∨ 67000000 < ((30 : Int32)).toNatClampNeg then none else (fnew h19 (.inr (1, ((30 : Int32)).toNatClampNeg, .inl (fun _ => 0))) ((30 : Int32)).toNatClampNeg).bind fun r22 => (fput r22.2 a0 8 6 (va_rf (some r22.1))).bind fun h24 => (if (30 : Int32) < 0 ∨ 67000000 < ((30 : Int32)).toNatClampNeg then none else (fnew h24 (.inr (1, ((30 : Int32)).toNatClampNeg, .inl (fun _ => 0))) ((30 : Int32)).toNatClampNeg).bind fun r27 => (fput r27.2 a0 8 7 (va_rf (some r27.1))).bind fun h29 => (if (30 : Int32) < 0 ∨ 67000000 < ((30 : Int32)).toNatClampNeg then none else (fnew h29 (.inr (4, ((30 : Int32)).toNatClampNeg, .inr (.inr (.inr (.inr (fun _ => none)))))) ((30 : Int32)).toNatClampNeg).bind fun r32 => (fput r32.2 a0 8 8 (va_rf (some r32.1))).bind fun h34 => (if (12 : Int32) < 0 ∨ 67000000 < ((12 : Int32)).toNatClampNeg then none else (fnew h34 (.inr (4, ((12 : Int32)).toNatClampNeg, .inr (.inr (.inr (.inr (fun _ => none)))))) ((12 : Int32)).toNatClampNeg).bind fun r37 => (fput r37.2 a0 8 11 (va_rf (some r37.1))).bind fun h39 => (if (12 : Int32) < 0 ∨ 67000000 < ((12 : Int32)).toNatClampNeg then none else (fmula h39 ((12 : Int32)).toNatClampNeg).bind fun r42 => (fput r42.2 a0 8 12 (va_rf (some r42.1))).bind fun h44 => (fput h44 a0 8 1 (va_rf a1)).bind fun h46 => (fput h46 a0 8 2 (.int a2)).bind fun h48 => (fobj h48 a0 8).bind fun b52 => (f_X8_put b52 (0 : Int32) (-1 : Int32) (0 : Int32) (0 : Int32) (0 : Int32) h48).bind fun r50 => some ((), r50.2))))))))
noncomputable def f_X8_init (o : Nat) (p0 : Option Nat) (p1 : Int32) (h : fSt) : Option (Unit × fSt) := f_X8_init_L0 (some o) p0 p1 h
noncomputable def f_X6_endTrack_L0 (a0 : Option Nat) (h : fSt) : Option (Unit × fSt) := (fputZ h a0 6 4 (1 : Int32)).bind fun h1 => (fput h1 a0 6 7 (va_rf none)).bind fun h4 => (fput h4 a0 6 8 (.int (0 : Int32))).bind fun h6 => some ((), h6)
noncomputable def f_X6_endTrack (o : Nat) (h : fSt) : Option (Unit × fSt) := f_X6_endTrack_L0 (some o) h
noncomputable def f_X4_vanish_L0 (a0 : Option Nat) (h : fSt) : Option (Unit × fSt) := (fputZ h a0 4 13 (1 : Int32)).bind fun h1 => (fgR h1 a0 4 3).bind fun x4 => (fobj h1 x4 6).bind fun b8 => (f_X6_endTrack b8 h1).bind fun r6 => (fgR r6.2 a0 4 4).bind fun x10 => (fobj r6.2 x10 6).bind fun b14 => (f_X6_endTrack b14 r6.2).bind fun r12 => (fgR r12.2 a0 4 5).bind fun x16 => (fobj r12.2 x16 6).bind fun b20 => (f_X6_endTrack b20 r12.2).bind fun r18 => (fgR r18.2 a0 4 6).bind fun x22 => (fobj r18.2 x22 6).bind fun b26 => (f_X6_endTrack b26 r18.2).bind fun r24 => some ((), r24.2)
noncomputable def f_X4_vanish (o : Nat) (h : fSt) : Option (Unit × fSt) := f_X4_vanish_L0 (some o) h
noncomputable def f_X7_remove_L36 (k14 : Option Nat → Option Nat → Int32 → Option Nat → fSt → Option ((Int32 ⊕ Nat) × fSt)) (a0 : Option Nat) (a2 : Option Nat) (a3 : Int32) (a4 : Option Nat) (h : fSt) : Option ((Int32 ⊕ Nat) × fSt) := (fgR h a4 4 17).bind fun x1 => k14 a0 a2 a3 x1 h
noncomputable def f_X7_remove_L14 (n : Nat) : Option Nat → Option Nat → Int32 → Option Nat → fSt → Option ((Int32 ⊕ Nat) × fSt) := Nat.rec (motive := fun _ => Option Nat → Option Nat → Int32 → Option Nat → fSt → Option ((Int32 ⊕ Nat) × fSt)) (fun _ _ _ _ _ => none) (fun _ k14 (a0 : Option Nat) (a2 : Option Nat) (a3 : Int32) (a4 : Option Nat) (h : fSt) => (if a4 = none then (fobj h a2 4).bind fun b6 => (f_X4_leaveParent b6 h).bind fun r4 => (fobj r4.2 a0 7).bind fun b10 => (f_X7_layOrder b10 r4.2).bind fun r8 => some (.inl a3, r8.2) else (fobj h a4 4).bind fun b14 => (f_X4_isWithin b14 a2 h).bind fun r12 => (if r12.1 = 0 then f_X7_remove_L36 k14 a0 a2 a3 a4 r12.2 else (fobj r12.2 a4 4).bind fun b19 => (f_X4_vanish b19 r12.2).bind fun r17 => f_X7_remove_L36 k14 a0 a2 (a3 + (1 : Int32)) a4 r17.2))) n
noncomputable def f_X7_remove_L0 (a0 : Option Nat) (a1 : Int32) (h : fSt) : Option ((Int32 ⊕ Nat) × fSt) := (fobj h a0 7).bind fun b23 => (f_X7_foundBelowWhole b23 a1 h).bind fun r21 => Sum.elim (fun v25 => (fgR r21.2 a0 7 8).bind fun x28 => f_X7_remove_L14 4096 a0 v25 (0 : Int32) x28 r21.2) (fun k26 => some (.inr k26, r21.2)) r21.1
noncomputable def f_X7_remove (o : Nat) (p0 : Int32) (h : fSt) : Option ((Int32 ⊕ Nat) × fSt) := f_X7_remove_L0 (some o) p0 h
noncomputable def f_X8_remove_L73 (k23 : Option Nat → Int32 → Int32 → Option Nat → Int32 → fSt → Option (Int32 × fSt)) (a0 : Option Nat) (a1 : Int32) (a3 : Option Nat) (a4 : Int32) (s1 : Int32) (s0 : Int32) (h : fSt) : Option (Int32 × fSt) := k23 a0 a1 (s0 + s1) a3 (a4 + (1 : Int32)) h
noncomputable def f_X8_remove_L59 (k23 : Option Nat → Int32 → Int32 → Option Nat → Int32 → fSt → Option (Int32 × fSt)) (a0 : Option Nat) (a1 : Int32) (a2 : Int32) (a3 : Option Nat) (a4 : Int32) (s2 : Int32) (s1 : Int32) (s0 : Option Nat) (h : fSt) : Option (Int32 × fSt) := (fsI h s0 1 s1 (vp_nar .boolean s2)).bind fun h1 => (faI h1 a3 1 a4).bind fun x3 => (if x3 = 0 then f_X8_remove_L73 k23 a0 a1 a3 a4 (0 : Int32) a2 h1 else f_X8_remove_L73 k23 a0 a1 a3 a4 (1 : Int32) a2 h1)
noncomputable def f_X8_remove_L58 (k23 : Option Nat → Int32 → Int32 → Option Nat → Int32 → fSt → Option (Int32 × fSt)) (a0 : Option Nat) (a1 : Int32) (a2 : Int32) (a3 : Option Nat) (a4 : Int32) (s1 : Int32) (s0 : Option Nat) (h : fSt) : Option (Int32 × fSt) := f_X8_remove_L59 k23 a0 a1 a2 a3 a4 (0 : Int32) s1 s0 h
noncomputable def f_X8_remove_L111 (k84 : Option Nat → Int32 → Int32 → Option Nat → Int32 → fSt → Option (Int32 × fSt)) (a0 : Option Nat) (a1 : Int32) (a2 : Int32) (a3 : Option Nat) (a4 : Int32) (h : fSt) : Option (Int32 × fSt) := k84 a0 a1 a2 a3 (a4 + (1 : Int32)) h
noncomputable def f_X8_remove_L155 (k120 : Option Nat → Int32 → Int32 → Int32 → fSt → Option (Int32 × fSt)) (a0 : Option Nat) (a1 : Int32) (a2 : Int32) (a4 : Int32) (h : fSt) : Option (Int32 × fSt) := k120 a0 a1 a2 (a4 + (1 : Int32)) h
noncomputable def f_X8_remove_L178 (s0 : Int32) (h : fSt) : Option (Int32 × fSt) := if s0 = 0 ∨ s0 = 1 then some (s0, h) else none
noncomputable def f_X8_remove_L120 (n : Nat) : Option Nat → Int32 → Int32 → Int32 → fSt → Option (Int32 × fSt) := Nat.rec (motive := fun _ => Option Nat → Int32 → Int32 → Int32 → fSt → Option (Int32 × fSt)) (fun _ _ _ _ _ => none) (fun _ k120 (a0 : Option Nat) (a1 : Int32) (a2 : Int32) (a4 : Int32) (h : fSt) => (fgI h a0 8 10).bind fun x7 => (if x7 ≤ a4 then (fgR h a0 8 0).bind fun x10 => (fobj h x10 7).bind fun b14 => (f_X7_remove b14 a1 h).bind fun r12 => Sum.elim (fun v16 => (if v16 = a2 then f_X8_remove_L178 (1 : Int32) r12.2 else f_X8_remove_L178 (0 : Int32) r12.2)) (fun _ => none) r12.1 else (fgR h a0 8 11).bind fun x20 => (faR h x20 4 a4).bind fun x22 => (faI h x22 0 (0 : Int32)).bind fun x24 => (fobj h a0 8).bind fun b28 => (f_X8_isThere b28 x24 h).bind fun r26 => (if r26.1 = 0 then (fgR r26.2 a0 8 12).bind fun x31 => (if (0 : Int32) < 0 ∨ 67000000 < ((0 : Int32)).toNatClampNeg then none else (fnew r26.2 (.inr (0, ((0 : Int32)).toNatClampNeg, .inl (fun _ => 0))) ((0 : Int32)).toNatClampNeg).bind fun r34 => (fsA r34.2 x31 4 0 a4 (some r34.1)).bind fun h36 => f_X8_remove_L155 k120 a0 a1 a2 a4 h36) else f_X8_remove_L155 k120 a0 a1 a2 a4 r26.2))) n
noncomputable def f_X8_remove_L84 (n : Nat) : Option Nat → Int32 → Int32 → Option Nat → Int32 → fSt → Option (Int32 × fSt) := Nat.rec (motive := fun _ => Option Nat → Int32 → Int32 → Option Nat → Int32 → fSt → Option (Int32 × fSt)) (fun _ _ _ _ _ _ => none) (fun _ k84 (a0 : Option Nat) (a1 : Int32) (a2 : Int32) (a3 : Option Nat) (a4 : Int32) (h : fSt) => (fgI h a0 8 3).bind fun x38 => (if x38 ≤ a4 then f_X8_remove_L120 4096 a0 a1 a2 (0 : Int32) h else (faI h a3 1 a4).bind fun x41 => (if x41 = 0 then f_X8_remove_L111 k84 a0 a1 a2 a3 a4 h else (fgR h a0 8 4).bind fun x44 => (faR h x44 4 a4).bind fun x46 => (fsI h x46 0 (0 : Int32) (-2 : Int32)).bind fun h48 => f_X8_remove_L111 k84 a0 a1 a2 a3 a4 h48))) n
noncomputable def f_X8_remove_L23 (n : Nat) : Option Nat → Int32 → Int32 → Option Nat → Int32 → fSt → Option (Int32 × fSt) := Nat.rec (motive := fun _ => Option Nat → Int32 → Int32 → Option Nat → Int32 → fSt → Option (Int32 × fSt)) (fun _ _ _ _ _ _ => none) (fun _ k23 (a0 : Option Nat) (a1 : Int32) (a2 : Int32) (a3 : Option Nat) (a4 : Int32) (h : fSt) => (fgI h a0 8 3).bind fun x50 => (if x50 ≤ a4 then f_X8_remove_L84 4096 a0 a1 a2 a3 (1 : Int32) h else (fobj h a0 8).bind fun b55 => (f_X8_isThere b55 a4 h).bind fun r53 => (if r53.1 = 0 then f_X8_remove_L58 k23 a0 a1 a2 a3 a4 a4 a3 r53.2 else (fobj r53.2 a0 8).bind fun b60 => (f_X8_isIn 8 b60 a4 a1 r53.2).bind fun r58 => (if r58.1 = 0 then f_X8_remove_L58 k23 a0 a1 a2 a3 a4 a4 a3 r58.2 else f_X8_remove_L59 k23 a0 a1 a2 a3 a4 (1 : Int32) a4 a3 r58.2)))) n
noncomputable def f_X8_remove_L0 (a0 : Option Nat) (h : fSt) : Option (Int32 × fSt) := (fobj h a0 8).bind fun b65 => (f_X8_one b65 h).bind fun r63 => (if r63.1 = 0 then some ((1 : Int32), r63.2) else (fgI r63.2 a0 8 3).bind fun x68 => (if x68 < 0 ∨ 67000000 < (x68).toNatClampNeg then none else (fnew r63.2 (.inr (1, (x68).toNatClampNeg, .inl (fun _ => 0))) (x68).toNatClampNeg).bind fun r71 => f_X8_remove_L23 4096 a0 r63.1 (0 : Int32) (some r71.1) (1 : Int32) r71.2))
noncomputable def f_X8_remove (o : Nat) (h : fSt) : Option (Int32 × fSt) := f_X8_remove_L0 (some o) h
set_option maxHeartbeats 4000000 in
set_option maxRecDepth 100000 in
theorem w_X8_change_L136 {p : Program} {l : Launch} {e : Env} {s : State} {m : MethodId} {args : Array Value} {below : List Frame} {meth : Method} {c : Code} {D : va_G} {cA : Nat → ClassId} {h0 : fSt} {r : (Int32 × fSt)} (M : fM p s m args meth c D cA h0 { frames := 20, cells := fCB h0 - fZ h0, slots := fLB h0 - fL h0, locals := 476 } cX8_change 9 (some (.boolean)) RX8) (hfl : l.stackTraces = false) (s0 : Int32) (h : fSt) (hf : f_X8_change_L136 s0 h = some r) : ∀ (H : Heap) (locs : List Loc) (cells slots : Nat) (ls : Array Slot), fCur D cA s h0 h H locs → lv_has ls 9 [] → W p l e { frames := 20, cells := fCB h0 - fZ h0, slots := fLB h0 - fL h0, locals := 476 } s m args below meth c H locs cells slots (MQ below (fQ D cA h0 r.2 (some (.int r.1))) args s (fCB h0 - fZ h0) (fLB h0 - fL h0) (fA h0)) (F0 m 136 ls [.int s0]) := by
  obtain ⟨hx, hb, hml, hr, hlocks, hts, hown, K, hR⟩ := id M
  intro H locs cells slots ls hC hl
  by_cases c1 : s0 = 0 ∨ s0 = 1
  rotate_left
  · exact nomatch (oneg c1 hf)
  obtain rfl := Option.some.inj (opos c1 hf)
  exact fr_zret hx hb hr hlocks hC c1 dX8_change_136
set_option maxHeartbeats 4000000 in
set_option maxRecDepth 100000 in
theorem w_X8_change_L193 {p : Program} {l : Launch} {e : Env} {s : State} {m : MethodId} {args : Array Value} {below : List Frame} {meth : Method} {c : Code} {D : va_G} {cA : Nat → ClassId} {h0 : fSt} {r : (Int32 × fSt)} (M : fM p s m args meth c D cA h0 { frames := 20, cells := fCB h0 - fZ h0, slots := fLB h0 - fL h0, locals := 476 } cX8_change 9 (some (.boolean)) RX8) (hfl : l.stackTraces = false) (s0 : Int32) (h : fSt) (hf : f_X8_change_L193 s0 h = some r) : ∀ (H : Heap) (locs : List Loc) (cells slots : Nat) (ls : Array Slot), fCur D cA s h0 h H locs → lv_has ls 9 [] → W p l e { frames := 20, cells := fCB h0 - fZ h0, slots := fLB h0 - fL h0, locals := 476 } s m args below meth c H locs cells slots (MQ below (fQ D cA h0 r.2 (some (.int r.1))) args s (fCB h0 - fZ h0) (fLB h0 - fL h0) (fA h0)) (F0 m 193 ls [.int s0]) := by
  obtain ⟨hx, hb, hml, hr, hlocks, hts, hown, K, hR⟩ := id M
  intro H locs cells slots ls hC hl
  by_cases c2 : s0 = 0 ∨ s0 = 1
  rotate_left
  · exact nomatch (oneg c2 hf)
  obtain rfl := Option.some.inj (opos c2 hf)
  exact fr_zret hx hb hr hlocks hC c2 dX8_change_193
set_option maxHeartbeats 4000000 in
set_option maxRecDepth 100000 in
theorem w_X8_change_L268 {p : Program} {l : Launch} {e : Env} {s : State} {m : MethodId} {args : Array Value} {below : List Frame} {meth : Method} {c : Code} {D : va_G} {cA : Nat → ClassId} {h0 : fSt} {r : (Int32 × fSt)} (M : fM p s m args meth c D cA h0 { frames := 20, cells := fCB h0 - fZ h0, slots := fLB h0 - fL h0, locals := 476 } cX8_change 9 (some (.boolean)) RX8) (hfl : l.stackTraces = false) (s0 : Int32) (h : fSt) (hf : f_X8_change_L268 s0 h = some r) : ∀ (H : Heap) (locs : List Loc) (cells slots : Nat) (ls : Array Slot), fCur D cA s h0 h H locs → lv_has ls 9 [] → W p l e { frames := 20, cells := fCB h0 - fZ h0, slots := fLB h0 - fL h0, locals := 476 } s m args below meth c H locs cells slots (MQ below (fQ D cA h0 r.2 (some (.int r.1))) args s (fCB h0 - fZ h0) (fLB h0 - fL h0) (fA h0)) (F0 m 268 ls [.int s0]) := by
  obtain ⟨hx, hb, hml, hr, hlocks, hts, hown, K, hR⟩ := id M
  intro H locs cells slots ls hC hl
  by_cases c3 : s0 = 0 ∨ s0 = 1
  rotate_left
  · exact nomatch (oneg c3 hf)
  obtain rfl := Option.some.inj (opos c3 hf)
  exact fr_zret hx hb hr hlocks hC c3 dX8_change_268
set_option maxHeartbeats 4000000 in
set_option maxRecDepth 100000 in
theorem w_X8_change_L235 {p : Program} {l : Launch} {e : Env} {s : State} {m : MethodId} {args : Array Value} {below : List Frame} {meth : Method} {c : Code} {D : va_G} {cA : Nat → ClassId} {h0 : fSt} {r : (Int32 × fSt)} (M : fM p s m args meth c D cA h0 { frames := 20, cells := fCB h0 - fZ h0, slots := fLB h0 - fL h0, locals := 476 } cX8_change 9 (some (.boolean)) RX8) (hfl : l.stackTraces = false) (a0 : Option Nat) (a1 : Int32) (a5 : Int32) (s2 : Int32) (s1 : Int32) (s0 : Option Nat) (h : fSt) (hf : f_X8_change_L235 a0 a1 a5 s2 s1 s0 h = some r) : ∀ (H : Heap) (locs : List Loc) (cells slots : Nat) (ls : Array Slot), fCur D cA s h0 h H locs → lv_has ls 9 [(0, va_rf a0), (1, .int a1), (5, .int a5)] → W p l e { frames := 20, cells := fCB h0 - fZ h0, slots := fLB h0 - fL h0, locals := 476 } s m args below meth c H locs cells slots (MQ below (fQ D cA h0 r.2 (some (.int r.1))) args s (fCB h0 - fZ h0) (fLB h0 - fL h0) (fA h0)) (F0 m 235 ls [.int s2, .int s1, va_rf s0]) := by
  obtain ⟨hx, hb, hml, hr, hlocks, hts, hown, K, hR⟩ := id M
  intro H locs cells slots ls hC hl
  obtain ⟨h4, g5, hf⟩ := obind hf
  refine fr_zast hx hb K hC (t := 1) rfl g5 dX8_change_235 (fun H locs hC => ?_)
  refine fr_aload_n hx hb dX8_change_236 rfl (lv_at hl 0 rfl) ?_
  obtain ⟨x6, g7, hf⟩ := obind hf
  refine fr_get hx hb hts hown K hC ct_8 (fgR_get g7) (by decide) kw655 rfl dX8_change_237 ?_
  refine lv_iload_n hx hb dX8_change_240 rfl (lv_at hl 1 rfl) ?_
  refine fr_aload_n hx hb dX8_change_241 rfl (lv_at hl 0 rfl) ?_
  obtain ⟨x8, g9, hf⟩ := obind hf
  refine fr_get hx hb hts hown K hC ct_8 (fgR_get g9) (by decide) kw663 rfl dX8_change_242 ?_
  refine lv_iload_n hx hb dX8_change_245 rfl (lv_at hl 1 rfl) ?_
  obtain ⟨x10, g11, hf⟩ := obind hf
  refine fr_aaldA hx hb K hC (t := 4) rfl g11 dX8_change_246 ?_
  refine lv_iconst (v := (2 : Int32)) hx hb dX8_change_247 (by decide) ?_
  obtain ⟨x12, g13, hf⟩ := obind hf
  refine fr_iald hx hb K hC (t := 0) rfl g13 dX8_change_248 ?_
  refine fr_aload_n hx hb dX8_change_249 rfl (lv_at hl 0 rfl) ?_
  obtain ⟨x14, g15, hf⟩ := obind hf
  refine fr_get hx hb hts hown K hC ct_8 (fgR_get g15) (by decide) kw664 rfl dX8_change_250 ?_
  refine lv_iload_n hx hb dX8_change_253 rfl (lv_at hl 1 rfl) ?_
  obtain ⟨x16, g17, hf⟩ := obind hf
  refine fr_zald hx hb K hC (t := 1) rfl g17 dX8_change_254 ?_
  obtain ⟨b20, q21, hf⟩ := obind hf
  obtain ⟨⟨v22 | k23, h24⟩, g19, hf⟩ := obind hf
  rotate_left
  · exact nomatch (show (none : Option (Int32 × fSt)) = some _ from hf)
  replace hf := fci hf
  refine fr_callVX hx hb hml hts hown K hC hR ct_7 (c_X7_turn hfl D cA g19) 3 q21 kw805 kw802 kw803 kw804 kw23 (by decide +kernel) ⟨by exact Nat.le_of_ble_eq_true rfl, by exact Nat.le_of_ble_eq_true rfl⟩ rfl hl.1 (cat8 _ (by exact Nat.le_of_ble_eq_true rfl)) dX8_change_255 rfl (fun H locs _ _ hC => ?_)
  refine lv_iload hx hb dX8_change_258 (lv_at hl 2 rfl) ?_
  refine lv_icmp_ne (tgt := 267) hx hb dX8_change_260 (by decide) (fun c25 => ?_) (fun c25 => ?_)
  · replace hf := oneg c25 hf
    refine lv_iconst (v := (0 : Int32)) hx hb dX8_change_267 (by decide) ?_
    exact w_X8_change_L268 M hfl _ _ hf _ _ _ _ _ hC (lv_sub hl [] rfl)
  · replace hf := opos c25 hf
    refine lv_iconst (v := (1 : Int32)) hx hb dX8_change_263 (by decide) ?_
    refine lv_goto (tgt := 268) hx hb dX8_change_264 (by decide) ?_
    exact w_X8_change_L268 M hfl _ _ hf _ _ _ _ _ hC (lv_sub hl [] rfl)
set_option maxHeartbeats 4000000 in
set_option maxRecDepth 100000 in
theorem w_X8_change_L376 {p : Program} {l : Launch} {e : Env} {s : State} {m : MethodId} {args : Array Value} {below : List Frame} {meth : Method} {c : Code} {D : va_G} {cA : Nat → ClassId} {h0 : fSt} {r : (Int32 × fSt)} (M : fM p s m args meth c D cA h0 { frames := 20, cells := fCB h0 - fZ h0, slots := fLB h0 - fL h0, locals := 476 } cX8_change 9 (some (.boolean)) RX8) (hfl : l.stackTraces = false) (s0 : Int32) (h : fSt) (hf : f_X8_change_L376 s0 h = some r) : ∀ (H : Heap) (locs : List Loc) (cells slots : Nat) (ls : Array Slot), fCur D cA s h0 h H locs → lv_has ls 9 [] → W p l e { frames := 20, cells := fCB h0 - fZ h0, slots := fLB h0 - fL h0, locals := 476 } s m args below meth c H locs cells slots (MQ below (fQ D cA h0 r.2 (some (.int r.1))) args s (fCB h0 - fZ h0) (fLB h0 - fL h0) (fA h0)) (F0 m 376 ls [.int s0]) := by
  obtain ⟨hx, hb, hml, hr, hlocks, hts, hown, K, hR⟩ := id M
  intro H locs cells slots ls hC hl
  by_cases c26 : s0 = 0 ∨ s0 = 1
  rotate_left
  · exact nomatch (oneg c26 hf)
  obtain rfl := Option.some.inj (opos c26 hf)
  exact fr_zret hx hb hr hlocks hC c26 dX8_change_376
set_option maxHeartbeats 4000000 in
set_option maxRecDepth 100000 in
theorem w_X8_change_L339 {p : Program} {l : Launch} {e : Env} {s : State} {m : MethodId} {args : Array Value} {below : List Frame} {meth : Method} {c : Code} {D : va_G} {cA : Nat → ClassId} {h0 : fSt} {r : (Int32 × fSt)} (M : fM p s m args meth c D cA h0 { frames := 20, cells := fCB h0 - fZ h0, slots := fLB h0 - fL h0, locals := 476 } cX8_change 9 (some (.boolean)) RX8) (hfl : l.stackTraces = false) (a0 : Option Nat) (a1 : Int32) (a2 : Option Nat) (a6 : Int32) (s2 : Int32) (s1 : Int32) (s0 : Option Nat) (h : fSt) (hf : f_X8_change_L339 a0 a1 a2 a6 s2 s1 s0 h = some r) : ∀ (H : Heap) (locs : List Loc) (cells slots : Nat) (ls : Array Slot), fCur D cA s h0 h H locs → lv_has ls 9 [(0, va_rf a0), (1, .int a1), (2, va_rf a2), (6, .int a6)] → W p l e { frames := 20, cells := fCB h0 - fZ h0, slots := fLB h0 - fL h0, locals := 476 } s m args below meth c H locs cells slots (MQ below (fQ D cA h0 r.2 (some (.int r.1))) args s (fCB h0 - fZ h0) (fLB h0 - fL h0) (fA h0)) (F0 m 339 ls [.int s2, .int s1, va_rf s0]) := by
  obtain ⟨hx, hb, hml, hr, hlocks, hts, hown, K, hR⟩ := id M
  intro H locs cells slots ls hC hl
  obtain ⟨h27, g28, hf⟩ := obind hf
  refine fr_zast hx hb K hC (t := 1) rfl g28 dX8_change_339 (fun H locs hC => ?_)
  refine fr_aload_n hx hb dX8_change_340 rfl (lv_at hl 0 rfl) ?_
  obtain ⟨x29, g30, hf⟩ := obind hf
  refine fr_get hx hb hts hown K hC ct_8 (fgR_get g30) (by decide) kw655 rfl dX8_change_341 ?_
  refine lv_iload_n hx hb dX8_change_344 rfl (lv_at hl 1 rfl) ?_
  refine fr_aload_n hx hb dX8_change_345 rfl (lv_at hl 2 rfl) ?_
  refine lv_bipush (v := (6 : Int32)) hx hb dX8_change_346 (by decide) ?_
  obtain ⟨x31, g32, hf⟩ := obind hf
  refine fr_iald hx hb K hC (t := 0) rfl g32 dX8_change_348 ?_
  refine fr_aload_n hx hb dX8_change_349 rfl (lv_at hl 0 rfl) ?_
  obtain ⟨x33, g34, hf⟩ := obind hf
  refine fr_get hx hb hts hown K hC ct_8 (fgR_get g34) (by decide) kw663 rfl dX8_change_350 ?_
  refine lv_iload_n hx hb dX8_change_353 rfl (lv_at hl 1 rfl) ?_
  obtain ⟨x35, g36, hf⟩ := obind hf
  refine fr_aaldA hx hb K hC (t := 4) rfl g36 dX8_change_354 ?_
  refine lv_iconst (v := (3 : Int32)) hx hb dX8_change_355 (by decide) ?_
  obtain ⟨x37, g38, hf⟩ := obind hf
  refine fr_iald hx hb K hC (t := 0) rfl g38 dX8_change_356 ?_
  refine fr_aload_n hx hb dX8_change_357 rfl (lv_at hl 0 rfl) ?_
  obtain ⟨x39, g40, hf⟩ := obind hf
  refine fr_get hx hb hts hown K hC ct_8 (fgR_get g40) (by decide) kw665 rfl dX8_change_358 ?_
  refine lv_iload_n hx hb dX8_change_361 rfl (lv_at hl 1 rfl) ?_
  obtain ⟨x41, g42, hf⟩ := obind hf
  refine fr_zald hx hb K hC (t := 1) rfl g42 dX8_change_362 ?_
  obtain ⟨b45, q46, hf⟩ := obind hf
  obtain ⟨⟨v47 | k48, h49⟩, g44, hf⟩ := obind hf
  rotate_left
  · exact nomatch (show (none : Option (Int32 × fSt)) = some _ from hf)
  replace hf := fci hf
  refine fr_callVX hx hb hml hts hown K hC hR ct_7 (c_X7_look hfl D cA g44) 4 q46 kw810 kw807 kw808 kw809 kw23 (by decide +kernel) ⟨by exact Nat.le_of_ble_eq_true rfl, by exact Nat.le_of_ble_eq_true rfl⟩ rfl hl.1 (cat8 _ (by exact Nat.le_of_ble_eq_true rfl)) dX8_change_363 rfl (fun H locs _ _ hC => ?_)
  refine lv_iload hx hb dX8_change_366 (lv_at hl 3 rfl) ?_
  refine lv_icmp_ne (tgt := 375) hx hb dX8_change_368 (by decide) (fun c50 => ?_) (fun c50 => ?_)
  · replace hf := oneg c50 hf
    refine lv_iconst (v := (0 : Int32)) hx hb dX8_change_375 (by decide) ?_
    exact w_X8_change_L376 M hfl _ _ hf _ _ _ _ _ hC (lv_sub hl [] rfl)
  · replace hf := opos c50 hf
    refine lv_iconst (v := (1 : Int32)) hx hb dX8_change_371 (by decide) ?_
    refine lv_goto (tgt := 376) hx hb dX8_change_372 (by decide) ?_
    exact w_X8_change_L376 M hfl _ _ hf _ _ _ _ _ hC (lv_sub hl [] rfl)
set_option maxHeartbeats 4000000 in
set_option maxRecDepth 100000 in
theorem w_X8_change_L319 {p : Program} {l : Launch} {e : Env} {s : State} {m : MethodId} {args : Array Value} {below : List Frame} {meth : Method} {c : Code} {D : va_G} {cA : Nat → ClassId} {h0 : fSt} {r : (Int32 × fSt)} (M : fM p s m args meth c D cA h0 { frames := 20, cells := fCB h0 - fZ h0, slots := fLB h0 - fL h0, locals := 476 } cX8_change 9 (some (.boolean)) RX8) (hfl : l.stackTraces = false) (a0 : Option Nat) (a1 : Int32) (a2 : Option Nat) (a6 : Int32) (s2 : Int32) (s1 : Int32) (s0 : Option Nat) (h : fSt) (hf : f_X8_change_L319 a0 a1 a2 a6 s2 s1 s0 h = some r) : ∀ (H : Heap) (locs : List Loc) (cells slots : Nat) (ls : Array Slot), fCur D cA s h0 h H locs → lv_has ls 9 [(0, va_rf a0), (1, .int a1), (2, va_rf a2), (6, .int a6)] → W p l e { frames := 20, cells := fCB h0 - fZ h0, slots := fLB h0 - fL h0, locals := 476 } s m args below meth c H locs cells slots (MQ below (fQ D cA h0 r.2 (some (.int r.1))) args s (fCB h0 - fZ h0) (fLB h0 - fL h0) (fA h0)) (F0 m 319 ls [.int s2, .int s1, va_rf s0]) := by
  obtain ⟨hx, hb, hml, hr, hlocks, hts, hown, K, hR⟩ := id M
  intro H locs cells slots ls hC hl
  obtain ⟨h51, g52, hf⟩ := obind hf
  refine fr_iast hx hb K hC (t := 0) rfl g52 dX8_change_319 (fun H locs hC => ?_)
  refine fr_aload_n hx hb dX8_change_320 rfl (lv_at hl 0 rfl) ?_
  obtain ⟨x53, g54, hf⟩ := obind hf
  refine fr_get hx hb hts hown K hC ct_8 (fgR_get g54) (by decide) kw665 rfl dX8_change_321 ?_
  refine lv_iload_n hx hb dX8_change_324 rfl (lv_at hl 1 rfl) ?_
  refine fr_aload_n hx hb dX8_change_325 rfl (lv_at hl 0 rfl) ?_
  refine lv_bipush (v := (6 : Int32)) hx hb dX8_change_326 (by decide) ?_
  obtain ⟨b57, q58, hf⟩ := obind hf
  obtain ⟨r55, g56, hf⟩ := obind hf
  refine fr_callV hx hb hml hts hown K hC hR ct_8 (c_X8_draw hfl D cA g56) 1 q58 kw706 kw723 kw704 kw705 kw22 (by decide +kernel) ⟨by exact Nat.le_of_ble_eq_true rfl, by exact Nat.le_of_ble_eq_true rfl⟩ rfl hl.1 (cat8 _ (by exact Nat.le_of_ble_eq_true rfl)) dX8_change_328 rfl (fun H locs _ _ hC => ?_)
  refine lv_if_ne (tgt := 338) hx hb dX8_change_331 (by decide) (fun c59 => ?_) (fun c59 => ?_)
  · replace hf := oneg c59 hf
    refine lv_iconst (v := (0 : Int32)) hx hb dX8_change_338 (by decide) ?_
    exact w_X8_change_L339 M hfl _ _ _ _ _ _ _ _ hf _ _ _ _ _ hC (lv_sub hl [0, 1, 2, 3] rfl)
  · replace hf := opos c59 hf
    refine lv_iconst (v := (1 : Int32)) hx hb dX8_change_334 (by decide) ?_
    refine lv_goto (tgt := 339) hx hb dX8_change_335 (by decide) ?_
    exact w_X8_change_L339 M hfl _ _ _ _ _ _ _ _ hf _ _ _ _ _ hC (lv_sub hl [0, 1, 2, 3] rfl)
set_option maxHeartbeats 4000000 in
set_option maxRecDepth 100000 in
theorem w_X8_change_L544 {p : Program} {l : Launch} {e : Env} {s : State} {m : MethodId} {args : Array Value} {below : List Frame} {meth : Method} {c : Code} {D : va_G} {cA : Nat → ClassId} {h0 : fSt} {r : (Int32 × fSt)} (M : fM p s m args meth c D cA h0 { frames := 20, cells := fCB h0 - fZ h0, slots := fLB h0 - fL h0, locals := 476 } cX8_change 9 (some (.boolean)) RX8) (hfl : l.stackTraces = false) (s0 : Int32) (h : fSt) (hf : f_X8_change_L544 s0 h = some r) : ∀ (H : Heap) (locs : List Loc) (cells slots : Nat) (ls : Array Slot), fCur D cA s h0 h H locs → lv_has ls 9 [] → W p l e { frames := 20, cells := fCB h0 - fZ h0, slots := fLB h0 - fL h0, locals := 476 } s m args below meth c H locs cells slots (MQ below (fQ D cA h0 r.2 (some (.int r.1))) args s (fCB h0 - fZ h0) (fLB h0 - fL h0) (fA h0)) (F0 m 544 ls [.int s0]) := by
  obtain ⟨hx, hb, hml, hr, hlocks, hts, hown, K, hR⟩ := id M
  intro H locs cells slots ls hC hl
  by_cases c60 : s0 = 0 ∨ s0 = 1
  rotate_left
  · exact nomatch (oneg c60 hf)
  obtain rfl := Option.some.inj (opos c60 hf)
  exact fr_zret hx hb hr hlocks hC c60 dX8_change_544
set_option maxHeartbeats 4000000 in
set_option maxRecDepth 100000 in
theorem w_X8_change_L479 {p : Program} {l : Launch} {e : Env} {s : State} {m : MethodId} {args : Array Value} {below : List Frame} {meth : Method} {c : Code} {D : va_G} {cA : Nat → ClassId} {h0 : fSt} {r : (Int32 × fSt)} (M : fM p s m args meth c D cA h0 { frames := 20, cells := fCB h0 - fZ h0, slots := fLB h0 - fL h0, locals := 476 } cX8_change 9 (some (.boolean)) RX8) (hfl : l.stackTraces = false) (a0 : Option Nat) (a1 : Int32) (a7 : Int32) (a8 : Option Nat) (s2 : Option Nat) (s1 : Int32) (s0 : Option Nat) (h : fSt) (hf : f_X8_change_L479 a0 a1 a7 a8 s2 s1 s0 h = some r) : ∀ (H : Heap) (locs : List Loc) (cells slots : Nat) (ls : Array Slot), fCur D cA s h0 h H locs → lv_has ls 9 [(0, va_rf a0), (1, .int a1), (7, .int a7), (8, va_rf a8)] → W p l e { frames := 20, cells := fCB h0 - fZ h0, slots := fLB h0 - fL h0, locals := 476 } s m args below meth c H locs cells slots (MQ below (fQ D cA h0 r.2 (some (.int r.1))) args s (fCB h0 - fZ h0) (fLB h0 - fL h0) (fA h0)) (F0 m 479 ls [va_rf s2, .int s1, va_rf s0]) := by
  obtain ⟨hx, hb, hml, hr, hlocks, hts, hown, K, hR⟩ := id M
  intro H locs cells slots ls hC hl
  obtain ⟨h61, g62, hf⟩ := obind hf
  refine fr_aastA hx hb K hC rfl rfl g62 dX8_change_479 (fun H locs hC => ?_)
  refine fr_aload_n hx hb dX8_change_480 rfl (lv_at hl 0 rfl) ?_
  obtain ⟨x63, g64, hf⟩ := obind hf
  refine fr_get hx hb hts hown K hC ct_8 (fgR_get g64) (by decide) kw666 rfl dX8_change_481 ?_
  refine lv_iload_n hx hb dX8_change_484 rfl (lv_at hl 1 rfl) ?_
  obtain ⟨x65, g66, hf⟩ := obind hf
  refine fr_aaldA hx hb K hC (t := 4) rfl g66 dX8_change_485 ?_
  refine fr_ifnonnull (tgt := 510) hx hb dX8_change_486 (by decide) (fun c67 => ?_) (fun c67 => ?_)
  · replace hf := oneg c67 hf
    refine fr_aload_n hx hb dX8_change_510 rfl (lv_at hl 0 rfl) ?_
    obtain ⟨x68, g69, hf⟩ := obind hf
    refine fr_get hx hb hts hown K hC ct_8 (fgR_get g69) (by decide) kw655 rfl dX8_change_511 ?_
    refine lv_iload_n hx hb dX8_change_514 rfl (lv_at hl 1 rfl) ?_
    refine fr_aload hx hb dX8_change_515 (lv_at hl 3 rfl) ?_
    refine lv_iconst (v := (0 : Int32)) hx hb dX8_change_517 (by decide) ?_
    obtain ⟨x70, g71, hf⟩ := obind hf
    refine fr_iald hx hb K hC (t := 0) rfl g71 dX8_change_518 ?_
    refine fr_aload hx hb dX8_change_519 (lv_at hl 3 rfl) ?_
    refine lv_iconst (v := (1 : Int32)) hx hb dX8_change_521 (by decide) ?_
    obtain ⟨x72, g73, hf⟩ := obind hf
    refine fr_iald hx hb K hC (t := 0) rfl g73 dX8_change_522 ?_
    refine fr_aload hx hb dX8_change_523 (lv_at hl 3 rfl) ?_
    refine lv_iconst (v := (2 : Int32)) hx hb dX8_change_525 (by decide) ?_
    obtain ⟨x74, g75, hf⟩ := obind hf
    refine fr_iald hx hb K hC (t := 0) rfl g75 dX8_change_526 ?_
    refine fr_aload hx hb dX8_change_527 (lv_at hl 3 rfl) ?_
    refine lv_iconst (v := (3 : Int32)) hx hb dX8_change_529 (by decide) ?_
    obtain ⟨x76, g77, hf⟩ := obind hf
    refine fr_iald hx hb K hC (t := 0) rfl g77 dX8_change_530 ?_
    obtain ⟨b80, q81, hf⟩ := obind hf
    obtain ⟨⟨v82 | k83, h84⟩, g79, hf⟩ := obind hf
    rotate_left
    · exact nomatch (show (none : Option (Int32 × fSt)) = some _ from hf)
    replace hf := fci hf
    refine fr_callVX hx hb hml hts hown K hC hR ct_7 (c_X7_cut hfl D cA g79) 5 q81 kw819 kw816 kw817 kw818 kw23 (by decide +kernel) ⟨by exact Nat.le_of_ble_eq_true rfl, by exact Nat.le_of_ble_eq_true rfl⟩ rfl hl.1 (cat8 _ (by exact Nat.le_of_ble_eq_true rfl)) dX8_change_531 rfl (fun H locs _ _ hC => ?_)
    refine lv_iload hx hb dX8_change_534 (lv_at hl 2 rfl) ?_
    refine lv_icmp_ne (tgt := 543) hx hb dX8_change_536 (by decide) (fun c85 => ?_) (fun c85 => ?_)
    · replace hf := oneg c85 hf
      refine lv_iconst (v := (0 : Int32)) hx hb dX8_change_543 (by decide) ?_
      exact w_X8_change_L544 M hfl _ _ hf _ _ _ _ _ hC (lv_sub hl [] rfl)
    · replace hf := opos c85 hf
      refine lv_iconst (v := (1 : Int32)) hx hb dX8_change_539 (by decide) ?_
      refine lv_goto (tgt := 544) hx hb dX8_change_540 (by decide) ?_
      exact w_X8_change_L544 M hfl _ _ hf _ _ _ _ _ hC (lv_sub hl [] rfl)
  · replace hf := opos c67 hf
    refine fr_aload_n hx hb dX8_change_489 rfl (lv_at hl 0 rfl) ?_
    obtain ⟨x86, g87, hf⟩ := obind hf
    refine fr_get hx hb hts hown K hC ct_8 (fgR_get g87) (by decide) kw655 rfl dX8_change_490 ?_
    refine lv_iload_n hx hb dX8_change_493 rfl (lv_at hl 1 rfl) ?_
    obtain ⟨b90, q91, hf⟩ := obind hf
    obtain ⟨⟨v92 | k93, h94⟩, g89, hf⟩ := obind hf
    rotate_left
    · exact nomatch (show (none : Option (Int32 × fSt)) = some _ from hf)
    replace hf := fci hf
    refine fr_callVX hx hb hml hts hown K hC hR ct_7 (c_X7_uncut hfl D cA g89) 1 q91 kw815 kw812 kw813 kw814 kw23 (by decide +kernel) ⟨by exact Nat.le_of_ble_eq_true rfl, by exact Nat.le_of_ble_eq_true rfl⟩ rfl hl.1 (cat8 _ (by exact Nat.le_of_ble_eq_true rfl)) dX8_change_494 rfl (fun H locs _ _ hC => ?_)
    refine lv_iload hx hb dX8_change_497 (lv_at hl 2 rfl) ?_
    refine lv_icmp_ne (tgt := 506) hx hb dX8_change_499 (by decide) (fun c95 => ?_) (fun c95 => ?_)
    · replace hf := oneg c95 hf
      refine lv_iconst (v := (0 : Int32)) hx hb dX8_change_506 (by decide) ?_
      refine lv_goto (tgt := 544) hx hb dX8_change_507 (by decide) ?_
      exact w_X8_change_L544 M hfl _ _ hf _ _ _ _ _ hC (lv_sub hl [] rfl)
    · replace hf := opos c95 hf
      refine lv_iconst (v := (1 : Int32)) hx hb dX8_change_502 (by decide) ?_
      refine lv_goto (tgt := 544) hx hb dX8_change_503 (by decide) ?_
      exact w_X8_change_L544 M hfl _ _ hf _ _ _ _ _ hC (lv_sub hl [] rfl)
set_option maxHeartbeats 4000000 in
set_option maxRecDepth 100000 in
theorem w_X8_change_L391 {p : Program} {l : Launch} {e : Env} {s : State} {m : MethodId} {args : Array Value} {below : List Frame} {meth : Method} {c : Code} {D : va_G} {cA : Nat → ClassId} {h0 : fSt} {r : (Int32 × fSt)} (M : fM p s m args meth c D cA h0 { frames := 20, cells := fCB h0 - fZ h0, slots := fLB h0 - fL h0, locals := 476 } cX8_change 9 (some (.boolean)) RX8) (hfl : l.stackTraces = false) (a0 : Option Nat) (a1 : Int32) (s0 : Int32) (h : fSt) (hf : f_X8_change_L391 a0 a1 s0 h = some r) : ∀ (H : Heap) (locs : List Loc) (cells slots : Nat) (ls : Array Slot), fCur D cA s h0 h H locs → lv_has ls 9 [(0, va_rf a0), (1, .int a1)] → W p l e { frames := 20, cells := fCB h0 - fZ h0, slots := fLB h0 - fL h0, locals := 476 } s m args below meth c H locs cells slots (MQ below (fQ D cA h0 r.2 (some (.int r.1))) args s (fCB h0 - fZ h0) (fLB h0 - fL h0) (fA h0)) (F0 m 391 ls [.int s0]) := by
  obtain ⟨hx, hb, hml, hr, hlocks, hts, hown, K, hR⟩ := id M
  intro H locs cells slots ls hC hl
  refine lv_istore (lv' := [(7, .int s0), (0, va_rf a0), (1, .int a1)]) hx hb dX8_change_391 hl (by decide) (congrArg (List.cons _) (flk rfl (flk rfl fln))) (fun ls hl => ?_)
  refine lv_iconst (v := (4 : Int32)) hx hb dX8_change_393 (by decide) ?_
  by_cases c96 : (4 : Int32) < 0 ∨ 67000000 < ((4 : Int32)).toNatClampNeg
  · exact nomatch (opos c96 hf)
  obtain ⟨r97, g98, hf⟩ := obind (oneg c96 hf)
  refine fr_newa hx hb hts K hC hR (atype := .int) (t := 0) rfl kw702 (fun _ => rfl) rfl (fun z => c96 (Or.inl z)) g98 (newa_b (fun z => c96 (Or.inr z)) (Nat.le_of_ble_eq_true rfl)) dX8_change_394 (fun H _ _ hC => ?_)
  refine lv_dup hx hb dX8_change_396 (va_rf_cat _) ?_
  refine lv_iconst (v := (0 : Int32)) hx hb dX8_change_397 (by decide) ?_
  refine fr_aload_n hx hb dX8_change_398 rfl (lv_at hl 1 rfl) ?_
  refine lv_bipush (v := (30 : Int32)) hx hb dX8_change_399 (by decide) ?_
  obtain ⟨b101, q102, hf⟩ := obind hf
  obtain ⟨r99, g100, hf⟩ := obind hf
  refine fr_callV hx hb hml hts hown K hC hR ct_8 (c_X8_draw hfl D cA g100) 1 q102 kw706 kw723 kw704 kw705 kw22 (by decide +kernel) ⟨by exact Nat.le_of_ble_eq_true rfl, by exact Nat.le_of_ble_eq_true rfl⟩ rfl hl.1 (cat8 _ (by exact Nat.le_of_ble_eq_true rfl)) dX8_change_401 rfl (fun H locs _ _ hC => ?_)
  refine lv_bipush (v := (20 : Int32)) hx hb dX8_change_404 (by decide) ?_
  refine lv_isub hx hb dX8_change_406 ?_
  obtain ⟨h103, g104, hf⟩ := obind hf
  refine fr_iast hx hb K hC (t := 0) rfl g104 dX8_change_407 (fun H locs hC => ?_)
  refine lv_dup hx hb dX8_change_408 (va_rf_cat _) ?_
  refine lv_iconst (v := (1 : Int32)) hx hb dX8_change_409 (by decide) ?_
  refine fr_aload_n hx hb dX8_change_410 rfl (lv_at hl 1 rfl) ?_
  refine lv_bipush (v := (30 : Int32)) hx hb dX8_change_411 (by decide) ?_
  obtain ⟨b107, q108, hf⟩ := obind hf
  obtain ⟨r105, g106, hf⟩ := obind hf
  refine fr_callV hx hb hml hts hown K hC hR ct_8 (c_X8_draw hfl D cA g106) 1 q108 kw706 kw723 kw704 kw705 kw22 (by decide +kernel) ⟨by exact Nat.le_of_ble_eq_true rfl, by exact Nat.le_of_ble_eq_true rfl⟩ rfl hl.1 (cat8 _ (by exact Nat.le_of_ble_eq_true rfl)) dX8_change_413 rfl (fun H locs _ _ hC => ?_)
  refine lv_bipush (v := (20 : Int32)) hx hb dX8_change_416 (by decide) ?_
  refine lv_isub hx hb dX8_change_418 ?_
  obtain ⟨h109, g110, hf⟩ := obind hf
  refine fr_iast hx hb K hC (t := 0) rfl g110 dX8_change_419 (fun H locs hC => ?_)
  refine lv_dup hx hb dX8_change_420 (va_rf_cat _) ?_
  refine lv_iconst (v := (2 : Int32)) hx hb dX8_change_421 (by decide) ?_
  refine lv_iconst (v := (0 : Int32)) hx hb dX8_change_422 (by decide) ?_
  obtain ⟨h111, g112, hf⟩ := obind hf
  refine fr_iast hx hb K hC (t := 0) rfl g112 dX8_change_423 (fun H locs hC => ?_)
  refine lv_dup hx hb dX8_change_424 (va_rf_cat _) ?_
  refine lv_iconst (v := (3 : Int32)) hx hb dX8_change_425 (by decide) ?_
  refine lv_iconst (v := (0 : Int32)) hx hb dX8_change_426 (by decide) ?_
  obtain ⟨h113, g114, hf⟩ := obind hf
  refine fr_iast hx hb K hC (t := 0) rfl g114 dX8_change_427 (fun H locs hC => ?_)
  refine fr_astore (lv' := [(8, va_rf (some r97.1)), (7, .int s0), (0, va_rf a0), (1, .int a1)]) hx hb dX8_change_428 hl (by decide) (congrArg (List.cons _) (flk rfl (flk rfl (flk rfl fln)))) (fun ls hl => ?_)
  refine fr_aload hx hb dX8_change_430 (lv_at hl 0 rfl) ?_
  refine lv_iconst (v := (2 : Int32)) hx hb dX8_change_432 (by decide) ?_
  refine fr_aload hx hb dX8_change_433 (lv_at hl 0 rfl) ?_
  refine lv_iconst (v := (0 : Int32)) hx hb dX8_change_435 (by decide) ?_
  obtain ⟨x115, g116, hf⟩ := obind hf
  refine fr_iald hx hb K hC (t := 0) rfl g116 dX8_change_436 ?_
  refine fr_aload_n hx hb dX8_change_437 rfl (lv_at hl 2 rfl) ?_
  refine lv_bipush (v := (60 : Int32)) hx hb dX8_change_438 (by decide) ?_
  obtain ⟨b119, q120, hf⟩ := obind hf
  obtain ⟨r117, g118, hf⟩ := obind hf
  refine fr_callV hx hb hml hts hown K hC hR ct_8 (c_X8_draw hfl D cA g118) 1 q120 kw706 kw723 kw704 kw705 kw22 (by decide +kernel) ⟨by exact Nat.le_of_ble_eq_true rfl, by exact Nat.le_of_ble_eq_true rfl⟩ rfl hl.1 (cat8 _ (by exact Nat.le_of_ble_eq_true rfl)) dX8_change_440 rfl (fun H locs _ _ hC => ?_)
  refine lv_iadd hx hb dX8_change_443 ?_
  obtain ⟨h121, g122, hf⟩ := obind hf
  refine fr_iast hx hb K hC (t := 0) rfl g122 dX8_change_444 (fun H locs hC => ?_)
  refine fr_aload hx hb dX8_change_445 (lv_at hl 0 rfl) ?_
  refine lv_iconst (v := (3 : Int32)) hx hb dX8_change_447 (by decide) ?_
  refine fr_aload hx hb dX8_change_448 (lv_at hl 0 rfl) ?_
  refine lv_iconst (v := (1 : Int32)) hx hb dX8_change_450 (by decide) ?_
  obtain ⟨x123, g124, hf⟩ := obind hf
  refine fr_iald hx hb K hC (t := 0) rfl g124 dX8_change_451 ?_
  refine fr_aload_n hx hb dX8_change_452 rfl (lv_at hl 2 rfl) ?_
  refine lv_bipush (v := (60 : Int32)) hx hb dX8_change_453 (by decide) ?_
  obtain ⟨b127, q128, hf⟩ := obind hf
  obtain ⟨r125, g126, hf⟩ := obind hf
  refine fr_callV hx hb hml hts hown K hC hR ct_8 (c_X8_draw hfl D cA g126) 1 q128 kw706 kw723 kw704 kw705 kw22 (by decide +kernel) ⟨by exact Nat.le_of_ble_eq_true rfl, by exact Nat.le_of_ble_eq_true rfl⟩ rfl hl.1 (cat8 _ (by exact Nat.le_of_ble_eq_true rfl)) dX8_change_455 rfl (fun H locs _ _ hC => ?_)
  refine lv_iadd hx hb dX8_change_458 ?_
  obtain ⟨h129, g130, hf⟩ := obind hf
  refine fr_iast hx hb K hC (t := 0) rfl g130 dX8_change_459 (fun H locs hC => ?_)
  refine fr_aload_n hx hb dX8_change_460 rfl (lv_at hl 2 rfl) ?_
  obtain ⟨x131, g132, hf⟩ := obind hf
  refine fr_get hx hb hts hown K hC ct_8 (fgR_get g132) (by decide) kw666 rfl dX8_change_461 ?_
  refine lv_iload_n hx hb dX8_change_464 rfl (lv_at hl 3 rfl) ?_
  refine fr_aload_n hx hb dX8_change_465 rfl (lv_at hl 2 rfl) ?_
  refine lv_iconst (v := (4 : Int32)) hx hb dX8_change_466 (by decide) ?_
  obtain ⟨b135, q136, hf⟩ := obind hf
  obtain ⟨r133, g134, hf⟩ := obind hf
  refine fr_callV hx hb hml hts hown K hC hR ct_8 (c_X8_draw hfl D cA g134) 1 q136 kw706 kw723 kw704 kw705 kw22 (by decide +kernel) ⟨by exact Nat.le_of_ble_eq_true rfl, by exact Nat.le_of_ble_eq_true rfl⟩ rfl hl.1 (cat8 _ (by exact Nat.le_of_ble_eq_true rfl)) dX8_change_467 rfl (fun H locs _ _ hC => ?_)
  refine lv_if_ne (tgt := 477) hx hb dX8_change_470 (by decide) (fun c137 => ?_) (fun c137 => ?_)
  · replace hf := oneg c137 hf
    refine fr_aload hx hb dX8_change_477 (lv_at hl 0 rfl) ?_
    exact w_X8_change_L479 M hfl _ _ _ _ _ _ _ _ hf _ _ _ _ _ hC (lv_sub hl [2, 3, 1, 0] rfl)
  · replace hf := opos c137 hf
    refine fr_null hx hb dX8_change_473 ?_
    refine lv_goto (tgt := 479) hx hb dX8_change_474 (by decide) ?_
    exact w_X8_change_L479 M hfl _ _ _ _ _ _ _ _ hf _ _ _ _ _ hC (lv_sub hl [2, 3, 1, 0] rfl)
set_option maxHeartbeats 4000000 in
set_option maxRecDepth 100000 in
theorem w_X8_change_L0 {p : Program} {l : Launch} {e : Env} {s : State} {m : MethodId} {args : Array Value} {below : List Frame} {meth : Method} {c : Code} {D : va_G} {cA : Nat → ClassId} {h0 : fSt} {r : (Int32 × fSt)} (M : fM p s m args meth c D cA h0 { frames := 20, cells := fCB h0 - fZ h0, slots := fLB h0 - fL h0, locals := 476 } cX8_change 9 (some (.boolean)) RX8) (hfl : l.stackTraces = false) (a0 : Option Nat) (h : fSt) (hf : f_X8_change_L0 a0 h = some r) : ∀ (H : Heap) (locs : List Loc) (cells slots : Nat) (ls : Array Slot), fCur D cA s h0 h H locs → lv_has ls 9 [(0, va_rf a0)] → W p l e { frames := 20, cells := fCB h0 - fZ h0, slots := fLB h0 - fL h0, locals := 476 } s m args below meth c H locs cells slots (MQ below (fQ D cA h0 r.2 (some (.int r.1))) args s (fCB h0 - fZ h0) (fLB h0 - fL h0) (fA h0)) (F0 m 0 ls []) := by
  obtain ⟨hx, hb, hml, hr, hlocks, hts, hown, K, hR⟩ := id M
  intro H locs cells slots ls hC hl
  refine fr_aload_n hx hb dX8_change_0 rfl (lv_at hl 0 rfl) ?_
  obtain ⟨b140, q141, hf⟩ := obind hf
  obtain ⟨r138, g139, hf⟩ := obind hf
  refine fr_callV hx hb hml hts hown K hC hR ct_8 (c_X8_one hfl D cA g139) 0 q141 kw728 kw780 kw726 kw727 kw22 (by decide +kernel) ⟨by exact Nat.le_of_ble_eq_true rfl, by exact Nat.le_of_ble_eq_true rfl⟩ rfl hl.1 (cat8 _ (by exact Nat.le_of_ble_eq_true rfl)) dX8_change_1 rfl (fun H locs _ _ hC => ?_)
  refine lv_istore_n (lv' := [(1, .int r138.1), (0, va_rf a0)]) hx hb dX8_change_4 rfl hl (by decide) (congrArg (List.cons _) (flk (adj1 _ _) fln)) (fun ls hl => ?_)
  refine lv_iload_n hx hb dX8_change_5 rfl (lv_at hl 0 rfl) ?_
  refine lv_if_ne (tgt := 14) hx hb dX8_change_6 (by decide) (fun c142 => ?_) (fun c142 => ?_)
  · replace hf := oneg c142 hf
    refine fr_aload_n hx hb dX8_change_14 rfl (lv_at hl 1 rfl) ?_
    obtain ⟨x143, g144, hf⟩ := obind hf
    refine fr_get hx hb hts hown K hC ct_8 (fgR_get g144) (by decide) kw661 rfl dX8_change_15 ?_
    refine lv_iload_n hx hb dX8_change_18 rfl (lv_at hl 0 rfl) ?_
    obtain ⟨x145, g146, hf⟩ := obind hf
    refine fr_aaldA hx hb K hC (t := 4) rfl g146 dX8_change_19 ?_
    refine fr_astore_n (lv' := [(2, va_rf x145), (1, .int r138.1), (0, va_rf a0)]) hx hb dX8_change_20 rfl hl (by decide) (congrArg (List.cons _) (flk rfl (flk rfl fln))) (fun ls hl => ?_)
    refine fr_aload_n hx hb dX8_change_21 rfl (lv_at hl 2 rfl) ?_
    refine lv_bipush (v := (6 : Int32)) hx hb dX8_change_22 (by decide) ?_
    obtain ⟨b149, q150, hf⟩ := obind hf
    obtain ⟨r147, g148, hf⟩ := obind hf
    refine fr_callV hx hb hml hts hown K hC hR ct_8 (c_X8_draw hfl D cA g148) 1 q150 kw706 kw723 kw704 kw705 kw22 (by decide +kernel) ⟨by exact Nat.le_of_ble_eq_true rfl, by exact Nat.le_of_ble_eq_true rfl⟩ rfl hl.1 (cat8 _ (by exact Nat.le_of_ble_eq_true rfl)) dX8_change_24 rfl (fun H locs _ _ hC => ?_)
    by_cases c151 : r147.1 = (0 : Int32)
    · replace hf := opos c151 hf
      refine lv_tableIn (off := 33) (tgt := 60) hx hb dX8_change_27 (by rw [c151]; decide) (by rw [c151]; decide) (by rw [c151]; rfl) (by decide) ?_
      refine fr_aload_n hx hb dX8_change_60 rfl (lv_at hl 2 rfl) ?_
      obtain ⟨x152, g153, hf⟩ := obind hf
      refine fr_get hx hb hts hown K hC ct_8 (fgR_get g153) (by decide) kw663 rfl dX8_change_61 ?_
      refine lv_iload_n hx hb dX8_change_64 rfl (lv_at hl 1 rfl) ?_
      obtain ⟨x154, g155, hf⟩ := obind hf
      refine fr_aaldA hx hb K hC (t := 4) rfl g155 dX8_change_65 ?_
      refine lv_iconst (v := (0 : Int32)) hx hb dX8_change_66 (by decide) ?_
      obtain ⟨x156, g157, hf⟩ := obind hf
      refine fr_iald hx hb K hC (t := 0) rfl g157 dX8_change_67 ?_
      refine lv_istore_n (lv' := [(3, .int x156), (2, va_rf x145), (1, .int r138.1), (0, va_rf a0)]) hx hb dX8_change_68 rfl hl (by decide) (congrArg (List.cons _) (flk (adj1 _ _) (flk rfl (flk rfl fln)))) (fun ls hl => ?_)
      refine fr_aload_n hx hb dX8_change_69 rfl (lv_at hl 3 rfl) ?_
      obtain ⟨x158, g159, hf⟩ := obind hf
      refine fr_get hx hb hts hown K hC ct_8 (fgR_get g159) (by decide) kw663 rfl dX8_change_70 ?_
      refine lv_iload_n hx hb dX8_change_73 rfl (lv_at hl 2 rfl) ?_
      obtain ⟨x160, g161, hf⟩ := obind hf
      refine fr_aaldA hx hb K hC (t := 4) rfl g161 dX8_change_74 ?_
      refine lv_iconst (v := (0 : Int32)) hx hb dX8_change_75 (by decide) ?_
      refine fr_aload_n hx hb dX8_change_76 rfl (lv_at hl 3 rfl) ?_
      refine lv_bipush (v := (61 : Int32)) hx hb dX8_change_77 (by decide) ?_
      obtain ⟨b164, q165, hf⟩ := obind hf
      obtain ⟨r162, g163, hf⟩ := obind hf
      refine fr_callV hx hb hml hts hown K hC hR ct_8 (c_X8_draw hfl D cA g163) 1 q165 kw706 kw723 kw704 kw705 kw22 (by decide +kernel) ⟨by exact Nat.le_of_ble_eq_true rfl, by exact Nat.le_of_ble_eq_true rfl⟩ rfl hl.1 (cat8 _ (by exact Nat.le_of_ble_eq_true rfl)) dX8_change_79 rfl (fun H locs _ _ hC => ?_)
      refine lv_bipush (v := (30 : Int32)) hx hb dX8_change_82 (by decide) ?_
      refine lv_isub hx hb dX8_change_84 ?_
      obtain ⟨h166, g167, hf⟩ := obind hf
      refine fr_iast hx hb K hC (t := 0) rfl g167 dX8_change_85 (fun H locs hC => ?_)
      refine fr_aload_n hx hb dX8_change_86 rfl (lv_at hl 3 rfl) ?_
      obtain ⟨x168, g169, hf⟩ := obind hf
      refine fr_get hx hb hts hown K hC ct_8 (fgR_get g169) (by decide) kw663 rfl dX8_change_87 ?_
      refine lv_iload_n hx hb dX8_change_90 rfl (lv_at hl 2 rfl) ?_
      obtain ⟨x170, g171, hf⟩ := obind hf
      refine fr_aaldA hx hb K hC (t := 4) rfl g171 dX8_change_91 ?_
      refine lv_iconst (v := (1 : Int32)) hx hb dX8_change_92 (by decide) ?_
      refine fr_aload_n hx hb dX8_change_93 rfl (lv_at hl 3 rfl) ?_
      refine lv_bipush (v := (61 : Int32)) hx hb dX8_change_94 (by decide) ?_
      obtain ⟨b174, q175, hf⟩ := obind hf
      obtain ⟨r172, g173, hf⟩ := obind hf
      refine fr_callV hx hb hml hts hown K hC hR ct_8 (c_X8_draw hfl D cA g173) 1 q175 kw706 kw723 kw704 kw705 kw22 (by decide +kernel) ⟨by exact Nat.le_of_ble_eq_true rfl, by exact Nat.le_of_ble_eq_true rfl⟩ rfl hl.1 (cat8 _ (by exact Nat.le_of_ble_eq_true rfl)) dX8_change_96 rfl (fun H locs _ _ hC => ?_)
      refine lv_bipush (v := (30 : Int32)) hx hb dX8_change_99 (by decide) ?_
      refine lv_isub hx hb dX8_change_101 ?_
      obtain ⟨h176, g177, hf⟩ := obind hf
      refine fr_iast hx hb K hC (t := 0) rfl g177 dX8_change_102 (fun H locs hC => ?_)
      refine fr_aload_n hx hb dX8_change_103 rfl (lv_at hl 3 rfl) ?_
      obtain ⟨x178, g179, hf⟩ := obind hf
      refine fr_get hx hb hts hown K hC ct_8 (fgR_get g179) (by decide) kw655 rfl dX8_change_104 ?_
      refine lv_iload_n hx hb dX8_change_107 rfl (lv_at hl 2 rfl) ?_
      refine fr_aload_n hx hb dX8_change_108 rfl (lv_at hl 3 rfl) ?_
      obtain ⟨x180, g181, hf⟩ := obind hf
      refine fr_get hx hb hts hown K hC ct_8 (fgR_get g181) (by decide) kw663 rfl dX8_change_109 ?_
      refine lv_iload_n hx hb dX8_change_112 rfl (lv_at hl 2 rfl) ?_
      obtain ⟨x182, g183, hf⟩ := obind hf
      refine fr_aaldA hx hb K hC (t := 4) rfl g183 dX8_change_113 ?_
      refine lv_iconst (v := (0 : Int32)) hx hb dX8_change_114 (by decide) ?_
      obtain ⟨x184, g185, hf⟩ := obind hf
      refine fr_iald hx hb K hC (t := 0) rfl g185 dX8_change_115 ?_
      refine fr_aload_n hx hb dX8_change_116 rfl (lv_at hl 3 rfl) ?_
      obtain ⟨x186, g187, hf⟩ := obind hf
      refine fr_get hx hb hts hown K hC ct_8 (fgR_get g187) (by decide) kw663 rfl dX8_change_117 ?_
      refine lv_iload_n hx hb dX8_change_120 rfl (lv_at hl 2 rfl) ?_
      obtain ⟨x188, g189, hf⟩ := obind hf
      refine fr_aaldA hx hb K hC (t := 4) rfl g189 dX8_change_121 ?_
      refine lv_iconst (v := (1 : Int32)) hx hb dX8_change_122 (by decide) ?_
      obtain ⟨x190, g191, hf⟩ := obind hf
      refine fr_iald hx hb K hC (t := 0) rfl g191 dX8_change_123 ?_
      obtain ⟨b194, q195, hf⟩ := obind hf
      obtain ⟨⟨v196 | k197, h198⟩, g193, hf⟩ := obind hf
      rotate_left
      · exact nomatch (show (none : Option (Int32 × fSt)) = some _ from hf)
      replace hf := fci hf
      refine fr_callVX hx hb hml hts hown K hC hR ct_7 (c_X7_move hfl D cA g193) 3 q195 kw785 kw782 kw783 kw784 kw23 (by decide +kernel) ⟨by exact Nat.le_of_ble_eq_true rfl, by exact Nat.le_of_ble_eq_true rfl⟩ rfl hl.1 (cat8 _ (by exact Nat.le_of_ble_eq_true rfl)) dX8_change_124 rfl (fun H locs _ _ hC => ?_)
      refine lv_iload_n hx hb dX8_change_127 rfl (lv_at hl 0 rfl) ?_
      refine lv_icmp_ne (tgt := 135) hx hb dX8_change_128 (by decide) (fun c199 => ?_) (fun c199 => ?_)
      · replace hf := oneg c199 hf
        refine lv_iconst (v := (0 : Int32)) hx hb dX8_change_135 (by decide) ?_
        exact w_X8_change_L136 M hfl _ _ hf _ _ _ _ _ hC (lv_sub hl [] rfl)
      · replace hf := opos c199 hf
        refine lv_iconst (v := (1 : Int32)) hx hb dX8_change_131 (by decide) ?_
        refine lv_goto (tgt := 136) hx hb dX8_change_132 (by decide) ?_
        exact w_X8_change_L136 M hfl _ _ hf _ _ _ _ _ hC (lv_sub hl [] rfl)
    replace hf := oneg c151 hf
    by_cases c200 : r147.1 = (1 : Int32)
    · replace hf := opos c200 hf
      refine lv_tableIn (off := 110) (tgt := 137) hx hb dX8_change_27 (by rw [c200]; decide) (by rw [c200]; decide) (by rw [c200]; rfl) (by decide) ?_
      refine fr_aload_n hx hb dX8_change_137 rfl (lv_at hl 0 rfl) ?_
      refine lv_iconst (v := (4 : Int32)) hx hb dX8_change_138 (by decide) ?_
      obtain ⟨x201, g202, hf⟩ := obind hf
      refine fr_iald hx hb K hC (t := 0) rfl g202 dX8_change_139 ?_
      refine lv_bipush (v := (10 : Int32)) hx hb dX8_change_140 (by decide) ?_
      refine lv_imul hx hb dX8_change_142 ?_
      refine fr_aload_n hx hb dX8_change_143 rfl (lv_at hl 0 rfl) ?_
      refine lv_iconst (v := (5 : Int32)) hx hb dX8_change_144 (by decide) ?_
      obtain ⟨x203, g204, hf⟩ := obind hf
      refine fr_iald hx hb K hC (t := 0) rfl g204 dX8_change_145 ?_
      refine lv_iadd hx hb dX8_change_146 ?_
      refine lv_istore (lv' := [(4, .int ((x201 * (10 : Int32)) + x203)), (2, va_rf x145), (1, .int r138.1), (0, va_rf a0)]) hx hb dX8_change_147 hl (by decide) (congrArg (List.cons _) (flk rfl (flk rfl (flk rfl fln)))) (fun ls hl => ?_)
      refine fr_aload_n hx hb dX8_change_149 rfl (lv_at hl 1 rfl) ?_
      refine lv_iconst (v := (4 : Int32)) hx hb dX8_change_150 (by decide) ?_
      refine lv_iconst (v := (1 : Int32)) hx hb dX8_change_151 (by decide) ?_
      refine fr_aload_n hx hb dX8_change_152 rfl (lv_at hl 3 rfl) ?_
      refine lv_iconst (v := (4 : Int32)) hx hb dX8_change_153 (by decide) ?_
      obtain ⟨b207, q208, hf⟩ := obind hf
      obtain ⟨r205, g206, hf⟩ := obind hf
      refine fr_callV hx hb hml hts hown K hC hR ct_8 (c_X8_draw hfl D cA g206) 1 q208 kw706 kw723 kw704 kw705 kw22 (by decide +kernel) ⟨by exact Nat.le_of_ble_eq_true rfl, by exact Nat.le_of_ble_eq_true rfl⟩ rfl hl.1 (cat8 _ (by exact Nat.le_of_ble_eq_true rfl)) dX8_change_154 rfl (fun H locs _ _ hC => ?_)
      refine lv_iadd hx hb dX8_change_157 ?_
      obtain ⟨h209, g210, hf⟩ := obind hf
      refine fr_iast hx hb K hC (t := 0) rfl g210 dX8_change_158 (fun H locs hC => ?_)
      refine fr_aload_n hx hb dX8_change_159 rfl (lv_at hl 1 rfl) ?_
      refine lv_iconst (v := (5 : Int32)) hx hb dX8_change_160 (by decide) ?_
      refine lv_iconst (v := (1 : Int32)) hx hb dX8_change_161 (by decide) ?_
      refine fr_aload_n hx hb dX8_change_162 rfl (lv_at hl 3 rfl) ?_
      refine lv_iconst (v := (4 : Int32)) hx hb dX8_change_163 (by decide) ?_
      obtain ⟨b213, q214, hf⟩ := obind hf
      obtain ⟨r211, g212, hf⟩ := obind hf
      refine fr_callV hx hb hml hts hown K hC hR ct_8 (c_X8_draw hfl D cA g212) 1 q214 kw706 kw723 kw704 kw705 kw22 (by decide +kernel) ⟨by exact Nat.le_of_ble_eq_true rfl, by exact Nat.le_of_ble_eq_true rfl⟩ rfl hl.1 (cat8 _ (by exact Nat.le_of_ble_eq_true rfl)) dX8_change_164 rfl (fun H locs _ _ hC => ?_)
      refine lv_iadd hx hb dX8_change_167 ?_
      obtain ⟨h215, g216, hf⟩ := obind hf
      refine fr_iast hx hb K hC (t := 0) rfl g216 dX8_change_168 (fun H locs hC => ?_)
      refine fr_aload_n hx hb dX8_change_169 rfl (lv_at hl 3 rfl) ?_
      obtain ⟨x217, g218, hf⟩ := obind hf
      refine fr_get hx hb hts hown K hC ct_8 (fgR_get g218) (by decide) kw655 rfl dX8_change_170 ?_
      refine lv_iload_n hx hb dX8_change_173 rfl (lv_at hl 2 rfl) ?_
      refine fr_aload_n hx hb dX8_change_174 rfl (lv_at hl 1 rfl) ?_
      refine lv_iconst (v := (4 : Int32)) hx hb dX8_change_175 (by decide) ?_
      obtain ⟨x219, g220, hf⟩ := obind hf
      refine fr_iald hx hb K hC (t := 0) rfl g220 dX8_change_176 ?_
      refine fr_aload_n hx hb dX8_change_177 rfl (lv_at hl 1 rfl) ?_
      refine lv_iconst (v := (5 : Int32)) hx hb dX8_change_178 (by decide) ?_
      obtain ⟨x221, g222, hf⟩ := obind hf
      refine fr_iald hx hb K hC (t := 0) rfl g222 dX8_change_179 ?_
      obtain ⟨b225, q226, hf⟩ := obind hf
      obtain ⟨⟨v227 | k228, h229⟩, g224, hf⟩ := obind hf
      rotate_left
      · exact nomatch (show (none : Option (Int32 × fSt)) = some _ from hf)
      replace hf := fci hf
      refine fr_callVX hx hb hml hts hown K hC hR ct_7 (c_X7_scale hfl D cA g224) 3 q226 kw800 kw797 kw798 kw799 kw23 (by decide +kernel) ⟨by exact Nat.le_of_ble_eq_true rfl, by exact Nat.le_of_ble_eq_true rfl⟩ rfl hl.1 (cat8 _ (by exact Nat.le_of_ble_eq_true rfl)) dX8_change_180 rfl (fun H locs _ _ hC => ?_)
      refine lv_iload hx hb dX8_change_183 (lv_at hl 0 rfl) ?_
      refine lv_icmp_ne (tgt := 192) hx hb dX8_change_185 (by decide) (fun c230 => ?_) (fun c230 => ?_)
      · replace hf := oneg c230 hf
        refine lv_iconst (v := (0 : Int32)) hx hb dX8_change_192 (by decide) ?_
        exact w_X8_change_L193 M hfl _ _ hf _ _ _ _ _ hC (lv_sub hl [] rfl)
      · replace hf := opos c230 hf
        refine lv_iconst (v := (1 : Int32)) hx hb dX8_change_188 (by decide) ?_
        refine lv_goto (tgt := 193) hx hb dX8_change_189 (by decide) ?_
        exact w_X8_change_L193 M hfl _ _ hf _ _ _ _ _ hC (lv_sub hl [] rfl)
    replace hf := oneg c200 hf
    by_cases c231 : r147.1 = (2 : Int32)
    · replace hf := opos c231 hf
      refine lv_tableIn (off := 167) (tgt := 194) hx hb dX8_change_27 (by rw [c231]; decide) (by rw [c231]; decide) (by rw [c231]; rfl) (by decide) ?_
      refine fr_aload_n hx hb dX8_change_194 rfl (lv_at hl 2 rfl) ?_
      obtain ⟨x232, g233, hf⟩ := obind hf
      refine fr_get hx hb hts hown K hC ct_8 (fgR_get g233) (by decide) kw663 rfl dX8_change_195 ?_
      refine lv_iload_n hx hb dX8_change_198 rfl (lv_at hl 1 rfl) ?_
      obtain ⟨x234, g235, hf⟩ := obind hf
      refine fr_aaldA hx hb K hC (t := 4) rfl g235 dX8_change_199 ?_
      refine lv_iconst (v := (2 : Int32)) hx hb dX8_change_200 (by decide) ?_
      obtain ⟨x236, g237, hf⟩ := obind hf
      refine fr_iald hx hb K hC (t := 0) rfl g237 dX8_change_201 ?_
      refine lv_istore (lv' := [(5, .int x236), (2, va_rf x145), (1, .int r138.1), (0, va_rf a0)]) hx hb dX8_change_202 hl (by decide) (congrArg (List.cons _) (flk rfl (flk rfl (flk rfl fln)))) (fun ls hl => ?_)
      refine fr_aload_n hx hb dX8_change_204 rfl (lv_at hl 3 rfl) ?_
      obtain ⟨x238, g239, hf⟩ := obind hf
      refine fr_get hx hb hts hown K hC ct_8 (fgR_get g239) (by decide) kw663 rfl dX8_change_205 ?_
      refine lv_iload_n hx hb dX8_change_208 rfl (lv_at hl 2 rfl) ?_
      obtain ⟨x240, g241, hf⟩ := obind hf
      refine fr_aaldA hx hb K hC (t := 4) rfl g241 dX8_change_209 ?_
      refine lv_iconst (v := (2 : Int32)) hx hb dX8_change_210 (by decide) ?_
      refine fr_aload_n hx hb dX8_change_211 rfl (lv_at hl 3 rfl) ?_
      refine lv_iconst (v := (4 : Int32)) hx hb dX8_change_212 (by decide) ?_
      obtain ⟨b244, q245, hf⟩ := obind hf
      obtain ⟨r242, g243, hf⟩ := obind hf
      refine fr_callV hx hb hml hts hown K hC hR ct_8 (c_X8_draw hfl D cA g243) 1 q245 kw706 kw723 kw704 kw705 kw22 (by decide +kernel) ⟨by exact Nat.le_of_ble_eq_true rfl, by exact Nat.le_of_ble_eq_true rfl⟩ rfl hl.1 (cat8 _ (by exact Nat.le_of_ble_eq_true rfl)) dX8_change_213 rfl (fun H locs _ _ hC => ?_)
      obtain ⟨h246, g247, hf⟩ := obind hf
      refine fr_iast hx hb K hC (t := 0) rfl g247 dX8_change_216 (fun H locs hC => ?_)
      refine fr_aload_n hx hb dX8_change_217 rfl (lv_at hl 3 rfl) ?_
      obtain ⟨x248, g249, hf⟩ := obind hf
      refine fr_get hx hb hts hown K hC ct_8 (fgR_get g249) (by decide) kw664 rfl dX8_change_218 ?_
      refine lv_iload_n hx hb dX8_change_221 rfl (lv_at hl 2 rfl) ?_
      refine fr_aload_n hx hb dX8_change_222 rfl (lv_at hl 3 rfl) ?_
      refine lv_iconst (v := (2 : Int32)) hx hb dX8_change_223 (by decide) ?_
      obtain ⟨b252, q253, hf⟩ := obind hf
      obtain ⟨r250, g251, hf⟩ := obind hf
      refine fr_callV hx hb hml hts hown K hC hR ct_8 (c_X8_draw hfl D cA g251) 1 q253 kw706 kw723 kw704 kw705 kw22 (by decide +kernel) ⟨by exact Nat.le_of_ble_eq_true rfl, by exact Nat.le_of_ble_eq_true rfl⟩ rfl hl.1 (cat8 _ (by exact Nat.le_of_ble_eq_true rfl)) dX8_change_224 rfl (fun H locs _ _ hC => ?_)
      refine lv_if_ne (tgt := 234) hx hb dX8_change_227 (by decide) (fun c254 => ?_) (fun c254 => ?_)
      · replace hf := oneg c254 hf
        refine lv_iconst (v := (0 : Int32)) hx hb dX8_change_234 (by decide) ?_
        exact w_X8_change_L235 M hfl _ _ _ _ _ _ _ hf _ _ _ _ _ hC (lv_sub hl [3, 2, 0] rfl)
      · replace hf := opos c254 hf
        refine lv_iconst (v := (1 : Int32)) hx hb dX8_change_230 (by decide) ?_
        refine lv_goto (tgt := 235) hx hb dX8_change_231 (by decide) ?_
        exact w_X8_change_L235 M hfl _ _ _ _ _ _ _ hf _ _ _ _ _ hC (lv_sub hl [3, 2, 0] rfl)
    replace hf := oneg c231 hf
    by_cases c255 : r147.1 = (3 : Int32)
    · replace hf := opos c255 hf
      refine lv_tableIn (off := 242) (tgt := 269) hx hb dX8_change_27 (by rw [c255]; decide) (by rw [c255]; decide) (by rw [c255]; rfl) (by decide) ?_
      refine fr_aload_n hx hb dX8_change_269 rfl (lv_at hl 2 rfl) ?_
      obtain ⟨x256, g257, hf⟩ := obind hf
      refine fr_get hx hb hts hown K hC ct_8 (fgR_get g257) (by decide) kw663 rfl dX8_change_270 ?_
      refine lv_iload_n hx hb dX8_change_273 rfl (lv_at hl 1 rfl) ?_
      obtain ⟨x258, g259, hf⟩ := obind hf
      refine fr_aaldA hx hb K hC (t := 4) rfl g259 dX8_change_274 ?_
      refine lv_iconst (v := (3 : Int32)) hx hb dX8_change_275 (by decide) ?_
      obtain ⟨x260, g261, hf⟩ := obind hf
      refine fr_iald hx hb K hC (t := 0) rfl g261 dX8_change_276 ?_
      refine lv_istore (lv' := [(6, .int x260), (2, va_rf x145), (1, .int r138.1), (0, va_rf a0)]) hx hb dX8_change_277 hl (by decide) (congrArg (List.cons _) (flk rfl (flk rfl (flk rfl fln)))) (fun ls hl => ?_)
      refine fr_aload_n hx hb dX8_change_279 rfl (lv_at hl 1 rfl) ?_
      refine lv_bipush (v := (6 : Int32)) hx hb dX8_change_280 (by decide) ?_
      refine fr_aload_n hx hb dX8_change_282 rfl (lv_at hl 3 rfl) ?_
      refine lv_bipush (v := (7 : Int32)) hx hb dX8_change_283 (by decide) ?_
      obtain ⟨b264, q265, hf⟩ := obind hf
      obtain ⟨r262, g263, hf⟩ := obind hf
      refine fr_callV hx hb hml hts hown K hC hR ct_8 (c_X8_draw hfl D cA g263) 1 q265 kw706 kw723 kw704 kw705 kw22 (by decide +kernel) ⟨by exact Nat.le_of_ble_eq_true rfl, by exact Nat.le_of_ble_eq_true rfl⟩ rfl hl.1 (cat8 _ (by exact Nat.le_of_ble_eq_true rfl)) dX8_change_285 rfl (fun H locs _ _ hC => ?_)
      refine lv_iconst (v := (3 : Int32)) hx hb dX8_change_288 (by decide) ?_
      refine lv_isub hx hb dX8_change_289 ?_
      obtain ⟨h266, g267, hf⟩ := obind hf
      refine fr_iast hx hb K hC (t := 0) rfl g267 dX8_change_290 (fun H locs hC => ?_)
      refine fr_aload_n hx hb dX8_change_291 rfl (lv_at hl 3 rfl) ?_
      obtain ⟨x268, g269, hf⟩ := obind hf
      refine fr_get hx hb hts hown K hC ct_8 (fgR_get g269) (by decide) kw663 rfl dX8_change_292 ?_
      refine lv_iload_n hx hb dX8_change_295 rfl (lv_at hl 2 rfl) ?_
      obtain ⟨x270, g271, hf⟩ := obind hf
      refine fr_aaldA hx hb K hC (t := 4) rfl g271 dX8_change_296 ?_
      refine lv_iconst (v := (3 : Int32)) hx hb dX8_change_297 (by decide) ?_
      refine fr_aload_n hx hb dX8_change_298 rfl (lv_at hl 3 rfl) ?_
      refine lv_bipush (v := (6 : Int32)) hx hb dX8_change_299 (by decide) ?_
      obtain ⟨b274, q275, hf⟩ := obind hf
      obtain ⟨r272, g273, hf⟩ := obind hf
      refine fr_callV hx hb hml hts hown K hC hR ct_8 (c_X8_draw hfl D cA g273) 1 q275 kw706 kw723 kw704 kw705 kw22 (by decide +kernel) ⟨by exact Nat.le_of_ble_eq_true rfl, by exact Nat.le_of_ble_eq_true rfl⟩ rfl hl.1 (cat8 _ (by exact Nat.le_of_ble_eq_true rfl)) dX8_change_301 rfl (fun H locs _ _ hC => ?_)
      refine lv_if_ne (tgt := 311) hx hb dX8_change_304 (by decide) (fun c276 => ?_) (fun c276 => ?_)
      · replace hf := oneg c276 hf
        refine lv_iconst (v := (1 : Int32)) hx hb dX8_change_311 (by decide) ?_
        refine fr_aload_n hx hb dX8_change_312 rfl (lv_at hl 3 rfl) ?_
        refine lv_bipush (v := (100 : Int32)) hx hb dX8_change_313 (by decide) ?_
        obtain ⟨b279, q280, hf⟩ := obind hf
        obtain ⟨r277, g278, hf⟩ := obind hf
        refine fr_callV hx hb hml hts hown K hC hR ct_8 (c_X8_draw hfl D cA g278) 1 q280 kw706 kw723 kw704 kw705 kw22 (by decide +kernel) ⟨by exact Nat.le_of_ble_eq_true rfl, by exact Nat.le_of_ble_eq_true rfl⟩ rfl hl.1 (cat8 _ (by exact Nat.le_of_ble_eq_true rfl)) dX8_change_315 rfl (fun H locs _ _ hC => ?_)
        refine lv_iadd hx hb dX8_change_318 ?_
        exact w_X8_change_L319 M hfl _ _ _ _ _ _ _ _ hf _ _ _ _ _ hC (lv_sub hl [3, 2, 1, 0] rfl)
      · replace hf := opos c276 hf
        refine lv_iconst (v := (0 : Int32)) hx hb dX8_change_307 (by decide) ?_
        refine lv_goto (tgt := 319) hx hb dX8_change_308 (by decide) ?_
        exact w_X8_change_L319 M hfl _ _ _ _ _ _ _ _ hf _ _ _ _ _ hC (lv_sub hl [3, 2, 1, 0] rfl)
    replace hf := oneg c255 hf
    by_cases c281 : r147.1 = (4 : Int32)
    · replace hf := opos c281 hf
      refine lv_tableIn (off := 350) (tgt := 377) hx hb dX8_change_27 (by rw [c281]; decide) (by rw [c281]; decide) (by rw [c281]; rfl) (by decide) ?_
      refine fr_aload_n hx hb dX8_change_377 rfl (lv_at hl 2 rfl) ?_
      obtain ⟨x282, g283, hf⟩ := obind hf
      refine fr_get hx hb hts hown K hC ct_8 (fgR_get g283) (by decide) kw666 rfl dX8_change_378 ?_
      refine lv_iload_n hx hb dX8_change_381 rfl (lv_at hl 1 rfl) ?_
      obtain ⟨x284, g285, hf⟩ := obind hf
      refine fr_aaldA hx hb K hC (t := 4) rfl g285 dX8_change_382 ?_
      refine fr_ifnull (tgt := 390) hx hb dX8_change_383 (by decide) (fun c286 => ?_) (fun c286 => ?_)
      · replace hf := opos c286 hf
        refine lv_iconst (v := (0 : Int32)) hx hb dX8_change_390 (by decide) ?_
        exact w_X8_change_L391 M hfl _ _ _ _ hf _ _ _ _ _ hC (lv_sub hl [2, 1] rfl)
      · replace hf := oneg c286 hf
        refine lv_iconst (v := (1 : Int32)) hx hb dX8_change_386 (by decide) ?_
        refine lv_goto (tgt := 391) hx hb dX8_change_387 (by decide) ?_
        exact w_X8_change_L391 M hfl _ _ _ _ hf _ _ _ _ _ hC (lv_sub hl [2, 1] rfl)
    replace hf := oneg c281 hf
    refine lv_tableOut (tgt := 545) hx hb dX8_change_27 (swOut5 c151 c200 c231 c255 c281) (by decide) ?_
    refine fr_aload_n hx hb dX8_change_545 rfl (lv_at hl 2 rfl) ?_
    refine lv_iload_n hx hb dX8_change_546 rfl (lv_at hl 1 rfl) ?_
    refine fr_aload_n hx hb dX8_change_547 rfl (lv_at hl 2 rfl) ?_
    obtain ⟨b289, q290, hf⟩ := obind hf
    obtain ⟨r287, g288, hf⟩ := obind hf
    refine fr_callV hx hb hml hts hown K hC hR ct_8 (c_X8_any hfl D cA g288) 0 q290 kw722 kw729 kw720 kw721 kw22 (by decide +kernel) ⟨by exact Nat.le_of_ble_eq_true rfl, by exact Nat.le_of_ble_eq_true rfl⟩ rfl hl.1 (cat8 _ (by exact Nat.le_of_ble_eq_true rfl)) dX8_change_548 rfl (fun H locs _ _ hC => ?_)
    obtain ⟨b293, q294, hf⟩ := obind hf
    obtain ⟨⟨v295 | k296, h297⟩, g292, hf⟩ := obind hf
    rotate_left
    · exact nomatch (show (none : Option (Int32 × fSt)) = some _ from hf)
    replace hf := fci hf
    refine fr_callVH hx hb hml hts hown K hC hR ct_8 (c_X8_hang hfl D cA g292) rfl 2 q294 kw827 kw824 kw825 kw826 kw22 (by decide +kernel) ⟨by exact Nat.le_of_ble_eq_true rfl, by exact Nat.le_of_ble_eq_true rfl⟩ rfl hl.1 (cat8 _ (by exact Nat.le_of_ble_eq_true rfl)) dX8_change_551 rfl (fun H locs _ _ hC => ?_)
    by_cases c298 : v295 = 0 ∨ v295 = 1
    rotate_left
    · exact nomatch (oneg c298 hf)
    obtain rfl := Option.some.inj (opos c298 hf)
    exact fr_zret hx hb hr hlocks hC c298 dX8_change_554
  · replace hf := opos c142 hf
    refine fr_aload_n hx hb dX8_change_9 rfl (lv_at hl 1 rfl) ?_
    obtain ⟨b301, q302, hf⟩ := obind hf
    obtain ⟨r299, g300, hf⟩ := obind hf
    refine fr_callV hx hb hml hts hown K hC hR ct_8 (c_X8_add hfl D cA g300) 0 q302 kw733 kw781 kw731 kw732 kw22 (by decide +kernel) ⟨by exact Nat.le_of_ble_eq_true rfl, by exact Nat.le_of_ble_eq_true rfl⟩ rfl hl.1 (cat8 _ (by exact Nat.le_of_ble_eq_true rfl)) dX8_change_10 rfl (fun H locs _ _ hC => ?_)
    by_cases c303 : r299.1 = 0 ∨ r299.1 = 1
    rotate_left
    · exact nomatch (oneg c303 hf)
    obtain rfl := Option.some.inj (opos c303 hf)
    exact fr_zret hx hb hr hlocks hC c303 dX8_change_13
set_option maxRecDepth 100000 in
theorem c_X8_change {l : Launch} (hfl : l.stackTraces = false) (D : va_G) (cA : Nat → ClassId) {o : Nat} {h : fSt} {r : (Int32 × fSt)} (hf : f_X8_change o h = some r) : fMet l yX8_change (wsC yX8_change cX8_change 9 (some (.boolean))) (20) (476) D cA [.ref o] h r.2 (some (.int r.1)) := by
  exact fMet.of (own := RX8) (by decide +kernel) rfl (lva1 rfl lva0) (lgl1 rfl lgl0) (Nat.le_of_ble_eq_true rfl) (fun p e s m args below meth c ls hnm _ M hC hl => by
    have hl : lv_has ls 9 [(0, va_rf (some o))] := hl
    exact w_X8_change_L0 M hfl _ _ hf _ _ _ _ _ hC (lv_sub hl [0] rfl))
set_option maxHeartbeats 4000000 in
set_option maxRecDepth 100000 in
theorem w_X1_init_L0 {p : Program} {l : Launch} {e : Env} {s : State} {m : MethodId} {args : Array Value} {below : List Frame} {meth : Method} {c : Code} {D : va_G} {cA : Nat → ClassId} {h0 : fSt} {r : (Unit × fSt)} (M : fM p s m args meth c D cA h0 { frames := 1, cells := fCB h0 - fZ h0, slots := fLB h0 - fL h0, locals := 20 } cX1_init 1 none RX1) (hfl : l.stackTraces = false) (hnm : meth.name = "<init>") (a0 : Option Nat) (h : fSt) (hf : f_X1_init_L0 a0 h = some r) : ∀ (H : Heap) (locs : List Loc) (cells slots : Nat) (ls : Array Slot), fCur D cA s h0 h H locs → lv_has ls 1 [(0, va_rf a0)] → W p l e { frames := 1, cells := fCB h0 - fZ h0, slots := fLB h0 - fL h0, locals := 20 } s m args below meth c H locs cells slots (MQ below (fQ D cA h0 r.2 none) args s (fCB h0 - fZ h0) (fLB h0 - fL h0) (fA h0)) (F0 m 0 ls []) := by
  obtain ⟨hx, hb, hml, hr, hlocks, hts, hown, K, hR⟩ := id M
  intro H locs cells slots ls hC hl
  refine fr_aload_n hx hb dX1_init_0 rfl (lv_at hl 0 rfl) ?_
  obtain ⟨b1, q2, hf⟩ := obind hf
  refine fr_objInit hx hb hml hts hown kw594 kw82 kw83 hl.1 (fobj_inv q2).1 dX1_init_1 (by exact Nat.le_of_ble_eq_true rfl) (catL _ _ (by exact Nat.le_of_ble_eq_true rfl) (by exact Nat.le_of_ble_eq_true rfl)) ?_
  obtain rfl := Option.some.inj hf
  exact fr_vret hx hb hr hlocks hC dX1_init_4
set_option maxRecDepth 100000 in
theorem c_X1_init {l : Launch} (hfl : l.stackTraces = false) (D : va_G) (cA : Nat → ClassId) {o : Nat} {h : fSt} {r : (Unit × fSt)} (hf : f_X1_init o h = some r) : fMet l yX1_init (wsC yX1_init cX1_init 1 none) (1) (20) D cA [.ref o] h r.2 none := by
  exact fMet.of (own := RX1) (by decide +kernel) rfl (lva1 rfl lva0) (lgl1 rfl lgl0) (Nat.le_of_ble_eq_true rfl) (fun p e s m args below meth c ls hnm _ M hC hl => by
    have hl : lv_has ls 1 [(0, va_rf (some o))] := hl
    exact w_X1_init_L0 M hfl (show meth.name = "<init>" from hnm) _ _ hf _ _ _ _ _ hC (lv_sub hl [0] rfl))
set_option maxHeartbeats 4000000 in
set_option maxRecDepth 100000 in
theorem w_X0_init_L0 {p : Program} {l : Launch} {e : Env} {s : State} {m : MethodId} {args : Array Value} {below : List Frame} {meth : Method} {c : Code} {D : va_G} {cA : Nat → ClassId} {h0 : fSt} {r : (Unit × fSt)} (M : fM p s m args meth c D cA h0 { frames := 2, cells := fCB h0 - fZ h0, slots := fLB h0 - fL h0, locals := 40 } cX0_init 1 none RX0) (hfl : l.stackTraces = false) (hnm : meth.name = "<init>") (a0 : Option Nat) (h : fSt) (hf : f_X0_init_L0 a0 h = some r) : ∀ (H : Heap) (locs : List Loc) (cells slots : Nat) (ls : Array Slot), fCur D cA s h0 h H locs → lv_has ls 1 [(0, va_rf a0)] → W p l e { frames := 2, cells := fCB h0 - fZ h0, slots := fLB h0 - fL h0, locals := 40 } s m args below meth c H locs cells slots (MQ below (fQ D cA h0 r.2 none) args s (fCB h0 - fZ h0) (fLB h0 - fL h0) (fA h0)) (F0 m 0 ls []) := by
  obtain ⟨hx, hb, hml, hr, hlocks, hts, hown, K, hR⟩ := id M
  intro H locs cells slots ls hC hl
  refine fr_aload_n hx hb dX0_init_0 rfl (lv_at hl 0 rfl) ?_
  obtain ⟨b1, q2, hf⟩ := obind hf
  refine fr_objInit hx hb hml hts hown kw588 kw82 kw83 hl.1 (fobj_inv q2).1 dX0_init_1 (by exact Nat.le_of_ble_eq_true rfl) (catL _ _ (by exact Nat.le_of_ble_eq_true rfl) (by exact Nat.le_of_ble_eq_true rfl)) ?_
  refine fr_aload_n hx hb dX0_init_4 rfl (lv_at hl 0 rfl) ?_
  obtain ⟨r3, g4, hf⟩ := obind hf
  refine fr_new hx hb hts hown K hC ct_1 hR g4 dv_1 kw589 kw590 kw29 dX0_init_5 (fun H _ _ hC => ?_)
  refine lv_dup hx hb dX0_init_8 (va_rf_cat _) ?_
  obtain ⟨r5, g6, hf⟩ := obind hf
  refine fr_callIN hx hb hml hts hown K hC hR (c_X1_init hfl D cA g6) 0 kw593 kn591 kw592 kw29 rfl (by decide +kernel) ⟨by exact Nat.le_of_ble_eq_true rfl, by exact Nat.le_of_ble_eq_true rfl⟩ rfl hl.1 (cat8 _ (by exact Nat.le_of_ble_eq_true rfl)) dX0_init_9 rfl (fun H locs _ _ hC => ?_)
  obtain ⟨h7, g8, hf⟩ := obind hf
  refine fr_putF hx hb hts hown K hC ct_0 g8 (by decide) kw604 rfl rfl hnm rfl (nR _ _) (fR _ _) dX0_init_12 (fun H locs hC => ?_)
  refine fr_aload_n hx hb dX0_init_15 rfl (lv_at hl 0 rfl) ?_
  obtain ⟨r9, g10, hf⟩ := obind hf
  refine fr_new hx hb hts hown K hC ct_1 hR g10 dv_1 kw589 kw590 kw29 dX0_init_16 (fun H _ _ hC => ?_)
  refine lv_dup hx hb dX0_init_19 (va_rf_cat _) ?_
  obtain ⟨r11, g12, hf⟩ := obind hf
  refine fr_callIN hx hb hml hts hown K hC hR (c_X1_init hfl D cA g12) 0 kw593 kn591 kw592 kw29 rfl (by decide +kernel) ⟨by exact Nat.le_of_ble_eq_true rfl, by exact Nat.le_of_ble_eq_true rfl⟩ rfl hl.1 (cat8 _ (by exact Nat.le_of_ble_eq_true rfl)) dX0_init_20 rfl (fun H locs _ _ hC => ?_)
  obtain ⟨h13, g14, hf⟩ := obind hf
  refine fr_putF hx hb hts hown K hC ct_0 g14 (by decide) kw605 rfl rfl hnm rfl (nR _ _) (fR _ _) dX0_init_23 (fun H locs hC => ?_)
  refine fr_aload_n hx hb dX0_init_26 rfl (lv_at hl 0 rfl) ?_
  obtain ⟨r15, g16, hf⟩ := obind hf
  refine fr_new hx hb hts hown K hC ct_1 hR g16 dv_1 kw589 kw590 kw29 dX0_init_27 (fun H _ _ hC => ?_)
  refine lv_dup hx hb dX0_init_30 (va_rf_cat _) ?_
  obtain ⟨r17, g18, hf⟩ := obind hf
  refine fr_callIN hx hb hml hts hown K hC hR (c_X1_init hfl D cA g18) 0 kw593 kn591 kw592 kw29 rfl (by decide +kernel) ⟨by exact Nat.le_of_ble_eq_true rfl, by exact Nat.le_of_ble_eq_true rfl⟩ rfl hl.1 (cat8 _ (by exact Nat.le_of_ble_eq_true rfl)) dX0_init_31 rfl (fun H locs _ _ hC => ?_)
  obtain ⟨h19, g20, hf⟩ := obind hf
  refine fr_putF hx hb hts hown K hC ct_0 g20 (by decide) kw606 rfl rfl hnm rfl (nR _ _) (fR _ _) dX0_init_34 (fun H locs hC => ?_)
  refine fr_aload_n hx hb dX0_init_37 rfl (lv_at hl 0 rfl) ?_
  obtain ⟨r21, g22, hf⟩ := obind hf
  refine fr_new hx hb hts hown K hC ct_1 hR g22 dv_1 kw589 kw590 kw29 dX0_init_38 (fun H _ _ hC => ?_)
  refine lv_dup hx hb dX0_init_41 (va_rf_cat _) ?_
  obtain ⟨r23, g24, hf⟩ := obind hf
  refine fr_callIN hx hb hml hts hown K hC hR (c_X1_init hfl D cA g24) 0 kw593 kn591 kw592 kw29 rfl (by decide +kernel) ⟨by exact Nat.le_of_ble_eq_true rfl, by exact Nat.le_of_ble_eq_true rfl⟩ rfl hl.1 (cat8 _ (by exact Nat.le_of_ble_eq_true rfl)) dX0_init_42 rfl (fun H locs _ _ hC => ?_)
  obtain ⟨h25, g26, hf⟩ := obind hf
  refine fr_putF hx hb hts hown K hC ct_0 g26 (by decide) kw607 rfl rfl hnm rfl (nR _ _) (fR _ _) dX0_init_45 (fun H locs hC => ?_)
  obtain rfl := Option.some.inj hf
  exact fr_vret hx hb hr hlocks hC dX0_init_48
set_option maxRecDepth 100000 in
theorem c_X0_init {l : Launch} (hfl : l.stackTraces = false) (D : va_G) (cA : Nat → ClassId) {o : Nat} {h : fSt} {r : (Unit × fSt)} (hf : f_X0_init o h = some r) : fMet l yX0_init (wsC yX0_init cX0_init 1 none) (2) (40) D cA [.ref o] h r.2 none := by
  exact fMet.of (own := RX0) (by decide +kernel) rfl (lva1 rfl lva0) (lgl1 rfl lgl0) (Nat.le_of_ble_eq_true rfl) (fun p e s m args below meth c ls hnm _ M hC hl => by
    have hl : lv_has ls 1 [(0, va_rf (some o))] := hl
    exact w_X0_init_L0 M hfl (show meth.name = "<init>" from hnm) _ _ hf _ _ _ _ _ hC (lv_sub hl [0] rfl))
set_option maxHeartbeats 4000000 in
set_option maxRecDepth 100000 in
theorem w_X5_init_L0 {p : Program} {l : Launch} {e : Env} {s : State} {m : MethodId} {args : Array Value} {below : List Frame} {meth : Method} {c : Code} {D : va_G} {cA : Nat → ClassId} {h0 : fSt} {r : (Unit × fSt)} (M : fM p s m args meth c D cA h0 { frames := 1, cells := fCB h0 - fZ h0, slots := fLB h0 - fL h0, locals := 20 } cX5_init 1 none RX5) (hfl : l.stackTraces = false) (hnm : meth.name = "<init>") (a0 : Option Nat) (h : fSt) (hf : f_X5_init_L0 a0 h = some r) : ∀ (H : Heap) (locs : List Loc) (cells slots : Nat) (ls : Array Slot), fCur D cA s h0 h H locs → lv_has ls 1 [(0, va_rf a0)] → W p l e { frames := 1, cells := fCB h0 - fZ h0, slots := fLB h0 - fL h0, locals := 20 } s m args below meth c H locs cells slots (MQ below (fQ D cA h0 r.2 none) args s (fCB h0 - fZ h0) (fLB h0 - fL h0) (fA h0)) (F0 m 0 ls []) := by
  obtain ⟨hx, hb, hml, hr, hlocks, hts, hown, K, hR⟩ := id M
  intro H locs cells slots ls hC hl
  refine fr_aload_n hx hb dX5_init_0 rfl (lv_at hl 0 rfl) ?_
  obtain ⟨b1, q2, hf⟩ := obind hf
  refine fr_objInit hx hb hml hts hown kw562 kw82 kw83 hl.1 (fobj_inv q2).1 dX5_init_1 (by exact Nat.le_of_ble_eq_true rfl) (catL _ _ (by exact Nat.le_of_ble_eq_true rfl) (by exact Nat.le_of_ble_eq_true rfl)) ?_
  refine fr_aload_n hx hb dX5_init_4 rfl (lv_at hl 0 rfl) ?_
  refine lv_lconst (v := (1 : Int64)) hx hb dX5_init_5 (by decide) ?_
  obtain ⟨h3, g4, hf⟩ := obind hf
  refine fr_put hx hb hts hown K hC ct_5 g4 (by decide) kw569 rfl rfl rfl rfl dX5_init_6 (fun H locs hC => ?_)
  obtain rfl := Option.some.inj hf
  exact fr_vret hx hb hr hlocks hC dX5_init_9
set_option maxRecDepth 100000 in
theorem c_X5_init {l : Launch} (hfl : l.stackTraces = false) (D : va_G) (cA : Nat → ClassId) {o : Nat} {h : fSt} {r : (Unit × fSt)} (hf : f_X5_init o h = some r) : fMet l yX5_init (wsC yX5_init cX5_init 1 none) (1) (20) D cA [.ref o] h r.2 none := by
  exact fMet.of (own := RX5) (by decide +kernel) rfl (lva1 rfl lva0) (lgl1 rfl lgl0) (Nat.le_of_ble_eq_true rfl) (fun p e s m args below meth c ls hnm _ M hC hl => by
    have hl : lv_has ls 1 [(0, va_rf (some o))] := hl
    exact w_X5_init_L0 M hfl (show meth.name = "<init>" from hnm) _ _ hf _ _ _ _ _ hC (lv_sub hl [0] rfl))
set_option maxHeartbeats 4000000 in
set_option maxRecDepth 100000 in
theorem w_X7_init_L0 {p : Program} {l : Launch} {e : Env} {s : State} {m : MethodId} {args : Array Value} {below : List Frame} {meth : Method} {c : Code} {D : va_G} {cA : Nat → ClassId} {h0 : fSt} {r : (Unit × fSt)} (M : fM p s m args meth c D cA h0 { frames := 3, cells := fCB h0 - fZ h0, slots := fLB h0 - fL h0, locals := 68 } cX7_init 1 none RX7) (hfl : l.stackTraces = false) (hnm : meth.name = "<init>") (a0 : Option Nat) (h : fSt) (hf : f_X7_init_L0 a0 h = some r) : ∀ (H : Heap) (locs : List Loc) (cells slots : Nat) (ls : Array Slot), fCur D cA s h0 h H locs → lv_has ls 1 [(0, va_rf a0)] → W p l e { frames := 3, cells := fCB h0 - fZ h0, slots := fLB h0 - fL h0, locals := 68 } s m args below meth c H locs cells slots (MQ below (fQ D cA h0 r.2 none) args s (fCB h0 - fZ h0) (fLB h0 - fL h0) (fA h0)) (F0 m 0 ls []) := by
  obtain ⟨hx, hb, hml, hr, hlocks, hts, hown, K, hR⟩ := id M
  intro H locs cells slots ls hC hl
  refine fr_aload_n hx hb dX7_init_0 rfl (lv_at hl 0 rfl) ?_
  obtain ⟨b1, q2, hf⟩ := obind hf
  refine fr_objInit hx hb hml hts hown kw408 kw82 kw83 hl.1 (fobj_inv q2).1 dX7_init_1 (by exact Nat.le_of_ble_eq_true rfl) (catL _ _ (by exact Nat.le_of_ble_eq_true rfl) (by exact Nat.le_of_ble_eq_true rfl)) ?_
  refine fr_aload_n hx hb dX7_init_4 rfl (lv_at hl 0 rfl) ?_
  refine lv_bipush (v := (30 : Int32)) hx hb dX7_init_5 (by decide) ?_
  by_cases c3 : (30 : Int32) < 0 ∨ 67000000 < ((30 : Int32)).toNatClampNeg
  · exact nomatch (opos c3 hf)
  obtain ⟨r4, g5, hf⟩ := obind (oneg c3 hf)
  refine fr_newqN hx hb hts hown K hC hR (t := 2) rfl kw409 kn410 (fun z => c3 (Or.inl z)) g5 (newa_b (fun z => c3 (Or.inr z)) (Nat.le_of_ble_eq_true rfl)) dX7_init_7 (fun H _ _ hC => ?_)
  obtain ⟨h6, g7, hf⟩ := obind hf
  refine fr_putF hx hb hts hown K hC ct_7 g7 (by decide) kw617 rfl rfl hnm rfl (nAr _ _) (fAr _ _) dX7_init_10 (fun H locs hC => ?_)
  refine fr_aload_n hx hb dX7_init_13 rfl (lv_at hl 0 rfl) ?_
  refine lv_bipush (v := (12 : Int32)) hx hb dX7_init_14 (by decide) ?_
  by_cases c8 : (12 : Int32) < 0 ∨ 67000000 < ((12 : Int32)).toNatClampNeg
  · exact nomatch (opos c8 hf)
  obtain ⟨r9, g10, hf⟩ := obind (oneg c8 hf)
  refine fr_newqN hx hb hts hown K hC hR (t := 3) rfl kw411 kn412 (fun z => c8 (Or.inl z)) g10 (newa_b (fun z => c8 (Or.inr z)) (Nat.le_of_ble_eq_true rfl)) dX7_init_16 (fun H _ _ hC => ?_)
  obtain ⟨h11, g12, hf⟩ := obind hf
  refine fr_putF hx hb hts hown K hC ct_7 g12 (by decide) kw618 rfl rfl hnm rfl (nAr _ _) (fAr _ _) dX7_init_19 (fun H locs hC => ?_)
  refine fr_aload_n hx hb dX7_init_22 rfl (lv_at hl 0 rfl) ?_
  obtain ⟨r13, g14, hf⟩ := obind hf
  refine fr_new hx hb hts hown K hC ct_4 hR g14 dv_4 kw409 kw413 kw24 dX7_init_23 (fun H _ _ hC => ?_)
  refine lv_dup hx hb dX7_init_26 (va_rf_cat _) ?_
  refine lv_iconst (v := (0 : Int32)) hx hb dX7_init_27 (by decide) ?_
  refine lv_iconst (v := (0 : Int32)) hx hb dX7_init_28 (by decide) ?_
  refine lv_iconst (v := (0 : Int32)) hx hb dX7_init_29 (by decide) ?_
  refine lv_iconst (v := (0 : Int32)) hx hb dX7_init_30 (by decide) ?_
  obtain ⟨r15, g16, hf⟩ := obind hf
  refine fr_callI hx hb hml hts hown K hC hR (c_X4_init hfl D cA g16) 4 kw416 kw414 kw415 kw24 rfl (by decide +kernel) ⟨by exact Nat.le_of_ble_eq_true rfl, by exact Nat.le_of_ble_eq_true rfl⟩ rfl hl.1 (cat8 _ (by exact Nat.le_of_ble_eq_true rfl)) dX7_init_31 rfl (fun H locs _ _ hC => ?_)
  obtain ⟨h17, g18, hf⟩ := obind hf
  refine fr_putF hx hb hts hown K hC ct_7 g18 (by decide) kw619 rfl rfl hnm rfl (nR _ _) (fR _ _) dX7_init_34 (fun H locs hC => ?_)
  refine fr_aload_n hx hb dX7_init_37 rfl (lv_at hl 0 rfl) ?_
  obtain ⟨r19, g20, hf⟩ := obind hf
  refine fr_new hx hb hts hown K hC ct_5 hR g20 dv_5 kw558 kw214 kw27 dX7_init_38 (fun H _ _ hC => ?_)
  refine lv_dup hx hb dX7_init_41 (va_rf_cat _) ?_
  obtain ⟨r21, g22, hf⟩ := obind hf
  refine fr_callIN hx hb hml hts hown K hC hR (c_X5_init hfl D cA g22) 0 kw561 kn559 kw560 kw27 rfl (by decide +kernel) ⟨by exact Nat.le_of_ble_eq_true rfl, by exact Nat.le_of_ble_eq_true rfl⟩ rfl hl.1 (cat8 _ (by exact Nat.le_of_ble_eq_true rfl)) dX7_init_42 rfl (fun H locs _ _ hC => ?_)
  obtain ⟨h23, g24, hf⟩ := obind hf
  refine fr_putF hx hb hts hown K hC ct_7 g24 (by decide) kw620 rfl rfl hnm rfl (nR _ _) (fR _ _) dX7_init_45 (fun H locs hC => ?_)
  refine fr_aload_n hx hb dX7_init_48 rfl (lv_at hl 0 rfl) ?_
  obtain ⟨r25, g26, hf⟩ := obind hf
  refine fr_new hx hb hts hown K hC ct_0 hR g26 dv_0 kw583 kw584 kw28 dX7_init_49 (fun H _ _ hC => ?_)
  refine lv_dup hx hb dX7_init_52 (va_rf_cat _) ?_
  obtain ⟨r27, g28, hf⟩ := obind hf
  refine fr_callIN hx hb hml hts hown K hC hR (c_X0_init hfl D cA g28) 0 kw587 kn585 kw586 kw28 rfl (by decide +kernel) ⟨by exact Nat.le_of_ble_eq_true rfl, by exact Nat.le_of_ble_eq_true rfl⟩ rfl hl.1 (cat8 _ (by exact Nat.le_of_ble_eq_true rfl)) dX7_init_53 rfl (fun H locs _ _ hC => ?_)
  obtain ⟨h29, g30, hf⟩ := obind hf
  refine fr_putF hx hb hts hown K hC ct_7 g30 (by decide) kw621 rfl rfl hnm rfl (nR _ _) (fR _ _) dX7_init_56 (fun H locs hC => ?_)
  refine fr_aload_n hx hb dX7_init_59 rfl (lv_at hl 0 rfl) ?_
  obtain ⟨x31, g32, hf⟩ := obind hf
  refine fr_get hx hb hts hown K hC ct_7 (fgR_get g32) (by decide) kw617 rfl dX7_init_60 ?_
  refine lv_iconst (v := (0 : Int32)) hx hb dX7_init_63 (by decide) ?_
  refine fr_aload_n hx hb dX7_init_64 rfl (lv_at hl 0 rfl) ?_
  obtain ⟨x33, g34, hf⟩ := obind hf
  refine fr_get hx hb hts hown K hC ct_7 (fgR_get g34) (by decide) kw619 rfl dX7_init_65 ?_
  obtain ⟨h35, g36, hf⟩ := obind hf
  refine fr_aast hx hb K hC (t := 2) ct_4 rfl g36 dX7_init_68 (fun H locs hC => ?_)
  refine fr_aload_n hx hb dX7_init_69 rfl (lv_at hl 0 rfl) ?_
  refine lv_iconst (v := (1 : Int32)) hx hb dX7_init_70 (by decide) ?_
  obtain ⟨h37, g38, hf⟩ := obind hf
  refine fr_put hx hb hts hown K hC ct_7 g38 (by decide) kw622 rfl rfl rfl rfl dX7_init_71 (fun H locs hC => ?_)
  refine fr_aload_n hx hb dX7_init_74 rfl (lv_at hl 0 rfl) ?_
  refine fr_aload_n hx hb dX7_init_75 rfl (lv_at hl 0 rfl) ?_
  obtain ⟨x39, g40, hf⟩ := obind hf
  refine fr_get hx hb hts hown K hC ct_7 (fgR_get g40) (by decide) kw619 rfl dX7_init_76 ?_
  obtain ⟨h41, g42, hf⟩ := obind hf
  refine fr_put hx hb hts hown K hC ct_7 g42 (by decide) kw625 rfl rfl (nR _ _) (fR _ _) dX7_init_79 (fun H locs hC => ?_)
  refine fr_aload_n hx hb dX7_init_82 rfl (lv_at hl 0 rfl) ?_
  refine lv_iconst (v := (1 : Int32)) hx hb dX7_init_83 (by decide) ?_
  obtain ⟨h43, g44, hf⟩ := obind hf
  refine fr_put hx hb hts hown K hC ct_7 g44 (by decide) kw626 rfl rfl rfl rfl dX7_init_84 (fun H locs hC => ?_)
  obtain rfl := Option.some.inj hf
  exact fr_vret hx hb hr hlocks hC dX7_init_87
set_option maxRecDepth 100000 in
theorem c_X7_init {l : Launch} (hfl : l.stackTraces = false) (D : va_G) (cA : Nat → ClassId) {o : Nat} {h : fSt} {r : (Unit × fSt)} (hf : f_X7_init o h = some r) : fMet l yX7_init (wsC yX7_init cX7_init 1 none) (3) (68) D cA [.ref o] h r.2 none := by
  exact fMet.of (own := RX7) (by decide +kernel) rfl (lva1 rfl lva0) (lgl1 rfl lgl0) (Nat.le_of_ble_eq_true rfl) (fun p e s m args below meth c ls hnm _ M hC hl => by
    have hl : lv_has ls 1 [(0, va_rf (some o))] := hl
    exact w_X7_init_L0 M hfl (show meth.name = "<init>" from hnm) _ _ hf _ _ _ _ _ hC (lv_sub hl [0] rfl))
set_option maxHeartbeats 4000000 in
set_option maxRecDepth 100000 in
theorem w_X8_init_L0 {p : Program} {l : Launch} {e : Env} {s : State} {m : MethodId} {args : Array Value} {below : List Frame} {meth : Method} {c : Code} {D : va_G} {cA : Nat → ClassId} {h0 : fSt} {r : (Unit × fSt)} (M : fM p s m args meth c D cA h0 { frames := 4, cells := fCB h0 - fZ h0, slots := fLB h0 - fL h0, locals := 88 } cX8_init 3 none RX8) (hfl : l.stackTraces = false) (hnm : meth.name = "<init>") (a0 : Option Nat) (a1 : Option Nat) (a2 : Int32) (h : fSt) (hf : f_X8_init_L0 a0 a1 a2 h = some r) : ∀ (H : Heap) (locs : List Loc) (cells slots : Nat) (ls : Array Slot), fCur D cA s h0 h H locs → lv_has ls 3 [(0, va_rf a0), (1, va_rf a1), (2, .int a2)] → W p l e { frames := 4, cells := fCB h0 - fZ h0, slots := fLB h0 - fL h0, locals := 88 } s m args below meth c H locs cells slots (MQ below (fQ D cA h0 r.2 none) args s (fCB h0 - fZ h0) (fLB h0 - fL h0) (fA h0)) (F0 m 0 ls []) := by
  obtain ⟨hx, hb, hml, hr, hlocks, hts, hown, K, hR⟩ := id M
  intro H locs cells slots ls hC hl
  refine fr_aload_n hx hb dX8_init_0 rfl (lv_at hl 0 rfl) ?_
  obtain ⟨b1, q2, hf⟩ := obind hf
  refine fr_objInit hx hb hml hts hown kw403 kw82 kw83 hl.1 (fobj_inv q2).1 dX8_init_1 (by exact Nat.le_of_ble_eq_true rfl) (catL _ _ (by exact Nat.le_of_ble_eq_true rfl) (by exact Nat.le_of_ble_eq_true rfl)) ?_
  refine fr_aload_n hx hb dX8_init_4 rfl (lv_at hl 0 rfl) ?_
  obtain ⟨r3, g4, hf⟩ := obind hf
  refine fr_new hx hb hts hown K hC ct_7 hR g4 dv_7 kw404 kw50 kw23 dX8_init_5 (fun H _ _ hC => ?_)
  refine lv_dup hx hb dX8_init_8 (va_rf_cat _) ?_
  obtain ⟨r5, g6, hf⟩ := obind hf
  refine fr_callI hx hb hml hts hown K hC hR (c_X7_init hfl D cA g6) 0 kw407 kw405 kw406 kw23 rfl (by decide +kernel) ⟨by exact Nat.le_of_ble_eq_true rfl, by exact Nat.le_of_ble_eq_true rfl⟩ rfl hl.1 (cat8 _ (by exact Nat.le_of_ble_eq_true rfl)) dX8_init_9 rfl (fun H locs _ _ hC => ?_)
  obtain ⟨h7, g8, hf⟩ := obind hf
  refine fr_putF hx hb hts hown K hC ct_8 g8 (by decide) kw655 rfl rfl hnm rfl (nR _ _) (fR _ _) dX8_init_12 (fun H locs hC => ?_)
  refine fr_aload_n hx hb dX8_init_15 rfl (lv_at hl 0 rfl) ?_
  refine lv_iconst (v := (1 : Int32)) hx hb dX8_init_16 (by decide) ?_
  obtain ⟨h9, g10, hf⟩ := obind hf
  refine fr_put hx hb hts hown K hC ct_8 g10 (by decide) kw659 rfl rfl rfl rfl dX8_init_17 (fun H locs hC => ?_)
  refine fr_aload_n hx hb dX8_init_20 rfl (lv_at hl 0 rfl) ?_
  refine lv_bipush (v := (30 : Int32)) hx hb dX8_init_21 (by decide) ?_
  by_cases c11 : (30 : Int32) < 0 ∨ 67000000 < ((30 : Int32)).toNatClampNeg
  · exact nomatch (opos c11 hf)
  obtain ⟨r12, g13, hf⟩ := obind (oneg c11 hf)
  refine fr_newqA hx hb hts hown K hC hR rfl kw648 (fun z => c11 (Or.inl z)) g13 (newa_b (fun z => c11 (Or.inr z)) (Nat.le_of_ble_eq_true rfl)) dX8_init_23 (fun H _ _ hC => ?_)
  obtain ⟨h14, g15, hf⟩ := obind hf
  refine fr_putF hx hb hts hown K hC ct_8 g15 (by decide) kw661 rfl rfl hnm rfl (nAr _ _) (fAr _ _) dX8_init_26 (fun H locs hC => ?_)
  refine fr_aload_n hx hb dX8_init_29 rfl (lv_at hl 0 rfl) ?_
  refine lv_bipush (v := (30 : Int32)) hx hb dX8_init_30 (by decide) ?_
  by_cases c16 : (30 : Int32) < 0 ∨ 67000000 < ((30 : Int32)).toNatClampNeg
  · exact nomatch (opos c16 hf)
  obtain ⟨r17, g18, hf⟩ := obind (oneg c16 hf)
  refine fr_newqA hx hb hts hown K hC hR rfl kw648 (fun z => c16 (Or.inl z)) g18 (newa_b (fun z => c16 (Or.inr z)) (Nat.le_of_ble_eq_true rfl)) dX8_init_32 (fun H _ _ hC => ?_)
  obtain ⟨h19, g20, hf⟩ := obind hf
  refine fr_putF hx hb hts hown K hC ct_8 g20 (by decide) kw663 rfl rfl hnm rfl (nAr _ _) (fAr _ _) dX8_init_35 (fun H locs hC => ?_)
  refine fr_aload_n hx hb dX8_init_38 rfl (lv_at hl 0 rfl) ?_
  refine lv_bipush (v := (30 : Int32)) hx hb dX8_init_39 (by decide) ?_
  by_cases c21 : (30 : Int32) < 0 ∨ 67000000 < ((30 : Int32)).toNatClampNeg
  · exact nomatch (opos c21 hf)
  obtain ⟨r22, g23, hf⟩ := obind (oneg c21 hf)
  refine fr_newa hx hb hts K hC hR (atype := .boolean) (t := 1) rfl kw701 (fun _ => rfl) rfl (fun z => c21 (Or.inl z)) g23 (newa_b (fun z => c21 (Or.inr z)) (Nat.le_of_ble_eq_true rfl)) dX8_init_41 (fun H _ _ hC => ?_)
  obtain ⟨h24, g25, hf⟩ := obind hf
  refine fr_putF hx hb hts hown K hC ct_8 g25 (by decide) kw664 rfl rfl hnm rfl (nAr _ _) (fAr _ _) dX8_init_43 (fun H locs hC => ?_)
  refine fr_aload_n hx hb dX8_init_46 rfl (lv_at hl 0 rfl) ?_
  refine lv_bipush (v := (30 : Int32)) hx hb dX8_init_47 (by decide) ?_
  by_cases c26 : (30 : Int32) < 0 ∨ 67000000 < ((30 : Int32)).toNatClampNeg
  · exact nomatch (opos c26 hf)
  obtain ⟨r27, g28, hf⟩ := obind (oneg c26 hf)
  refine fr_newa hx hb hts K hC hR (atype := .boolean) (t := 1) rfl kw701 (fun _ => rfl) rfl (fun z => c26 (Or.inl z)) g28 (newa_b (fun z => c26 (Or.inr z)) (Nat.le_of_ble_eq_true rfl)) dX8_init_49 (fun H _ _ hC => ?_)
  obtain ⟨h29, g30, hf⟩ := obind hf
  refine fr_putF hx hb hts hown K hC ct_8 g30 (by decide) kw665 rfl rfl hnm rfl (nAr _ _) (fAr _ _) dX8_init_51 (fun H locs hC => ?_)
  refine fr_aload_n hx hb dX8_init_54 rfl (lv_at hl 0 rfl) ?_
  refine lv_bipush (v := (30 : Int32)) hx hb dX8_init_55 (by decide) ?_
  by_cases c31 : (30 : Int32) < 0 ∨ 67000000 < ((30 : Int32)).toNatClampNeg
  · exact nomatch (opos c31 hf)
  obtain ⟨r32, g33, hf⟩ := obind (oneg c31 hf)
  refine fr_newqA hx hb hts hown K hC hR rfl kw648 (fun z => c31 (Or.inl z)) g33 (newa_b (fun z => c31 (Or.inr z)) (Nat.le_of_ble_eq_true rfl)) dX8_init_57 (fun H _ _ hC => ?_)
  obtain ⟨h34, g35, hf⟩ := obind hf
  refine fr_putF hx hb hts hown K hC ct_8 g35 (by decide) kw666 rfl rfl hnm rfl (nAr _ _) (fAr _ _) dX8_init_60 (fun H locs hC => ?_)
  refine fr_aload_n hx hb dX8_init_63 rfl (lv_at hl 0 rfl) ?_
  refine lv_bipush (v := (12 : Int32)) hx hb dX8_init_64 (by decide) ?_
  by_cases c36 : (12 : Int32) < 0 ∨ 67000000 < ((12 : Int32)).toNatClampNeg
  · exact nomatch (opos c36 hf)
  obtain ⟨r37, g38, hf⟩ := obind (oneg c36 hf)
  refine fr_newqA hx hb hts hown K hC hR rfl kw648 (fun z => c36 (Or.inl z)) g38 (newa_b (fun z => c36 (Or.inr z)) (Nat.le_of_ble_eq_true rfl)) dX8_init_66 (fun H _ _ hC => ?_)
  obtain ⟨h39, g40, hf⟩ := obind hf
  refine fr_putF hx hb hts hown K hC ct_8 g40 (by decide) kw669 rfl rfl hnm rfl (nAr _ _) (fAr _ _) dX8_init_69 (fun H locs hC => ?_)
  refine fr_aload_n hx hb dX8_init_72 rfl (lv_at hl 0 rfl) ?_
  refine lv_bipush (v := (12 : Int32)) hx hb dX8_init_73 (by decide) ?_
  refine lv_iconst (v := (0 : Int32)) hx hb dX8_init_75 (by decide) ?_
  by_cases c41 : (12 : Int32) < 0 ∨ 67000000 < ((12 : Int32)).toNatClampNeg
  · exact nomatch (opos c41 hf)
  obtain ⟨r42, g43, hf⟩ := obind (oneg c41 hf)
  refine fr_mul hx hb hts hown K hC hR rfl kw650 (fun z => c41 (Or.inl z)) g43 (newa_b (fun z => c41 (Or.inr z)) (Nat.le_of_ble_eq_true rfl)) dX8_init_76 (fun H locs _ _ hC => ?_)
  obtain ⟨h44, g45, hf⟩ := obind hf
  refine fr_put hx hb hts hown K hC ct_8 g45 (by decide) kw670 rfl rfl (nAr _ _) (fAr _ _) dX8_init_80 (fun H locs hC => ?_)
  refine fr_aload_n hx hb dX8_init_83 rfl (lv_at hl 0 rfl) ?_
  refine fr_aload_n hx hb dX8_init_84 rfl (lv_at hl 1 rfl) ?_
  obtain ⟨h46, g47, hf⟩ := obind hf
  refine fr_putF hx hb hts hown K hC ct_8 g47 (by decide) kw657 rfl rfl hnm rfl (nAr _ _) (fAr _ _) dX8_init_85 (fun H locs hC => ?_)
  refine fr_aload_n hx hb dX8_init_88 rfl (lv_at hl 0 rfl) ?_
  refine lv_iload_n hx hb dX8_init_89 rfl (lv_at hl 2 rfl) ?_
  obtain ⟨h48, g49, hf⟩ := obind hf
  refine fr_put hx hb hts hown K hC ct_8 g49 (by decide) kw658 rfl rfl rfl rfl dX8_init_90 (fun H locs hC => ?_)
  refine fr_aload_n hx hb dX8_init_93 rfl (lv_at hl 0 rfl) ?_
  refine lv_iconst (v := (0 : Int32)) hx hb dX8_init_94 (by decide) ?_
  refine lv_iconst (v := (-1 : Int32)) hx hb dX8_init_95 (by decide) ?_
  refine lv_iconst (v := (0 : Int32)) hx hb dX8_init_96 (by decide) ?_
  refine lv_iconst (v := (0 : Int32)) hx hb dX8_init_97 (by decide) ?_
  refine lv_iconst (v := (0 : Int32)) hx hb dX8_init_98 (by decide) ?_
  obtain ⟨b52, q53, hf⟩ := obind hf
  obtain ⟨r50, g51, hf⟩ := obind hf
  refine fr_callV hx hb hml hts hown K hC hR ct_8 (c_X8_put hfl D cA g51) 5 q53 kw654 kw651 kw653 kw14 kw22 (by decide +kernel) ⟨by exact Nat.le_of_ble_eq_true rfl, by exact Nat.le_of_ble_eq_true rfl⟩ rfl hl.1 (cat8 _ (by exact Nat.le_of_ble_eq_true rfl)) dX8_init_99 rfl (fun H locs _ _ hC => ?_)
  obtain rfl := Option.some.inj hf
  exact fr_vret hx hb hr hlocks hC dX8_init_102
set_option maxRecDepth 100000 in
theorem c_X8_init {l : Launch} (hfl : l.stackTraces = false) (D : va_G) (cA : Nat → ClassId) {o : Nat} {p0 : Option Nat} {p1 : Int32} {h : fSt} {r : (Unit × fSt)} (hf : f_X8_init o p0 p1 h = some r) : fMet l yX8_init (wsC yX8_init cX8_init 3 none) (4) (88) D cA [.ref o, va_rf p0, .int p1] h r.2 none := by
  exact fMet.of (own := RX8) (by decide +kernel) rfl (lva1 rfl (lva1 (va_rf_cat _) (lva1 rfl lva0))) (lgl1 rfl (lgl1 (va_rf_cat _) (lgl1 rfl lgl0))) (Nat.le_of_ble_eq_true rfl) (fun p e s m args below meth c ls hnm _ M hC hl => by
    have hl : lv_has ls 3 [(0, va_rf (some o)), (1, va_rf p0), (2, .int p1)] := hl
    exact w_X8_init_L0 M hfl (show meth.name = "<init>" from hnm) _ _ _ _ hf _ _ _ _ _ hC (lv_sub hl [0, 1, 2] rfl))
set_option maxHeartbeats 4000000 in
set_option maxRecDepth 100000 in
theorem w_X6_endTrack_L0 {p : Program} {l : Launch} {e : Env} {s : State} {m : MethodId} {args : Array Value} {below : List Frame} {meth : Method} {c : Code} {D : va_G} {cA : Nat → ClassId} {h0 : fSt} {r : (Unit × fSt)} (M : fM p s m args meth c D cA h0 { frames := 0, cells := fCB h0 - fZ h0, slots := fLB h0 - fL h0, locals := 0 } cX6_endTrack 1 none RX6) (hfl : l.stackTraces = false) (a0 : Option Nat) (h : fSt) (hf : f_X6_endTrack_L0 a0 h = some r) : ∀ (H : Heap) (locs : List Loc) (cells slots : Nat) (ls : Array Slot), fCur D cA s h0 h H locs → lv_has ls 1 [(0, va_rf a0)] → W p l e { frames := 0, cells := fCB h0 - fZ h0, slots := fLB h0 - fL h0, locals := 0 } s m args below meth c H locs cells slots (MQ below (fQ D cA h0 r.2 none) args s (fCB h0 - fZ h0) (fLB h0 - fL h0) (fA h0)) (F0 m 0 ls []) := by
  obtain ⟨hx, hb, hml, hr, hlocks, hts, hown, K, hR⟩ := id M
  intro H locs cells slots ls hC hl
  refine fr_aload_n hx hb dX6_endTrack_0 rfl (lv_at hl 0 rfl) ?_
  refine lv_iconst (v := (1 : Int32)) hx hb dX6_endTrack_1 (by decide) ?_
  obtain ⟨h1, g2, hf⟩ := obind hf
  obtain ⟨z3, g2⟩ := fputZ_inv g2
  refine fr_put hx hb hts hown K hC ct_6 g2 (by decide) kw428 rfl rfl (nZ z3) (fZ9 z3) dX6_endTrack_2 (fun H locs hC => ?_)
  refine fr_aload_n hx hb dX6_endTrack_5 rfl (lv_at hl 0 rfl) ?_
  refine fr_null hx hb dX6_endTrack_6 ?_
  obtain ⟨h4, g5, hf⟩ := obind hf
  refine fr_put hx hb hts hown K hC ct_6 g5 (by decide) kw434 rfl rfl (nR _ _) (fR _ _) dX6_endTrack_7 (fun H locs hC => ?_)
  refine fr_aload_n hx hb dX6_endTrack_10 rfl (lv_at hl 0 rfl) ?_
  refine lv_iconst (v := (0 : Int32)) hx hb dX6_endTrack_11 (by decide) ?_
  obtain ⟨h6, g7, hf⟩ := obind hf
  refine fr_put hx hb hts hown K hC ct_6 g7 (by decide) kw435 rfl rfl rfl rfl dX6_endTrack_12 (fun H locs hC => ?_)
  obtain rfl := Option.some.inj hf
  exact fr_vret hx hb hr hlocks hC dX6_endTrack_15
set_option maxRecDepth 100000 in
theorem c_X6_endTrack {l : Launch} (hfl : l.stackTraces = false) (D : va_G) (cA : Nat → ClassId) {o : Nat} {h : fSt} {r : (Unit × fSt)} (hf : f_X6_endTrack o h = some r) : fMet l yX6_endTrack (wsC yX6_endTrack cX6_endTrack 1 none) (0) (0) D cA [.ref o] h r.2 none := by
  exact fMet.of (own := RX6) (by decide +kernel) rfl (lva1 rfl lva0) (lgl1 rfl lgl0) (Nat.le_of_ble_eq_true rfl) (fun p e s m args below meth c ls hnm _ M hC hl => by
    have hl : lv_has ls 1 [(0, va_rf (some o))] := hl
    exact w_X6_endTrack_L0 M hfl _ _ hf _ _ _ _ _ hC (lv_sub hl [0] rfl))
set_option maxHeartbeats 4000000 in
set_option maxRecDepth 100000 in
theorem w_X4_vanish_L0 {p : Program} {l : Launch} {e : Env} {s : State} {m : MethodId} {args : Array Value} {below : List Frame} {meth : Method} {c : Code} {D : va_G} {cA : Nat → ClassId} {h0 : fSt} {r : (Unit × fSt)} (M : fM p s m args meth c D cA h0 { frames := 1, cells := fCB h0 - fZ h0, slots := fLB h0 - fL h0, locals := 20 } cX4_vanish 1 none RX4) (hfl : l.stackTraces = false) (a0 : Option Nat) (h : fSt) (hf : f_X4_vanish_L0 a0 h = some r) : ∀ (H : Heap) (locs : List Loc) (cells slots : Nat) (ls : Array Slot), fCur D cA s h0 h H locs → lv_has ls 1 [(0, va_rf a0)] → W p l e { frames := 1, cells := fCB h0 - fZ h0, slots := fLB h0 - fL h0, locals := 20 } s m args below meth c H locs cells slots (MQ below (fQ D cA h0 r.2 none) args s (fCB h0 - fZ h0) (fLB h0 - fL h0) (fA h0)) (F0 m 0 ls []) := by
  obtain ⟨hx, hb, hml, hr, hlocks, hts, hown, K, hR⟩ := id M
  intro H locs cells slots ls hC hl
  refine fr_aload_n hx hb dX4_vanish_0 rfl (lv_at hl 0 rfl) ?_
  refine lv_iconst (v := (1 : Int32)) hx hb dX4_vanish_1 (by decide) ?_
  obtain ⟨h1, g2, hf⟩ := obind hf
  obtain ⟨z3, g2⟩ := fputZ_inv g2
  refine fr_put hx hb hts hown K hC ct_4 g2 (by decide) kw509 rfl rfl (nZ z3) (fZ9 z3) dX4_vanish_2 (fun H locs hC => ?_)
  refine fr_aload_n hx hb dX4_vanish_5 rfl (lv_at hl 0 rfl) ?_
  obtain ⟨x4, g5, hf⟩ := obind hf
  refine fr_get hx hb hts hown K hC ct_4 (fgR_get g5) (by decide) kw485 rfl dX4_vanish_6 ?_
  obtain ⟨b8, q9, hf⟩ := obind hf
  obtain ⟨r6, g7, hf⟩ := obind hf
  refine fr_callV hx hb hml hts hown K hC hR ct_6 (c_X6_endTrack hfl D cA g7) 0 q9 kw874 kw871 kw872 kw873 kw25 (by decide +kernel) ⟨by exact Nat.le_of_ble_eq_true rfl, by exact Nat.le_of_ble_eq_true rfl⟩ rfl hl.1 (cat8 _ (by exact Nat.le_of_ble_eq_true rfl)) dX4_vanish_9 rfl (fun H locs _ _ hC => ?_)
  refine fr_aload_n hx hb dX4_vanish_12 rfl (lv_at hl 0 rfl) ?_
  obtain ⟨x10, g11, hf⟩ := obind hf
  refine fr_get hx hb hts hown K hC ct_4 (fgR_get g11) (by decide) kw488 rfl dX4_vanish_13 ?_
  obtain ⟨b14, q15, hf⟩ := obind hf
  obtain ⟨r12, g13, hf⟩ := obind hf
  refine fr_callV hx hb hml hts hown K hC hR ct_6 (c_X6_endTrack hfl D cA g13) 0 q15 kw874 kw871 kw872 kw873 kw25 (by decide +kernel) ⟨by exact Nat.le_of_ble_eq_true rfl, by exact Nat.le_of_ble_eq_true rfl⟩ rfl hl.1 (cat8 _ (by exact Nat.le_of_ble_eq_true rfl)) dX4_vanish_16 rfl (fun H locs _ _ hC => ?_)
  refine fr_aload_n hx hb dX4_vanish_19 rfl (lv_at hl 0 rfl) ?_
  obtain ⟨x16, g17, hf⟩ := obind hf
  refine fr_get hx hb hts hown K hC ct_4 (fgR_get g17) (by decide) kw491 rfl dX4_vanish_20 ?_
  obtain ⟨b20, q21, hf⟩ := obind hf
  obtain ⟨r18, g19, hf⟩ := obind hf
  refine fr_callV hx hb hml hts hown K hC hR ct_6 (c_X6_endTrack hfl D cA g19) 0 q21 kw874 kw871 kw872 kw873 kw25 (by decide +kernel) ⟨by exact Nat.le_of_ble_eq_true rfl, by exact Nat.le_of_ble_eq_true rfl⟩ rfl hl.1 (cat8 _ (by exact Nat.le_of_ble_eq_true rfl)) dX4_vanish_23 rfl (fun H locs _ _ hC => ?_)
  refine fr_aload_n hx hb dX4_vanish_26 rfl (lv_at hl 0 rfl) ?_
  obtain ⟨x22, g23, hf⟩ := obind hf
  refine fr_get hx hb hts hown K hC ct_4 (fgR_get g23) (by decide) kw494 rfl dX4_vanish_27 ?_
  obtain ⟨b26, q27, hf⟩ := obind hf
  obtain ⟨r24, g25, hf⟩ := obind hf
  refine fr_callV hx hb hml hts hown K hC hR ct_6 (c_X6_endTrack hfl D cA g25) 0 q27 kw874 kw871 kw872 kw873 kw25 (by decide +kernel) ⟨by exact Nat.le_of_ble_eq_true rfl, by exact Nat.le_of_ble_eq_true rfl⟩ rfl hl.1 (cat8 _ (by exact Nat.le_of_ble_eq_true rfl)) dX4_vanish_30 rfl (fun H locs _ _ hC => ?_)
  obtain rfl := Option.some.inj hf
  exact fr_vret hx hb hr hlocks hC dX4_vanish_33
set_option maxRecDepth 100000 in
theorem c_X4_vanish {l : Launch} (hfl : l.stackTraces = false) (D : va_G) (cA : Nat → ClassId) {o : Nat} {h : fSt} {r : (Unit × fSt)} (hf : f_X4_vanish o h = some r) : fMet l yX4_vanish (wsC yX4_vanish cX4_vanish 1 none) (1) (20) D cA [.ref o] h r.2 none := by
  exact fMet.of (own := RX4) (by decide +kernel) rfl (lva1 rfl lva0) (lgl1 rfl lgl0) (Nat.le_of_ble_eq_true rfl) (fun p e s m args below meth c ls hnm _ M hC hl => by
    have hl : lv_has ls 1 [(0, va_rf (some o))] := hl
    exact w_X4_vanish_L0 M hfl _ _ hf _ _ _ _ _ hC (lv_sub hl [0] rfl))
set_option maxHeartbeats 4000000 in
set_option maxRecDepth 100000 in
theorem w_X7_remove_L36 {p : Program} {l : Launch} {e : Env} {s : State} {m : MethodId} {args : Array Value} {below : List Frame} {meth : Method} {c : Code} {D : va_G} {cA : Nat → ClassId} {h0 : fSt} {r : ((Int32 ⊕ Nat) × fSt)} (M : fM p s m args meth c D cA h0 { frames := 18, cells := fCB h0 - fZ h0, slots := fLB h0 - fL h0, locals := 426 } cX7_remove 5 (some (.int)) RX7) (hfl : l.stackTraces = false) (hno : ∀ x ∈ c.exceptionTable.toList, False) {k14 : Option Nat → Option Nat → Int32 → Option Nat → fSt → Option ((Int32 ⊕ Nat) × fSt)} (hk14 : ∀ (a0 : Option Nat) (a2 : Option Nat) (a3 : Int32) (a4 : Option Nat) (h : fSt), k14 a0 a2 a3 a4 h = some r → ∀ (H : Heap) (locs : List Loc) (cells slots : Nat) (ls : Array Slot), fCur D cA s h0 h H locs → lv_has ls 5 [(0, va_rf a0), (2, va_rf a2), (3, .int a3), (4, va_rf a4)] → W p l e { frames := 18, cells := fCB h0 - fZ h0, slots := fLB h0 - fL h0, locals := 426 } s m args below meth c H locs cells slots (vx_MQ below (fQX D cA h0 r.2 (rI r.1)) (fXC D cA h0 r.2 (rI r.1)) args s (fCB h0 - fZ h0) (fLB h0 - fL h0) (fA h0)) (F0 m 14 ls [])) (a0 : Option Nat) (a2 : Option Nat) (a3 : Int32) (a4 : Option Nat) (h : fSt) (hf : f_X7_remove_L36 k14 a0 a2 a3 a4 h = some r) : ∀ (H : Heap) (locs : List Loc) (cells slots : Nat) (ls : Array Slot), fCur D cA s h0 h H locs → lv_has ls 5 [(0, va_rf a0), (2, va_rf a2), (3, .int a3), (4, va_rf a4)] → W p l e { frames := 18, cells := fCB h0 - fZ h0, slots := fLB h0 - fL h0, locals := 426 } s m args below meth c H locs cells slots (vx_MQ below (fQX D cA h0 r.2 (rI r.1)) (fXC D cA h0 r.2 (rI r.1)) args s (fCB h0 - fZ h0) (fLB h0 - fL h0) (fA h0)) (F0 m 36 ls []) := by
  obtain ⟨hx, hb, hml, hr, hlocks, hts, hown, K, hR⟩ := id M
  intro H locs cells slots ls hC hl
  refine fr_aload hx hb dX7_remove_36 (lv_at hl 3 rfl) ?_
  obtain ⟨x1, g2, hf⟩ := obind hf
  refine fr_get hx hb hts hown K hC ct_4 (fgR_get g2) (by decide) kw517 rfl dX7_remove_38 ?_
  refine fr_astore (lv' := [(4, va_rf x1), (0, va_rf a0), (2, va_rf a2), (3, .int a3)]) hx hb dX7_remove_41 hl (by decide) (congrArg (List.cons _) (flk rfl (flk rfl (flk rfl (fld rfl fln))))) (fun ls hl => ?_)
  refine lv_goto (tgt := 14) hx hb dX7_remove_43 (by decide) ?_
  exact hk14 _ _ _ _ _ hf _ _ _ _ _ hC (lv_sub hl [1, 2, 3, 0] rfl)
set_option maxHeartbeats 4000000 in
set_option maxRecDepth 100000 in
theorem w_X7_remove_L14 {p : Program} {l : Launch} {e : Env} {s : State} {m : MethodId} {args : Array Value} {below : List Frame} {meth : Method} {c : Code} {D : va_G} {cA : Nat → ClassId} {h0 : fSt} {r : ((Int32 ⊕ Nat) × fSt)} (M : fM p s m args meth c D cA h0 { frames := 18, cells := fCB h0 - fZ h0, slots := fLB h0 - fL h0, locals := 426 } cX7_remove 5 (some (.int)) RX7) (hfl : l.stackTraces = false) (hno : ∀ x ∈ c.exceptionTable.toList, False) : ∀ (n : Nat) (a0 : Option Nat) (a2 : Option Nat) (a3 : Int32) (a4 : Option Nat) (h : fSt), f_X7_remove_L14 n a0 a2 a3 a4 h = some r → ∀ (H : Heap) (locs : List Loc) (cells slots : Nat) (ls : Array Slot), fCur D cA s h0 h H locs → lv_has ls 5 [(0, va_rf a0), (2, va_rf a2), (3, .int a3), (4, va_rf a4)] → W p l e { frames := 18, cells := fCB h0 - fZ h0, slots := fLB h0 - fL h0, locals := 426 } s m args below meth c H locs cells slots (vx_MQ below (fQX D cA h0 r.2 (rI r.1)) (fXC D cA h0 r.2 (rI r.1)) args s (fCB h0 - fZ h0) (fLB h0 - fL h0) (fA h0)) (F0 m 14 ls []) := by
  obtain ⟨hx, hb, hml, hr, hlocks, hts, hown, K, hR⟩ := id M
  intro n
  induction n with
  | zero =>
    intro a0 a2 a3 a4 h hf
    exact nomatch (show (none : Option ((Int32 ⊕ Nat) × fSt)) = some r from hf)
  | succ n hk14 =>
    intro a0 a2 a3 a4 h hf H locs cells slots ls hC hl
    refine fr_aload hx hb dX7_remove_14 (lv_at hl 3 rfl) ?_
    refine fr_ifnull (tgt := 46) hx hb dX7_remove_16 (by decide) (fun c3 => ?_) (fun c3 => ?_)
    · replace hf := opos c3 hf
      refine fr_aload_n hx hb dX7_remove_46 rfl (lv_at hl 1 rfl) ?_
      obtain ⟨b6, q7, hf⟩ := obind hf
      obtain ⟨r4, g5, hf⟩ := obind hf
      refine fr_callV hx hb hml hts hown K hC hR ct_4 (c_X4_leaveParent hfl D cA g5) 0 q7 kw850 kw847 kw848 kw849 kw24 (by decide +kernel) ⟨by exact Nat.le_of_ble_eq_true rfl, by exact Nat.le_of_ble_eq_true rfl⟩ rfl hl.1 (cat8 _ (by exact Nat.le_of_ble_eq_true rfl)) dX7_remove_47 rfl (fun H locs _ _ hC => ?_)
      refine fr_aload_n hx hb dX7_remove_50 rfl (lv_at hl 0 rfl) ?_
      obtain ⟨b10, q11, hf⟩ := obind hf
      obtain ⟨r8, g9, hf⟩ := obind hf
      refine fr_callV hx hb hml hts hown K hC hR ct_7 (c_X7_layOrder hfl D cA g9) 0 q11 kw767 kw764 kw766 kw15 kw23 (by decide +kernel) ⟨by exact Nat.le_of_ble_eq_true rfl, by exact Nat.le_of_ble_eq_true rfl⟩ rfl hl.1 (cat8 _ (by exact Nat.le_of_ble_eq_true rfl)) dX7_remove_51 rfl (fun H locs _ _ hC => ?_)
      refine lv_iload_n hx hb dX7_remove_54 rfl (lv_at hl 2 rfl) ?_
      obtain rfl := Option.some.inj hf
      exact fr_retQ (fr_iret hx hb hr hlocks hC dX7_remove_55)
    · replace hf := oneg c3 hf
      refine fr_aload hx hb dX7_remove_19 (lv_at hl 3 rfl) ?_
      refine fr_aload_n hx hb dX7_remove_21 rfl (lv_at hl 1 rfl) ?_
      obtain ⟨b14, q15, hf⟩ := obind hf
      obtain ⟨r12, g13, hf⟩ := obind hf
      refine fr_callV hx hb hml hts hown K hC hR ct_4 (c_X4_isWithin hfl D cA g13) 1 q15 kw144 kw141 kw142 kw143 kw24 (by decide +kernel) ⟨by exact Nat.le_of_ble_eq_true rfl, by exact Nat.le_of_ble_eq_true rfl⟩ rfl hl.1 (cat8 _ (by exact Nat.le_of_ble_eq_true rfl)) dX7_remove_22 rfl (fun H locs _ _ hC => ?_)
      refine lv_if_eq (tgt := 36) hx hb dX7_remove_25 (by decide) (fun c16 => ?_) (fun c16 => ?_)
      · replace hf := opos c16 hf
        exact w_X7_remove_L36 M hfl hno hk14 _ _ _ _ _ hf _ _ _ _ _ hC (lv_sub hl [0, 1, 2, 3] rfl)
      · replace hf := oneg c16 hf
        refine fr_aload hx hb dX7_remove_28 (lv_at hl 3 rfl) ?_
        obtain ⟨b19, q20, hf⟩ := obind hf
        obtain ⟨r17, g18, hf⟩ := obind hf
        refine fr_callV hx hb hml hts hown K hC hR ct_4 (c_X4_vanish hfl D cA g18) 0 q20 kw870 kw867 kw868 kw869 kw24 (by decide +kernel) ⟨by exact Nat.le_of_ble_eq_true rfl, by exact Nat.le_of_ble_eq_true rfl⟩ rfl hl.1 (cat8 _ (by exact Nat.le_of_ble_eq_true rfl)) dX7_remove_30 rfl (fun H locs _ _ hC => ?_)
        refine lv_iinc (v := (a3 + (1 : Int32))) (lv' := [(3, .int (a3 + (1 : Int32))), (0, va_rf a0), (2, va_rf a2), (4, va_rf a4)]) hx hb dX7_remove_33 hl (k := 2) rfl rfl (by decide) (congrArg (List.cons _) (flk rfl (flk (adj1 _ _) (fld rfl (flk rfl fln))))) (fun ls hl => ?_)
        exact w_X7_remove_L36 M hfl hno hk14 _ _ _ _ _ hf _ _ _ _ _ hC (lv_sub hl [1, 2, 0, 3] rfl)
set_option maxHeartbeats 4000000 in
set_option maxRecDepth 100000 in
theorem w_X7_remove_L0 {p : Program} {l : Launch} {e : Env} {s : State} {m : MethodId} {args : Array Value} {below : List Frame} {meth : Method} {c : Code} {D : va_G} {cA : Nat → ClassId} {h0 : fSt} {r : ((Int32 ⊕ Nat) × fSt)} (M : fM p s m args meth c D cA h0 { frames := 18, cells := fCB h0 - fZ h0, slots := fLB h0 - fL h0, locals := 426 } cX7_remove 5 (some (.int)) RX7) (hfl : l.stackTraces = false) (hno : ∀ x ∈ c.exceptionTable.toList, False) (a0 : Option Nat) (a1 : Int32) (h : fSt) (hf : f_X7_remove_L0 a0 a1 h = some r) : ∀ (H : Heap) (locs : List Loc) (cells slots : Nat) (ls : Array Slot), fCur D cA s h0 h H locs → lv_has ls 5 [(0, va_rf a0), (1, .int a1)] → W p l e { frames := 18, cells := fCB h0 - fZ h0, slots := fLB h0 - fL h0, locals := 426 } s m args below meth c H locs cells slots (vx_MQ below (fQX D cA h0 r.2 (rI r.1)) (fXC D cA h0 r.2 (rI r.1)) args s (fCB h0 - fZ h0) (fLB h0 - fL h0) (fA h0)) (F0 m 0 ls []) := by
  obtain ⟨hx, hb, hml, hr, hlocks, hts, hown, K, hR⟩ := id M
  intro H locs cells slots ls hC hl
  refine fr_aload_n hx hb dX7_remove_0 rfl (lv_at hl 0 rfl) ?_
  refine lv_iload_n hx hb dX7_remove_1 rfl (lv_at hl 1 rfl) ?_
  obtain ⟨b23, q24, hf⟩ := obind hf
  obtain ⟨⟨v25 | k26, h27⟩, g22, hf⟩ := obind hf
  · refine fr_callVX hx hb hml hts hown K hC hR ct_7 (c_X7_foundBelowWhole hfl D cA g22) 1 q24 kw789 kw786 kw788 kw18 kw23 (by decide +kernel) ⟨by exact Nat.le_of_ble_eq_true rfl, by exact Nat.le_of_ble_eq_true rfl⟩ rfl hl.1 (cat8 _ (by exact Nat.le_of_ble_eq_true rfl)) dX7_remove_2 rfl (fun H locs _ _ hC => ?_)
    refine fr_astore_n (lv' := [(2, va_rf v25), (0, va_rf a0), (1, .int a1)]) hx hb dX7_remove_5 rfl hl (by decide) (congrArg (List.cons _) (flk rfl (flk rfl fln))) (fun ls hl => ?_)
    refine lv_iconst (v := (0 : Int32)) hx hb dX7_remove_6 (by decide) ?_
    refine lv_istore_n (lv' := [(3, .int (0 : Int32)), (2, va_rf v25), (0, va_rf a0), (1, .int a1)]) hx hb dX7_remove_7 rfl hl (by decide) (congrArg (List.cons _) (flk (adj1 _ _) (flk rfl (flk rfl fln)))) (fun ls hl => ?_)
    refine fr_aload_n hx hb dX7_remove_8 rfl (lv_at hl 2 rfl) ?_
    obtain ⟨x28, g29, hf⟩ := obind hf
    refine fr_get hx hb hts hown K hC ct_7 (fgR_get g29) (by decide) kw625 rfl dX7_remove_9 ?_
    refine fr_astore (lv' := [(4, va_rf x28), (3, .int (0 : Int32)), (2, va_rf v25), (0, va_rf a0), (1, .int a1)]) hx hb dX7_remove_12 hl (by decide) (congrArg (List.cons _) (flk rfl (flk rfl (flk rfl (flk rfl fln))))) (fun ls hl => ?_)
    exact w_X7_remove_L14 M hfl hno 4096 _ _ _ _ _ hf _ _ _ _ _ hC (lv_sub hl [3, 2, 1, 0] rfl)
  · obtain rfl := Option.some.inj hf
    refine fr_callVT hx hb hml hts hown K hC hR ct_7 (c_X7_foundBelowWhole hfl D cA g22) 1 q24 kw789 kw786 kw788 kw18 kw23 (by decide +kernel) ⟨by exact Nat.le_of_ble_eq_true rfl, by exact Nat.le_of_ble_eq_true rfl⟩ rfl hl.1 (cat8 _ (by exact Nat.le_of_ble_eq_true rfl)) dX7_remove_2 rfl (fun H locs _ _ q ce hC e1 e2 e3 => ?_)
    exact fr_out (fun x hx9 => (hno x hx9).elim) hlocks hC e1 e2 e3
set_option maxRecDepth 100000 in
theorem c_X7_remove {l : Launch} (hfl : l.stackTraces = false) (D : va_G) (cA : Nat → ClassId) {o : Nat} {p0 : Int32} {h : fSt} {r : ((Int32 ⊕ Nat) × fSt)} (hf : f_X7_remove o p0 h = some r) : fMetX l yX7_remove (wsC yX7_remove cX7_remove 5 (some (.int))) (18) (426) D cA [.ref o, .int p0] h r.2 (rI r.1) := by
  exact fMetX.of (own := RX7) (by decide +kernel) rfl (lva1 rfl (lva1 rfl lva0)) (lgl1 rfl (lgl1 rfl lgl0)) (Nat.le_of_ble_eq_true rfl) (fun p e s m args below meth c ls hno M hC hl => by
    have hl : lv_has ls 5 [(0, va_rf (some o)), (1, .int p0)] := hl
    exact w_X7_remove_L0 M hfl hno _ _ _ hf _ _ _ _ _ hC (lv_sub hl [0, 1] rfl))
set_option maxHeartbeats 4000000 in
set_option maxRecDepth 100000 in
theorem w_X8_remove_L73 {p : Program} {l : Launch} {e : Env} {s : State} {m : MethodId} {args : Array Value} {below : List Frame} {meth : Method} {c : Code} {D : va_G} {cA : Nat → ClassId} {h0 : fSt} {r : (Int32 × fSt)} (M : fM p s m args meth c D cA h0 { frames := 19, cells := fCB h0 - fZ h0, slots := fLB h0 - fL h0, locals := 450 } cX8_remove 5 (some (.boolean)) RX8) (hfl : l.stackTraces = false) {k23 : Option Nat → Int32 → Int32 → Option Nat → Int32 → fSt → Option (Int32 × fSt)} (hk23 : ∀ (a0 : Option Nat) (a1 : Int32) (a2 : Int32) (a3 : Option Nat) (a4 : Int32) (h : fSt), k23 a0 a1 a2 a3 a4 h = some r → ∀ (H : Heap) (locs : List Loc) (cells slots : Nat) (ls : Array Slot), fCur D cA s h0 h H locs → lv_has ls 5 [(0, va_rf a0), (1, .int a1), (2, .int a2), (3, va_rf a3), (4, .int a4)] → W p l e { frames := 19, cells := fCB h0 - fZ h0, slots := fLB h0 - fL h0, locals := 450 } s m args below meth c H locs cells slots (MQ below (fQ D cA h0 r.2 (some (.int r.1))) args s (fCB h0 - fZ h0) (fLB h0 - fL h0) (fA h0)) (F0 m 23 ls [])) (a0 : Option Nat) (a1 : Int32) (a3 : Option Nat) (a4 : Int32) (s1 : Int32) (s0 : Int32) (h : fSt) (hf : f_X8_remove_L73 k23 a0 a1 a3 a4 s1 s0 h = some r) : ∀ (H : Heap) (locs : List Loc) (cells slots : Nat) (ls : Array Slot), fCur D cA s h0 h H locs → lv_has ls 5 [(0, va_rf a0), (1, .int a1), (3, va_rf a3), (4, .int a4)] → W p l e { frames := 19, cells := fCB h0 - fZ h0, slots := fLB h0 - fL h0, locals := 450 } s m args below meth c H locs cells slots (MQ below (fQ D cA h0 r.2 (some (.int r.1))) args s (fCB h0 - fZ h0) (fLB h0 - fL h0) (fA h0)) (F0 m 73 ls [.int s1, .int s0]) := by
  obtain ⟨hx, hb, hml, hr, hlocks, hts, hown, K, hR⟩ := id M
  intro H locs cells slots ls hC hl
  refine lv_iadd hx hb dX8_remove_73 ?_
  refine lv_istore_n (lv' := [(2, .int (s0 + s1)), (0, va_rf a0), (1, .int a1), (3, va_rf a3), (4, .int a4)]) hx hb dX8_remove_74 rfl hl (by decide) (congrArg (List.cons _) (flk rfl (flk rfl (flk rfl (flk rfl fln))))) (fun ls hl => ?_)
  refine lv_iinc (v := (a4 + (1 : Int32))) (lv' := [(4, .int (a4 + (1 : Int32))), (2, .int (s0 + s1)), (0, va_rf a0), (1, .int a1), (3, va_rf a3)]) hx hb dX8_remove_75 hl (k := 4) rfl rfl (by decide) (congrArg (List.cons _) (flk rfl (flk rfl (flk rfl (flk (adj1 _ _) (fld rfl fln)))))) (fun ls hl => ?_)
  refine lv_goto (tgt := 23) hx hb dX8_remove_78 (by decide) ?_
  exact hk23 _ _ _ _ _ _ hf _ _ _ _ _ hC (lv_sub hl [2, 3, 1, 4, 0] rfl)
set_option maxHeartbeats 4000000 in
set_option maxRecDepth 100000 in
theorem w_X8_remove_L59 {p : Program} {l : Launch} {e : Env} {s : State} {m : MethodId} {args : Array Value} {below : List Frame} {meth : Method} {c : Code} {D : va_G} {cA : Nat → ClassId} {h0 : fSt} {r : (Int32 × fSt)} (M : fM p s m args meth c D cA h0 { frames := 19, cells := fCB h0 - fZ h0, slots := fLB h0 - fL h0, locals := 450 } cX8_remove 5 (some (.boolean)) RX8) (hfl : l.stackTraces = false) {k23 : Option Nat → Int32 → Int32 → Option Nat → Int32 → fSt → Option (Int32 × fSt)} (hk23 : ∀ (a0 : Option Nat) (a1 : Int32) (a2 : Int32) (a3 : Option Nat) (a4 : Int32) (h : fSt), k23 a0 a1 a2 a3 a4 h = some r → ∀ (H : Heap) (locs : List Loc) (cells slots : Nat) (ls : Array Slot), fCur D cA s h0 h H locs → lv_has ls 5 [(0, va_rf a0), (1, .int a1), (2, .int a2), (3, va_rf a3), (4, .int a4)] → W p l e { frames := 19, cells := fCB h0 - fZ h0, slots := fLB h0 - fL h0, locals := 450 } s m args below meth c H locs cells slots (MQ below (fQ D cA h0 r.2 (some (.int r.1))) args s (fCB h0 - fZ h0) (fLB h0 - fL h0) (fA h0)) (F0 m 23 ls [])) (a0 : Option Nat) (a1 : Int32) (a2 : Int32) (a3 : Option Nat) (a4 : Int32) (s2 : Int32) (s1 : Int32) (s0 : Option Nat) (h : fSt) (hf : f_X8_remove_L59 k23 a0 a1 a2 a3 a4 s2 s1 s0 h = some r) : ∀ (H : Heap) (locs : List Loc) (cells slots : Nat) (ls : Array Slot), fCur D cA s h0 h H locs → lv_has ls 5 [(0, va_rf a0), (1, .int a1), (2, .int a2), (3, va_rf a3), (4, .int a4)] → W p l e { frames := 19, cells := fCB h0 - fZ h0, slots := fLB h0 - fL h0, locals := 450 } s m args below meth c H locs cells slots (MQ below (fQ D cA h0 r.2 (some (.int r.1))) args s (fCB h0 - fZ h0) (fLB h0 - fL h0) (fA h0)) (F0 m 59 ls [.int s2, .int s1, va_rf s0]) := by
  obtain ⟨hx, hb, hml, hr, hlocks, hts, hown, K, hR⟩ := id M
  intro H locs cells slots ls hC hl
  obtain ⟨h1, g2, hf⟩ := obind hf
  refine fr_zast hx hb K hC (t := 1) rfl g2 dX8_remove_59 (fun H locs hC => ?_)
  refine lv_iload_n hx hb dX8_remove_60 rfl (lv_at hl 2 rfl) ?_
  refine fr_aload_n hx hb dX8_remove_61 rfl (lv_at hl 3 rfl) ?_
  refine lv_iload hx hb dX8_remove_62 (lv_at hl 4 rfl) ?_
  obtain ⟨x3, g4, hf⟩ := obind hf
  refine fr_zald hx hb K hC (t := 1) rfl g4 dX8_remove_64 ?_
  refine lv_if_eq (tgt := 72) hx hb dX8_remove_65 (by decide) (fun c5 => ?_) (fun c5 => ?_)
  · replace hf := opos c5 hf
    refine lv_iconst (v := (0 : Int32)) hx hb dX8_remove_72 (by decide) ?_
    exact w_X8_remove_L73 M hfl hk23 _ _ _ _ _ _ _ hf _ _ _ _ _ hC (lv_sub hl [0, 1, 3, 4] rfl)
  · replace hf := oneg c5 hf
    refine lv_iconst (v := (1 : Int32)) hx hb dX8_remove_68 (by decide) ?_
    refine lv_goto (tgt := 73) hx hb dX8_remove_69 (by decide) ?_
    exact w_X8_remove_L73 M hfl hk23 _ _ _ _ _ _ _ hf _ _ _ _ _ hC (lv_sub hl [0, 1, 3, 4] rfl)
set_option maxHeartbeats 4000000 in
set_option maxRecDepth 100000 in
theorem w_X8_remove_L58 {p : Program} {l : Launch} {e : Env} {s : State} {m : MethodId} {args : Array Value} {below : List Frame} {meth : Method} {c : Code} {D : va_G} {cA : Nat → ClassId} {h0 : fSt} {r : (Int32 × fSt)} (M : fM p s m args meth c D cA h0 { frames := 19, cells := fCB h0 - fZ h0, slots := fLB h0 - fL h0, locals := 450 } cX8_remove 5 (some (.boolean)) RX8) (hfl : l.stackTraces = false) {k23 : Option Nat → Int32 → Int32 → Option Nat → Int32 → fSt → Option (Int32 × fSt)} (hk23 : ∀ (a0 : Option Nat) (a1 : Int32) (a2 : Int32) (a3 : Option Nat) (a4 : Int32) (h : fSt), k23 a0 a1 a2 a3 a4 h = some r → ∀ (H : Heap) (locs : List Loc) (cells slots : Nat) (ls : Array Slot), fCur D cA s h0 h H locs → lv_has ls 5 [(0, va_rf a0), (1, .int a1), (2, .int a2), (3, va_rf a3), (4, .int a4)] → W p l e { frames := 19, cells := fCB h0 - fZ h0, slots := fLB h0 - fL h0, locals := 450 } s m args below meth c H locs cells slots (MQ below (fQ D cA h0 r.2 (some (.int r.1))) args s (fCB h0 - fZ h0) (fLB h0 - fL h0) (fA h0)) (F0 m 23 ls [])) (a0 : Option Nat) (a1 : Int32) (a2 : Int32) (a3 : Option Nat) (a4 : Int32) (s1 : Int32) (s0 : Option Nat) (h : fSt) (hf : f_X8_remove_L58 k23 a0 a1 a2 a3 a4 s1 s0 h = some r) : ∀ (H : Heap) (locs : List Loc) (cells slots : Nat) (ls : Array Slot), fCur D cA s h0 h H locs → lv_has ls 5 [(0, va_rf a0), (1, .int a1), (2, .int a2), (3, va_rf a3), (4, .int a4)] → W p l e { frames := 19, cells := fCB h0 - fZ h0, slots := fLB h0 - fL h0, locals := 450 } s m args below meth c H locs cells slots (MQ below (fQ D cA h0 r.2 (some (.int r.1))) args s (fCB h0 - fZ h0) (fLB h0 - fL h0) (fA h0)) (F0 m 58 ls [.int s1, va_rf s0]) := by
  obtain ⟨hx, hb, hml, hr, hlocks, hts, hown, K, hR⟩ := id M
  intro H locs cells slots ls hC hl
  refine lv_iconst (v := (0 : Int32)) hx hb dX8_remove_58 (by decide) ?_
  exact w_X8_remove_L59 M hfl hk23 _ _ _ _ _ _ _ _ _ hf _ _ _ _ _ hC (lv_sub hl [0, 1, 2, 3, 4] rfl)
set_option maxHeartbeats 4000000 in
set_option maxRecDepth 100000 in
theorem w_X8_remove_L111 {p : Program} {l : Launch} {e : Env} {s : State} {m : MethodId} {args : Array Value} {below : List Frame} {meth : Method} {c : Code} {D : va_G} {cA : Nat → ClassId} {h0 : fSt} {r : (Int32 × fSt)} (M : fM p s m args meth c D cA h0 { frames := 19, cells := fCB h0 - fZ h0, slots := fLB h0 - fL h0, locals := 450 } cX8_remove 5 (some (.boolean)) RX8) (hfl : l.stackTraces = false) {k84 : Option Nat → Int32 → Int32 → Option Nat → Int32 → fSt → Option (Int32 × fSt)} (hk84 : ∀ (a0 : Option Nat) (a1 : Int32) (a2 : Int32) (a3 : Option Nat) (a4 : Int32) (h : fSt), k84 a0 a1 a2 a3 a4 h = some r → ∀ (H : Heap) (locs : List Loc) (cells slots : Nat) (ls : Array Slot), fCur D cA s h0 h H locs → lv_has ls 5 [(0, va_rf a0), (1, .int a1), (2, .int a2), (3, va_rf a3), (4, .int a4)] → W p l e { frames := 19, cells := fCB h0 - fZ h0, slots := fLB h0 - fL h0, locals := 450 } s m args below meth c H locs cells slots (MQ below (fQ D cA h0 r.2 (some (.int r.1))) args s (fCB h0 - fZ h0) (fLB h0 - fL h0) (fA h0)) (F0 m 84 ls [])) (a0 : Option Nat) (a1 : Int32) (a2 : Int32) (a3 : Option Nat) (a4 : Int32) (h : fSt) (hf : f_X8_remove_L111 k84 a0 a1 a2 a3 a4 h = some r) : ∀ (H : Heap) (locs : List Loc) (cells slots : Nat) (ls : Array Slot), fCur D cA s h0 h H locs → lv_has ls 5 [(0, va_rf a0), (1, .int a1), (2, .int a2), (3, va_rf a3), (4, .int a4)] → W p l e { frames := 19, cells := fCB h0 - fZ h0, slots := fLB h0 - fL h0, locals := 450 } s m args below meth c H locs cells slots (MQ below (fQ D cA h0 r.2 (some (.int r.1))) args s (fCB h0 - fZ h0) (fLB h0 - fL h0) (fA h0)) (F0 m 111 ls []) := by
  obtain ⟨hx, hb, hml, hr, hlocks, hts, hown, K, hR⟩ := id M
  intro H locs cells slots ls hC hl
  refine lv_iinc (v := (a4 + (1 : Int32))) (lv' := [(4, .int (a4 + (1 : Int32))), (0, va_rf a0), (1, .int a1), (2, .int a2), (3, va_rf a3)]) hx hb dX8_remove_111 hl (k := 4) rfl rfl (by decide) (congrArg (List.cons _) (flk rfl (flk rfl (flk rfl (flk (adj1 _ _) (fld rfl fln)))))) (fun ls hl => ?_)
  refine lv_goto (tgt := 84) hx hb dX8_remove_114 (by decide) ?_
  exact hk84 _ _ _ _ _ _ hf _ _ _ _ _ hC (lv_sub hl [1, 2, 3, 4, 0] rfl)
set_option maxHeartbeats 4000000 in
set_option maxRecDepth 100000 in
theorem w_X8_remove_L155 {p : Program} {l : Launch} {e : Env} {s : State} {m : MethodId} {args : Array Value} {below : List Frame} {meth : Method} {c : Code} {D : va_G} {cA : Nat → ClassId} {h0 : fSt} {r : (Int32 × fSt)} (M : fM p s m args meth c D cA h0 { frames := 19, cells := fCB h0 - fZ h0, slots := fLB h0 - fL h0, locals := 450 } cX8_remove 5 (some (.boolean)) RX8) (hfl : l.stackTraces = false) {k120 : Option Nat → Int32 → Int32 → Int32 → fSt → Option (Int32 × fSt)} (hk120 : ∀ (a0 : Option Nat) (a1 : Int32) (a2 : Int32) (a4 : Int32) (h : fSt), k120 a0 a1 a2 a4 h = some r → ∀ (H : Heap) (locs : List Loc) (cells slots : Nat) (ls : Array Slot), fCur D cA s h0 h H locs → lv_has ls 5 [(0, va_rf a0), (1, .int a1), (2, .int a2), (4, .int a4)] → W p l e { frames := 19, cells := fCB h0 - fZ h0, slots := fLB h0 - fL h0, locals := 450 } s m args below meth c H locs cells slots (MQ below (fQ D cA h0 r.2 (some (.int r.1))) args s (fCB h0 - fZ h0) (fLB h0 - fL h0) (fA h0)) (F0 m 120 ls [])) (a0 : Option Nat) (a1 : Int32) (a2 : Int32) (a4 : Int32) (h : fSt) (hf : f_X8_remove_L155 k120 a0 a1 a2 a4 h = some r) : ∀ (H : Heap) (locs : List Loc) (cells slots : Nat) (ls : Array Slot), fCur D cA s h0 h H locs → lv_has ls 5 [(0, va_rf a0), (1, .int a1), (2, .int a2), (4, .int a4)] → W p l e { frames := 19, cells := fCB h0 - fZ h0, slots := fLB h0 - fL h0, locals := 450 } s m args below meth c H locs cells slots (MQ below (fQ D cA h0 r.2 (some (.int r.1))) args s (fCB h0 - fZ h0) (fLB h0 - fL h0) (fA h0)) (F0 m 155 ls []) := by
  obtain ⟨hx, hb, hml, hr, hlocks, hts, hown, K, hR⟩ := id M
  intro H locs cells slots ls hC hl
  refine lv_iinc (v := (a4 + (1 : Int32))) (lv' := [(4, .int (a4 + (1 : Int32))), (0, va_rf a0), (1, .int a1), (2, .int a2)]) hx hb dX8_remove_155 hl (k := 3) rfl rfl (by decide) (congrArg (List.cons _) (flk rfl (flk rfl (flk rfl (fld rfl fln))))) (fun ls hl => ?_)
  refine lv_goto (tgt := 120) hx hb dX8_remove_158 (by decide) ?_
  exact hk120 _ _ _ _ _ hf _ _ _ _ _ hC (lv_sub hl [1, 2, 3, 0] rfl)
set_option maxHeartbeats 4000000 in
set_option maxRecDepth 100000 in
theorem w_X8_remove_L178 {p : Program} {l : Launch} {e : Env} {s : State} {m : MethodId} {args : Array Value} {below : List Frame} {meth : Method} {c : Code} {D : va_G} {cA : Nat → ClassId} {h0 : fSt} {r : (Int32 × fSt)} (M : fM p s m args meth c D cA h0 { frames := 19, cells := fCB h0 - fZ h0, slots := fLB h0 - fL h0, locals := 450 } cX8_remove 5 (some (.boolean)) RX8) (hfl : l.stackTraces = false) (s0 : Int32) (h : fSt) (hf : f_X8_remove_L178 s0 h = some r) : ∀ (H : Heap) (locs : List Loc) (cells slots : Nat) (ls : Array Slot), fCur D cA s h0 h H locs → lv_has ls 5 [] → W p l e { frames := 19, cells := fCB h0 - fZ h0, slots := fLB h0 - fL h0, locals := 450 } s m args below meth c H locs cells slots (MQ below (fQ D cA h0 r.2 (some (.int r.1))) args s (fCB h0 - fZ h0) (fLB h0 - fL h0) (fA h0)) (F0 m 178 ls [.int s0]) := by
  obtain ⟨hx, hb, hml, hr, hlocks, hts, hown, K, hR⟩ := id M
  intro H locs cells slots ls hC hl
  by_cases c6 : s0 = 0 ∨ s0 = 1
  rotate_left
  · exact nomatch (oneg c6 hf)
  obtain rfl := Option.some.inj (opos c6 hf)
  exact fr_zret hx hb hr hlocks hC c6 dX8_remove_178
set_option maxHeartbeats 4000000 in
set_option maxRecDepth 100000 in
theorem w_X8_remove_L120 {p : Program} {l : Launch} {e : Env} {s : State} {m : MethodId} {args : Array Value} {below : List Frame} {meth : Method} {c : Code} {D : va_G} {cA : Nat → ClassId} {h0 : fSt} {r : (Int32 × fSt)} (M : fM p s m args meth c D cA h0 { frames := 19, cells := fCB h0 - fZ h0, slots := fLB h0 - fL h0, locals := 450 } cX8_remove 5 (some (.boolean)) RX8) (hfl : l.stackTraces = false) : ∀ (n : Nat) (a0 : Option Nat) (a1 : Int32) (a2 : Int32) (a4 : Int32) (h : fSt), f_X8_remove_L120 n a0 a1 a2 a4 h = some r → ∀ (H : Heap) (locs : List Loc) (cells slots : Nat) (ls : Array Slot), fCur D cA s h0 h H locs → lv_has ls 5 [(0, va_rf a0), (1, .int a1), (2, .int a2), (4, .int a4)] → W p l e { frames := 19, cells := fCB h0 - fZ h0, slots := fLB h0 - fL h0, locals := 450 } s m args below meth c H locs cells slots (MQ below (fQ D cA h0 r.2 (some (.int r.1))) args s (fCB h0 - fZ h0) (fLB h0 - fL h0) (fA h0)) (F0 m 120 ls []) := by
  obtain ⟨hx, hb, hml, hr, hlocks, hts, hown, K, hR⟩ := id M
  intro n
  induction n with
  | zero =>
    intro a0 a1 a2 a4 h hf
    exact nomatch (show (none : Option (Int32 × fSt)) = some r from hf)
  | succ n hk120 =>
    intro a0 a1 a2 a4 h hf H locs cells slots ls hC hl
    refine lv_iload hx hb dX8_remove_120 (lv_at hl 3 rfl) ?_
    refine fr_aload_n hx hb dX8_remove_122 rfl (lv_at hl 0 rfl) ?_
    obtain ⟨x7, g8, hf⟩ := obind hf
    refine fr_get hx hb hts hown K hC ct_8 (fgI_get g8) (by decide) kw668 rfl dX8_remove_123 ?_
    refine lv_icmp_ge (tgt := 161) hx hb dX8_remove_126 (by decide) (fun c9 => ?_) (fun c9 => ?_)
    · replace hf := opos c9 hf
      refine fr_aload_n hx hb dX8_remove_161 rfl (lv_at hl 0 rfl) ?_
      obtain ⟨x10, g11, hf⟩ := obind hf
      refine fr_get hx hb hts hown K hC ct_8 (fgR_get g11) (by decide) kw655 rfl dX8_remove_162 ?_
      refine lv_iload_n hx hb dX8_remove_165 rfl (lv_at hl 1 rfl) ?_
      obtain ⟨b14, q15, hf⟩ := obind hf
      obtain ⟨⟨v16 | k17, h18⟩, g13, hf⟩ := obind hf
      rotate_left
      · exact nomatch (show (none : Option (Int32 × fSt)) = some _ from hf)
      replace hf := fci hf
      refine fr_callVX hx hb hml hts hown K hC hR ct_7 (c_X7_remove hfl D cA g13) 1 q15 kw866 kw863 kw864 kw865 kw23 (by decide +kernel) ⟨by exact Nat.le_of_ble_eq_true rfl, by exact Nat.le_of_ble_eq_true rfl⟩ rfl hl.1 (cat8 _ (by exact Nat.le_of_ble_eq_true rfl)) dX8_remove_166 rfl (fun H locs _ _ hC => ?_)
      refine lv_iload_n hx hb dX8_remove_169 rfl (lv_at hl 2 rfl) ?_
      refine lv_icmp_ne (tgt := 177) hx hb dX8_remove_170 (by decide) (fun c19 => ?_) (fun c19 => ?_)
      · replace hf := oneg c19 hf
        refine lv_iconst (v := (0 : Int32)) hx hb dX8_remove_177 (by decide) ?_
        exact w_X8_remove_L178 M hfl _ _ hf _ _ _ _ _ hC (lv_sub hl [] rfl)
      · replace hf := opos c19 hf
        refine lv_iconst (v := (1 : Int32)) hx hb dX8_remove_173 (by decide) ?_
        refine lv_goto (tgt := 178) hx hb dX8_remove_174 (by decide) ?_
        exact w_X8_remove_L178 M hfl _ _ hf _ _ _ _ _ hC (lv_sub hl [] rfl)
    · replace hf := oneg c9 hf
      refine fr_aload_n hx hb dX8_remove_129 rfl (lv_at hl 0 rfl) ?_
      refine fr_aload_n hx hb dX8_remove_130 rfl (lv_at hl 0 rfl) ?_
      obtain ⟨x20, g21, hf⟩ := obind hf
      refine fr_get hx hb hts hown K hC ct_8 (fgR_get g21) (by decide) kw669 rfl dX8_remove_131 ?_
      refine lv_iload hx hb dX8_remove_134 (lv_at hl 3 rfl) ?_
      obtain ⟨x22, g23, hf⟩ := obind hf
      refine fr_aaldA hx hb K hC (t := 4) rfl g23 dX8_remove_136 ?_
      refine lv_iconst (v := (0 : Int32)) hx hb dX8_remove_137 (by decide) ?_
      obtain ⟨x24, g25, hf⟩ := obind hf
      refine fr_iald hx hb K hC (t := 0) rfl g25 dX8_remove_138 ?_
      obtain ⟨b28, q29, hf⟩ := obind hf
      obtain ⟨r26, g27, hf⟩ := obind hf
      refine fr_callV hx hb hml hts hown K hC hR ct_8 (c_X8_isThere hfl D cA g27) 1 q29 kw718 kw724 kw716 kw717 kw22 (by decide +kernel) ⟨by exact Nat.le_of_ble_eq_true rfl, by exact Nat.le_of_ble_eq_true rfl⟩ rfl hl.1 (cat8 _ (by exact Nat.le_of_ble_eq_true rfl)) dX8_remove_139 rfl (fun H locs _ _ hC => ?_)
      refine lv_if_ne (tgt := 155) hx hb dX8_remove_142 (by decide) (fun c30 => ?_) (fun c30 => ?_)
      · replace hf := oneg c30 hf
        exact w_X8_remove_L155 M hfl hk120 _ _ _ _ _ hf _ _ _ _ _ hC (lv_sub hl [0, 1, 2, 3] rfl)
      · replace hf := opos c30 hf
        refine fr_aload_n hx hb dX8_remove_145 rfl (lv_at hl 0 rfl) ?_
        obtain ⟨x31, g32, hf⟩ := obind hf
        refine fr_get hx hb hts hown K hC ct_8 (fgR_get g32) (by decide) kw670 rfl dX8_remove_146 ?_
        refine lv_iload hx hb dX8_remove_149 (lv_at hl 3 rfl) ?_
        refine lv_iconst (v := (0 : Int32)) hx hb dX8_remove_151 (by decide) ?_
        by_cases c33 : (0 : Int32) < 0 ∨ 67000000 < ((0 : Int32)).toNatClampNeg
        · exact nomatch (opos c33 hf)
        obtain ⟨r34, g35, hf⟩ := obind (oneg c33 hf)
        refine fr_newa hx hb hts K hC hR (atype := .int) (t := 0) rfl kw702 (fun _ => rfl) rfl (fun z => c33 (Or.inl z)) g35 (newa_b (fun z => c33 (Or.inr z)) (Nat.le_of_ble_eq_true rfl)) dX8_remove_152 (fun H _ _ hC => ?_)
        obtain ⟨h36, g37, hf⟩ := obind hf
        refine fr_aastA hx hb K hC rfl rfl g37 dX8_remove_154 (fun H locs hC => ?_)
        exact w_X8_remove_L155 M hfl hk120 _ _ _ _ _ hf _ _ _ _ _ hC (lv_sub hl [0, 1, 2, 3] rfl)
set_option maxHeartbeats 4000000 in
set_option maxRecDepth 100000 in
theorem w_X8_remove_L84 {p : Program} {l : Launch} {e : Env} {s : State} {m : MethodId} {args : Array Value} {below : List Frame} {meth : Method} {c : Code} {D : va_G} {cA : Nat → ClassId} {h0 : fSt} {r : (Int32 × fSt)} (M : fM p s m args meth c D cA h0 { frames := 19, cells := fCB h0 - fZ h0, slots := fLB h0 - fL h0, locals := 450 } cX8_remove 5 (some (.boolean)) RX8) (hfl : l.stackTraces = false) : ∀ (n : Nat) (a0 : Option Nat) (a1 : Int32) (a2 : Int32) (a3 : Option Nat) (a4 : Int32) (h : fSt), f_X8_remove_L84 n a0 a1 a2 a3 a4 h = some r → ∀ (H : Heap) (locs : List Loc) (cells slots : Nat) (ls : Array Slot), fCur D cA s h0 h H locs → lv_has ls 5 [(0, va_rf a0), (1, .int a1), (2, .int a2), (3, va_rf a3), (4, .int a4)] → W p l e { frames := 19, cells := fCB h0 - fZ h0, slots := fLB h0 - fL h0, locals := 450 } s m args below meth c H locs cells slots (MQ below (fQ D cA h0 r.2 (some (.int r.1))) args s (fCB h0 - fZ h0) (fLB h0 - fL h0) (fA h0)) (F0 m 84 ls []) := by
  obtain ⟨hx, hb, hml, hr, hlocks, hts, hown, K, hR⟩ := id M
  intro n
  induction n with
  | zero =>
    intro a0 a1 a2 a3 a4 h hf
    exact nomatch (show (none : Option (Int32 × fSt)) = some r from hf)
  | succ n hk84 =>
    intro a0 a1 a2 a3 a4 h hf H locs cells slots ls hC hl
    refine lv_iload hx hb dX8_remove_84 (lv_at hl 4 rfl) ?_
    refine fr_aload_n hx hb dX8_remove_86 rfl (lv_at hl 0 rfl) ?_
    obtain ⟨x38, g39, hf⟩ := obind hf
    refine fr_get hx hb hts hown K hC ct_8 (fgI_get g39) (by decide) kw659 rfl dX8_remove_87 ?_
    refine lv_icmp_ge (tgt := 117) hx hb dX8_remove_90 (by decide) (fun c40 => ?_) (fun c40 => ?_)
    · replace hf := opos c40 hf
      refine lv_iconst (v := (0 : Int32)) hx hb dX8_remove_117 (by decide) ?_
      refine lv_istore (lv' := [(4, .int (0 : Int32)), (0, va_rf a0), (1, .int a1), (2, .int a2), (3, va_rf a3)]) hx hb dX8_remove_118 hl (by decide) (congrArg (List.cons _) (flk rfl (flk rfl (flk rfl (flk (adj1 _ _) (fld rfl fln)))))) (fun ls hl => ?_)
      exact w_X8_remove_L120 M hfl 4096 _ _ _ _ _ hf _ _ _ _ _ hC (lv_sub hl [1, 2, 3, 0] rfl)
    · replace hf := oneg c40 hf
      refine fr_aload_n hx hb dX8_remove_93 rfl (lv_at hl 3 rfl) ?_
      refine lv_iload hx hb dX8_remove_94 (lv_at hl 4 rfl) ?_
      obtain ⟨x41, g42, hf⟩ := obind hf
      refine fr_zald hx hb K hC (t := 1) rfl g42 dX8_remove_96 ?_
      refine lv_if_eq (tgt := 111) hx hb dX8_remove_97 (by decide) (fun c43 => ?_) (fun c43 => ?_)
      · replace hf := opos c43 hf
        exact w_X8_remove_L111 M hfl hk84 _ _ _ _ _ _ hf _ _ _ _ _ hC (lv_sub hl [0, 1, 2, 3, 4] rfl)
      · replace hf := oneg c43 hf
        refine fr_aload_n hx hb dX8_remove_100 rfl (lv_at hl 0 rfl) ?_
        obtain ⟨x44, g45, hf⟩ := obind hf
        refine fr_get hx hb hts hown K hC ct_8 (fgR_get g45) (by decide) kw661 rfl dX8_remove_101 ?_
        refine lv_iload hx hb dX8_remove_104 (lv_at hl 4 rfl) ?_
        obtain ⟨x46, g47, hf⟩ := obind hf
        refine fr_aaldA hx hb K hC (t := 4) rfl g47 dX8_remove_106 ?_
        refine lv_iconst (v := (0 : Int32)) hx hb dX8_remove_107 (by decide) ?_
        refine lv_bipush (v := (-2 : Int32)) hx hb dX8_remove_108 (by decide) ?_
        obtain ⟨h48, g49, hf⟩ := obind hf
        refine fr_iast hx hb K hC (t := 0) rfl g49 dX8_remove_110 (fun H locs hC => ?_)
        exact w_X8_remove_L111 M hfl hk84 _ _ _ _ _ _ hf _ _ _ _ _ hC (lv_sub hl [0, 1, 2, 3, 4] rfl)
set_option maxHeartbeats 4000000 in
set_option maxRecDepth 100000 in
theorem w_X8_remove_L23 {p : Program} {l : Launch} {e : Env} {s : State} {m : MethodId} {args : Array Value} {below : List Frame} {meth : Method} {c : Code} {D : va_G} {cA : Nat → ClassId} {h0 : fSt} {r : (Int32 × fSt)} (M : fM p s m args meth c D cA h0 { frames := 19, cells := fCB h0 - fZ h0, slots := fLB h0 - fL h0, locals := 450 } cX8_remove 5 (some (.boolean)) RX8) (hfl : l.stackTraces = false) : ∀ (n : Nat) (a0 : Option Nat) (a1 : Int32) (a2 : Int32) (a3 : Option Nat) (a4 : Int32) (h : fSt), f_X8_remove_L23 n a0 a1 a2 a3 a4 h = some r → ∀ (H : Heap) (locs : List Loc) (cells slots : Nat) (ls : Array Slot), fCur D cA s h0 h H locs → lv_has ls 5 [(0, va_rf a0), (1, .int a1), (2, .int a2), (3, va_rf a3), (4, .int a4)] → W p l e { frames := 19, cells := fCB h0 - fZ h0, slots := fLB h0 - fL h0, locals := 450 } s m args below meth c H locs cells slots (MQ below (fQ D cA h0 r.2 (some (.int r.1))) args s (fCB h0 - fZ h0) (fLB h0 - fL h0) (fA h0)) (F0 m 23 ls []) := by
  obtain ⟨hx, hb, hml, hr, hlocks, hts, hown, K, hR⟩ := id M
  intro n
  induction n with
  | zero =>
    intro a0 a1 a2 a3 a4 h hf
    exact nomatch (show (none : Option (Int32 × fSt)) = some r from hf)
  | succ n hk23 =>
    intro a0 a1 a2 a3 a4 h hf H locs cells slots ls hC hl
    refine lv_iload hx hb dX8_remove_23 (lv_at hl 4 rfl) ?_
    refine fr_aload_n hx hb dX8_remove_25 rfl (lv_at hl 0 rfl) ?_
    obtain ⟨x50, g51, hf⟩ := obind hf
    refine fr_get hx hb hts hown K hC ct_8 (fgI_get g51) (by decide) kw659 rfl dX8_remove_26 ?_
    refine lv_icmp_ge (tgt := 81) hx hb dX8_remove_29 (by decide) (fun c52 => ?_) (fun c52 => ?_)
    · replace hf := opos c52 hf
      refine lv_iconst (v := (1 : Int32)) hx hb dX8_remove_81 (by decide) ?_
      refine lv_istore (lv' := [(4, .int (1 : Int32)), (0, va_rf a0), (1, .int a1), (2, .int a2), (3, va_rf a3)]) hx hb dX8_remove_82 hl (by decide) (congrArg (List.cons _) (flk rfl (flk rfl (flk rfl (flk (adj1 _ _) (fld rfl fln)))))) (fun ls hl => ?_)
      exact w_X8_remove_L84 M hfl 4096 _ _ _ _ _ _ hf _ _ _ _ _ hC (lv_sub hl [1, 2, 3, 4, 0] rfl)
    · replace hf := oneg c52 hf
      refine fr_aload_n hx hb dX8_remove_32 rfl (lv_at hl 3 rfl) ?_
      refine lv_iload hx hb dX8_remove_33 (lv_at hl 4 rfl) ?_
      refine fr_aload_n hx hb dX8_remove_35 rfl (lv_at hl 0 rfl) ?_
      refine lv_iload hx hb dX8_remove_36 (lv_at hl 4 rfl) ?_
      obtain ⟨b55, q56, hf⟩ := obind hf
      obtain ⟨r53, g54, hf⟩ := obind hf
      refine fr_callV hx hb hml hts hown K hC hR ct_8 (c_X8_isThere hfl D cA g54) 1 q56 kw718 kw724 kw716 kw717 kw22 (by decide +kernel) ⟨by exact Nat.le_of_ble_eq_true rfl, by exact Nat.le_of_ble_eq_true rfl⟩ rfl hl.1 (cat8 _ (by exact Nat.le_of_ble_eq_true rfl)) dX8_remove_38 rfl (fun H locs _ _ hC => ?_)
      refine lv_if_eq (tgt := 58) hx hb dX8_remove_41 (by decide) (fun c57 => ?_) (fun c57 => ?_)
      · replace hf := opos c57 hf
        exact w_X8_remove_L58 M hfl hk23 _ _ _ _ _ _ _ _ hf _ _ _ _ _ hC (lv_sub hl [0, 1, 2, 3, 4] rfl)
      · replace hf := oneg c57 hf
        refine fr_aload_n hx hb dX8_remove_44 rfl (lv_at hl 0 rfl) ?_
        refine lv_iload hx hb dX8_remove_45 (lv_at hl 4 rfl) ?_
        refine lv_iload_n hx hb dX8_remove_47 rfl (lv_at hl 1 rfl) ?_
        obtain ⟨b60, q61, hf⟩ := obind hf
        obtain ⟨r58, g59, hf⟩ := obind hf
        refine fr_callV hx hb hml hts hown K hC hR ct_8 (c_X8_isIn hfl D cA 8 g59) 2 q61 kw832 kw829 kw830 kw831 kw22 (by decide +kernel) ⟨by exact Nat.le_of_ble_eq_true rfl, by exact Nat.le_of_ble_eq_true rfl⟩ rfl hl.1 (cat8 _ (by exact Nat.le_of_ble_eq_true rfl)) dX8_remove_48 rfl (fun H locs _ _ hC => ?_)
        refine lv_if_eq (tgt := 58) hx hb dX8_remove_51 (by decide) (fun c62 => ?_) (fun c62 => ?_)
        · replace hf := opos c62 hf
          exact w_X8_remove_L58 M hfl hk23 _ _ _ _ _ _ _ _ hf _ _ _ _ _ hC (lv_sub hl [0, 1, 2, 3, 4] rfl)
        · replace hf := oneg c62 hf
          refine lv_iconst (v := (1 : Int32)) hx hb dX8_remove_54 (by decide) ?_
          refine lv_goto (tgt := 59) hx hb dX8_remove_55 (by decide) ?_
          exact w_X8_remove_L59 M hfl hk23 _ _ _ _ _ _ _ _ _ hf _ _ _ _ _ hC (lv_sub hl [0, 1, 2, 3, 4] rfl)
set_option maxHeartbeats 4000000 in
set_option maxRecDepth 100000 in
theorem w_X8_remove_L0 {p : Program} {l : Launch} {e : Env} {s : State} {m : MethodId} {args : Array Value} {below : List Frame} {meth : Method} {c : Code} {D : va_G} {cA : Nat → ClassId} {h0 : fSt} {r : (Int32 × fSt)} (M : fM p s m args meth c D cA h0 { frames := 19, cells := fCB h0 - fZ h0, slots := fLB h0 - fL h0, locals := 450 } cX8_remove 5 (some (.boolean)) RX8) (hfl : l.stackTraces = false) (a0 : Option Nat) (h : fSt) (hf : f_X8_remove_L0 a0 h = some r) : ∀ (H : Heap) (locs : List Loc) (cells slots : Nat) (ls : Array Slot), fCur D cA s h0 h H locs → lv_has ls 5 [(0, va_rf a0)] → W p l e { frames := 19, cells := fCB h0 - fZ h0, slots := fLB h0 - fL h0, locals := 450 } s m args below meth c H locs cells slots (MQ below (fQ D cA h0 r.2 (some (.int r.1))) args s (fCB h0 - fZ h0) (fLB h0 - fL h0) (fA h0)) (F0 m 0 ls []) := by
  obtain ⟨hx, hb, hml, hr, hlocks, hts, hown, K, hR⟩ := id M
  intro H locs cells slots ls hC hl
  refine fr_aload_n hx hb dX8_remove_0 rfl (lv_at hl 0 rfl) ?_
  obtain ⟨b65, q66, hf⟩ := obind hf
  obtain ⟨r63, g64, hf⟩ := obind hf
  refine fr_callV hx hb hml hts hown K hC hR ct_8 (c_X8_one hfl D cA g64) 0 q66 kw728 kw780 kw726 kw727 kw22 (by decide +kernel) ⟨by exact Nat.le_of_ble_eq_true rfl, by exact Nat.le_of_ble_eq_true rfl⟩ rfl hl.1 (cat8 _ (by exact Nat.le_of_ble_eq_true rfl)) dX8_remove_1 rfl (fun H locs _ _ hC => ?_)
  refine lv_istore_n (lv' := [(1, .int r63.1), (0, va_rf a0)]) hx hb dX8_remove_4 rfl hl (by decide) (congrArg (List.cons _) (flk (adj1 _ _) fln)) (fun ls hl => ?_)
  refine lv_iload_n hx hb dX8_remove_5 rfl (lv_at hl 0 rfl) ?_
  refine lv_if_ne (tgt := 11) hx hb dX8_remove_6 (by decide) (fun c67 => ?_) (fun c67 => ?_)
  · replace hf := oneg c67 hf
    refine lv_iconst (v := (0 : Int32)) hx hb dX8_remove_11 (by decide) ?_
    refine lv_istore_n (lv' := [(2, .int (0 : Int32)), (1, .int r63.1), (0, va_rf a0)]) hx hb dX8_remove_12 rfl hl (by decide) (congrArg (List.cons _) (flk rfl (flk rfl fln))) (fun ls hl => ?_)
    refine fr_aload_n hx hb dX8_remove_13 rfl (lv_at hl 2 rfl) ?_
    obtain ⟨x68, g69, hf⟩ := obind hf
    refine fr_get hx hb hts hown K hC ct_8 (fgI_get g69) (by decide) kw659 rfl dX8_remove_14 ?_
    by_cases c70 : x68 < 0 ∨ 67000000 < (x68).toNatClampNeg
    · exact nomatch (opos c70 hf)
    obtain ⟨r71, g72, hf⟩ := obind (oneg c70 hf)
    refine fr_newa hx hb hts K hC hR (atype := .boolean) (t := 1) rfl kw701 (fun _ => rfl) rfl (fun z => c70 (Or.inl z)) g72 (newa_b (fun z => c70 (Or.inr z)) (Nat.le_of_ble_eq_true rfl)) dX8_remove_17 (fun H _ _ hC => ?_)
    refine fr_astore_n (lv' := [(3, va_rf (some r71.1)), (2, .int (0 : Int32)), (1, .int r63.1), (0, va_rf a0)]) hx hb dX8_remove_19 rfl hl (by decide) (congrArg (List.cons _) (flk rfl (flk rfl (flk rfl fln)))) (fun ls hl => ?_)
    refine lv_iconst (v := (1 : Int32)) hx hb dX8_remove_20 (by decide) ?_
    refine lv_istore (lv' := [(4, .int (1 : Int32)), (3, va_rf (some r71.1)), (2, .int (0 : Int32)), (1, .int r63.1), (0, va_rf a0)]) hx hb dX8_remove_21 hl (by decide) (congrArg (List.cons _) (flk (adj1 _ _) (flk rfl (flk rfl (flk rfl fln))))) (fun ls hl => ?_)
    exact w_X8_remove_L23 M hfl 4096 _ _ _ _ _ _ hf _ _ _ _ _ hC (lv_sub hl [4, 3, 2, 1, 0] rfl)
  · replace hf := opos c67 hf
    refine lv_iconst (v := (1 : Int32)) hx hb dX8_remove_9 (by decide) ?_
    obtain rfl := Option.some.inj hf
    exact fr_zret hx hb hr hlocks hC (Or.inr rfl) dX8_remove_10
set_option maxRecDepth 100000 in
theorem c_X8_remove {l : Launch} (hfl : l.stackTraces = false) (D : va_G) (cA : Nat → ClassId) {o : Nat} {h : fSt} {r : (Int32 × fSt)} (hf : f_X8_remove o h = some r) : fMet l yX8_remove (wsC yX8_remove cX8_remove 5 (some (.boolean))) (19) (450) D cA [.ref o] h r.2 (some (.int r.1)) := by
  exact fMet.of (own := RX8) (by decide +kernel) rfl (lva1 rfl lva0) (lgl1 rfl lgl0) (Nat.le_of_ble_eq_true rfl) (fun p e s m args below meth c ls hnm _ M hC hl => by
    have hl : lv_has ls 5 [(0, va_rf (some o))] := hl
    exact w_X8_remove_L0 M hfl _ _ hf _ _ _ _ _ hC (lv_sub hl [0] rfl))
