theorem dL_cell_0 : decode cL_cell 0 = .ok (.iload_n 1, 1) := by decide +kernel
theorem dL_cell_1 : decode cL_cell 1 = .ok (.aload_n 0, 1) := by decide +kernel
theorem dL_cell_2 : decode cL_cell 2 = .ok (.arraylength, 1) := by decide +kernel
theorem dL_cell_3 : decode cL_cell 3 = .ok (.if_icmp .ge 9, 3) := by decide +kernel
theorem dL_cell_6 : decode cL_cell 6 = .ok (.aload_n 0, 1) := by decide +kernel
theorem dL_cell_7 : decode cL_cell 7 = .ok (.iload_n 1, 1) := by decide +kernel
theorem dL_cell_8 : decode cL_cell 8 = .ok (.iaload, 1) := by decide +kernel
theorem dL_cell_9 : decode cL_cell 9 = .ok (.goto 9, 3) := by decide +kernel
theorem dL_cell_12 : decode cL_cell 12 = .ok (.ldc 7, 2) := by decide +kernel
theorem dL_cell_14 : decode cL_cell 14 = .ok (.iload_n 1, 1) := by decide +kernel
theorem dL_cell_15 : decode cL_cell 15 = .ok (.iconst 1, 1) := by decide +kernel
theorem dL_cell_16 : decode cL_cell 16 = .ok (.iadd, 1) := by decide +kernel
theorem dL_cell_17 : decode cL_cell 17 = .ok (.imul, 1) := by decide +kernel
theorem dL_cell_18 : decode cL_cell 18 = .ok (.ireturn, 1) := by decide +kernel
theorem dL_some_0 : decode cL_some 0 = .ok (.iload_n 0, 1) := by decide +kernel
theorem dL_some_1 : decode cL_some 1 = .ok (.ldc 8, 2) := by decide +kernel
theorem dL_some_3 : decode cL_some 3 = .ok (.iand, 1) := by decide +kernel
theorem dL_some_4 : decode cL_some 4 = .ok (.iload_n 1, 1) := by decide +kernel
theorem dL_some_5 : decode cL_some 5 = .ok (.irem, 1) := by decide +kernel
theorem dL_some_6 : decode cL_some 6 = .ok (.ireturn, 1) := by decide +kernel
theorem dL_put_0 : decode cL_put 0 = .ok (.aload_n 1, 1) := by decide +kernel
theorem dL_put_1 : decode cL_put 1 = .ok (.iload_n 2, 1) := by decide +kernel
theorem dL_put_2 : decode cL_put 2 = .ok (.invokestatic 9, 3) := by decide +kernel
theorem dL_put_5 : decode cL_put 5 = .ok (.istore 7, 2) := by decide +kernel
theorem dL_put_7 : decode cL_put 7 = .ok (.aload 4, 2) := by decide +kernel
theorem dL_put_9 : decode cL_put 9 = .ok (.iconst 0, 1) := by decide +kernel
theorem dL_put_10 : decode cL_put 10 = .ok (.iconst 2, 1) := by decide +kernel
theorem dL_put_11 : decode cL_put 11 = .ok (.iload 7, 2) := by decide +kernel
theorem dL_put_13 : decode cL_put 13 = .ok (.iload_n 3, 1) := by decide +kernel
theorem dL_put_14 : decode cL_put 14 = .ok (.iconst 1, 1) := by decide +kernel
theorem dL_put_15 : decode cL_put 15 = .ok (.isub, 1) := by decide +kernel
theorem dL_put_16 : decode cL_put 16 = .ok (.invokestatic 15, 3) := by decide +kernel
theorem dL_put_19 : decode cL_put 19 = .ok (.iadd, 1) := by decide +kernel
theorem dL_put_20 : decode cL_put 20 = .ok (.iastore, 1) := by decide +kernel
theorem dL_put_21 : decode cL_put 21 = .ok (.aload 4, 2) := by decide +kernel
theorem dL_put_23 : decode cL_put 23 = .ok (.iconst 1, 1) := by decide +kernel
theorem dL_put_24 : decode cL_put 24 = .ok (.iconst 2, 1) := by decide +kernel
theorem dL_put_25 : decode cL_put 25 = .ok (.iload 7, 2) := by decide +kernel
theorem dL_put_27 : decode cL_put 27 = .ok (.iconst 3, 1) := by decide +kernel
theorem dL_put_28 : decode cL_put 28 = .ok (.ishr, 1) := by decide +kernel
theorem dL_put_29 : decode cL_put 29 = .ok (.iconst 5, 1) := by decide +kernel
theorem dL_put_30 : decode cL_put 30 = .ok (.invokestatic 15, 3) := by decide +kernel
theorem dL_put_33 : decode cL_put 33 = .ok (.iadd, 1) := by decide +kernel
theorem dL_put_34 : decode cL_put 34 = .ok (.iastore, 1) := by decide +kernel
theorem dL_put_35 : decode cL_put 35 = .ok (.aload 4, 2) := by decide +kernel
theorem dL_put_37 : decode cL_put 37 = .ok (.iconst 2, 1) := by decide +kernel
theorem dL_put_38 : decode cL_put 38 = .ok (.iconst 1, 1) := by decide +kernel
theorem dL_put_39 : decode cL_put 39 = .ok (.iastore, 1) := by decide +kernel
theorem dL_put_40 : decode cL_put 40 = .ok (.aload 4, 2) := by decide +kernel
theorem dL_put_42 : decode cL_put 42 = .ok (.iconst 3, 1) := by decide +kernel
theorem dL_put_43 : decode cL_put 43 = .ok (.iconst 1, 1) := by decide +kernel
theorem dL_put_44 : decode cL_put 44 = .ok (.iastore, 1) := by decide +kernel
theorem dL_put_45 : decode cL_put 45 = .ok (.aload_n 0, 1) := by decide +kernel
theorem dL_put_46 : decode cL_put 46 = .ok (.iconst 0, 1) := by decide +kernel
theorem dL_put_47 : decode cL_put 47 = .ok (.iconst 0, 1) := by decide +kernel
theorem dL_put_48 : decode cL_put 48 = .ok (.bipush 100, 2) := by decide +kernel
theorem dL_put_50 : decode cL_put 50 = .ok (.invokevirtual 19, 3) := by decide +kernel
theorem dL_put_53 : decode cL_put 53 = .ok (.iconst 1, 1) := by decide +kernel
theorem dL_put_54 : decode cL_put 54 = .ok (.if_icmp .ne 32, 3) := by decide +kernel
theorem dL_put_57 : decode cL_put 57 = .ok (.aload_n 0, 1) := by decide +kernel
theorem dL_put_58 : decode cL_put 58 = .ok (.iconst 0, 1) := by decide +kernel
theorem dL_put_59 : decode cL_put 59 = .ok (.iconst 0, 1) := by decide +kernel
theorem dL_put_60 : decode cL_put 60 = .ok (.bipush 100, 2) := by decide +kernel
theorem dL_put_62 : decode cL_put 62 = .ok (.invokevirtual 25, 3) := by decide +kernel
theorem dL_put_65 : decode cL_put 65 = .ok (.iconst 1, 1) := by decide +kernel
theorem dL_put_66 : decode cL_put 66 = .ok (.if_icmp .ne 20, 3) := by decide +kernel
theorem dL_put_69 : decode cL_put 69 = .ok (.aload_n 0, 1) := by decide +kernel
theorem dL_put_70 : decode cL_put 70 = .ok (.iconst 0, 1) := by decide +kernel
theorem dL_put_71 : decode cL_put 71 = .ok (.iconst 1, 1) := by decide +kernel
theorem dL_put_72 : decode cL_put 72 = .ok (.bipush 48, 2) := by decide +kernel
theorem dL_put_74 : decode cL_put 74 = .ok (.aload 4, 2) := by decide +kernel
theorem dL_put_76 : decode cL_put 76 = .ok (.iconst 1, 1) := by decide +kernel
theorem dL_put_77 : decode cL_put 77 = .ok (.iaload, 1) := by decide +kernel
theorem dL_put_78 : decode cL_put 78 = .ok (.iadd, 1) := by decide +kernel
theorem dL_put_79 : decode cL_put 79 = .ok (.invokevirtual 25, 3) := by decide +kernel
theorem dL_put_82 : decode cL_put 82 = .ok (.iconst 1, 1) := by decide +kernel
theorem dL_put_83 : decode cL_put 83 = .ok (.if_icmp .eq 6, 3) := by decide +kernel
theorem dL_put_86 : decode cL_put 86 = .ok (.bipush (-99), 2) := by decide +kernel
theorem dL_put_88 : decode cL_put 88 = .ok (.ireturn, 1) := by decide +kernel
theorem dL_put_89 : decode cL_put 89 = .ok (.iconst 2, 1) := by decide +kernel
theorem dL_put_90 : decode cL_put 90 = .ok (.istore 8, 2) := by decide +kernel
theorem dL_put_92 : decode cL_put 92 = .ok (.iconst 0, 1) := by decide +kernel
theorem dL_put_93 : decode cL_put 93 = .ok (.istore 9, 2) := by decide +kernel
theorem dL_put_95 : decode cL_put 95 = .ok (.iload 9, 2) := by decide +kernel
theorem dL_put_97 : decode cL_put 97 = .ok (.aload 4, 2) := by decide +kernel
theorem dL_put_99 : decode cL_put 99 = .ok (.iconst 1, 1) := by decide +kernel
theorem dL_put_100 : decode cL_put 100 = .ok (.iaload, 1) := by decide +kernel
theorem dL_put_101 : decode cL_put 101 = .ok (.if_icmp .ge 124, 3) := by decide +kernel
theorem dL_put_104 : decode cL_put 104 = .ok (.aload 4, 2) := by decide +kernel
theorem dL_put_106 : decode cL_put 106 = .ok (.iconst 4, 1) := by decide +kernel
theorem dL_put_107 : decode cL_put 107 = .ok (.iload 9, 2) := by decide +kernel
theorem dL_put_109 : decode cL_put 109 = .ok (.iadd, 1) := by decide +kernel
theorem dL_put_110 : decode cL_put 110 = .ok (.iconst 1, 1) := by decide +kernel
theorem dL_put_111 : decode cL_put 111 = .ok (.iload 7, 2) := by decide +kernel
theorem dL_put_113 : decode cL_put 113 = .ok (.bipush 6, 2) := by decide +kernel
theorem dL_put_115 : decode cL_put 115 = .ok (.iload 9, 2) := by decide +kernel
theorem dL_put_117 : decode cL_put 117 = .ok (.iadd, 1) := by decide +kernel
theorem dL_put_118 : decode cL_put 118 = .ok (.ishr, 1) := by decide +kernel
theorem dL_put_119 : decode cL_put 119 = .ok (.iload 7, 2) := by decide +kernel
theorem dL_put_121 : decode cL_put 121 = .ok (.bipush 15, 2) := by decide +kernel
theorem dL_put_123 : decode cL_put 123 = .ok (.ishr, 1) := by decide +kernel
theorem dL_put_124 : decode cL_put 124 = .ok (.iconst 3, 1) := by decide +kernel
theorem dL_put_125 : decode cL_put 125 = .ok (.invokestatic 15, 3) := by decide +kernel
theorem dL_put_128 : decode cL_put 128 = .ok (.ifCond .ne 8, 3) := by decide +kernel
theorem dL_put_131 : decode cL_put 131 = .ok (.bipush 9, 2) := by decide +kernel
theorem dL_put_133 : decode cL_put 133 = .ok (.goto 4, 3) := by decide +kernel
theorem dL_put_136 : decode cL_put 136 = .ok (.iconst 3, 1) := by decide +kernel
theorem dL_put_137 : decode cL_put 137 = .ok (.invokestatic 15, 3) := by decide +kernel
theorem dL_put_140 : decode cL_put 140 = .ok (.iadd, 1) := by decide +kernel
theorem dL_put_141 : decode cL_put 141 = .ok (.iastore, 1) := by decide +kernel
theorem dL_put_142 : decode cL_put 142 = .ok (.aload 4, 2) := by decide +kernel
theorem dL_put_144 : decode cL_put 144 = .ok (.bipush 10, 2) := by decide +kernel
theorem dL_put_146 : decode cL_put 146 = .ok (.iload 9, 2) := by decide +kernel
theorem dL_put_148 : decode cL_put 148 = .ok (.iadd, 1) := by decide +kernel
theorem dL_put_149 : decode cL_put 149 = .ok (.aload_n 1, 1) := by decide +kernel
theorem dL_put_150 : decode cL_put 150 = .ok (.iload_n 2, 1) := by decide +kernel
theorem dL_put_151 : decode cL_put 151 = .ok (.iconst 1, 1) := by decide +kernel
theorem dL_put_152 : decode cL_put 152 = .ok (.iadd, 1) := by decide +kernel
theorem dL_put_153 : decode cL_put 153 = .ok (.invokestatic 9, 3) := by decide +kernel
theorem dL_put_156 : decode cL_put 156 = .ok (.iconst 4, 1) := by decide +kernel
theorem dL_put_157 : decode cL_put 157 = .ok (.iload 9, 2) := by decide +kernel
theorem dL_put_159 : decode cL_put 159 = .ok (.imul, 1) := by decide +kernel
theorem dL_put_160 : decode cL_put 160 = .ok (.ishr, 1) := by decide +kernel
theorem dL_put_161 : decode cL_put 161 = .ok (.bipush 10, 2) := by decide +kernel
theorem dL_put_163 : decode cL_put 163 = .ok (.invokestatic 15, 3) := by decide +kernel
theorem dL_put_166 : decode cL_put 166 = .ok (.iastore, 1) := by decide +kernel
theorem dL_put_167 : decode cL_put 167 = .ok (.aload_n 0, 1) := by decide +kernel
theorem dL_put_168 : decode cL_put 168 = .ok (.iconst 0, 1) := by decide +kernel
theorem dL_put_169 : decode cL_put 169 = .ok (.iload 8, 2) := by decide +kernel
theorem dL_put_171 : decode cL_put 171 = .ok (.iinc 8 1, 3) := by decide +kernel
theorem dL_put_174 : decode cL_put 174 = .ok (.bipush 48, 2) := by decide +kernel
theorem dL_put_176 : decode cL_put 176 = .ok (.aload 4, 2) := by decide +kernel
theorem dL_put_178 : decode cL_put 178 = .ok (.iconst 4, 1) := by decide +kernel
theorem dL_put_179 : decode cL_put 179 = .ok (.iload 9, 2) := by decide +kernel
theorem dL_put_181 : decode cL_put 181 = .ok (.iadd, 1) := by decide +kernel
theorem dL_put_182 : decode cL_put 182 = .ok (.iaload, 1) := by decide +kernel
theorem dL_put_183 : decode cL_put 183 = .ok (.iadd, 1) := by decide +kernel
theorem dL_put_184 : decode cL_put 184 = .ok (.invokevirtual 25, 3) := by decide +kernel
theorem dL_put_187 : decode cL_put 187 = .ok (.iconst 1, 1) := by decide +kernel
theorem dL_put_188 : decode cL_put 188 = .ok (.if_icmp .ne 28, 3) := by decide +kernel
theorem dL_put_191 : decode cL_put 191 = .ok (.aload_n 0, 1) := by decide +kernel
theorem dL_put_192 : decode cL_put 192 = .ok (.iconst 0, 1) := by decide +kernel
theorem dL_put_193 : decode cL_put 193 = .ok (.iload 8, 2) := by decide +kernel
theorem dL_put_195 : decode cL_put 195 = .ok (.iinc 8 1, 3) := by decide +kernel
theorem dL_put_198 : decode cL_put 198 = .ok (.bipush 48, 2) := by decide +kernel
theorem dL_put_200 : decode cL_put 200 = .ok (.aload 4, 2) := by decide +kernel
theorem dL_put_202 : decode cL_put 202 = .ok (.bipush 10, 2) := by decide +kernel
theorem dL_put_204 : decode cL_put 204 = .ok (.iload 9, 2) := by decide +kernel
theorem dL_put_206 : decode cL_put 206 = .ok (.iadd, 1) := by decide +kernel
theorem dL_put_207 : decode cL_put 207 = .ok (.iaload, 1) := by decide +kernel
theorem dL_put_208 : decode cL_put 208 = .ok (.iadd, 1) := by decide +kernel
theorem dL_put_209 : decode cL_put 209 = .ok (.invokevirtual 25, 3) := by decide +kernel
theorem dL_put_212 : decode cL_put 212 = .ok (.iconst 1, 1) := by decide +kernel
theorem dL_put_213 : decode cL_put 213 = .ok (.if_icmp .eq 6, 3) := by decide +kernel
theorem dL_put_216 : decode cL_put 216 = .ok (.bipush (-99), 2) := by decide +kernel
theorem dL_put_218 : decode cL_put 218 = .ok (.ireturn, 1) := by decide +kernel
theorem dL_put_219 : decode cL_put 219 = .ok (.iinc 9 1, 3) := by decide +kernel
theorem dL_put_222 : decode cL_put 222 = .ok (.goto (-127), 3) := by decide +kernel
theorem dL_put_225 : decode cL_put 225 = .ok (.iconst 0, 1) := by decide +kernel
theorem dL_put_226 : decode cL_put 226 = .ok (.istore 9, 2) := by decide +kernel
theorem dL_put_228 : decode cL_put 228 = .ok (.iload 9, 2) := by decide +kernel
theorem dL_put_230 : decode cL_put 230 = .ok (.aload 4, 2) := by decide +kernel
theorem dL_put_232 : decode cL_put 232 = .ok (.iconst 0, 1) := by decide +kernel
theorem dL_put_233 : decode cL_put 233 = .ok (.iaload, 1) := by decide +kernel
theorem dL_put_234 : decode cL_put 234 = .ok (.if_icmp .ge 386, 3) := by decide +kernel
theorem dL_put_237 : decode cL_put 237 = .ok (.aload_n 1, 1) := by decide +kernel
theorem dL_put_238 : decode cL_put 238 = .ok (.iload_n 2, 1) := by decide +kernel
theorem dL_put_239 : decode cL_put 239 = .ok (.iconst 2, 1) := by decide +kernel
theorem dL_put_240 : decode cL_put 240 = .ok (.iadd, 1) := by decide +kernel
theorem dL_put_241 : decode cL_put 241 = .ok (.iload 9, 2) := by decide +kernel
theorem dL_put_243 : decode cL_put 243 = .ok (.iadd, 1) := by decide +kernel
theorem dL_put_244 : decode cL_put 244 = .ok (.invokestatic 9, 3) := by decide +kernel
theorem dL_put_247 : decode cL_put 247 = .ok (.istore 10, 2) := by decide +kernel
theorem dL_put_249 : decode cL_put 249 = .ok (.aload 4, 2) := by decide +kernel
theorem dL_put_251 : decode cL_put 251 = .ok (.bipush 16, 2) := by decide +kernel
theorem dL_put_253 : decode cL_put 253 = .ok (.iload 9, 2) := by decide +kernel
theorem dL_put_255 : decode cL_put 255 = .ok (.iadd, 1) := by decide +kernel
theorem dL_put_256 : decode cL_put 256 = .ok (.iload 10, 2) := by decide +kernel
theorem dL_put_258 : decode cL_put 258 = .ok (.iconst 3, 1) := by decide +kernel
theorem dL_put_259 : decode cL_put 259 = .ok (.invokestatic 15, 3) := by decide +kernel
theorem dL_put_262 : decode cL_put 262 = .ok (.iastore, 1) := by decide +kernel
theorem dL_put_263 : decode cL_put 263 = .ok (.aload 4, 2) := by decide +kernel
theorem dL_put_265 : decode cL_put 265 = .ok (.bipush 23, 2) := by decide +kernel
theorem dL_put_267 : decode cL_put 267 = .ok (.iload 9, 2) := by decide +kernel
theorem dL_put_269 : decode cL_put 269 = .ok (.iadd, 1) := by decide +kernel
theorem dL_put_270 : decode cL_put 270 = .ok (.iload 10, 2) := by decide +kernel
theorem dL_put_272 : decode cL_put 272 = .ok (.iconst 2, 1) := by decide +kernel
theorem dL_put_273 : decode cL_put 273 = .ok (.ishr, 1) := by decide +kernel
theorem dL_put_274 : decode cL_put 274 = .ok (.bipush 10, 2) := by decide +kernel
theorem dL_put_276 : decode cL_put 276 = .ok (.invokestatic 15, 3) := by decide +kernel
theorem dL_put_279 : decode cL_put 279 = .ok (.iastore, 1) := by decide +kernel
theorem dL_put_280 : decode cL_put 280 = .ok (.aload 4, 2) := by decide +kernel
theorem dL_put_282 : decode cL_put 282 = .ok (.bipush 30, 2) := by decide +kernel
theorem dL_put_284 : decode cL_put 284 = .ok (.iload 9, 2) := by decide +kernel
theorem dL_put_286 : decode cL_put 286 = .ok (.iadd, 1) := by decide +kernel
theorem dL_put_287 : decode cL_put 287 = .ok (.aload 4, 2) := by decide +kernel
theorem dL_put_289 : decode cL_put 289 = .ok (.bipush 16, 2) := by decide +kernel
theorem dL_put_291 : decode cL_put 291 = .ok (.iload 9, 2) := by decide +kernel
theorem dL_put_293 : decode cL_put 293 = .ok (.iadd, 1) := by decide +kernel
theorem dL_put_294 : decode cL_put 294 = .ok (.iaload, 1) := by decide +kernel
theorem dL_put_295 : decode cL_put 295 = .ok (.iconst 2, 1) := by decide +kernel
theorem dL_put_296 : decode cL_put 296 = .ok (.if_icmp .ne 15, 3) := by decide +kernel
theorem dL_put_299 : decode cL_put 299 = .ok (.iload 10, 2) := by decide +kernel
theorem dL_put_301 : decode cL_put 301 = .ok (.iconst 5, 1) := by decide +kernel
theorem dL_put_302 : decode cL_put 302 = .ok (.ishr, 1) := by decide +kernel
theorem dL_put_303 : decode cL_put 303 = .ok (.bipush 10, 2) := by decide +kernel
theorem dL_put_305 : decode cL_put 305 = .ok (.invokestatic 15, 3) := by decide +kernel
theorem dL_put_308 : decode cL_put 308 = .ok (.goto 4, 3) := by decide +kernel
theorem dL_put_311 : decode cL_put 311 = .ok (.iconst 0, 1) := by decide +kernel
theorem dL_put_312 : decode cL_put 312 = .ok (.iastore, 1) := by decide +kernel
theorem dL_put_313 : decode cL_put 313 = .ok (.aload 4, 2) := by decide +kernel
theorem dL_put_315 : decode cL_put 315 = .ok (.bipush 37, 2) := by decide +kernel
theorem dL_put_317 : decode cL_put 317 = .ok (.iload 9, 2) := by decide +kernel
theorem dL_put_319 : decode cL_put 319 = .ok (.iadd, 1) := by decide +kernel
theorem dL_put_320 : decode cL_put 320 = .ok (.iload 9, 2) := by decide +kernel
theorem dL_put_322 : decode cL_put 322 = .ok (.iastore, 1) := by decide +kernel
theorem dL_put_323 : decode cL_put 323 = .ok (.aload 4, 2) := by decide +kernel
theorem dL_put_325 : decode cL_put 325 = .ok (.bipush 44, 2) := by decide +kernel
theorem dL_put_327 : decode cL_put 327 = .ok (.iload 9, 2) := by decide +kernel
theorem dL_put_329 : decode cL_put 329 = .ok (.iadd, 1) := by decide +kernel
theorem dL_put_330 : decode cL_put 330 = .ok (.bipush (-8), 2) := by decide +kernel
theorem dL_put_332 : decode cL_put 332 = .ok (.iastore, 1) := by decide +kernel
theorem dL_put_333 : decode cL_put 333 = .ok (.aload_n 0, 1) := by decide +kernel
theorem dL_put_334 : decode cL_put 334 = .ok (.iconst 0, 1) := by decide +kernel
theorem dL_put_335 : decode cL_put 335 = .ok (.iload 8, 2) := by decide +kernel
theorem dL_put_337 : decode cL_put 337 = .ok (.iinc 8 1, 3) := by decide +kernel
theorem dL_put_340 : decode cL_put 340 = .ok (.bipush 59, 2) := by decide +kernel
theorem dL_put_342 : decode cL_put 342 = .ok (.invokevirtual 25, 3) := by decide +kernel
theorem dL_put_345 : decode cL_put 345 = .ok (.iconst 1, 1) := by decide +kernel
theorem dL_put_346 : decode cL_put 346 = .ok (.if_icmp .ne 77, 3) := by decide +kernel
theorem dL_put_349 : decode cL_put 349 = .ok (.aload_n 0, 1) := by decide +kernel
theorem dL_put_350 : decode cL_put 350 = .ok (.iconst 0, 1) := by decide +kernel
theorem dL_put_351 : decode cL_put 351 = .ok (.iload 8, 2) := by decide +kernel
theorem dL_put_353 : decode cL_put 353 = .ok (.iinc 8 1, 3) := by decide +kernel
theorem dL_put_356 : decode cL_put 356 = .ok (.aload 4, 2) := by decide +kernel
theorem dL_put_358 : decode cL_put 358 = .ok (.bipush 16, 2) := by decide +kernel
theorem dL_put_360 : decode cL_put 360 = .ok (.iload 9, 2) := by decide +kernel
theorem dL_put_362 : decode cL_put 362 = .ok (.iadd, 1) := by decide +kernel
theorem dL_put_363 : decode cL_put 363 = .ok (.iaload, 1) := by decide +kernel
theorem dL_put_364 : decode cL_put 364 = .ok (.ifCond .ne 8, 3) := by decide +kernel
theorem dL_put_367 : decode cL_put 367 = .ok (.bipush 107, 2) := by decide +kernel
theorem dL_put_369 : decode cL_put 369 = .ok (.goto 22, 3) := by decide +kernel
theorem dL_put_372 : decode cL_put 372 = .ok (.aload 4, 2) := by decide +kernel
theorem dL_put_374 : decode cL_put 374 = .ok (.bipush 16, 2) := by decide +kernel
theorem dL_put_376 : decode cL_put 376 = .ok (.iload 9, 2) := by decide +kernel
theorem dL_put_378 : decode cL_put 378 = .ok (.iadd, 1) := by decide +kernel
theorem dL_put_379 : decode cL_put 379 = .ok (.iaload, 1) := by decide +kernel
theorem dL_put_380 : decode cL_put 380 = .ok (.iconst 1, 1) := by decide +kernel
theorem dL_put_381 : decode cL_put 381 = .ok (.if_icmp .ne 8, 3) := by decide +kernel
theorem dL_put_384 : decode cL_put 384 = .ok (.bipush 99, 2) := by decide +kernel
theorem dL_put_386 : decode cL_put 386 = .ok (.goto 5, 3) := by decide +kernel
theorem dL_put_389 : decode cL_put 389 = .ok (.bipush 112, 2) := by decide +kernel
theorem dL_put_391 : decode cL_put 391 = .ok (.invokevirtual 25, 3) := by decide +kernel
theorem dL_put_394 : decode cL_put 394 = .ok (.iconst 1, 1) := by decide +kernel
theorem dL_put_395 : decode cL_put 395 = .ok (.if_icmp .ne 28, 3) := by decide +kernel
theorem dL_put_398 : decode cL_put 398 = .ok (.aload_n 0, 1) := by decide +kernel
theorem dL_put_399 : decode cL_put 399 = .ok (.iconst 0, 1) := by decide +kernel
theorem dL_put_400 : decode cL_put 400 = .ok (.iload 8, 2) := by decide +kernel
theorem dL_put_402 : decode cL_put 402 = .ok (.iinc 8 1, 3) := by decide +kernel
theorem dL_put_405 : decode cL_put 405 = .ok (.bipush 48, 2) := by decide +kernel
theorem dL_put_407 : decode cL_put 407 = .ok (.aload 4, 2) := by decide +kernel
theorem dL_put_409 : decode cL_put 409 = .ok (.bipush 23, 2) := by decide +kernel
theorem dL_put_411 : decode cL_put 411 = .ok (.iload 9, 2) := by decide +kernel
theorem dL_put_413 : decode cL_put 413 = .ok (.iadd, 1) := by decide +kernel
theorem dL_put_414 : decode cL_put 414 = .ok (.iaload, 1) := by decide +kernel
theorem dL_put_415 : decode cL_put 415 = .ok (.iadd, 1) := by decide +kernel
theorem dL_put_416 : decode cL_put 416 = .ok (.invokevirtual 25, 3) := by decide +kernel
theorem dL_put_419 : decode cL_put 419 = .ok (.iconst 1, 1) := by decide +kernel
theorem dL_put_420 : decode cL_put 420 = .ok (.if_icmp .eq 6, 3) := by decide +kernel
theorem dL_put_423 : decode cL_put 423 = .ok (.bipush (-99), 2) := by decide +kernel
theorem dL_put_425 : decode cL_put 425 = .ok (.ireturn, 1) := by decide +kernel
theorem dL_put_426 : decode cL_put 426 = .ok (.aload 4, 2) := by decide +kernel
theorem dL_put_428 : decode cL_put 428 = .ok (.bipush 16, 2) := by decide +kernel
theorem dL_put_430 : decode cL_put 430 = .ok (.iload 9, 2) := by decide +kernel
theorem dL_put_432 : decode cL_put 432 = .ok (.iadd, 1) := by decide +kernel
theorem dL_put_433 : decode cL_put 433 = .ok (.iaload, 1) := by decide +kernel
theorem dL_put_434 : decode cL_put 434 = .ok (.iconst 2, 1) := by decide +kernel
theorem dL_put_435 : decode cL_put 435 = .ok (.if_icmp .ne 31, 3) := by decide +kernel
theorem dL_put_438 : decode cL_put 438 = .ok (.aload_n 0, 1) := by decide +kernel
theorem dL_put_439 : decode cL_put 439 = .ok (.iconst 0, 1) := by decide +kernel
theorem dL_put_440 : decode cL_put 440 = .ok (.iload 8, 2) := by decide +kernel
theorem dL_put_442 : decode cL_put 442 = .ok (.iinc 8 1, 3) := by decide +kernel
theorem dL_put_445 : decode cL_put 445 = .ok (.bipush 48, 2) := by decide +kernel
theorem dL_put_447 : decode cL_put 447 = .ok (.aload 4, 2) := by decide +kernel
theorem dL_put_449 : decode cL_put 449 = .ok (.bipush 30, 2) := by decide +kernel
theorem dL_put_451 : decode cL_put 451 = .ok (.iload 9, 2) := by decide +kernel
theorem dL_put_453 : decode cL_put 453 = .ok (.iadd, 1) := by decide +kernel
theorem dL_put_454 : decode cL_put 454 = .ok (.iaload, 1) := by decide +kernel
theorem dL_put_455 : decode cL_put 455 = .ok (.iadd, 1) := by decide +kernel
theorem dL_put_456 : decode cL_put 456 = .ok (.invokevirtual 25, 3) := by decide +kernel
theorem dL_put_459 : decode cL_put 459 = .ok (.iconst 1, 1) := by decide +kernel
theorem dL_put_460 : decode cL_put 460 = .ok (.if_icmp .eq 6, 3) := by decide +kernel
theorem dL_put_463 : decode cL_put 463 = .ok (.bipush (-99), 2) := by decide +kernel
theorem dL_put_465 : decode cL_put 465 = .ok (.ireturn, 1) := by decide +kernel
theorem dL_put_466 : decode cL_put 466 = .ok (.iconst 0, 1) := by decide +kernel
theorem dL_put_467 : decode cL_put 467 = .ok (.istore 11, 2) := by decide +kernel
theorem dL_put_469 : decode cL_put 469 = .ok (.iconst 0, 1) := by decide +kernel
theorem dL_put_470 : decode cL_put 470 = .ok (.istore 12, 2) := by decide +kernel
theorem dL_put_472 : decode cL_put 472 = .ok (.iload 12, 2) := by decide +kernel
theorem dL_put_474 : decode cL_put 474 = .ok (.aload 4, 2) := by decide +kernel
theorem dL_put_476 : decode cL_put 476 = .ok (.iconst 1, 1) := by decide +kernel
theorem dL_put_477 : decode cL_put 477 = .ok (.iaload, 1) := by decide +kernel
theorem dL_put_478 : decode cL_put 478 = .ok (.if_icmp .ge 136, 3) := by decide +kernel
theorem dL_put_481 : decode cL_put 481 = .ok (.iload 10, 2) := by decide +kernel
theorem dL_put_483 : decode cL_put 483 = .ok (.bipush 8, 2) := by decide +kernel
theorem dL_put_485 : decode cL_put 485 = .ok (.iconst 3, 1) := by decide +kernel
theorem dL_put_486 : decode cL_put 486 = .ok (.iload 12, 2) := by decide +kernel
theorem dL_put_488 : decode cL_put 488 = .ok (.imul, 1) := by decide +kernel
theorem dL_put_489 : decode cL_put 489 = .ok (.iadd, 1) := by decide +kernel
theorem dL_put_490 : decode cL_put 490 = .ok (.ishr, 1) := by decide +kernel
theorem dL_put_491 : decode cL_put 491 = .ok (.istore 13, 2) := by decide +kernel
theorem dL_put_493 : decode cL_put 493 = .ok (.iload 13, 2) := by decide +kernel
theorem dL_put_495 : decode cL_put 495 = .ok (.iconst 5, 1) := by decide +kernel
theorem dL_put_496 : decode cL_put 496 = .ok (.invokestatic 15, 3) := by decide +kernel
theorem dL_put_499 : decode cL_put 499 = .ok (.ifCond .ne 23, 3) := by decide +kernel
theorem dL_put_502 : decode cL_put 502 = .ok (.iload 11, 2) := by decide +kernel
theorem dL_put_504 : decode cL_put 504 = .ok (.ifCond .ne 14, 3) := by decide +kernel
theorem dL_put_507 : decode cL_put 507 = .ok (.iload 12, 2) := by decide +kernel
theorem dL_put_509 : decode cL_put 509 = .ok (.aload 4, 2) := by decide +kernel
theorem dL_put_511 : decode cL_put 511 = .ok (.iconst 1, 1) := by decide +kernel
theorem dL_put_512 : decode cL_put 512 = .ok (.iaload, 1) := by decide +kernel
theorem dL_put_513 : decode cL_put 513 = .ok (.iconst 1, 1) := by decide +kernel
theorem dL_put_514 : decode cL_put 514 = .ok (.isub, 1) := by decide +kernel
theorem dL_put_515 : decode cL_put 515 = .ok (.if_icmp .ge 7, 3) := by decide +kernel
theorem dL_put_518 : decode cL_put 518 = .ok (.iconst (-1), 1) := by decide +kernel
theorem dL_put_519 : decode cL_put 519 = .ok (.goto 12, 3) := by decide +kernel
theorem dL_put_522 : decode cL_put 522 = .ok (.iload 13, 2) := by decide +kernel
theorem dL_put_524 : decode cL_put 524 = .ok (.iconst 1, 1) := by decide +kernel
theorem dL_put_525 : decode cL_put 525 = .ok (.ishr, 1) := by decide +kernel
theorem dL_put_526 : decode cL_put 526 = .ok (.bipush 10, 2) := by decide +kernel
theorem dL_put_528 : decode cL_put 528 = .ok (.invokestatic 15, 3) := by decide +kernel
theorem dL_put_531 : decode cL_put 531 = .ok (.istore 14, 2) := by decide +kernel
theorem dL_put_533 : decode cL_put 533 = .ok (.iload 11, 2) := by decide +kernel
theorem dL_put_535 : decode cL_put 535 = .ok (.ifCond .ne 8, 3) := by decide +kernel
theorem dL_put_538 : decode cL_put 538 = .ok (.iload 14, 2) := by decide +kernel
theorem dL_put_540 : decode cL_put 540 = .ok (.ifCond .lt 7, 3) := by decide +kernel
theorem dL_put_543 : decode cL_put 543 = .ok (.iconst 1, 1) := by decide +kernel
theorem dL_put_544 : decode cL_put 544 = .ok (.goto 4, 3) := by decide +kernel
theorem dL_put_547 : decode cL_put 547 = .ok (.iconst 0, 1) := by decide +kernel
theorem dL_put_548 : decode cL_put 548 = .ok (.istore 11, 2) := by decide +kernel
theorem dL_put_550 : decode cL_put 550 = .ok (.aload 5, 2) := by decide +kernel
theorem dL_put_552 : decode cL_put 552 = .ok (.bipush 6, 2) := by decide +kernel
theorem dL_put_554 : decode cL_put 554 = .ok (.iload 9, 2) := by decide +kernel
theorem dL_put_556 : decode cL_put 556 = .ok (.imul, 1) := by decide +kernel
theorem dL_put_557 : decode cL_put 557 = .ok (.iload 12, 2) := by decide +kernel
theorem dL_put_559 : decode cL_put 559 = .ok (.iadd, 1) := by decide +kernel
theorem dL_put_560 : decode cL_put 560 = .ok (.iload 14, 2) := by decide +kernel
theorem dL_put_562 : decode cL_put 562 = .ok (.iastore, 1) := by decide +kernel
theorem dL_put_563 : decode cL_put 563 = .ok (.aload 6, 2) := by decide +kernel
theorem dL_put_565 : decode cL_put 565 = .ok (.bipush 6, 2) := by decide +kernel
theorem dL_put_567 : decode cL_put 567 = .ok (.iload 9, 2) := by decide +kernel
theorem dL_put_569 : decode cL_put 569 = .ok (.imul, 1) := by decide +kernel
theorem dL_put_570 : decode cL_put 570 = .ok (.iload 12, 2) := by decide +kernel
theorem dL_put_572 : decode cL_put 572 = .ok (.iadd, 1) := by decide +kernel
theorem dL_put_573 : decode cL_put 573 = .ok (.iload 14, 2) := by decide +kernel
theorem dL_put_575 : decode cL_put 575 = .ok (.iastore, 1) := by decide +kernel
theorem dL_put_576 : decode cL_put 576 = .ok (.aload_n 0, 1) := by decide +kernel
theorem dL_put_577 : decode cL_put 577 = .ok (.iconst 0, 1) := by decide +kernel
theorem dL_put_578 : decode cL_put 578 = .ok (.iload 8, 2) := by decide +kernel
theorem dL_put_580 : decode cL_put 580 = .ok (.iinc 8 1, 3) := by decide +kernel
theorem dL_put_583 : decode cL_put 583 = .ok (.iload 14, 2) := by decide +kernel
theorem dL_put_585 : decode cL_put 585 = .ok (.ifCond .ge 8, 3) := by decide +kernel
theorem dL_put_588 : decode cL_put 588 = .ok (.bipush 120, 2) := by decide +kernel
theorem dL_put_590 : decode cL_put 590 = .ok (.goto 8, 3) := by decide +kernel
theorem dL_put_593 : decode cL_put 593 = .ok (.bipush 48, 2) := by decide +kernel
theorem dL_put_595 : decode cL_put 595 = .ok (.iload 14, 2) := by decide +kernel
theorem dL_put_597 : decode cL_put 597 = .ok (.iadd, 1) := by decide +kernel
theorem dL_put_598 : decode cL_put 598 = .ok (.invokevirtual 25, 3) := by decide +kernel
theorem dL_put_601 : decode cL_put 601 = .ok (.iconst 1, 1) := by decide +kernel
theorem dL_put_602 : decode cL_put 602 = .ok (.if_icmp .eq 6, 3) := by decide +kernel
theorem dL_put_605 : decode cL_put 605 = .ok (.bipush (-99), 2) := by decide +kernel
theorem dL_put_607 : decode cL_put 607 = .ok (.ireturn, 1) := by decide +kernel
theorem dL_put_608 : decode cL_put 608 = .ok (.iinc 12 1, 3) := by decide +kernel
theorem dL_put_611 : decode cL_put 611 = .ok (.goto (-139), 3) := by decide +kernel
theorem dL_put_614 : decode cL_put 614 = .ok (.iinc 9 1, 3) := by decide +kernel
theorem dL_put_617 : decode cL_put 617 = .ok (.goto (-389), 3) := by decide +kernel
theorem dL_put_620 : decode cL_put 620 = .ok (.iload 8, 2) := by decide +kernel
theorem dL_put_622 : decode cL_put 622 = .ok (.ireturn, 1) := by decide +kernel
theorem dL_change_0 : decode cL_change 0 = .ok (.iconst 1, 1) := by decide +kernel
theorem dL_change_1 : decode cL_change 1 = .ok (.iload_n 1, 1) := by decide +kernel
theorem dL_change_2 : decode cL_change 2 = .ok (.aload_n 2, 1) := by decide +kernel
theorem dL_change_3 : decode cL_change 3 = .ok (.iconst 0, 1) := by decide +kernel
theorem dL_change_4 : decode cL_change 4 = .ok (.iaload, 1) := by decide +kernel
theorem dL_change_5 : decode cL_change 5 = .ok (.iconst 1, 1) := by decide +kernel
theorem dL_change_6 : decode cL_change 6 = .ok (.isub, 1) := by decide +kernel
theorem dL_change_7 : decode cL_change 7 = .ok (.invokestatic 15, 3) := by decide +kernel
theorem dL_change_10 : decode cL_change 10 = .ok (.iadd, 1) := by decide +kernel
theorem dL_change_11 : decode cL_change 11 = .ok (.istore 5, 2) := by decide +kernel
theorem dL_change_13 : decode cL_change 13 = .ok (.iconst 1, 1) := by decide +kernel
theorem dL_change_14 : decode cL_change 14 = .ok (.iload_n 1, 1) := by decide +kernel
theorem dL_change_15 : decode cL_change 15 = .ok (.iconst 3, 1) := by decide +kernel
theorem dL_change_16 : decode cL_change 16 = .ok (.ishr, 1) := by decide +kernel
theorem dL_change_17 : decode cL_change 17 = .ok (.iload_n 1, 1) := by decide +kernel
theorem dL_change_18 : decode cL_change 18 = .ok (.bipush 7, 2) := by decide +kernel
theorem dL_change_20 : decode cL_change 20 = .ok (.ishr, 1) := by decide +kernel
theorem dL_change_21 : decode cL_change 21 = .ok (.iconst 3, 1) := by decide +kernel
theorem dL_change_22 : decode cL_change 22 = .ok (.invokestatic 15, 3) := by decide +kernel
theorem dL_change_25 : decode cL_change 25 = .ok (.ifCond .ne 8, 3) := by decide +kernel
theorem dL_change_28 : decode cL_change 28 = .ok (.bipush 8, 2) := by decide +kernel
theorem dL_change_30 : decode cL_change 30 = .ok (.goto 4, 3) := by decide +kernel
theorem dL_change_33 : decode cL_change 33 = .ok (.iconst 3, 1) := by decide +kernel
theorem dL_change_34 : decode cL_change 34 = .ok (.invokestatic 15, 3) := by decide +kernel
theorem dL_change_37 : decode cL_change 37 = .ok (.iadd, 1) := by decide +kernel
theorem dL_change_38 : decode cL_change 38 = .ok (.istore 6, 2) := by decide +kernel
theorem dL_change_40 : decode cL_change 40 = .ok (.aload_n 0, 1) := by decide +kernel
theorem dL_change_41 : decode cL_change 41 = .ok (.iload 5, 2) := by decide +kernel
theorem dL_change_43 : decode cL_change 43 = .ok (.invokevirtual 28, 3) := by decide +kernel
theorem dL_change_46 : decode cL_change 46 = .ok (.aload_n 2, 1) := by decide +kernel
theorem dL_change_47 : decode cL_change 47 = .ok (.iconst 2, 1) := by decide +kernel
theorem dL_change_48 : decode cL_change 48 = .ok (.iaload, 1) := by decide +kernel
theorem dL_change_49 : decode cL_change 49 = .ok (.if_icmp .ne 15, 3) := by decide +kernel
theorem dL_change_52 : decode cL_change 52 = .ok (.aload_n 0, 1) := by decide +kernel
theorem dL_change_53 : decode cL_change 53 = .ok (.iload 6, 2) := by decide +kernel
theorem dL_change_55 : decode cL_change 55 = .ok (.invokevirtual 32, 3) := by decide +kernel
theorem dL_change_58 : decode cL_change 58 = .ok (.aload_n 2, 1) := by decide +kernel
theorem dL_change_59 : decode cL_change 59 = .ok (.iconst 3, 1) := by decide +kernel
theorem dL_change_60 : decode cL_change 60 = .ok (.iaload, 1) := by decide +kernel
theorem dL_change_61 : decode cL_change 61 = .ok (.if_icmp .eq 5, 3) := by decide +kernel
theorem dL_change_64 : decode cL_change 64 = .ok (.iconst 0, 1) := by decide +kernel
theorem dL_change_65 : decode cL_change 65 = .ok (.ireturn, 1) := by decide +kernel
theorem dL_change_66 : decode cL_change 66 = .ok (.aload_n 2, 1) := by decide +kernel
theorem dL_change_67 : decode cL_change 67 = .ok (.iconst 2, 1) := by decide +kernel
theorem dL_change_68 : decode cL_change 68 = .ok (.iload 5, 2) := by decide +kernel
theorem dL_change_70 : decode cL_change 70 = .ok (.iastore, 1) := by decide +kernel
theorem dL_change_71 : decode cL_change 71 = .ok (.aload_n 2, 1) := by decide +kernel
theorem dL_change_72 : decode cL_change 72 = .ok (.iconst 3, 1) := by decide +kernel
theorem dL_change_73 : decode cL_change 73 = .ok (.iload 6, 2) := by decide +kernel
theorem dL_change_75 : decode cL_change 75 = .ok (.iastore, 1) := by decide +kernel
theorem dL_change_76 : decode cL_change 76 = .ok (.iload_n 1, 1) := by decide +kernel
theorem dL_change_77 : decode cL_change 77 = .ok (.bipush 8, 2) := by decide +kernel
theorem dL_change_79 : decode cL_change 79 = .ok (.ishr, 1) := by decide +kernel
theorem dL_change_80 : decode cL_change 80 = .ok (.aload_n 2, 1) := by decide +kernel
theorem dL_change_81 : decode cL_change 81 = .ok (.iconst 0, 1) := by decide +kernel
theorem dL_change_82 : decode cL_change 82 = .ok (.iaload, 1) := by decide +kernel
theorem dL_change_83 : decode cL_change 83 = .ok (.invokestatic 15, 3) := by decide +kernel
theorem dL_change_86 : decode cL_change 86 = .ok (.istore 7, 2) := by decide +kernel
theorem dL_change_88 : decode cL_change 88 = .ok (.iload_n 1, 1) := by decide +kernel
theorem dL_change_89 : decode cL_change 89 = .ok (.bipush 11, 2) := by decide +kernel
theorem dL_change_91 : decode cL_change 91 = .ok (.ishr, 1) := by decide +kernel
theorem dL_change_92 : decode cL_change 92 = .ok (.aload_n 2, 1) := by decide +kernel
theorem dL_change_93 : decode cL_change 93 = .ok (.iconst 0, 1) := by decide +kernel
theorem dL_change_94 : decode cL_change 94 = .ok (.iaload, 1) := by decide +kernel
theorem dL_change_95 : decode cL_change 95 = .ok (.invokestatic 15, 3) := by decide +kernel
theorem dL_change_98 : decode cL_change 98 = .ok (.istore 8, 2) := by decide +kernel
theorem dL_change_100 : decode cL_change 100 = .ok (.aload_n 0, 1) := by decide +kernel
theorem dL_change_101 : decode cL_change 101 = .ok (.iload 7, 2) := by decide +kernel
theorem dL_change_103 : decode cL_change 103 = .ok (.iload 8, 2) := by decide +kernel
theorem dL_change_105 : decode cL_change 105 = .ok (.invokevirtual 35, 3) := by decide +kernel
theorem dL_change_108 : decode cL_change 108 = .ok (.iconst 1, 1) := by decide +kernel
theorem dL_change_109 : decode cL_change 109 = .ok (.if_icmp .eq 5, 3) := by decide +kernel
theorem dL_change_112 : decode cL_change 112 = .ok (.iconst 0, 1) := by decide +kernel
theorem dL_change_113 : decode cL_change 113 = .ok (.ireturn, 1) := by decide +kernel
theorem dL_change_114 : decode cL_change 114 = .ok (.iconst 0, 1) := by decide +kernel
theorem dL_change_115 : decode cL_change 115 = .ok (.istore 9, 2) := by decide +kernel
theorem dL_change_117 : decode cL_change 117 = .ok (.iload 9, 2) := by decide +kernel
theorem dL_change_119 : decode cL_change 119 = .ok (.aload_n 2, 1) := by decide +kernel
theorem dL_change_120 : decode cL_change 120 = .ok (.iconst 0, 1) := by decide +kernel
theorem dL_change_121 : decode cL_change 121 = .ok (.iaload, 1) := by decide +kernel
theorem dL_change_122 : decode cL_change 122 = .ok (.if_icmp .ge 57, 3) := by decide +kernel
theorem dL_change_125 : decode cL_change 125 = .ok (.aload_n 2, 1) := by decide +kernel
theorem dL_change_126 : decode cL_change 126 = .ok (.bipush 37, 2) := by decide +kernel
theorem dL_change_128 : decode cL_change 128 = .ok (.iload 9, 2) := by decide +kernel
theorem dL_change_130 : decode cL_change 130 = .ok (.iadd, 1) := by decide +kernel
theorem dL_change_131 : decode cL_change 131 = .ok (.aload_n 2, 1) := by decide +kernel
theorem dL_change_132 : decode cL_change 132 = .ok (.bipush 37, 2) := by decide +kernel
theorem dL_change_134 : decode cL_change 134 = .ok (.iload 9, 2) := by decide +kernel
theorem dL_change_136 : decode cL_change 136 = .ok (.iadd, 1) := by decide +kernel
theorem dL_change_137 : decode cL_change 137 = .ok (.iaload, 1) := by decide +kernel
theorem dL_change_138 : decode cL_change 138 = .ok (.iload 7, 2) := by decide +kernel
theorem dL_change_140 : decode cL_change 140 = .ok (.if_icmp .ne 8, 3) := by decide +kernel
theorem dL_change_143 : decode cL_change 143 = .ok (.iload 8, 2) := by decide +kernel
theorem dL_change_145 : decode cL_change 145 = .ok (.goto 27, 3) := by decide +kernel
theorem dL_change_148 : decode cL_change 148 = .ok (.aload_n 2, 1) := by decide +kernel
theorem dL_change_149 : decode cL_change 149 = .ok (.bipush 37, 2) := by decide +kernel
theorem dL_change_151 : decode cL_change 151 = .ok (.iload 9, 2) := by decide +kernel
theorem dL_change_153 : decode cL_change 153 = .ok (.iadd, 1) := by decide +kernel
theorem dL_change_154 : decode cL_change 154 = .ok (.iaload, 1) := by decide +kernel
theorem dL_change_155 : decode cL_change 155 = .ok (.iload 8, 2) := by decide +kernel
theorem dL_change_157 : decode cL_change 157 = .ok (.if_icmp .ne 8, 3) := by decide +kernel
theorem dL_change_160 : decode cL_change 160 = .ok (.iload 7, 2) := by decide +kernel
theorem dL_change_162 : decode cL_change 162 = .ok (.goto 10, 3) := by decide +kernel
theorem dL_change_165 : decode cL_change 165 = .ok (.aload_n 2, 1) := by decide +kernel
theorem dL_change_166 : decode cL_change 166 = .ok (.bipush 37, 2) := by decide +kernel
theorem dL_change_168 : decode cL_change 168 = .ok (.iload 9, 2) := by decide +kernel
theorem dL_change_170 : decode cL_change 170 = .ok (.iadd, 1) := by decide +kernel
theorem dL_change_171 : decode cL_change 171 = .ok (.iaload, 1) := by decide +kernel
theorem dL_change_172 : decode cL_change 172 = .ok (.iastore, 1) := by decide +kernel
theorem dL_change_173 : decode cL_change 173 = .ok (.iinc 9 1, 3) := by decide +kernel
theorem dL_change_176 : decode cL_change 176 = .ok (.goto (-59), 3) := by decide +kernel
theorem dL_change_179 : decode cL_change 179 = .ok (.iload_n 1, 1) := by decide +kernel
theorem dL_change_180 : decode cL_change 180 = .ok (.bipush 14, 2) := by decide +kernel
theorem dL_change_182 : decode cL_change 182 = .ok (.ishr, 1) := by decide +kernel
theorem dL_change_183 : decode cL_change 183 = .ok (.aload_n 2, 1) := by decide +kernel
theorem dL_change_184 : decode cL_change 184 = .ok (.iconst 1, 1) := by decide +kernel
theorem dL_change_185 : decode cL_change 185 = .ok (.iaload, 1) := by decide +kernel
theorem dL_change_186 : decode cL_change 186 = .ok (.invokestatic 15, 3) := by decide +kernel
theorem dL_change_189 : decode cL_change 189 = .ok (.istore 9, 2) := by decide +kernel
theorem dL_change_191 : decode cL_change 191 = .ok (.iload_n 1, 1) := by decide +kernel
theorem dL_change_192 : decode cL_change 192 = .ok (.bipush 17, 2) := by decide +kernel
theorem dL_change_194 : decode cL_change 194 = .ok (.ishr, 1) := by decide +kernel
theorem dL_change_195 : decode cL_change 195 = .ok (.bipush 10, 2) := by decide +kernel
theorem dL_change_197 : decode cL_change 197 = .ok (.invokestatic 15, 3) := by decide +kernel
theorem dL_change_200 : decode cL_change 200 = .ok (.istore 10, 2) := by decide +kernel
theorem dL_change_202 : decode cL_change 202 = .ok (.aload_n 0, 1) := by decide +kernel
theorem dL_change_203 : decode cL_change 203 = .ok (.iload 7, 2) := by decide +kernel
theorem dL_change_205 : decode cL_change 205 = .ok (.iload 9, 2) := by decide +kernel
theorem dL_change_207 : decode cL_change 207 = .ok (.iload 10, 2) := by decide +kernel
theorem dL_change_209 : decode cL_change 209 = .ok (.invokevirtual 38, 3) := by decide +kernel
theorem dL_change_212 : decode cL_change 212 = .ok (.aload_n 3, 1) := by decide +kernel
theorem dL_change_213 : decode cL_change 213 = .ok (.bipush 6, 2) := by decide +kernel
theorem dL_change_215 : decode cL_change 215 = .ok (.iload 7, 2) := by decide +kernel
theorem dL_change_217 : decode cL_change 217 = .ok (.imul, 1) := by decide +kernel
theorem dL_change_218 : decode cL_change 218 = .ok (.iload 9, 2) := by decide +kernel
theorem dL_change_220 : decode cL_change 220 = .ok (.iadd, 1) := by decide +kernel
theorem dL_change_221 : decode cL_change 221 = .ok (.iaload, 1) := by decide +kernel
theorem dL_change_222 : decode cL_change 222 = .ok (.ifCond .ge 8, 3) := by decide +kernel
theorem dL_change_225 : decode cL_change 225 = .ok (.bipush (-3), 2) := by decide +kernel
theorem dL_change_227 : decode cL_change 227 = .ok (.goto 14, 3) := by decide +kernel
theorem dL_change_230 : decode cL_change 230 = .ok (.aload 4, 2) := by decide +kernel
theorem dL_change_232 : decode cL_change 232 = .ok (.bipush 6, 2) := by decide +kernel
theorem dL_change_234 : decode cL_change 234 = .ok (.iload 7, 2) := by decide +kernel
theorem dL_change_236 : decode cL_change 236 = .ok (.imul, 1) := by decide +kernel
theorem dL_change_237 : decode cL_change 237 = .ok (.iload 9, 2) := by decide +kernel
theorem dL_change_239 : decode cL_change 239 = .ok (.iadd, 1) := by decide +kernel
theorem dL_change_240 : decode cL_change 240 = .ok (.iaload, 1) := by decide +kernel
theorem dL_change_241 : decode cL_change 241 = .ok (.if_icmp .eq 5, 3) := by decide +kernel
theorem dL_change_244 : decode cL_change 244 = .ok (.iconst 0, 1) := by decide +kernel
theorem dL_change_245 : decode cL_change 245 = .ok (.ireturn, 1) := by decide +kernel
theorem dL_change_246 : decode cL_change 246 = .ok (.aload 4, 2) := by decide +kernel
theorem dL_change_248 : decode cL_change 248 = .ok (.bipush 6, 2) := by decide +kernel
theorem dL_change_250 : decode cL_change 250 = .ok (.iload 7, 2) := by decide +kernel
theorem dL_change_252 : decode cL_change 252 = .ok (.imul, 1) := by decide +kernel
theorem dL_change_253 : decode cL_change 253 = .ok (.iload 9, 2) := by decide +kernel
theorem dL_change_255 : decode cL_change 255 = .ok (.iadd, 1) := by decide +kernel
theorem dL_change_256 : decode cL_change 256 = .ok (.aload_n 3, 1) := by decide +kernel
theorem dL_change_257 : decode cL_change 257 = .ok (.bipush 6, 2) := by decide +kernel
theorem dL_change_259 : decode cL_change 259 = .ok (.iload 7, 2) := by decide +kernel
theorem dL_change_261 : decode cL_change 261 = .ok (.imul, 1) := by decide +kernel
theorem dL_change_262 : decode cL_change 262 = .ok (.iload 9, 2) := by decide +kernel
theorem dL_change_264 : decode cL_change 264 = .ok (.iadd, 1) := by decide +kernel
theorem dL_change_265 : decode cL_change 265 = .ok (.iaload, 1) := by decide +kernel
theorem dL_change_266 : decode cL_change 266 = .ok (.ifCond .ge 7, 3) := by decide +kernel
theorem dL_change_269 : decode cL_change 269 = .ok (.iconst (-1), 1) := by decide +kernel
theorem dL_change_270 : decode cL_change 270 = .ok (.goto 5, 3) := by decide +kernel
theorem dL_change_273 : decode cL_change 273 = .ok (.iload 10, 2) := by decide +kernel
theorem dL_change_275 : decode cL_change 275 = .ok (.iastore, 1) := by decide +kernel
theorem dL_change_276 : decode cL_change 276 = .ok (.iconst 1, 1) := by decide +kernel
theorem dL_change_277 : decode cL_change 277 = .ok (.ireturn, 1) := by decide +kernel
theorem dL_truly_0 : decode cL_truly 0 = .ok (.iload_n 2, 1) := by decide +kernel
theorem dL_truly_1 : decode cL_truly 1 = .ok (.ifCond .ge 7, 3) := by decide +kernel
theorem dL_truly_4 : decode cL_truly 4 = .ok (.iconst 0, 1) := by decide +kernel
theorem dL_truly_5 : decode cL_truly 5 = .ok (.goto 11, 3) := by decide +kernel
theorem dL_truly_8 : decode cL_truly 8 = .ok (.aload_n 0, 1) := by decide +kernel
theorem dL_truly_9 : decode cL_truly 9 = .ok (.bipush 6, 2) := by decide +kernel
theorem dL_truly_11 : decode cL_truly 11 = .ok (.iload_n 1, 1) := by decide +kernel
theorem dL_truly_12 : decode cL_truly 12 = .ok (.imul, 1) := by decide +kernel
theorem dL_truly_13 : decode cL_truly 13 = .ok (.iload_n 2, 1) := by decide +kernel
theorem dL_truly_14 : decode cL_truly 14 = .ok (.iadd, 1) := by decide +kernel
theorem dL_truly_15 : decode cL_truly 15 = .ok (.iaload, 1) := by decide +kernel
theorem dL_truly_16 : decode cL_truly 16 = .ok (.ireturn, 1) := by decide +kernel
theorem dL_night_0 : decode cL_night 0 = .ok (.bipush 6, 2) := by decide +kernel
theorem dL_night_2 : decode cL_night 2 = .ok (.newarray .int, 2) := by decide +kernel
theorem dL_night_4 : decode cL_night 4 = .ok (.astore 7, 2) := by decide +kernel
theorem dL_night_6 : decode cL_night 6 = .ok (.iconst 0, 1) := by decide +kernel
theorem dL_night_7 : decode cL_night 7 = .ok (.istore 8, 2) := by decide +kernel
theorem dL_night_9 : decode cL_night 9 = .ok (.iload 8, 2) := by decide +kernel
theorem dL_night_11 : decode cL_night 11 = .ok (.aload_n 0, 1) := by decide +kernel
theorem dL_night_12 : decode cL_night 12 = .ok (.iconst 1, 1) := by decide +kernel
theorem dL_night_13 : decode cL_night 13 = .ok (.iaload, 1) := by decide +kernel
theorem dL_night_14 : decode cL_night 14 = .ok (.if_icmp .ge 20, 3) := by decide +kernel
theorem dL_night_17 : decode cL_night 17 = .ok (.aload 7, 2) := by decide +kernel
theorem dL_night_19 : decode cL_night 19 = .ok (.iload 8, 2) := by decide +kernel
theorem dL_night_21 : decode cL_night 21 = .ok (.aload_n 0, 1) := by decide +kernel
theorem dL_night_22 : decode cL_night 22 = .ok (.iconst 4, 1) := by decide +kernel
theorem dL_night_23 : decode cL_night 23 = .ok (.iload 8, 2) := by decide +kernel
theorem dL_night_25 : decode cL_night 25 = .ok (.iadd, 1) := by decide +kernel
theorem dL_night_26 : decode cL_night 26 = .ok (.iaload, 1) := by decide +kernel
theorem dL_night_27 : decode cL_night 27 = .ok (.iastore, 1) := by decide +kernel
theorem dL_night_28 : decode cL_night 28 = .ok (.iinc 8 1, 3) := by decide +kernel
theorem dL_night_31 : decode cL_night 31 = .ok (.goto (-22), 3) := by decide +kernel
theorem dL_night_34 : decode cL_night 34 = .ok (.iconst 0, 1) := by decide +kernel
theorem dL_night_35 : decode cL_night 35 = .ok (.istore 8, 2) := by decide +kernel
theorem dL_night_37 : decode cL_night 37 = .ok (.iload 8, 2) := by decide +kernel
theorem dL_night_39 : decode cL_night 39 = .ok (.bipush 14, 2) := by decide +kernel
theorem dL_night_41 : decode cL_night 41 = .ok (.if_icmp .ge 15, 3) := by decide +kernel
theorem dL_night_44 : decode cL_night 44 = .ok (.aload 5, 2) := by decide +kernel
theorem dL_night_46 : decode cL_night 46 = .ok (.iload 8, 2) := by decide +kernel
theorem dL_night_48 : decode cL_night 48 = .ok (.iconst 0, 1) := by decide +kernel
theorem dL_night_49 : decode cL_night 49 = .ok (.iastore, 1) := by decide +kernel
theorem dL_night_50 : decode cL_night 50 = .ok (.iinc 8 1, 3) := by decide +kernel
theorem dL_night_53 : decode cL_night 53 = .ok (.goto (-16), 3) := by decide +kernel
theorem dL_night_56 : decode cL_night 56 = .ok (.iconst 0, 1) := by decide +kernel
theorem dL_night_57 : decode cL_night 57 = .ok (.istore 8, 2) := by decide +kernel
theorem dL_night_59 : decode cL_night 59 = .ok (.iload 8, 2) := by decide +kernel
theorem dL_night_61 : decode cL_night 61 = .ok (.aload_n 0, 1) := by decide +kernel
theorem dL_night_62 : decode cL_night 62 = .ok (.iconst 3, 1) := by decide +kernel
theorem dL_night_63 : decode cL_night 63 = .ok (.iaload, 1) := by decide +kernel
theorem dL_night_64 : decode cL_night 64 = .ok (.if_icmp .ge 380, 3) := by decide +kernel
theorem dL_night_67 : decode cL_night 67 = .ok (.iconst 0, 1) := by decide +kernel
theorem dL_night_68 : decode cL_night 68 = .ok (.istore 9, 2) := by decide +kernel
theorem dL_night_70 : decode cL_night 70 = .ok (.iload 9, 2) := by decide +kernel
theorem dL_night_72 : decode cL_night 72 = .ok (.iload_n 3, 1) := by decide +kernel
theorem dL_night_73 : decode cL_night 73 = .ok (.if_icmp .ge 365, 3) := by decide +kernel
theorem dL_night_76 : decode cL_night 76 = .ok (.aload_n 0, 1) := by decide +kernel
theorem dL_night_77 : decode cL_night 77 = .ok (.bipush 37, 2) := by decide +kernel
theorem dL_night_79 : decode cL_night 79 = .ok (.iload 9, 2) := by decide +kernel
theorem dL_night_81 : decode cL_night 81 = .ok (.iadd, 1) := by decide +kernel
theorem dL_night_82 : decode cL_night 82 = .ok (.iaload, 1) := by decide +kernel
theorem dL_night_83 : decode cL_night 83 = .ok (.istore 10, 2) := by decide +kernel
theorem dL_night_85 : decode cL_night 85 = .ok (.aload_n 0, 1) := by decide +kernel
theorem dL_night_86 : decode cL_night 86 = .ok (.bipush 37, 2) := by decide +kernel
theorem dL_night_88 : decode cL_night 88 = .ok (.iload 9, 2) := by decide +kernel
theorem dL_night_90 : decode cL_night 90 = .ok (.aload_n 0, 1) := by decide +kernel
theorem dL_night_91 : decode cL_night 91 = .ok (.iconst 2, 1) := by decide +kernel
theorem dL_night_92 : decode cL_night 92 = .ok (.iaload, 1) := by decide +kernel
theorem dL_night_93 : decode cL_night 93 = .ok (.iadd, 1) := by decide +kernel
theorem dL_night_94 : decode cL_night 94 = .ok (.iload_n 3, 1) := by decide +kernel
theorem dL_night_95 : decode cL_night 95 = .ok (.irem, 1) := by decide +kernel
theorem dL_night_96 : decode cL_night 96 = .ok (.iadd, 1) := by decide +kernel
theorem dL_night_97 : decode cL_night 97 = .ok (.iaload, 1) := by decide +kernel
theorem dL_night_98 : decode cL_night 98 = .ok (.istore 11, 2) := by decide +kernel
theorem dL_night_100 : decode cL_night 100 = .ok (.iload 8, 2) := by decide +kernel
theorem dL_night_102 : decode cL_night 102 = .ok (.ifCond .ne 10, 3) := by decide +kernel
theorem dL_night_105 : decode cL_night 105 = .ok (.iload 4, 2) := by decide +kernel
theorem dL_night_107 : decode cL_night 107 = .ok (.iload 10, 2) := by decide +kernel
theorem dL_night_109 : decode cL_night 109 = .ok (.if_icmp .eq 49, 3) := by decide +kernel
theorem dL_night_112 : decode cL_night 112 = .ok (.aload_n 0, 1) := by decide +kernel
theorem dL_night_113 : decode cL_night 113 = .ok (.bipush 16, 2) := by decide +kernel
theorem dL_night_115 : decode cL_night 115 = .ok (.iload 10, 2) := by decide +kernel
theorem dL_night_117 : decode cL_night 117 = .ok (.iadd, 1) := by decide +kernel
theorem dL_night_118 : decode cL_night 118 = .ok (.iaload, 1) := by decide +kernel
theorem dL_night_119 : decode cL_night 119 = .ok (.iconst 2, 1) := by decide +kernel
theorem dL_night_120 : decode cL_night 120 = .ok (.if_icmp .ne 42, 3) := by decide +kernel
theorem dL_night_123 : decode cL_night 123 = .ok (.aload_n 0, 1) := by decide +kernel
theorem dL_night_124 : decode cL_night 124 = .ok (.bipush 44, 2) := by decide +kernel
theorem dL_night_126 : decode cL_night 126 = .ok (.iload 10, 2) := by decide +kernel
theorem dL_night_128 : decode cL_night 128 = .ok (.iadd, 1) := by decide +kernel
theorem dL_night_129 : decode cL_night 129 = .ok (.iaload, 1) := by decide +kernel
theorem dL_night_130 : decode cL_night 130 = .ok (.bipush (-8), 2) := by decide +kernel
theorem dL_night_132 : decode cL_night 132 = .ok (.if_icmp .eq 30, 3) := by decide +kernel
theorem dL_night_135 : decode cL_night 135 = .ok (.aload_n 1, 1) := by decide +kernel
theorem dL_night_136 : decode cL_night 136 = .ok (.iload 10, 2) := by decide +kernel
theorem dL_night_138 : decode cL_night 138 = .ok (.aload_n 0, 1) := by decide +kernel
theorem dL_night_139 : decode cL_night 139 = .ok (.bipush 44, 2) := by decide +kernel
theorem dL_night_141 : decode cL_night 141 = .ok (.iload 10, 2) := by decide +kernel
theorem dL_night_143 : decode cL_night 143 = .ok (.iadd, 1) := by decide +kernel
theorem dL_night_144 : decode cL_night 144 = .ok (.iaload, 1) := by decide +kernel
theorem dL_night_145 : decode cL_night 145 = .ok (.invokestatic 41, 3) := by decide +kernel
theorem dL_night_148 : decode cL_night 148 = .ok (.aload_n 0, 1) := by decide +kernel
theorem dL_night_149 : decode cL_night 149 = .ok (.bipush 30, 2) := by decide +kernel
theorem dL_night_151 : decode cL_night 151 = .ok (.iload 10, 2) := by decide +kernel
theorem dL_night_153 : decode cL_night 153 = .ok (.iadd, 1) := by decide +kernel
theorem dL_night_154 : decode cL_night 154 = .ok (.iaload, 1) := by decide +kernel
theorem dL_night_155 : decode cL_night 155 = .ok (.if_icmp .ge 7, 3) := by decide +kernel
theorem dL_night_158 : decode cL_night 158 = .ok (.iconst 1, 1) := by decide +kernel
theorem dL_night_159 : decode cL_night 159 = .ok (.goto 4, 3) := by decide +kernel
theorem dL_night_162 : decode cL_night 162 = .ok (.iconst 0, 1) := by decide +kernel
theorem dL_night_163 : decode cL_night 163 = .ok (.istore 12, 2) := by decide +kernel
theorem dL_night_165 : decode cL_night 165 = .ok (.bipush (-9), 2) := by decide +kernel
theorem dL_night_167 : decode cL_night 167 = .ok (.istore 13, 2) := by decide +kernel
theorem dL_night_169 : decode cL_night 169 = .ok (.iconst 0, 1) := by decide +kernel
theorem dL_night_170 : decode cL_night 170 = .ok (.istore 14, 2) := by decide +kernel
theorem dL_night_172 : decode cL_night 172 = .ok (.iconst 0, 1) := by decide +kernel
theorem dL_night_173 : decode cL_night 173 = .ok (.istore 15, 2) := by decide +kernel
theorem dL_night_175 : decode cL_night 175 = .ok (.iload 15, 2) := by decide +kernel
theorem dL_night_177 : decode cL_night 177 = .ok (.aload_n 0, 1) := by decide +kernel
theorem dL_night_178 : decode cL_night 178 = .ok (.iconst 1, 1) := by decide +kernel
theorem dL_night_179 : decode cL_night 179 = .ok (.iaload, 1) := by decide +kernel
theorem dL_night_180 : decode cL_night 180 = .ok (.if_icmp .ge 152, 3) := by decide +kernel
theorem dL_night_183 : decode cL_night 183 = .ok (.aload 7, 2) := by decide +kernel
theorem dL_night_185 : decode cL_night 185 = .ok (.iload 15, 2) := by decide +kernel
theorem dL_night_187 : decode cL_night 187 = .ok (.iaload, 1) := by decide +kernel
theorem dL_night_188 : decode cL_night 188 = .ok (.ifCond .eq 138, 3) := by decide +kernel
theorem dL_night_191 : decode cL_night 191 = .ok (.aload_n 1, 1) := by decide +kernel
theorem dL_night_192 : decode cL_night 192 = .ok (.bipush 6, 2) := by decide +kernel
theorem dL_night_194 : decode cL_night 194 = .ok (.iload 11, 2) := by decide +kernel
theorem dL_night_196 : decode cL_night 196 = .ok (.imul, 1) := by decide +kernel
theorem dL_night_197 : decode cL_night 197 = .ok (.iload 15, 2) := by decide +kernel
theorem dL_night_199 : decode cL_night 199 = .ok (.iadd, 1) := by decide +kernel
theorem dL_night_200 : decode cL_night 200 = .ok (.iaload, 1) := by decide +kernel
theorem dL_night_201 : decode cL_night 201 = .ok (.ifCond .ge 6, 3) := by decide +kernel
theorem dL_night_204 : decode cL_night 204 = .ok (.goto 122, 3) := by decide +kernel
theorem dL_night_207 : decode cL_night 207 = .ok (.aload_n 2, 1) := by decide +kernel
theorem dL_night_208 : decode cL_night 208 = .ok (.bipush 6, 2) := by decide +kernel
theorem dL_night_210 : decode cL_night 210 = .ok (.iload 11, 2) := by decide +kernel
theorem dL_night_212 : decode cL_night 212 = .ok (.imul, 1) := by decide +kernel
theorem dL_night_213 : decode cL_night 213 = .ok (.iload 15, 2) := by decide +kernel
theorem dL_night_215 : decode cL_night 215 = .ok (.iadd, 1) := by decide +kernel
theorem dL_night_216 : decode cL_night 216 = .ok (.iaload, 1) := by decide +kernel
theorem dL_night_217 : decode cL_night 217 = .ok (.istore 16, 2) := by decide +kernel
theorem dL_night_219 : decode cL_night 219 = .ok (.iload 12, 2) := by decide +kernel
theorem dL_night_221 : decode cL_night 221 = .ok (.ifCond .eq 22, 3) := by decide +kernel
theorem dL_night_224 : decode cL_night 224 = .ok (.bipush 100, 2) := by decide +kernel
theorem dL_night_226 : decode cL_night 226 = .ok (.iload 16, 2) := by decide +kernel
theorem dL_night_228 : decode cL_night 228 = .ok (.imul, 1) := by decide +kernel
theorem dL_night_229 : decode cL_night 229 = .ok (.bipush 10, 2) := by decide +kernel
theorem dL_night_231 : decode cL_night 231 = .ok (.aload_n 0, 1) := by decide +kernel
theorem dL_night_232 : decode cL_night 232 = .ok (.bipush 10, 2) := by decide +kernel
theorem dL_night_234 : decode cL_night 234 = .ok (.iload 15, 2) := by decide +kernel
theorem dL_night_236 : decode cL_night 236 = .ok (.iadd, 1) := by decide +kernel
theorem dL_night_237 : decode cL_night 237 = .ok (.iaload, 1) := by decide +kernel
theorem dL_night_238 : decode cL_night 238 = .ok (.imul, 1) := by decide +kernel
theorem dL_night_239 : decode cL_night 239 = .ok (.iadd, 1) := by decide +kernel
theorem dL_night_240 : decode cL_night 240 = .ok (.goto 55, 3) := by decide +kernel
theorem dL_night_243 : decode cL_night 243 = .ok (.aload_n 0, 1) := by decide +kernel
theorem dL_night_244 : decode cL_night 244 = .ok (.bipush 16, 2) := by decide +kernel
theorem dL_night_246 : decode cL_night 246 = .ok (.iload 10, 2) := by decide +kernel
theorem dL_night_248 : decode cL_night 248 = .ok (.iadd, 1) := by decide +kernel
theorem dL_night_249 : decode cL_night 249 = .ok (.iaload, 1) := by decide +kernel
theorem dL_night_250 : decode cL_night 250 = .ok (.iconst 1, 1) := by decide +kernel
theorem dL_night_251 : decode cL_night 251 = .ok (.if_icmp .ne 25, 3) := by decide +kernel
theorem dL_night_254 : decode cL_night 254 = .ok (.bipush 100, 2) := by decide +kernel
theorem dL_night_256 : decode cL_night 256 = .ok (.aload_n 0, 1) := by decide +kernel
theorem dL_night_257 : decode cL_night 257 = .ok (.bipush 10, 2) := by decide +kernel
theorem dL_night_259 : decode cL_night 259 = .ok (.iload 15, 2) := by decide +kernel
theorem dL_night_261 : decode cL_night 261 = .ok (.iadd, 1) := by decide +kernel
theorem dL_night_262 : decode cL_night 262 = .ok (.iaload, 1) := by decide +kernel
theorem dL_night_263 : decode cL_night 263 = .ok (.imul, 1) := by decide +kernel
theorem dL_night_264 : decode cL_night 264 = .ok (.bipush 10, 2) := by decide +kernel
theorem dL_night_266 : decode cL_night 266 = .ok (.bipush 9, 2) := by decide +kernel
theorem dL_night_268 : decode cL_night 268 = .ok (.iload 16, 2) := by decide +kernel
theorem dL_night_270 : decode cL_night 270 = .ok (.isub, 1) := by decide +kernel
theorem dL_night_271 : decode cL_night 271 = .ok (.imul, 1) := by decide +kernel
theorem dL_night_272 : decode cL_night 272 = .ok (.iadd, 1) := by decide +kernel
theorem dL_night_273 : decode cL_night 273 = .ok (.goto 22, 3) := by decide +kernel
theorem dL_night_276 : decode cL_night 276 = .ok (.bipush 100, 2) := by decide +kernel
theorem dL_night_278 : decode cL_night 278 = .ok (.bipush 9, 2) := by decide +kernel
theorem dL_night_280 : decode cL_night 280 = .ok (.iload 16, 2) := by decide +kernel
theorem dL_night_282 : decode cL_night 282 = .ok (.isub, 1) := by decide +kernel
theorem dL_night_283 : decode cL_night 283 = .ok (.imul, 1) := by decide +kernel
theorem dL_night_284 : decode cL_night 284 = .ok (.bipush 10, 2) := by decide +kernel
theorem dL_night_286 : decode cL_night 286 = .ok (.aload_n 0, 1) := by decide +kernel
theorem dL_night_287 : decode cL_night 287 = .ok (.bipush 10, 2) := by decide +kernel
theorem dL_night_289 : decode cL_night 289 = .ok (.iload 15, 2) := by decide +kernel
theorem dL_night_291 : decode cL_night 291 = .ok (.iadd, 1) := by decide +kernel
theorem dL_night_292 : decode cL_night 292 = .ok (.iaload, 1) := by decide +kernel
theorem dL_night_293 : decode cL_night 293 = .ok (.imul, 1) := by decide +kernel
theorem dL_night_294 : decode cL_night 294 = .ok (.iadd, 1) := by decide +kernel
theorem dL_night_295 : decode cL_night 295 = .ok (.istore 17, 2) := by decide +kernel
theorem dL_night_297 : decode cL_night 297 = .ok (.iload 13, 2) := by decide +kernel
theorem dL_night_299 : decode cL_night 299 = .ok (.ifCond .lt 16, 3) := by decide +kernel
theorem dL_night_302 : decode cL_night 302 = .ok (.iload 17, 2) := by decide +kernel
theorem dL_night_304 : decode cL_night 304 = .ok (.iload 15, 2) := by decide +kernel
theorem dL_night_306 : decode cL_night 306 = .ok (.iadd, 1) := by decide +kernel
theorem dL_night_307 : decode cL_night 307 = .ok (.iload 14, 2) := by decide +kernel
theorem dL_night_309 : decode cL_night 309 = .ok (.if_icmp .lt 6, 3) := by decide +kernel
theorem dL_night_312 : decode cL_night 312 = .ok (.goto 14, 3) := by decide +kernel
theorem dL_night_315 : decode cL_night 315 = .ok (.iload 15, 2) := by decide +kernel
theorem dL_night_317 : decode cL_night 317 = .ok (.istore 13, 2) := by decide +kernel
theorem dL_night_319 : decode cL_night 319 = .ok (.iload 17, 2) := by decide +kernel
theorem dL_night_321 : decode cL_night 321 = .ok (.iload 15, 2) := by decide +kernel
theorem dL_night_323 : decode cL_night 323 = .ok (.iadd, 1) := by decide +kernel
theorem dL_night_324 : decode cL_night 324 = .ok (.istore 14, 2) := by decide +kernel
theorem dL_night_326 : decode cL_night 326 = .ok (.iinc 15 1, 3) := by decide +kernel
theorem dL_night_329 : decode cL_night 329 = .ok (.goto (-154), 3) := by decide +kernel
theorem dL_night_332 : decode cL_night 332 = .ok (.aload 6, 2) := by decide +kernel
theorem dL_night_334 : decode cL_night 334 = .ok (.bipush 7, 2) := by decide +kernel
theorem dL_night_336 : decode cL_night 336 = .ok (.iload 8, 2) := by decide +kernel
theorem dL_night_338 : decode cL_night 338 = .ok (.imul, 1) := by decide +kernel
theorem dL_night_339 : decode cL_night 339 = .ok (.iload 11, 2) := by decide +kernel
theorem dL_night_341 : decode cL_night 341 = .ok (.iadd, 1) := by decide +kernel
theorem dL_night_342 : decode cL_night 342 = .ok (.iload 13, 2) := by decide +kernel
theorem dL_night_344 : decode cL_night 344 = .ok (.iastore, 1) := by decide +kernel
theorem dL_night_345 : decode cL_night 345 = .ok (.aload_n 0, 1) := by decide +kernel
theorem dL_night_346 : decode cL_night 346 = .ok (.bipush 44, 2) := by decide +kernel
theorem dL_night_348 : decode cL_night 348 = .ok (.iload 11, 2) := by decide +kernel
theorem dL_night_350 : decode cL_night 350 = .ok (.iadd, 1) := by decide +kernel
theorem dL_night_351 : decode cL_night 351 = .ok (.iload 13, 2) := by decide +kernel
theorem dL_night_353 : decode cL_night 353 = .ok (.iastore, 1) := by decide +kernel
theorem dL_night_354 : decode cL_night 354 = .ok (.aload 5, 2) := by decide +kernel
theorem dL_night_356 : decode cL_night 356 = .ok (.iload 11, 2) := by decide +kernel
theorem dL_night_358 : decode cL_night 358 = .ok (.dup2, 1) := by decide +kernel
theorem dL_night_359 : decode cL_night 359 = .ok (.iaload, 1) := by decide +kernel
theorem dL_night_360 : decode cL_night 360 = .ok (.bipush 10, 2) := by decide +kernel
theorem dL_night_362 : decode cL_night 362 = .ok (.aload_n 1, 1) := by decide +kernel
theorem dL_night_363 : decode cL_night 363 = .ok (.iload 11, 2) := by decide +kernel
theorem dL_night_365 : decode cL_night 365 = .ok (.iload 13, 2) := by decide +kernel
theorem dL_night_367 : decode cL_night 367 = .ok (.invokestatic 41, 3) := by decide +kernel
theorem dL_night_370 : decode cL_night 370 = .ok (.imul, 1) := by decide +kernel
theorem dL_night_371 : decode cL_night 371 = .ok (.iadd, 1) := by decide +kernel
theorem dL_night_372 : decode cL_night 372 = .ok (.iastore, 1) := by decide +kernel
theorem dL_night_373 : decode cL_night 373 = .ok (.aload 5, 2) := by decide +kernel
theorem dL_night_375 : decode cL_night 375 = .ok (.iload 10, 2) := by decide +kernel
theorem dL_night_377 : decode cL_night 377 = .ok (.dup2, 1) := by decide +kernel
theorem dL_night_378 : decode cL_night 378 = .ok (.iaload, 1) := by decide +kernel
theorem dL_night_379 : decode cL_night 379 = .ok (.aload_n 0, 1) := by decide +kernel
theorem dL_night_380 : decode cL_night 380 = .ok (.bipush 23, 2) := by decide +kernel
theorem dL_night_382 : decode cL_night 382 = .ok (.iload 10, 2) := by decide +kernel
theorem dL_night_384 : decode cL_night 384 = .ok (.iadd, 1) := by decide +kernel
theorem dL_night_385 : decode cL_night 385 = .ok (.iaload, 1) := by decide +kernel
theorem dL_night_386 : decode cL_night 386 = .ok (.aload_n 1, 1) := by decide +kernel
theorem dL_night_387 : decode cL_night 387 = .ok (.iload 11, 2) := by decide +kernel
theorem dL_night_389 : decode cL_night 389 = .ok (.iload 13, 2) := by decide +kernel
theorem dL_night_391 : decode cL_night 391 = .ok (.invokestatic 41, 3) := by decide +kernel
theorem dL_night_394 : decode cL_night 394 = .ok (.imul, 1) := by decide +kernel
theorem dL_night_395 : decode cL_night 395 = .ok (.iadd, 1) := by decide +kernel
theorem dL_night_396 : decode cL_night 396 = .ok (.iastore, 1) := by decide +kernel
theorem dL_night_397 : decode cL_night 397 = .ok (.iload 13, 2) := by decide +kernel
theorem dL_night_399 : decode cL_night 399 = .ok (.ifCond .ge 6, 3) := by decide +kernel
theorem dL_night_402 : decode cL_night 402 = .ok (.goto 30, 3) := by decide +kernel
theorem dL_night_405 : decode cL_night 405 = .ok (.aload 7, 2) := by decide +kernel
theorem dL_night_407 : decode cL_night 407 = .ok (.iload 13, 2) := by decide +kernel
theorem dL_night_409 : decode cL_night 409 = .ok (.dup2, 1) := by decide +kernel
theorem dL_night_410 : decode cL_night 410 = .ok (.iaload, 1) := by decide +kernel
theorem dL_night_411 : decode cL_night 411 = .ok (.iconst 1, 1) := by decide +kernel
theorem dL_night_412 : decode cL_night 412 = .ok (.isub, 1) := by decide +kernel
theorem dL_night_413 : decode cL_night 413 = .ok (.iastore, 1) := by decide +kernel
theorem dL_night_414 : decode cL_night 414 = .ok (.aload 5, 2) := by decide +kernel
theorem dL_night_416 : decode cL_night 416 = .ok (.bipush 7, 2) := by decide +kernel
theorem dL_night_418 : decode cL_night 418 = .ok (.iload 10, 2) := by decide +kernel
theorem dL_night_420 : decode cL_night 420 = .ok (.iadd, 1) := by decide +kernel
theorem dL_night_421 : decode cL_night 421 = .ok (.dup2, 1) := by decide +kernel
theorem dL_night_422 : decode cL_night 422 = .ok (.iaload, 1) := by decide +kernel
theorem dL_night_423 : decode cL_night 423 = .ok (.aload_n 0, 1) := by decide +kernel
theorem dL_night_424 : decode cL_night 424 = .ok (.bipush 10, 2) := by decide +kernel
theorem dL_night_426 : decode cL_night 426 = .ok (.iload 13, 2) := by decide +kernel
theorem dL_night_428 : decode cL_night 428 = .ok (.iadd, 1) := by decide +kernel
theorem dL_night_429 : decode cL_night 429 = .ok (.iaload, 1) := by decide +kernel
theorem dL_night_430 : decode cL_night 430 = .ok (.iadd, 1) := by decide +kernel
theorem dL_night_431 : decode cL_night 431 = .ok (.iastore, 1) := by decide +kernel
theorem dL_night_432 : decode cL_night 432 = .ok (.iinc 9 1, 3) := by decide +kernel
theorem dL_night_435 : decode cL_night 435 = .ok (.goto (-365), 3) := by decide +kernel
theorem dL_night_438 : decode cL_night 438 = .ok (.iinc 8 1, 3) := by decide +kernel
theorem dL_night_441 : decode cL_night 441 = .ok (.goto (-382), 3) := by decide +kernel
theorem dL_night_444 : decode cL_night 444 = .ok (.return_, 1) := by decide +kernel
theorem dL_all_0 : decode cL_all 0 = .ok (.iconst 0, 1) := by decide +kernel
theorem dL_all_1 : decode cL_all 1 = .ok (.istore_n 3, 1) := by decide +kernel
theorem dL_all_2 : decode cL_all 2 = .ok (.iconst 0, 1) := by decide +kernel
theorem dL_all_3 : decode cL_all 3 = .ok (.istore 4, 2) := by decide +kernel
theorem dL_all_5 : decode cL_all 5 = .ok (.iload 4, 2) := by decide +kernel
theorem dL_all_7 : decode cL_all 7 = .ok (.iload_n 1, 1) := by decide +kernel
theorem dL_all_8 : decode cL_all 8 = .ok (.if_icmp .ge 21, 3) := by decide +kernel
theorem dL_all_11 : decode cL_all 11 = .ok (.iload_n 3, 1) := by decide +kernel
theorem dL_all_12 : decode cL_all 12 = .ok (.aload_n 2, 1) := by decide +kernel
theorem dL_all_13 : decode cL_all 13 = .ok (.aload_n 0, 1) := by decide +kernel
theorem dL_all_14 : decode cL_all 14 = .ok (.bipush 37, 2) := by decide +kernel
theorem dL_all_16 : decode cL_all 16 = .ok (.iload 4, 2) := by decide +kernel
theorem dL_all_18 : decode cL_all 18 = .ok (.iadd, 1) := by decide +kernel
theorem dL_all_19 : decode cL_all 19 = .ok (.iaload, 1) := by decide +kernel
theorem dL_all_20 : decode cL_all 20 = .ok (.iaload, 1) := by decide +kernel
theorem dL_all_21 : decode cL_all 21 = .ok (.iadd, 1) := by decide +kernel
theorem dL_all_22 : decode cL_all 22 = .ok (.istore_n 3, 1) := by decide +kernel
theorem dL_all_23 : decode cL_all 23 = .ok (.iinc 4 1, 3) := by decide +kernel
theorem dL_all_26 : decode cL_all 26 = .ok (.goto (-21), 3) := by decide +kernel
theorem dL_all_29 : decode cL_all 29 = .ok (.iload_n 3, 1) := by decide +kernel
theorem dL_all_30 : decode cL_all 30 = .ok (.ireturn, 1) := by decide +kernel
theorem dL_like_0 : decode cL_like 0 = .ok (.iconst 0, 1) := by decide +kernel
theorem dL_like_1 : decode cL_like 1 = .ok (.istore_n 2, 1) := by decide +kernel
theorem dL_like_2 : decode cL_like 2 = .ok (.iload_n 2, 1) := by decide +kernel
theorem dL_like_3 : decode cL_like 3 = .ok (.aload_n 0, 1) := by decide +kernel
theorem dL_like_4 : decode cL_like 4 = .ok (.arraylength, 1) := by decide +kernel
theorem dL_like_5 : decode cL_like 5 = .ok (.if_icmp .ge 15, 3) := by decide +kernel
theorem dL_like_8 : decode cL_like 8 = .ok (.aload_n 1, 1) := by decide +kernel
theorem dL_like_9 : decode cL_like 9 = .ok (.iload_n 2, 1) := by decide +kernel
theorem dL_like_10 : decode cL_like 10 = .ok (.aload_n 0, 1) := by decide +kernel
theorem dL_like_11 : decode cL_like 11 = .ok (.iload_n 2, 1) := by decide +kernel
theorem dL_like_12 : decode cL_like 12 = .ok (.iaload, 1) := by decide +kernel
theorem dL_like_13 : decode cL_like 13 = .ok (.iastore, 1) := by decide +kernel
theorem dL_like_14 : decode cL_like 14 = .ok (.iinc 2 1, 3) := by decide +kernel
theorem dL_like_17 : decode cL_like 17 = .ok (.goto (-15), 3) := by decide +kernel
theorem dL_like_20 : decode cL_like 20 = .ok (.return_, 1) := by decide +kernel
theorem dL_isAlike_0 : decode cL_isAlike 0 = .ok (.lload_n 0, 1) := by decide +kernel
theorem dL_isAlike_1 : decode cL_isAlike 1 = .ok (.lstore 8, 2) := by decide +kernel
theorem dL_isAlike_3 : decode cL_isAlike 3 = .ok (.lload_n 2, 1) := by decide +kernel
theorem dL_isAlike_4 : decode cL_isAlike 4 = .ok (.lstore 10, 2) := by decide +kernel
theorem dL_isAlike_6 : decode cL_isAlike 6 = .ok (.lload 10, 2) := by decide +kernel
theorem dL_isAlike_8 : decode cL_isAlike 8 = .ok (.lconst 0, 1) := by decide +kernel
theorem dL_isAlike_9 : decode cL_isAlike 9 = .ok (.lcmp, 1) := by decide +kernel
theorem dL_isAlike_10 : decode cL_isAlike 10 = .ok (.ifCond .eq 21, 3) := by decide +kernel
theorem dL_isAlike_13 : decode cL_isAlike 13 = .ok (.lload 8, 2) := by decide +kernel
theorem dL_isAlike_15 : decode cL_isAlike 15 = .ok (.lload 10, 2) := by decide +kernel
theorem dL_isAlike_17 : decode cL_isAlike 17 = .ok (.lrem, 1) := by decide +kernel
theorem dL_isAlike_18 : decode cL_isAlike 18 = .ok (.lstore 12, 2) := by decide +kernel
theorem dL_isAlike_20 : decode cL_isAlike 20 = .ok (.lload 10, 2) := by decide +kernel
theorem dL_isAlike_22 : decode cL_isAlike 22 = .ok (.lstore 8, 2) := by decide +kernel
theorem dL_isAlike_24 : decode cL_isAlike 24 = .ok (.lload 12, 2) := by decide +kernel
theorem dL_isAlike_26 : decode cL_isAlike 26 = .ok (.lstore 10, 2) := by decide +kernel
theorem dL_isAlike_28 : decode cL_isAlike 28 = .ok (.goto (-22), 3) := by decide +kernel
theorem dL_isAlike_31 : decode cL_isAlike 31 = .ok (.lload 8, 2) := by decide +kernel
theorem dL_isAlike_33 : decode cL_isAlike 33 = .ok (.lconst 0, 1) := by decide +kernel
theorem dL_isAlike_34 : decode cL_isAlike 34 = .ok (.lcmp, 1) := by decide +kernel
theorem dL_isAlike_35 : decode cL_isAlike 35 = .ok (.ifCond .le 27, 3) := by decide +kernel
theorem dL_isAlike_38 : decode cL_isAlike 38 = .ok (.lload 4, 2) := by decide +kernel
theorem dL_isAlike_40 : decode cL_isAlike 40 = .ok (.lload_n 0, 1) := by decide +kernel
theorem dL_isAlike_41 : decode cL_isAlike 41 = .ok (.lload 8, 2) := by decide +kernel
theorem dL_isAlike_43 : decode cL_isAlike 43 = .ok (.ldiv, 1) := by decide +kernel
theorem dL_isAlike_44 : decode cL_isAlike 44 = .ok (.lcmp, 1) := by decide +kernel
theorem dL_isAlike_45 : decode cL_isAlike 45 = .ok (.ifCond .ne 17, 3) := by decide +kernel
theorem dL_isAlike_48 : decode cL_isAlike 48 = .ok (.lload 6, 2) := by decide +kernel
theorem dL_isAlike_50 : decode cL_isAlike 50 = .ok (.lload_n 2, 1) := by decide +kernel
theorem dL_isAlike_51 : decode cL_isAlike 51 = .ok (.lload 8, 2) := by decide +kernel
theorem dL_isAlike_53 : decode cL_isAlike 53 = .ok (.ldiv, 1) := by decide +kernel
theorem dL_isAlike_54 : decode cL_isAlike 54 = .ok (.lcmp, 1) := by decide +kernel
theorem dL_isAlike_55 : decode cL_isAlike 55 = .ok (.ifCond .ne 7, 3) := by decide +kernel
theorem dL_isAlike_58 : decode cL_isAlike 58 = .ok (.iconst 1, 1) := by decide +kernel
theorem dL_isAlike_59 : decode cL_isAlike 59 = .ok (.goto 4, 3) := by decide +kernel
theorem dL_isAlike_62 : decode cL_isAlike 62 = .ok (.iconst 0, 1) := by decide +kernel
theorem dL_isAlike_63 : decode cL_isAlike 63 = .ok (.ireturn, 1) := by decide +kernel
