theorem dX7_init_0 : decode cX7_init 0 = .ok (.aload_n 0, 1) := by decide +kernel
theorem dX7_init_1 : decode cX7_init 1 = .ok (.invokespecial 1, 3) := by decide +kernel
theorem dX7_init_4 : decode cX7_init 4 = .ok (.aload_n 0, 1) := by decide +kernel
theorem dX7_init_5 : decode cX7_init 5 = .ok (.iconst 4, 1) := by decide +kernel
theorem dX7_init_6 : decode cX7_init 6 = .ok (.newarray .int, 2) := by decide +kernel
theorem dX7_init_8 : decode cX7_init 8 = .ok (.dup, 1) := by decide +kernel
theorem dX7_init_9 : decode cX7_init 9 = .ok (.iconst 0, 1) := by decide +kernel
theorem dX7_init_10 : decode cX7_init 10 = .ok (.bipush (-9), 2) := by decide +kernel
theorem dX7_init_12 : decode cX7_init 12 = .ok (.iastore, 1) := by decide +kernel
theorem dX7_init_13 : decode cX7_init 13 = .ok (.dup, 1) := by decide +kernel
theorem dX7_init_14 : decode cX7_init 14 = .ok (.iconst 1, 1) := by decide +kernel
theorem dX7_init_15 : decode cX7_init 15 = .ok (.bipush (-9), 2) := by decide +kernel
theorem dX7_init_17 : decode cX7_init 17 = .ok (.iastore, 1) := by decide +kernel
theorem dX7_init_18 : decode cX7_init 18 = .ok (.dup, 1) := by decide +kernel
theorem dX7_init_19 : decode cX7_init 19 = .ok (.iconst 2, 1) := by decide +kernel
theorem dX7_init_20 : decode cX7_init 20 = .ok (.bipush (-9), 2) := by decide +kernel
theorem dX7_init_22 : decode cX7_init 22 = .ok (.iastore, 1) := by decide +kernel
theorem dX7_init_23 : decode cX7_init 23 = .ok (.dup, 1) := by decide +kernel
theorem dX7_init_24 : decode cX7_init 24 = .ok (.iconst 3, 1) := by decide +kernel
theorem dX7_init_25 : decode cX7_init 25 = .ok (.bipush (-9), 2) := by decide +kernel
theorem dX7_init_27 : decode cX7_init 27 = .ok (.iastore, 1) := by decide +kernel
theorem dX7_init_28 : decode cX7_init 28 = .ok (.putfield 9, 3) := by decide +kernel
theorem dX7_init_31 : decode cX7_init 31 = .ok (.aload_n 0, 1) := by decide +kernel
theorem dX7_init_32 : decode cX7_init 32 = .ok (.iconst 4, 1) := by decide +kernel
theorem dX7_init_33 : decode cX7_init 33 = .ok (.newarray .int, 2) := by decide +kernel
theorem dX7_init_35 : decode cX7_init 35 = .ok (.putfield 13, 3) := by decide +kernel
theorem dX7_init_38 : decode cX7_init 38 = .ok (.aload_n 0, 1) := by decide +kernel
theorem dX7_init_39 : decode cX7_init 39 = .ok (.sipush 400, 3) := by decide +kernel
theorem dX7_init_42 : decode cX7_init 42 = .ok (.newarray .int, 2) := by decide +kernel
theorem dX7_init_44 : decode cX7_init 44 = .ok (.putfield 16, 3) := by decide +kernel
theorem dX7_init_47 : decode cX7_init 47 = .ok (.aload_n 0, 1) := by decide +kernel
theorem dX7_init_48 : decode cX7_init 48 = .ok (.bipush 6, 2) := by decide +kernel
theorem dX7_init_50 : decode cX7_init 50 = .ok (.newarray .int, 2) := by decide +kernel
theorem dX7_init_52 : decode cX7_init 52 = .ok (.putfield 19, 3) := by decide +kernel
theorem dX7_init_55 : decode cX7_init 55 = .ok (.aload_n 0, 1) := by decide +kernel
theorem dX7_init_56 : decode cX7_init 56 = .ok (.bipush 6, 2) := by decide +kernel
theorem dX7_init_58 : decode cX7_init 58 = .ok (.newarray .int, 2) := by decide +kernel
theorem dX7_init_60 : decode cX7_init 60 = .ok (.putfield 22, 3) := by decide +kernel
theorem dX7_init_63 : decode cX7_init 63 = .ok (.aload_n 0, 1) := by decide +kernel
theorem dX7_init_64 : decode cX7_init 64 = .ok (.bipush 7, 2) := by decide +kernel
theorem dX7_init_66 : decode cX7_init 66 = .ok (.newarray .int, 2) := by decide +kernel
theorem dX7_init_68 : decode cX7_init 68 = .ok (.putfield 25, 3) := by decide +kernel
theorem dX7_init_71 : decode cX7_init 71 = .ok (.aload_n 0, 1) := by decide +kernel
theorem dX7_init_72 : decode cX7_init 72 = .ok (.bipush 7, 2) := by decide +kernel
theorem dX7_init_74 : decode cX7_init 74 = .ok (.newarray .int, 2) := by decide +kernel
theorem dX7_init_76 : decode cX7_init 76 = .ok (.putfield 28, 3) := by decide +kernel
theorem dX7_init_79 : decode cX7_init 79 = .ok (.aload_n 0, 1) := by decide +kernel
theorem dX7_init_80 : decode cX7_init 80 = .ok (.bipush 7, 2) := by decide +kernel
theorem dX7_init_82 : decode cX7_init 82 = .ok (.newarray .int, 2) := by decide +kernel
theorem dX7_init_84 : decode cX7_init 84 = .ok (.putfield 31, 3) := by decide +kernel
theorem dX7_init_87 : decode cX7_init 87 = .ok (.aload_n 0, 1) := by decide +kernel
theorem dX7_init_88 : decode cX7_init 88 = .ok (.bipush 42, 2) := by decide +kernel
theorem dX7_init_90 : decode cX7_init 90 = .ok (.newarray .int, 2) := by decide +kernel
theorem dX7_init_92 : decode cX7_init 92 = .ok (.putfield 34, 3) := by decide +kernel
theorem dX7_init_95 : decode cX7_init 95 = .ok (.aload_n 0, 1) := by decide +kernel
theorem dX7_init_96 : decode cX7_init 96 = .ok (.bipush 42, 2) := by decide +kernel
theorem dX7_init_98 : decode cX7_init 98 = .ok (.newarray .int, 2) := by decide +kernel
theorem dX7_init_100 : decode cX7_init 100 = .ok (.putfield 37, 3) := by decide +kernel
theorem dX7_init_103 : decode cX7_init 103 = .ok (.aload_n 0, 1) := by decide +kernel
theorem dX7_init_104 : decode cX7_init 104 = .ok (.bipush 7, 2) := by decide +kernel
theorem dX7_init_106 : decode cX7_init 106 = .ok (.newarray .int, 2) := by decide +kernel
theorem dX7_init_108 : decode cX7_init 108 = .ok (.putfield 40, 3) := by decide +kernel
theorem dX7_init_111 : decode cX7_init 111 = .ok (.aload_n 0, 1) := by decide +kernel
theorem dX7_init_112 : decode cX7_init 112 = .ok (.bipush 7, 2) := by decide +kernel
theorem dX7_init_114 : decode cX7_init 114 = .ok (.newarray .int, 2) := by decide +kernel
theorem dX7_init_116 : decode cX7_init 116 = .ok (.putfield 43, 3) := by decide +kernel
theorem dX7_init_119 : decode cX7_init 119 = .ok (.aload_n 0, 1) := by decide +kernel
theorem dX7_init_120 : decode cX7_init 120 = .ok (.bipush 6, 2) := by decide +kernel
theorem dX7_init_122 : decode cX7_init 122 = .ok (.newarray .int, 2) := by decide +kernel
theorem dX7_init_124 : decode cX7_init 124 = .ok (.putfield 46, 3) := by decide +kernel
theorem dX7_init_127 : decode cX7_init 127 = .ok (.aload_n 0, 1) := by decide +kernel
theorem dX7_init_128 : decode cX7_init 128 = .ok (.bipush 6, 2) := by decide +kernel
theorem dX7_init_130 : decode cX7_init 130 = .ok (.newarray .int, 2) := by decide +kernel
theorem dX7_init_132 : decode cX7_init 132 = .ok (.putfield 49, 3) := by decide +kernel
theorem dX7_init_135 : decode cX7_init 135 = .ok (.aload_n 0, 1) := by decide +kernel
theorem dX7_init_136 : decode cX7_init 136 = .ok (.bipush 7, 2) := by decide +kernel
theorem dX7_init_138 : decode cX7_init 138 = .ok (.newarray .int, 2) := by decide +kernel
theorem dX7_init_140 : decode cX7_init 140 = .ok (.putfield 52, 3) := by decide +kernel
theorem dX7_init_143 : decode cX7_init 143 = .ok (.aload_n 0, 1) := by decide +kernel
theorem dX7_init_144 : decode cX7_init 144 = .ok (.bipush 7, 2) := by decide +kernel
theorem dX7_init_146 : decode cX7_init 146 = .ok (.newarray .int, 2) := by decide +kernel
theorem dX7_init_148 : decode cX7_init 148 = .ok (.putfield 55, 3) := by decide +kernel
theorem dX7_init_151 : decode cX7_init 151 = .ok (.aload_n 0, 1) := by decide +kernel
theorem dX7_init_152 : decode cX7_init 152 = .ok (.bipush 7, 2) := by decide +kernel
theorem dX7_init_154 : decode cX7_init 154 = .ok (.newarray .int, 2) := by decide +kernel
theorem dX7_init_156 : decode cX7_init 156 = .ok (.putfield 58, 3) := by decide +kernel
theorem dX7_init_159 : decode cX7_init 159 = .ok (.aload_n 0, 1) := by decide +kernel
theorem dX7_init_160 : decode cX7_init 160 = .ok (.bipush 42, 2) := by decide +kernel
theorem dX7_init_162 : decode cX7_init 162 = .ok (.newarray .int, 2) := by decide +kernel
theorem dX7_init_164 : decode cX7_init 164 = .ok (.putfield 61, 3) := by decide +kernel
theorem dX7_init_167 : decode cX7_init 167 = .ok (.aload_n 0, 1) := by decide +kernel
theorem dX7_init_168 : decode cX7_init 168 = .ok (.bipush 7, 2) := by decide +kernel
theorem dX7_init_170 : decode cX7_init 170 = .ok (.newarray .int, 2) := by decide +kernel
theorem dX7_init_172 : decode cX7_init 172 = .ok (.putfield 64, 3) := by decide +kernel
theorem dX7_init_175 : decode cX7_init 175 = .ok (.aload_n 0, 1) := by decide +kernel
theorem dX7_init_176 : decode cX7_init 176 = .ok (.bipush 7, 2) := by decide +kernel
theorem dX7_init_178 : decode cX7_init 178 = .ok (.newarray .int, 2) := by decide +kernel
theorem dX7_init_180 : decode cX7_init 180 = .ok (.putfield 67, 3) := by decide +kernel
theorem dX7_init_183 : decode cX7_init 183 = .ok (.aload_n 0, 1) := by decide +kernel
theorem dX7_init_184 : decode cX7_init 184 = .ok (.bipush 7, 2) := by decide +kernel
theorem dX7_init_186 : decode cX7_init 186 = .ok (.newarray .int, 2) := by decide +kernel
theorem dX7_init_188 : decode cX7_init 188 = .ok (.putfield 70, 3) := by decide +kernel
theorem dX7_init_191 : decode cX7_init 191 = .ok (.aload_n 0, 1) := by decide +kernel
theorem dX7_init_192 : decode cX7_init 192 = .ok (.bipush 56, 2) := by decide +kernel
theorem dX7_init_194 : decode cX7_init 194 = .ok (.newarray .int, 2) := by decide +kernel
theorem dX7_init_196 : decode cX7_init 196 = .ok (.putfield 73, 3) := by decide +kernel
theorem dX7_init_199 : decode cX7_init 199 = .ok (.aload_n 0, 1) := by decide +kernel
theorem dX7_init_200 : decode cX7_init 200 = .ok (.bipush 7, 2) := by decide +kernel
theorem dX7_init_202 : decode cX7_init 202 = .ok (.newarray .int, 2) := by decide +kernel
theorem dX7_init_204 : decode cX7_init 204 = .ok (.putfield 76, 3) := by decide +kernel
theorem dX7_init_207 : decode cX7_init 207 = .ok (.aload_n 0, 1) := by decide +kernel
theorem dX7_init_208 : decode cX7_init 208 = .ok (.bipush 7, 2) := by decide +kernel
theorem dX7_init_210 : decode cX7_init 210 = .ok (.newarray .int, 2) := by decide +kernel
theorem dX7_init_212 : decode cX7_init 212 = .ok (.putfield 79, 3) := by decide +kernel
theorem dX7_init_215 : decode cX7_init 215 = .ok (.aload_n 0, 1) := by decide +kernel
theorem dX7_init_216 : decode cX7_init 216 = .ok (.bipush 6, 2) := by decide +kernel
theorem dX7_init_218 : decode cX7_init 218 = .ok (.newarray .int, 2) := by decide +kernel
theorem dX7_init_220 : decode cX7_init 220 = .ok (.putfield 82, 3) := by decide +kernel
theorem dX7_init_223 : decode cX7_init 223 = .ok (.aload_n 0, 1) := by decide +kernel
theorem dX7_init_224 : decode cX7_init 224 = .ok (.bipush 7, 2) := by decide +kernel
theorem dX7_init_226 : decode cX7_init 226 = .ok (.newarray .int, 2) := by decide +kernel
theorem dX7_init_228 : decode cX7_init 228 = .ok (.putfield 85, 3) := by decide +kernel
theorem dX7_init_231 : decode cX7_init 231 = .ok (.aload_n 0, 1) := by decide +kernel
theorem dX7_init_232 : decode cX7_init 232 = .ok (.bipush 7, 2) := by decide +kernel
theorem dX7_init_234 : decode cX7_init 234 = .ok (.newarray .int, 2) := by decide +kernel
theorem dX7_init_236 : decode cX7_init 236 = .ok (.putfield 88, 3) := by decide +kernel
theorem dX7_init_239 : decode cX7_init 239 = .ok (.aload_n 0, 1) := by decide +kernel
theorem dX7_init_240 : decode cX7_init 240 = .ok (.bipush 7, 2) := by decide +kernel
theorem dX7_init_242 : decode cX7_init 242 = .ok (.newarray .int, 2) := by decide +kernel
theorem dX7_init_244 : decode cX7_init 244 = .ok (.putfield 91, 3) := by decide +kernel
theorem dX7_init_247 : decode cX7_init 247 = .ok (.aload_n 0, 1) := by decide +kernel
theorem dX7_init_248 : decode cX7_init 248 = .ok (.bipush 8, 2) := by decide +kernel
theorem dX7_init_250 : decode cX7_init 250 = .ok (.newarray .int, 2) := by decide +kernel
theorem dX7_init_252 : decode cX7_init 252 = .ok (.putfield 94, 3) := by decide +kernel
theorem dX7_init_255 : decode cX7_init 255 = .ok (.aload_n 0, 1) := by decide +kernel
theorem dX7_init_256 : decode cX7_init 256 = .ok (.bipush 7, 2) := by decide +kernel
theorem dX7_init_258 : decode cX7_init 258 = .ok (.newarray .int, 2) := by decide +kernel
theorem dX7_init_260 : decode cX7_init 260 = .ok (.putfield 97, 3) := by decide +kernel
theorem dX7_init_263 : decode cX7_init 263 = .ok (.aload_n 0, 1) := by decide +kernel
theorem dX7_init_264 : decode cX7_init 264 = .ok (.sipush 1470, 3) := by decide +kernel
theorem dX7_init_267 : decode cX7_init 267 = .ok (.newarray .int, 2) := by decide +kernel
theorem dX7_init_269 : decode cX7_init 269 = .ok (.putfield 100, 3) := by decide +kernel
theorem dX7_init_272 : decode cX7_init 272 = .ok (.aload_n 0, 1) := by decide +kernel
theorem dX7_init_273 : decode cX7_init 273 = .ok (.bipush 7, 2) := by decide +kernel
theorem dX7_init_275 : decode cX7_init 275 = .ok (.newarray .int, 2) := by decide +kernel
theorem dX7_init_277 : decode cX7_init 277 = .ok (.putfield 103, 3) := by decide +kernel
theorem dX7_init_280 : decode cX7_init 280 = .ok (.aload_n 0, 1) := by decide +kernel
theorem dX7_init_281 : decode cX7_init 281 = .ok (.bipush 7, 2) := by decide +kernel
theorem dX7_init_283 : decode cX7_init 283 = .ok (.newarray .int, 2) := by decide +kernel
theorem dX7_init_285 : decode cX7_init 285 = .ok (.putfield 106, 3) := by decide +kernel
theorem dX7_init_288 : decode cX7_init 288 = .ok (.aload_n 0, 1) := by decide +kernel
theorem dX7_init_289 : decode cX7_init 289 = .ok (.bipush 8, 2) := by decide +kernel
theorem dX7_init_291 : decode cX7_init 291 = .ok (.newarray .int, 2) := by decide +kernel
theorem dX7_init_293 : decode cX7_init 293 = .ok (.putfield 109, 3) := by decide +kernel
theorem dX7_init_296 : decode cX7_init 296 = .ok (.aload_n 0, 1) := by decide +kernel
theorem dX7_init_297 : decode cX7_init 297 = .ok (.bipush 6, 2) := by decide +kernel
theorem dX7_init_299 : decode cX7_init 299 = .ok (.newarray .int, 2) := by decide +kernel
theorem dX7_init_301 : decode cX7_init 301 = .ok (.putfield 112, 3) := by decide +kernel
theorem dX7_init_304 : decode cX7_init 304 = .ok (.return_, 1) := by decide +kernel
theorem dX7_fails_0 : decode cX7_fails 0 = .ok (.aload_n 0, 1) := by decide +kernel
theorem dX7_fails_1 : decode cX7_fails 1 = .ok (.iload_n 1, 1) := by decide +kernel
theorem dX7_fails_2 : decode cX7_fails 2 = .ok (.putfield 115, 3) := by decide +kernel
theorem dX7_fails_5 : decode cX7_fails 5 = .ok (.bipush (-10), 2) := by decide +kernel
theorem dX7_fails_7 : decode cX7_fails 7 = .ok (.iload_n 1, 1) := by decide +kernel
theorem dX7_fails_8 : decode cX7_fails 8 = .ok (.isub, 1) := by decide +kernel
theorem dX7_fails_9 : decode cX7_fails 9 = .ok (.ireturn, 1) := by decide +kernel
theorem dX7_lost_0 : decode cX7_lost 0 = .ok (.aload_n 0, 1) := by decide +kernel
theorem dX7_lost_1 : decode cX7_lost 1 = .ok (.iload_n 1, 1) := by decide +kernel
theorem dX7_lost_2 : decode cX7_lost 2 = .ok (.putfield 115, 3) := by decide +kernel
theorem dX7_lost_5 : decode cX7_lost 5 = .ok (.ldc2_w 119, 3) := by decide +kernel
theorem dX7_lost_8 : decode cX7_lost 8 = .ok (.lreturn, 1) := by decide +kernel
theorem dX7_within_0 : decode cX7_within 0 = .ok (.iload_n 0, 1) := by decide +kernel
theorem dX7_within_1 : decode cX7_within 1 = .ok (.iload_n 1, 1) := by decide +kernel
theorem dX7_within_2 : decode cX7_within 2 = .ok (.if_icmp .lt 12, 3) := by decide +kernel
theorem dX7_within_5 : decode cX7_within 5 = .ok (.iload_n 0, 1) := by decide +kernel
theorem dX7_within_6 : decode cX7_within 6 = .ok (.iload_n 2, 1) := by decide +kernel
theorem dX7_within_7 : decode cX7_within 7 = .ok (.if_icmp .gt 7, 3) := by decide +kernel
theorem dX7_within_10 : decode cX7_within 10 = .ok (.iconst 1, 1) := by decide +kernel
theorem dX7_within_11 : decode cX7_within 11 = .ok (.goto 4, 3) := by decide +kernel
theorem dX7_within_14 : decode cX7_within 14 = .ok (.iconst 0, 1) := by decide +kernel
theorem dX7_within_15 : decode cX7_within 15 = .ok (.ireturn, 1) := by decide +kernel
theorem dX7_share_0 : decode cX7_share 0 = .ok (.lload_n 0, 1) := by decide +kernel
theorem dX7_share_1 : decode cX7_share 1 = .ok (.lstore 5, 2) := by decide +kernel
theorem dX7_share_3 : decode cX7_share 3 = .ok (.lload_n 2, 1) := by decide +kernel
theorem dX7_share_4 : decode cX7_share 4 = .ok (.lstore 7, 2) := by decide +kernel
theorem dX7_share_6 : decode cX7_share 6 = .ok (.lload 7, 2) := by decide +kernel
theorem dX7_share_8 : decode cX7_share 8 = .ok (.lconst 0, 1) := by decide +kernel
theorem dX7_share_9 : decode cX7_share 9 = .ok (.lcmp, 1) := by decide +kernel
theorem dX7_share_10 : decode cX7_share 10 = .ok (.ifCond .eq 21, 3) := by decide +kernel
theorem dX7_share_13 : decode cX7_share 13 = .ok (.lload 5, 2) := by decide +kernel
theorem dX7_share_15 : decode cX7_share 15 = .ok (.lload 7, 2) := by decide +kernel
theorem dX7_share_17 : decode cX7_share 17 = .ok (.lrem, 1) := by decide +kernel
theorem dX7_share_18 : decode cX7_share 18 = .ok (.lstore 9, 2) := by decide +kernel
theorem dX7_share_20 : decode cX7_share 20 = .ok (.lload 7, 2) := by decide +kernel
theorem dX7_share_22 : decode cX7_share 22 = .ok (.lstore 5, 2) := by decide +kernel
theorem dX7_share_24 : decode cX7_share 24 = .ok (.lload 9, 2) := by decide +kernel
theorem dX7_share_26 : decode cX7_share 26 = .ok (.lstore 7, 2) := by decide +kernel
theorem dX7_share_28 : decode cX7_share 28 = .ok (.goto (-22), 3) := by decide +kernel
theorem dX7_share_31 : decode cX7_share 31 = .ok (.iload 4, 2) := by decide +kernel
theorem dX7_share_33 : decode cX7_share 33 = .ok (.ifCond .ne 10, 3) := by decide +kernel
theorem dX7_share_36 : decode cX7_share 36 = .ok (.lload_n 0, 1) := by decide +kernel
theorem dX7_share_37 : decode cX7_share 37 = .ok (.lload 5, 2) := by decide +kernel
theorem dX7_share_39 : decode cX7_share 39 = .ok (.ldiv, 1) := by decide +kernel
theorem dX7_share_40 : decode cX7_share 40 = .ok (.goto 7, 3) := by decide +kernel
theorem dX7_share_43 : decode cX7_share 43 = .ok (.lload_n 2, 1) := by decide +kernel
theorem dX7_share_44 : decode cX7_share 44 = .ok (.lload 5, 2) := by decide +kernel
theorem dX7_share_46 : decode cX7_share 46 = .ok (.ldiv, 1) := by decide +kernel
theorem dX7_share_47 : decode cX7_share 47 = .ok (.lreturn, 1) := by decide +kernel
theorem dX7_isSheet_0 : decode cX7_isSheet 0 = .ok (.iload_n 0, 1) := by decide +kernel
theorem dX7_isSheet_1 : decode cX7_isSheet 1 = .ok (.iconst 0, 1) := by decide +kernel
theorem dX7_isSheet_2 : decode cX7_isSheet 2 = .ok (.iconst 3, 1) := by decide +kernel
theorem dX7_isSheet_3 : decode cX7_isSheet 3 = .ok (.invokestatic 121, 3) := by decide +kernel
theorem dX7_isSheet_6 : decode cX7_isSheet 6 = .ok (.ireturn, 1) := by decide +kernel
theorem dX7_isSort_0 : decode cX7_isSort 0 = .ok (.iload_n 0, 1) := by decide +kernel
theorem dX7_isSort_1 : decode cX7_isSort 1 = .ok (.iconst 0, 1) := by decide +kernel
theorem dX7_isSort_2 : decode cX7_isSort 2 = .ok (.iconst 2, 1) := by decide +kernel
theorem dX7_isSort_3 : decode cX7_isSort 3 = .ok (.invokestatic 121, 3) := by decide +kernel
theorem dX7_isSort_6 : decode cX7_isSort 6 = .ok (.ireturn, 1) := by decide +kernel
theorem dX7_against_0 : decode cX7_against 0 = .ok (.aload_n 0, 1) := by decide +kernel
theorem dX7_against_1 : decode cX7_against 1 = .ok (.getfield 9, 3) := by decide +kernel
theorem dX7_against_4 : decode cX7_against 4 = .ok (.iload_n 1, 1) := by decide +kernel
theorem dX7_against_5 : decode cX7_against 5 = .ok (.iaload, 1) := by decide +kernel
theorem dX7_against_6 : decode cX7_against 6 = .ok (.bipush (-9), 2) := by decide +kernel
theorem dX7_against_8 : decode cX7_against 8 = .ok (.if_icmp .eq 15, 3) := by decide +kernel
theorem dX7_against_11 : decode cX7_against 11 = .ok (.aload_n 0, 1) := by decide +kernel
theorem dX7_against_12 : decode cX7_against 12 = .ok (.getfield 9, 3) := by decide +kernel
theorem dX7_against_15 : decode cX7_against 15 = .ok (.iload_n 1, 1) := by decide +kernel
theorem dX7_against_16 : decode cX7_against 16 = .ok (.iaload, 1) := by decide +kernel
theorem dX7_against_17 : decode cX7_against 17 = .ok (.iload_n 2, 1) := by decide +kernel
theorem dX7_against_18 : decode cX7_against 18 = .ok (.if_icmp .eq 5, 3) := by decide +kernel
theorem dX7_against_21 : decode cX7_against 21 = .ok (.iconst 2, 1) := by decide +kernel
theorem dX7_against_22 : decode cX7_against 22 = .ok (.ireturn, 1) := by decide +kernel
theorem dX7_against_23 : decode cX7_against 23 = .ok (.aload_n 0, 1) := by decide +kernel
theorem dX7_against_24 : decode cX7_against 24 = .ok (.getfield 9, 3) := by decide +kernel
theorem dX7_against_27 : decode cX7_against 27 = .ok (.iload_n 1, 1) := by decide +kernel
theorem dX7_against_28 : decode cX7_against 28 = .ok (.iaload, 1) := by decide +kernel
theorem dX7_against_29 : decode cX7_against 29 = .ok (.bipush (-9), 2) := by decide +kernel
theorem dX7_against_31 : decode cX7_against 31 = .ok (.if_icmp .ne 5, 3) := by decide +kernel
theorem dX7_against_34 : decode cX7_against 34 = .ok (.iconst 1, 1) := by decide +kernel
theorem dX7_against_35 : decode cX7_against 35 = .ok (.ireturn, 1) := by decide +kernel
theorem dX7_against_36 : decode cX7_against 36 = .ok (.iload 4, 2) := by decide +kernel
theorem dX7_against_38 : decode cX7_against 38 = .ok (.ifCond .ge 5, 3) := by decide +kernel
theorem dX7_against_41 : decode cX7_against 41 = .ok (.iconst 4, 1) := by decide +kernel
theorem dX7_against_42 : decode cX7_against 42 = .ok (.ireturn, 1) := by decide +kernel
theorem dX7_against_43 : decode cX7_against 43 = .ok (.iload_n 3, 1) := by decide +kernel
theorem dX7_against_44 : decode cX7_against 44 = .ok (.ifCond .lt 26, 3) := by decide +kernel
theorem dX7_against_47 : decode cX7_against 47 = .ok (.iload_n 3, 1) := by decide +kernel
theorem dX7_against_48 : decode cX7_against 48 = .ok (.aload_n 0, 1) := by decide +kernel
theorem dX7_against_49 : decode cX7_against 49 = .ok (.getfield 13, 3) := by decide +kernel
theorem dX7_against_52 : decode cX7_against 52 = .ok (.iload_n 1, 1) := by decide +kernel
theorem dX7_against_53 : decode cX7_against 53 = .ok (.iaload, 1) := by decide +kernel
theorem dX7_against_54 : decode cX7_against 54 = .ok (.if_icmp .gt 16, 3) := by decide +kernel
theorem dX7_against_57 : decode cX7_against 57 = .ok (.iload 4, 2) := by decide +kernel
theorem dX7_against_59 : decode cX7_against 59 = .ok (.aload_n 0, 1) := by decide +kernel
theorem dX7_against_60 : decode cX7_against 60 = .ok (.getfield 13, 3) := by decide +kernel
theorem dX7_against_63 : decode cX7_against 63 = .ok (.iload_n 1, 1) := by decide +kernel
theorem dX7_against_64 : decode cX7_against 64 = .ok (.iaload, 1) := by decide +kernel
theorem dX7_against_65 : decode cX7_against 65 = .ok (.iload_n 3, 1) := by decide +kernel
theorem dX7_against_66 : decode cX7_against 66 = .ok (.isub, 1) := by decide +kernel
theorem dX7_against_67 : decode cX7_against 67 = .ok (.if_icmp .le 7, 3) := by decide +kernel
theorem dX7_against_70 : decode cX7_against 70 = .ok (.iconst 3, 1) := by decide +kernel
theorem dX7_against_71 : decode cX7_against 71 = .ok (.goto 4, 3) := by decide +kernel
theorem dX7_against_74 : decode cX7_against 74 = .ok (.iconst 0, 1) := by decide +kernel
theorem dX7_against_75 : decode cX7_against 75 = .ok (.ireturn, 1) := by decide +kernel
theorem dX7_isGuest_0 : decode cX7_isGuest 0 = .ok (.iload_n 1, 1) := by decide +kernel
theorem dX7_isGuest_1 : decode cX7_isGuest 1 = .ok (.ifCond .lt 15, 3) := by decide +kernel
theorem dX7_isGuest_4 : decode cX7_isGuest 4 = .ok (.iload_n 1, 1) := by decide +kernel
theorem dX7_isGuest_5 : decode cX7_isGuest 5 = .ok (.aload_n 0, 1) := by decide +kernel
theorem dX7_isGuest_6 : decode cX7_isGuest 6 = .ok (.getfield 125, 3) := by decide +kernel
theorem dX7_isGuest_9 : decode cX7_isGuest 9 = .ok (.if_icmp .ge 7, 3) := by decide +kernel
theorem dX7_isGuest_12 : decode cX7_isGuest 12 = .ok (.iconst 1, 1) := by decide +kernel
theorem dX7_isGuest_13 : decode cX7_isGuest 13 = .ok (.goto 4, 3) := by decide +kernel
theorem dX7_isGuest_16 : decode cX7_isGuest 16 = .ok (.iconst 0, 1) := by decide +kernel
theorem dX7_isGuest_17 : decode cX7_isGuest 17 = .ok (.ireturn, 1) := by decide +kernel
theorem dX7_isDish_0 : decode cX7_isDish 0 = .ok (.iload_n 1, 1) := by decide +kernel
theorem dX7_isDish_1 : decode cX7_isDish 1 = .ok (.ifCond .lt 15, 3) := by decide +kernel
theorem dX7_isDish_4 : decode cX7_isDish 4 = .ok (.iload_n 1, 1) := by decide +kernel
theorem dX7_isDish_5 : decode cX7_isDish 5 = .ok (.aload_n 0, 1) := by decide +kernel
theorem dX7_isDish_6 : decode cX7_isDish 6 = .ok (.getfield 128, 3) := by decide +kernel
theorem dX7_isDish_9 : decode cX7_isDish 9 = .ok (.if_icmp .ge 7, 3) := by decide +kernel
theorem dX7_isDish_12 : decode cX7_isDish 12 = .ok (.iconst 1, 1) := by decide +kernel
theorem dX7_isDish_13 : decode cX7_isDish 13 = .ok (.goto 4, 3) := by decide +kernel
theorem dX7_isDish_16 : decode cX7_isDish 16 = .ok (.iconst 0, 1) := by decide +kernel
theorem dX7_isDish_17 : decode cX7_isDish 17 = .ok (.ireturn, 1) := by decide +kernel
theorem dX7_isTable_0 : decode cX7_isTable 0 = .ok (.aload_n 0, 1) := by decide +kernel
theorem dX7_isTable_1 : decode cX7_isTable 1 = .ok (.getfield 125, 3) := by decide +kernel
theorem dX7_isTable_4 : decode cX7_isTable 4 = .ok (.ifCond .le 7, 3) := by decide +kernel
theorem dX7_isTable_7 : decode cX7_isTable 7 = .ok (.iconst 1, 1) := by decide +kernel
theorem dX7_isTable_8 : decode cX7_isTable 8 = .ok (.goto 4, 3) := by decide +kernel
theorem dX7_isTable_11 : decode cX7_isTable 11 = .ok (.iconst 0, 1) := by decide +kernel
theorem dX7_isTable_12 : decode cX7_isTable 12 = .ok (.ireturn, 1) := by decide +kernel
theorem dX7_digitAt_0 : decode cX7_digitAt 0 = .ok (.iload_n 1, 1) := by decide +kernel
theorem dX7_digitAt_1 : decode cX7_digitAt 1 = .ok (.iload_n 2, 1) := by decide +kernel
theorem dX7_digitAt_2 : decode cX7_digitAt 2 = .ok (.if_icmp .ge 31, 3) := by decide +kernel
theorem dX7_digitAt_5 : decode cX7_digitAt 5 = .ok (.aload_n 0, 1) := by decide +kernel
theorem dX7_digitAt_6 : decode cX7_digitAt 6 = .ok (.getfield 16, 3) := by decide +kernel
theorem dX7_digitAt_9 : decode cX7_digitAt 9 = .ok (.iload_n 1, 1) := by decide +kernel
theorem dX7_digitAt_10 : decode cX7_digitAt 10 = .ok (.iaload, 1) := by decide +kernel
theorem dX7_digitAt_11 : decode cX7_digitAt 11 = .ok (.bipush 48, 2) := by decide +kernel
theorem dX7_digitAt_13 : decode cX7_digitAt 13 = .ok (.bipush 57, 2) := by decide +kernel
theorem dX7_digitAt_15 : decode cX7_digitAt 15 = .ok (.invokestatic 121, 3) := by decide +kernel
theorem dX7_digitAt_18 : decode cX7_digitAt 18 = .ok (.ifCond .eq 15, 3) := by decide +kernel
theorem dX7_digitAt_21 : decode cX7_digitAt 21 = .ok (.aload_n 0, 1) := by decide +kernel
theorem dX7_digitAt_22 : decode cX7_digitAt 22 = .ok (.getfield 16, 3) := by decide +kernel
theorem dX7_digitAt_25 : decode cX7_digitAt 25 = .ok (.iload_n 1, 1) := by decide +kernel
theorem dX7_digitAt_26 : decode cX7_digitAt 26 = .ok (.iaload, 1) := by decide +kernel
theorem dX7_digitAt_27 : decode cX7_digitAt 27 = .ok (.bipush 48, 2) := by decide +kernel
theorem dX7_digitAt_29 : decode cX7_digitAt 29 = .ok (.isub, 1) := by decide +kernel
theorem dX7_digitAt_30 : decode cX7_digitAt 30 = .ok (.goto 5, 3) := by decide +kernel
theorem dX7_digitAt_33 : decode cX7_digitAt 33 = .ok (.bipush (-9), 2) := by decide +kernel
theorem dX7_digitAt_35 : decode cX7_digitAt 35 = .ok (.ireturn, 1) := by decide +kernel
theorem dX7_isCode_0 : decode cX7_isCode 0 = .ok (.aload_n 0, 1) := by decide +kernel
theorem dX7_isCode_1 : decode cX7_isCode 1 = .ok (.getfield 131, 3) := by decide +kernel
theorem dX7_isCode_4 : decode cX7_isCode 4 = .ok (.iload_n 2, 1) := by decide +kernel
theorem dX7_isCode_5 : decode cX7_isCode 5 = .ok (.if_icmp .ge 20, 3) := by decide +kernel
theorem dX7_isCode_8 : decode cX7_isCode 8 = .ok (.aload_n 0, 1) := by decide +kernel
theorem dX7_isCode_9 : decode cX7_isCode 9 = .ok (.getfield 16, 3) := by decide +kernel
theorem dX7_isCode_12 : decode cX7_isCode 12 = .ok (.aload_n 0, 1) := by decide +kernel
theorem dX7_isCode_13 : decode cX7_isCode 13 = .ok (.getfield 131, 3) := by decide +kernel
theorem dX7_isCode_16 : decode cX7_isCode 16 = .ok (.iaload, 1) := by decide +kernel
theorem dX7_isCode_17 : decode cX7_isCode 17 = .ok (.iload_n 1, 1) := by decide +kernel
theorem dX7_isCode_18 : decode cX7_isCode 18 = .ok (.if_icmp .ne 7, 3) := by decide +kernel
theorem dX7_isCode_21 : decode cX7_isCode 21 = .ok (.iconst 1, 1) := by decide +kernel
theorem dX7_isCode_22 : decode cX7_isCode 22 = .ok (.goto 4, 3) := by decide +kernel
theorem dX7_isCode_25 : decode cX7_isCode 25 = .ok (.iconst 0, 1) := by decide +kernel
theorem dX7_isCode_26 : decode cX7_isCode 26 = .ok (.ireturn, 1) := by decide +kernel
theorem dX7_table_0 : decode cX7_table 0 = .ok (.aload_n 0, 1) := by decide +kernel
theorem dX7_table_1 : decode cX7_table 1 = .ok (.iconst 0, 1) := by decide +kernel
theorem dX7_table_2 : decode cX7_table 2 = .ok (.putfield 115, 3) := by decide +kernel
theorem dX7_table_5 : decode cX7_table 5 = .ok (.iload_n 1, 1) := by decide +kernel
theorem dX7_table_6 : decode cX7_table 6 = .ok (.invokestatic 134, 3) := by decide +kernel
theorem dX7_table_9 : decode cX7_table 9 = .ok (.ifCond .ne 5, 3) := by decide +kernel
theorem dX7_table_12 : decode cX7_table 12 = .ok (.iconst (-1), 1) := by decide +kernel
theorem dX7_table_13 : decode cX7_table 13 = .ok (.ireturn, 1) := by decide +kernel
theorem dX7_table_14 : decode cX7_table 14 = .ok (.iload_n 2, 1) := by decide +kernel
theorem dX7_table_15 : decode cX7_table 15 = .ok (.invokestatic 138, 3) := by decide +kernel
theorem dX7_table_18 : decode cX7_table 18 = .ok (.ifCond .ne 6, 3) := by decide +kernel
theorem dX7_table_21 : decode cX7_table 21 = .ok (.bipush (-2), 2) := by decide +kernel
theorem dX7_table_23 : decode cX7_table 23 = .ok (.ireturn, 1) := by decide +kernel
theorem dX7_table_24 : decode cX7_table 24 = .ok (.aload_n 0, 1) := by decide +kernel
theorem dX7_table_25 : decode cX7_table 25 = .ok (.iload_n 1, 1) := by decide +kernel
theorem dX7_table_26 : decode cX7_table 26 = .ok (.iload_n 2, 1) := by decide +kernel
theorem dX7_table_27 : decode cX7_table 27 = .ok (.iload_n 3, 1) := by decide +kernel
theorem dX7_table_28 : decode cX7_table 28 = .ok (.iload 4, 2) := by decide +kernel
theorem dX7_table_30 : decode cX7_table 30 = .ok (.invokevirtual 141, 3) := by decide +kernel
theorem dX7_table_33 : decode cX7_table 33 = .ok (.istore 5, 2) := by decide +kernel
theorem dX7_table_35 : decode cX7_table 35 = .ok (.iload 5, 2) := by decide +kernel
theorem dX7_table_37 : decode cX7_table 37 = .ok (.ifCond .eq 10, 3) := by decide +kernel
theorem dX7_table_40 : decode cX7_table 40 = .ok (.aload_n 0, 1) := by decide +kernel
theorem dX7_table_41 : decode cX7_table 41 = .ok (.iload 5, 2) := by decide +kernel
theorem dX7_table_43 : decode cX7_table 43 = .ok (.invokevirtual 145, 3) := by decide +kernel
theorem dX7_table_46 : decode cX7_table 46 = .ok (.ireturn, 1) := by decide +kernel
theorem dX7_table_47 : decode cX7_table 47 = .ok (.bipush 100, 2) := by decide +kernel
theorem dX7_table_49 : decode cX7_table 49 = .ok (.iload_n 1, 1) := by decide +kernel
theorem dX7_table_50 : decode cX7_table 50 = .ok (.imul, 1) := by decide +kernel
theorem dX7_table_51 : decode cX7_table 51 = .ok (.iload_n 3, 1) := by decide +kernel
theorem dX7_table_52 : decode cX7_table 52 = .ok (.iadd, 1) := by decide +kernel
theorem dX7_table_53 : decode cX7_table 53 = .ok (.istore 6, 2) := by decide +kernel
theorem dX7_table_55 : decode cX7_table 55 = .ok (.aload_n 0, 1) := by decide +kernel
theorem dX7_table_56 : decode cX7_table 56 = .ok (.iload 6, 2) := by decide +kernel
theorem dX7_table_58 : decode cX7_table 58 = .ok (.putfield 131, 3) := by decide +kernel
theorem dX7_table_61 : decode cX7_table 61 = .ok (.aload_n 0, 1) := by decide +kernel
theorem dX7_table_62 : decode cX7_table 62 = .ok (.iload 6, 2) := by decide +kernel
theorem dX7_table_64 : decode cX7_table 64 = .ok (.iload 4, 2) := by decide +kernel
theorem dX7_table_66 : decode cX7_table 66 = .ok (.iadd, 1) := by decide +kernel
theorem dX7_table_67 : decode cX7_table 67 = .ok (.invokevirtual 149, 3) := by decide +kernel
theorem dX7_table_70 : decode cX7_table 70 = .ok (.ifCond .ne 14, 3) := by decide +kernel
theorem dX7_table_73 : decode cX7_table 73 = .ok (.bipush (-100), 2) := by decide +kernel
theorem dX7_table_75 : decode cX7_table 75 = .ok (.aload_n 0, 1) := by decide +kernel
theorem dX7_table_76 : decode cX7_table 76 = .ok (.getfield 131, 3) := by decide +kernel
theorem dX7_table_79 : decode cX7_table 79 = .ok (.iload 6, 2) := by decide +kernel
theorem dX7_table_81 : decode cX7_table 81 = .ok (.isub, 1) := by decide +kernel
theorem dX7_table_82 : decode cX7_table 82 = .ok (.isub, 1) := by decide +kernel
theorem dX7_table_83 : decode cX7_table 83 = .ok (.ireturn, 1) := by decide +kernel
theorem dX7_table_84 : decode cX7_table 84 = .ok (.aload_n 0, 1) := by decide +kernel
theorem dX7_table_85 : decode cX7_table 85 = .ok (.invokevirtual 152, 3) := by decide +kernel
theorem dX7_table_88 : decode cX7_table 88 = .ok (.aload_n 0, 1) := by decide +kernel
theorem dX7_table_89 : decode cX7_table 89 = .ok (.getfield 125, 3) := by decide +kernel
theorem dX7_table_92 : decode cX7_table 92 = .ok (.ireturn, 1) := by decide +kernel
theorem dX7_takeTable_0 : decode cX7_takeTable 0 = .ok (.aload_n 0, 1) := by decide +kernel
theorem dX7_takeTable_1 : decode cX7_takeTable 1 = .ok (.aload_n 0, 1) := by decide +kernel
theorem dX7_takeTable_2 : decode cX7_takeTable 2 = .ok (.getfield 155, 3) := by decide +kernel
theorem dX7_takeTable_5 : decode cX7_takeTable 5 = .ok (.putfield 125, 3) := by decide +kernel
theorem dX7_takeTable_8 : decode cX7_takeTable 8 = .ok (.aload_n 0, 1) := by decide +kernel
theorem dX7_takeTable_9 : decode cX7_takeTable 9 = .ok (.aload_n 0, 1) := by decide +kernel
theorem dX7_takeTable_10 : decode cX7_takeTable 10 = .ok (.getfield 158, 3) := by decide +kernel
theorem dX7_takeTable_13 : decode cX7_takeTable 13 = .ok (.putfield 128, 3) := by decide +kernel
theorem dX7_takeTable_16 : decode cX7_takeTable 16 = .ok (.iconst 0, 1) := by decide +kernel
theorem dX7_takeTable_17 : decode cX7_takeTable 17 = .ok (.istore_n 1, 1) := by decide +kernel
theorem dX7_takeTable_18 : decode cX7_takeTable 18 = .ok (.iload_n 1, 1) := by decide +kernel
theorem dX7_takeTable_19 : decode cX7_takeTable 19 = .ok (.aload_n 0, 1) := by decide +kernel
theorem dX7_takeTable_20 : decode cX7_takeTable 20 = .ok (.getfield 128, 3) := by decide +kernel
theorem dX7_takeTable_23 : decode cX7_takeTable 23 = .ok (.if_icmp .ge 33, 3) := by decide +kernel
theorem dX7_takeTable_26 : decode cX7_takeTable 26 = .ok (.aload_n 0, 1) := by decide +kernel
theorem dX7_takeTable_27 : decode cX7_takeTable 27 = .ok (.getfield 19, 3) := by decide +kernel
theorem dX7_takeTable_30 : decode cX7_takeTable 30 = .ok (.iload_n 1, 1) := by decide +kernel
theorem dX7_takeTable_31 : decode cX7_takeTable 31 = .ok (.aload_n 0, 1) := by decide +kernel
theorem dX7_takeTable_32 : decode cX7_takeTable 32 = .ok (.getfield 46, 3) := by decide +kernel
theorem dX7_takeTable_35 : decode cX7_takeTable 35 = .ok (.iload_n 1, 1) := by decide +kernel
theorem dX7_takeTable_36 : decode cX7_takeTable 36 = .ok (.iaload, 1) := by decide +kernel
theorem dX7_takeTable_37 : decode cX7_takeTable 37 = .ok (.iastore, 1) := by decide +kernel
theorem dX7_takeTable_38 : decode cX7_takeTable 38 = .ok (.aload_n 0, 1) := by decide +kernel
theorem dX7_takeTable_39 : decode cX7_takeTable 39 = .ok (.getfield 22, 3) := by decide +kernel
theorem dX7_takeTable_42 : decode cX7_takeTable 42 = .ok (.iload_n 1, 1) := by decide +kernel
theorem dX7_takeTable_43 : decode cX7_takeTable 43 = .ok (.aload_n 0, 1) := by decide +kernel
theorem dX7_takeTable_44 : decode cX7_takeTable 44 = .ok (.getfield 49, 3) := by decide +kernel
theorem dX7_takeTable_47 : decode cX7_takeTable 47 = .ok (.iload_n 1, 1) := by decide +kernel
theorem dX7_takeTable_48 : decode cX7_takeTable 48 = .ok (.iaload, 1) := by decide +kernel
theorem dX7_takeTable_49 : decode cX7_takeTable 49 = .ok (.iastore, 1) := by decide +kernel
theorem dX7_takeTable_50 : decode cX7_takeTable 50 = .ok (.iinc 1 1, 3) := by decide +kernel
theorem dX7_takeTable_53 : decode cX7_takeTable 53 = .ok (.goto (-35), 3) := by decide +kernel
theorem dX7_takeTable_56 : decode cX7_takeTable 56 = .ok (.iconst 0, 1) := by decide +kernel
theorem dX7_takeTable_57 : decode cX7_takeTable 57 = .ok (.istore_n 1, 1) := by decide +kernel
theorem dX7_takeTable_58 : decode cX7_takeTable 58 = .ok (.iload_n 1, 1) := by decide +kernel
theorem dX7_takeTable_59 : decode cX7_takeTable 59 = .ok (.aload_n 0, 1) := by decide +kernel
theorem dX7_takeTable_60 : decode cX7_takeTable 60 = .ok (.getfield 125, 3) := by decide +kernel
theorem dX7_takeTable_63 : decode cX7_takeTable 63 = .ok (.if_icmp .ge 60, 3) := by decide +kernel
theorem dX7_takeTable_66 : decode cX7_takeTable 66 = .ok (.aload_n 0, 1) := by decide +kernel
theorem dX7_takeTable_67 : decode cX7_takeTable 67 = .ok (.getfield 25, 3) := by decide +kernel
theorem dX7_takeTable_70 : decode cX7_takeTable 70 = .ok (.iload_n 1, 1) := by decide +kernel
theorem dX7_takeTable_71 : decode cX7_takeTable 71 = .ok (.aload_n 0, 1) := by decide +kernel
theorem dX7_takeTable_72 : decode cX7_takeTable 72 = .ok (.getfield 52, 3) := by decide +kernel
theorem dX7_takeTable_75 : decode cX7_takeTable 75 = .ok (.iload_n 1, 1) := by decide +kernel
theorem dX7_takeTable_76 : decode cX7_takeTable 76 = .ok (.iaload, 1) := by decide +kernel
theorem dX7_takeTable_77 : decode cX7_takeTable 77 = .ok (.iastore, 1) := by decide +kernel
theorem dX7_takeTable_78 : decode cX7_takeTable 78 = .ok (.aload_n 0, 1) := by decide +kernel
theorem dX7_takeTable_79 : decode cX7_takeTable 79 = .ok (.getfield 28, 3) := by decide +kernel
theorem dX7_takeTable_82 : decode cX7_takeTable 82 = .ok (.iload_n 1, 1) := by decide +kernel
theorem dX7_takeTable_83 : decode cX7_takeTable 83 = .ok (.aload_n 0, 1) := by decide +kernel
theorem dX7_takeTable_84 : decode cX7_takeTable 84 = .ok (.getfield 55, 3) := by decide +kernel
theorem dX7_takeTable_87 : decode cX7_takeTable 87 = .ok (.iload_n 1, 1) := by decide +kernel
theorem dX7_takeTable_88 : decode cX7_takeTable 88 = .ok (.iaload, 1) := by decide +kernel
theorem dX7_takeTable_89 : decode cX7_takeTable 89 = .ok (.iastore, 1) := by decide +kernel
theorem dX7_takeTable_90 : decode cX7_takeTable 90 = .ok (.aload_n 0, 1) := by decide +kernel
theorem dX7_takeTable_91 : decode cX7_takeTable 91 = .ok (.getfield 31, 3) := by decide +kernel
theorem dX7_takeTable_94 : decode cX7_takeTable 94 = .ok (.iload_n 1, 1) := by decide +kernel
theorem dX7_takeTable_95 : decode cX7_takeTable 95 = .ok (.aload_n 0, 1) := by decide +kernel
theorem dX7_takeTable_96 : decode cX7_takeTable 96 = .ok (.getfield 58, 3) := by decide +kernel
theorem dX7_takeTable_99 : decode cX7_takeTable 99 = .ok (.iload_n 1, 1) := by decide +kernel
theorem dX7_takeTable_100 : decode cX7_takeTable 100 = .ok (.iaload, 1) := by decide +kernel
theorem dX7_takeTable_101 : decode cX7_takeTable 101 = .ok (.iastore, 1) := by decide +kernel
theorem dX7_takeTable_102 : decode cX7_takeTable 102 = .ok (.aload_n 0, 1) := by decide +kernel
theorem dX7_takeTable_103 : decode cX7_takeTable 103 = .ok (.getfield 40, 3) := by decide +kernel
theorem dX7_takeTable_106 : decode cX7_takeTable 106 = .ok (.iload_n 1, 1) := by decide +kernel
theorem dX7_takeTable_107 : decode cX7_takeTable 107 = .ok (.iload_n 1, 1) := by decide +kernel
theorem dX7_takeTable_108 : decode cX7_takeTable 108 = .ok (.iastore, 1) := by decide +kernel
theorem dX7_takeTable_109 : decode cX7_takeTable 109 = .ok (.aload_n 0, 1) := by decide +kernel
theorem dX7_takeTable_110 : decode cX7_takeTable 110 = .ok (.getfield 43, 3) := by decide +kernel
theorem dX7_takeTable_113 : decode cX7_takeTable 113 = .ok (.iload_n 1, 1) := by decide +kernel
theorem dX7_takeTable_114 : decode cX7_takeTable 114 = .ok (.bipush (-8), 2) := by decide +kernel
theorem dX7_takeTable_116 : decode cX7_takeTable 116 = .ok (.iastore, 1) := by decide +kernel
theorem dX7_takeTable_117 : decode cX7_takeTable 117 = .ok (.iinc 1 1, 3) := by decide +kernel
theorem dX7_takeTable_120 : decode cX7_takeTable 120 = .ok (.goto (-62), 3) := by decide +kernel
theorem dX7_takeTable_123 : decode cX7_takeTable 123 = .ok (.iconst 0, 1) := by decide +kernel
theorem dX7_takeTable_124 : decode cX7_takeTable 124 = .ok (.istore_n 1, 1) := by decide +kernel
theorem dX7_takeTable_125 : decode cX7_takeTable 125 = .ok (.iload_n 1, 1) := by decide +kernel
theorem dX7_takeTable_126 : decode cX7_takeTable 126 = .ok (.bipush 42, 2) := by decide +kernel
theorem dX7_takeTable_128 : decode cX7_takeTable 128 = .ok (.if_icmp .ge 33, 3) := by decide +kernel
theorem dX7_takeTable_131 : decode cX7_takeTable 131 = .ok (.aload_n 0, 1) := by decide +kernel
theorem dX7_takeTable_132 : decode cX7_takeTable 132 = .ok (.getfield 34, 3) := by decide +kernel
theorem dX7_takeTable_135 : decode cX7_takeTable 135 = .ok (.iload_n 1, 1) := by decide +kernel
theorem dX7_takeTable_136 : decode cX7_takeTable 136 = .ok (.aload_n 0, 1) := by decide +kernel
theorem dX7_takeTable_137 : decode cX7_takeTable 137 = .ok (.getfield 61, 3) := by decide +kernel
theorem dX7_takeTable_140 : decode cX7_takeTable 140 = .ok (.iload_n 1, 1) := by decide +kernel
theorem dX7_takeTable_141 : decode cX7_takeTable 141 = .ok (.iaload, 1) := by decide +kernel
theorem dX7_takeTable_142 : decode cX7_takeTable 142 = .ok (.iastore, 1) := by decide +kernel
theorem dX7_takeTable_143 : decode cX7_takeTable 143 = .ok (.aload_n 0, 1) := by decide +kernel
theorem dX7_takeTable_144 : decode cX7_takeTable 144 = .ok (.getfield 37, 3) := by decide +kernel
theorem dX7_takeTable_147 : decode cX7_takeTable 147 = .ok (.iload_n 1, 1) := by decide +kernel
theorem dX7_takeTable_148 : decode cX7_takeTable 148 = .ok (.aload_n 0, 1) := by decide +kernel
theorem dX7_takeTable_149 : decode cX7_takeTable 149 = .ok (.getfield 61, 3) := by decide +kernel
theorem dX7_takeTable_152 : decode cX7_takeTable 152 = .ok (.iload_n 1, 1) := by decide +kernel
theorem dX7_takeTable_153 : decode cX7_takeTable 153 = .ok (.iaload, 1) := by decide +kernel
theorem dX7_takeTable_154 : decode cX7_takeTable 154 = .ok (.iastore, 1) := by decide +kernel
theorem dX7_takeTable_155 : decode cX7_takeTable 155 = .ok (.iinc 1 1, 3) := by decide +kernel
theorem dX7_takeTable_158 : decode cX7_takeTable 158 = .ok (.goto (-33), 3) := by decide +kernel
theorem dX7_takeTable_161 : decode cX7_takeTable 161 = .ok (.aload_n 0, 1) := by decide +kernel
theorem dX7_takeTable_162 : decode cX7_takeTable 162 = .ok (.iconst 1, 1) := by decide +kernel
theorem dX7_takeTable_163 : decode cX7_takeTable 163 = .ok (.putfield 161, 3) := by decide +kernel
theorem dX7_takeTable_166 : decode cX7_takeTable 166 = .ok (.aload_n 0, 1) := by decide +kernel
theorem dX7_takeTable_167 : decode cX7_takeTable 167 = .ok (.iconst 1, 1) := by decide +kernel
theorem dX7_takeTable_168 : decode cX7_takeTable 168 = .ok (.putfield 164, 3) := by decide +kernel
theorem dX7_takeTable_171 : decode cX7_takeTable 171 = .ok (.aload_n 0, 1) := by decide +kernel
theorem dX7_takeTable_172 : decode cX7_takeTable 172 = .ok (.iconst 0, 1) := by decide +kernel
theorem dX7_takeTable_173 : decode cX7_takeTable 173 = .ok (.putfield 167, 3) := by decide +kernel
theorem dX7_takeTable_176 : decode cX7_takeTable 176 = .ok (.return_, 1) := by decide +kernel
theorem dX7_readTable_0 : decode cX7_readTable 0 = .ok (.aload_n 0, 1) := by decide +kernel
theorem dX7_readTable_1 : decode cX7_readTable 1 = .ok (.bipush 100, 2) := by decide +kernel
theorem dX7_readTable_3 : decode cX7_readTable 3 = .ok (.iload_n 1, 1) := by decide +kernel
theorem dX7_readTable_4 : decode cX7_readTable 4 = .ok (.invokevirtual 170, 3) := by decide +kernel
theorem dX7_readTable_7 : decode cX7_readTable 7 = .ok (.ifCond .ne 5, 3) := by decide +kernel
theorem dX7_readTable_10 : decode cX7_readTable 10 = .ok (.iconst 0, 1) := by decide +kernel
theorem dX7_readTable_11 : decode cX7_readTable 11 = .ok (.ireturn, 1) := by decide +kernel
theorem dX7_readTable_12 : decode cX7_readTable 12 = .ok (.aload_n 0, 1) := by decide +kernel
theorem dX7_readTable_13 : decode cX7_readTable 13 = .ok (.dup, 1) := by decide +kernel
theorem dX7_readTable_14 : decode cX7_readTable 14 = .ok (.getfield 131, 3) := by decide +kernel
theorem dX7_readTable_17 : decode cX7_readTable 17 = .ok (.iconst 1, 1) := by decide +kernel
theorem dX7_readTable_18 : decode cX7_readTable 18 = .ok (.iadd, 1) := by decide +kernel
theorem dX7_readTable_19 : decode cX7_readTable 19 = .ok (.putfield 131, 3) := by decide +kernel
theorem dX7_readTable_22 : decode cX7_readTable 22 = .ok (.aload_n 0, 1) := by decide +kernel
theorem dX7_readTable_23 : decode cX7_readTable 23 = .ok (.aload_n 0, 1) := by decide +kernel
theorem dX7_readTable_24 : decode cX7_readTable 24 = .ok (.aload_n 0, 1) := by decide +kernel
theorem dX7_readTable_25 : decode cX7_readTable 25 = .ok (.getfield 131, 3) := by decide +kernel
theorem dX7_readTable_28 : decode cX7_readTable 28 = .ok (.iload_n 1, 1) := by decide +kernel
theorem dX7_readTable_29 : decode cX7_readTable 29 = .ok (.invokevirtual 174, 3) := by decide +kernel
theorem dX7_readTable_32 : decode cX7_readTable 32 = .ok (.putfield 158, 3) := by decide +kernel
theorem dX7_readTable_35 : decode cX7_readTable 35 = .ok (.aload_n 0, 1) := by decide +kernel
theorem dX7_readTable_36 : decode cX7_readTable 36 = .ok (.getfield 158, 3) := by decide +kernel
theorem dX7_readTable_39 : decode cX7_readTable 39 = .ok (.iconst 2, 1) := by decide +kernel
theorem dX7_readTable_40 : decode cX7_readTable 40 = .ok (.bipush 6, 2) := by decide +kernel
theorem dX7_readTable_42 : decode cX7_readTable 42 = .ok (.invokestatic 121, 3) := by decide +kernel
theorem dX7_readTable_45 : decode cX7_readTable 45 = .ok (.ifCond .ne 5, 3) := by decide +kernel
theorem dX7_readTable_48 : decode cX7_readTable 48 = .ok (.iconst 0, 1) := by decide +kernel
theorem dX7_readTable_49 : decode cX7_readTable 49 = .ok (.ireturn, 1) := by decide +kernel
theorem dX7_readTable_50 : decode cX7_readTable 50 = .ok (.aload_n 0, 1) := by decide +kernel
theorem dX7_readTable_51 : decode cX7_readTable 51 = .ok (.dup, 1) := by decide +kernel
theorem dX7_readTable_52 : decode cX7_readTable 52 = .ok (.getfield 131, 3) := by decide +kernel
theorem dX7_readTable_55 : decode cX7_readTable 55 = .ok (.iconst 1, 1) := by decide +kernel
theorem dX7_readTable_56 : decode cX7_readTable 56 = .ok (.iadd, 1) := by decide +kernel
theorem dX7_readTable_57 : decode cX7_readTable 57 = .ok (.putfield 131, 3) := by decide +kernel
theorem dX7_readTable_60 : decode cX7_readTable 60 = .ok (.iconst 0, 1) := by decide +kernel
theorem dX7_readTable_61 : decode cX7_readTable 61 = .ok (.istore_n 2, 1) := by decide +kernel
theorem dX7_readTable_62 : decode cX7_readTable 62 = .ok (.iload_n 2, 1) := by decide +kernel
theorem dX7_readTable_63 : decode cX7_readTable 63 = .ok (.aload_n 0, 1) := by decide +kernel
theorem dX7_readTable_64 : decode cX7_readTable 64 = .ok (.getfield 158, 3) := by decide +kernel
theorem dX7_readTable_67 : decode cX7_readTable 67 = .ok (.if_icmp .ge 84, 3) := by decide +kernel
theorem dX7_readTable_70 : decode cX7_readTable 70 = .ok (.aload_n 0, 1) := by decide +kernel
theorem dX7_readTable_71 : decode cX7_readTable 71 = .ok (.getfield 46, 3) := by decide +kernel
theorem dX7_readTable_74 : decode cX7_readTable 74 = .ok (.iload_n 2, 1) := by decide +kernel
theorem dX7_readTable_75 : decode cX7_readTable 75 = .ok (.aload_n 0, 1) := by decide +kernel
theorem dX7_readTable_76 : decode cX7_readTable 76 = .ok (.aload_n 0, 1) := by decide +kernel
theorem dX7_readTable_77 : decode cX7_readTable 77 = .ok (.getfield 131, 3) := by decide +kernel
theorem dX7_readTable_80 : decode cX7_readTable 80 = .ok (.iload_n 1, 1) := by decide +kernel
theorem dX7_readTable_81 : decode cX7_readTable 81 = .ok (.invokevirtual 174, 3) := by decide +kernel
theorem dX7_readTable_84 : decode cX7_readTable 84 = .ok (.iastore, 1) := by decide +kernel
theorem dX7_readTable_85 : decode cX7_readTable 85 = .ok (.aload_n 0, 1) := by decide +kernel
theorem dX7_readTable_86 : decode cX7_readTable 86 = .ok (.getfield 46, 3) := by decide +kernel
theorem dX7_readTable_89 : decode cX7_readTable 89 = .ok (.iload_n 2, 1) := by decide +kernel
theorem dX7_readTable_90 : decode cX7_readTable 90 = .ok (.iaload, 1) := by decide +kernel
theorem dX7_readTable_91 : decode cX7_readTable 91 = .ok (.iconst 1, 1) := by decide +kernel
theorem dX7_readTable_92 : decode cX7_readTable 92 = .ok (.if_icmp .ge 5, 3) := by decide +kernel
theorem dX7_readTable_95 : decode cX7_readTable 95 = .ok (.iconst 0, 1) := by decide +kernel
theorem dX7_readTable_96 : decode cX7_readTable 96 = .ok (.ireturn, 1) := by decide +kernel
theorem dX7_readTable_97 : decode cX7_readTable 97 = .ok (.aload_n 0, 1) := by decide +kernel
theorem dX7_readTable_98 : decode cX7_readTable 98 = .ok (.dup, 1) := by decide +kernel
theorem dX7_readTable_99 : decode cX7_readTable 99 = .ok (.getfield 131, 3) := by decide +kernel
theorem dX7_readTable_102 : decode cX7_readTable 102 = .ok (.iconst 1, 1) := by decide +kernel
theorem dX7_readTable_103 : decode cX7_readTable 103 = .ok (.iadd, 1) := by decide +kernel
theorem dX7_readTable_104 : decode cX7_readTable 104 = .ok (.putfield 131, 3) := by decide +kernel
theorem dX7_readTable_107 : decode cX7_readTable 107 = .ok (.aload_n 0, 1) := by decide +kernel
theorem dX7_readTable_108 : decode cX7_readTable 108 = .ok (.getfield 49, 3) := by decide +kernel
theorem dX7_readTable_111 : decode cX7_readTable 111 = .ok (.iload_n 2, 1) := by decide +kernel
theorem dX7_readTable_112 : decode cX7_readTable 112 = .ok (.aload_n 0, 1) := by decide +kernel
theorem dX7_readTable_113 : decode cX7_readTable 113 = .ok (.aload_n 0, 1) := by decide +kernel
theorem dX7_readTable_114 : decode cX7_readTable 114 = .ok (.getfield 131, 3) := by decide +kernel
theorem dX7_readTable_117 : decode cX7_readTable 117 = .ok (.iload_n 1, 1) := by decide +kernel
theorem dX7_readTable_118 : decode cX7_readTable 118 = .ok (.invokevirtual 174, 3) := by decide +kernel
theorem dX7_readTable_121 : decode cX7_readTable 121 = .ok (.iastore, 1) := by decide +kernel
theorem dX7_readTable_122 : decode cX7_readTable 122 = .ok (.aload_n 0, 1) := by decide +kernel
theorem dX7_readTable_123 : decode cX7_readTable 123 = .ok (.getfield 49, 3) := by decide +kernel
theorem dX7_readTable_126 : decode cX7_readTable 126 = .ok (.iload_n 2, 1) := by decide +kernel
theorem dX7_readTable_127 : decode cX7_readTable 127 = .ok (.iaload, 1) := by decide +kernel
theorem dX7_readTable_128 : decode cX7_readTable 128 = .ok (.bipush (-9), 2) := by decide +kernel
theorem dX7_readTable_130 : decode cX7_readTable 130 = .ok (.if_icmp .ne 5, 3) := by decide +kernel
theorem dX7_readTable_133 : decode cX7_readTable 133 = .ok (.iconst 0, 1) := by decide +kernel
theorem dX7_readTable_134 : decode cX7_readTable 134 = .ok (.ireturn, 1) := by decide +kernel
theorem dX7_readTable_135 : decode cX7_readTable 135 = .ok (.aload_n 0, 1) := by decide +kernel
theorem dX7_readTable_136 : decode cX7_readTable 136 = .ok (.dup, 1) := by decide +kernel
theorem dX7_readTable_137 : decode cX7_readTable 137 = .ok (.getfield 131, 3) := by decide +kernel
theorem dX7_readTable_140 : decode cX7_readTable 140 = .ok (.iconst 1, 1) := by decide +kernel
theorem dX7_readTable_141 : decode cX7_readTable 141 = .ok (.iadd, 1) := by decide +kernel
theorem dX7_readTable_142 : decode cX7_readTable 142 = .ok (.putfield 131, 3) := by decide +kernel
theorem dX7_readTable_145 : decode cX7_readTable 145 = .ok (.iinc 2 1, 3) := by decide +kernel
theorem dX7_readTable_148 : decode cX7_readTable 148 = .ok (.goto (-86), 3) := by decide +kernel
theorem dX7_readTable_151 : decode cX7_readTable 151 = .ok (.aload_n 0, 1) := by decide +kernel
theorem dX7_readTable_152 : decode cX7_readTable 152 = .ok (.iconst 0, 1) := by decide +kernel
theorem dX7_readTable_153 : decode cX7_readTable 153 = .ok (.putfield 155, 3) := by decide +kernel
theorem dX7_readTable_156 : decode cX7_readTable 156 = .ok (.aload_n 0, 1) := by decide +kernel
theorem dX7_readTable_157 : decode cX7_readTable 157 = .ok (.getfield 155, 3) := by decide +kernel
theorem dX7_readTable_160 : decode cX7_readTable 160 = .ok (.iconst 2, 1) := by decide +kernel
theorem dX7_readTable_161 : decode cX7_readTable 161 = .ok (.if_icmp .lt 11, 3) := by decide +kernel
theorem dX7_readTable_164 : decode cX7_readTable 164 = .ok (.aload_n 0, 1) := by decide +kernel
theorem dX7_readTable_165 : decode cX7_readTable 165 = .ok (.getfield 131, 3) := by decide +kernel
theorem dX7_readTable_168 : decode cX7_readTable 168 = .ok (.iload_n 1, 1) := by decide +kernel
theorem dX7_readTable_169 : decode cX7_readTable 169 = .ok (.if_icmp .ge 44, 3) := by decide +kernel
theorem dX7_readTable_172 : decode cX7_readTable 172 = .ok (.aload_n 0, 1) := by decide +kernel
theorem dX7_readTable_173 : decode cX7_readTable 173 = .ok (.getfield 155, 3) := by decide +kernel
theorem dX7_readTable_176 : decode cX7_readTable 176 = .ok (.bipush 7, 2) := by decide +kernel
theorem dX7_readTable_178 : decode cX7_readTable 178 = .ok (.if_icmp .eq 13, 3) := by decide +kernel
theorem dX7_readTable_181 : decode cX7_readTable 181 = .ok (.aload_n 0, 1) := by decide +kernel
theorem dX7_readTable_182 : decode cX7_readTable 182 = .ok (.bipush 59, 2) := by decide +kernel
theorem dX7_readTable_184 : decode cX7_readTable 184 = .ok (.iload_n 1, 1) := by decide +kernel
theorem dX7_readTable_185 : decode cX7_readTable 185 = .ok (.invokevirtual 170, 3) := by decide +kernel
theorem dX7_readTable_188 : decode cX7_readTable 188 = .ok (.ifCond .ne 5, 3) := by decide +kernel
theorem dX7_readTable_191 : decode cX7_readTable 191 = .ok (.iconst 0, 1) := by decide +kernel
theorem dX7_readTable_192 : decode cX7_readTable 192 = .ok (.ireturn, 1) := by decide +kernel
theorem dX7_readTable_193 : decode cX7_readTable 193 = .ok (.aload_n 0, 1) := by decide +kernel
theorem dX7_readTable_194 : decode cX7_readTable 194 = .ok (.dup, 1) := by decide +kernel
theorem dX7_readTable_195 : decode cX7_readTable 195 = .ok (.getfield 131, 3) := by decide +kernel
theorem dX7_readTable_198 : decode cX7_readTable 198 = .ok (.iconst 1, 1) := by decide +kernel
theorem dX7_readTable_199 : decode cX7_readTable 199 = .ok (.iadd, 1) := by decide +kernel
theorem dX7_readTable_200 : decode cX7_readTable 200 = .ok (.putfield 131, 3) := by decide +kernel
theorem dX7_readTable_203 : decode cX7_readTable 203 = .ok (.aload_n 0, 1) := by decide +kernel
theorem dX7_readTable_204 : decode cX7_readTable 204 = .ok (.iload_n 1, 1) := by decide +kernel
theorem dX7_readTable_205 : decode cX7_readTable 205 = .ok (.invokevirtual 178, 3) := by decide +kernel
theorem dX7_readTable_208 : decode cX7_readTable 208 = .ok (.ifCond .ne (-52), 3) := by decide +kernel
theorem dX7_readTable_211 : decode cX7_readTable 211 = .ok (.iconst 0, 1) := by decide +kernel
theorem dX7_readTable_212 : decode cX7_readTable 212 = .ok (.ireturn, 1) := by decide +kernel
theorem dX7_readTable_213 : decode cX7_readTable 213 = .ok (.iconst 1, 1) := by decide +kernel
theorem dX7_readTable_214 : decode cX7_readTable 214 = .ok (.ireturn, 1) := by decide +kernel
theorem dX7_readGuest_0 : decode cX7_readGuest 0 = .ok (.aload_n 0, 1) := by decide +kernel
theorem dX7_readGuest_1 : decode cX7_readGuest 1 = .ok (.getfield 155, 3) := by decide +kernel
theorem dX7_readGuest_4 : decode cX7_readGuest 4 = .ok (.istore_n 2, 1) := by decide +kernel
theorem dX7_readGuest_5 : decode cX7_readGuest 5 = .ok (.aload_n 0, 1) := by decide +kernel
theorem dX7_readGuest_6 : decode cX7_readGuest 6 = .ok (.bipush 107, 2) := by decide +kernel
theorem dX7_readGuest_8 : decode cX7_readGuest 8 = .ok (.iload_n 1, 1) := by decide +kernel
theorem dX7_readGuest_9 : decode cX7_readGuest 9 = .ok (.invokevirtual 170, 3) := by decide +kernel
theorem dX7_readGuest_12 : decode cX7_readGuest 12 = .ok (.ifCond .eq 13, 3) := by decide +kernel
theorem dX7_readGuest_15 : decode cX7_readGuest 15 = .ok (.aload_n 0, 1) := by decide +kernel
theorem dX7_readGuest_16 : decode cX7_readGuest 16 = .ok (.getfield 52, 3) := by decide +kernel
theorem dX7_readGuest_19 : decode cX7_readGuest 19 = .ok (.iload_n 2, 1) := by decide +kernel
theorem dX7_readGuest_20 : decode cX7_readGuest 20 = .ok (.iconst 0, 1) := by decide +kernel
theorem dX7_readGuest_21 : decode cX7_readGuest 21 = .ok (.iastore, 1) := by decide +kernel
theorem dX7_readGuest_22 : decode cX7_readGuest 22 = .ok (.goto 45, 3) := by decide +kernel
theorem dX7_readGuest_25 : decode cX7_readGuest 25 = .ok (.aload_n 0, 1) := by decide +kernel
theorem dX7_readGuest_26 : decode cX7_readGuest 26 = .ok (.bipush 99, 2) := by decide +kernel
theorem dX7_readGuest_28 : decode cX7_readGuest 28 = .ok (.iload_n 1, 1) := by decide +kernel
theorem dX7_readGuest_29 : decode cX7_readGuest 29 = .ok (.invokevirtual 170, 3) := by decide +kernel
theorem dX7_readGuest_32 : decode cX7_readGuest 32 = .ok (.ifCond .eq 13, 3) := by decide +kernel
theorem dX7_readGuest_35 : decode cX7_readGuest 35 = .ok (.aload_n 0, 1) := by decide +kernel
theorem dX7_readGuest_36 : decode cX7_readGuest 36 = .ok (.getfield 52, 3) := by decide +kernel
theorem dX7_readGuest_39 : decode cX7_readGuest 39 = .ok (.iload_n 2, 1) := by decide +kernel
theorem dX7_readGuest_40 : decode cX7_readGuest 40 = .ok (.iconst 1, 1) := by decide +kernel
theorem dX7_readGuest_41 : decode cX7_readGuest 41 = .ok (.iastore, 1) := by decide +kernel
theorem dX7_readGuest_42 : decode cX7_readGuest 42 = .ok (.goto 25, 3) := by decide +kernel
theorem dX7_readGuest_45 : decode cX7_readGuest 45 = .ok (.aload_n 0, 1) := by decide +kernel
theorem dX7_readGuest_46 : decode cX7_readGuest 46 = .ok (.bipush 112, 2) := by decide +kernel
theorem dX7_readGuest_48 : decode cX7_readGuest 48 = .ok (.iload_n 1, 1) := by decide +kernel
theorem dX7_readGuest_49 : decode cX7_readGuest 49 = .ok (.invokevirtual 170, 3) := by decide +kernel
theorem dX7_readGuest_52 : decode cX7_readGuest 52 = .ok (.ifCond .eq 13, 3) := by decide +kernel
theorem dX7_readGuest_55 : decode cX7_readGuest 55 = .ok (.aload_n 0, 1) := by decide +kernel
theorem dX7_readGuest_56 : decode cX7_readGuest 56 = .ok (.getfield 52, 3) := by decide +kernel
theorem dX7_readGuest_59 : decode cX7_readGuest 59 = .ok (.iload_n 2, 1) := by decide +kernel
theorem dX7_readGuest_60 : decode cX7_readGuest 60 = .ok (.iconst 2, 1) := by decide +kernel
theorem dX7_readGuest_61 : decode cX7_readGuest 61 = .ok (.iastore, 1) := by decide +kernel
theorem dX7_readGuest_62 : decode cX7_readGuest 62 = .ok (.goto 5, 3) := by decide +kernel
theorem dX7_readGuest_65 : decode cX7_readGuest 65 = .ok (.iconst 0, 1) := by decide +kernel
theorem dX7_readGuest_66 : decode cX7_readGuest 66 = .ok (.ireturn, 1) := by decide +kernel
theorem dX7_readGuest_67 : decode cX7_readGuest 67 = .ok (.aload_n 0, 1) := by decide +kernel
theorem dX7_readGuest_68 : decode cX7_readGuest 68 = .ok (.dup, 1) := by decide +kernel
theorem dX7_readGuest_69 : decode cX7_readGuest 69 = .ok (.getfield 131, 3) := by decide +kernel
theorem dX7_readGuest_72 : decode cX7_readGuest 72 = .ok (.iconst 1, 1) := by decide +kernel
theorem dX7_readGuest_73 : decode cX7_readGuest 73 = .ok (.iadd, 1) := by decide +kernel
theorem dX7_readGuest_74 : decode cX7_readGuest 74 = .ok (.putfield 131, 3) := by decide +kernel
theorem dX7_readGuest_77 : decode cX7_readGuest 77 = .ok (.aload_n 0, 1) := by decide +kernel
theorem dX7_readGuest_78 : decode cX7_readGuest 78 = .ok (.getfield 55, 3) := by decide +kernel
theorem dX7_readGuest_81 : decode cX7_readGuest 81 = .ok (.iload_n 2, 1) := by decide +kernel
theorem dX7_readGuest_82 : decode cX7_readGuest 82 = .ok (.aload_n 0, 1) := by decide +kernel
theorem dX7_readGuest_83 : decode cX7_readGuest 83 = .ok (.aload_n 0, 1) := by decide +kernel
theorem dX7_readGuest_84 : decode cX7_readGuest 84 = .ok (.getfield 131, 3) := by decide +kernel
theorem dX7_readGuest_87 : decode cX7_readGuest 87 = .ok (.iload_n 1, 1) := by decide +kernel
theorem dX7_readGuest_88 : decode cX7_readGuest 88 = .ok (.invokevirtual 174, 3) := by decide +kernel
theorem dX7_readGuest_91 : decode cX7_readGuest 91 = .ok (.iastore, 1) := by decide +kernel
theorem dX7_readGuest_92 : decode cX7_readGuest 92 = .ok (.aload_n 0, 1) := by decide +kernel
theorem dX7_readGuest_93 : decode cX7_readGuest 93 = .ok (.getfield 55, 3) := by decide +kernel
theorem dX7_readGuest_96 : decode cX7_readGuest 96 = .ok (.iload_n 2, 1) := by decide +kernel
theorem dX7_readGuest_97 : decode cX7_readGuest 97 = .ok (.iaload, 1) := by decide +kernel
theorem dX7_readGuest_98 : decode cX7_readGuest 98 = .ok (.bipush (-9), 2) := by decide +kernel
theorem dX7_readGuest_100 : decode cX7_readGuest 100 = .ok (.if_icmp .ne 5, 3) := by decide +kernel
theorem dX7_readGuest_103 : decode cX7_readGuest 103 = .ok (.iconst 0, 1) := by decide +kernel
theorem dX7_readGuest_104 : decode cX7_readGuest 104 = .ok (.ireturn, 1) := by decide +kernel
theorem dX7_readGuest_105 : decode cX7_readGuest 105 = .ok (.aload_n 0, 1) := by decide +kernel
theorem dX7_readGuest_106 : decode cX7_readGuest 106 = .ok (.dup, 1) := by decide +kernel
theorem dX7_readGuest_107 : decode cX7_readGuest 107 = .ok (.getfield 131, 3) := by decide +kernel
theorem dX7_readGuest_110 : decode cX7_readGuest 110 = .ok (.iconst 1, 1) := by decide +kernel
theorem dX7_readGuest_111 : decode cX7_readGuest 111 = .ok (.iadd, 1) := by decide +kernel
theorem dX7_readGuest_112 : decode cX7_readGuest 112 = .ok (.putfield 131, 3) := by decide +kernel
theorem dX7_readGuest_115 : decode cX7_readGuest 115 = .ok (.aload_n 0, 1) := by decide +kernel
theorem dX7_readGuest_116 : decode cX7_readGuest 116 = .ok (.getfield 58, 3) := by decide +kernel
theorem dX7_readGuest_119 : decode cX7_readGuest 119 = .ok (.iload_n 2, 1) := by decide +kernel
theorem dX7_readGuest_120 : decode cX7_readGuest 120 = .ok (.iconst 0, 1) := by decide +kernel
theorem dX7_readGuest_121 : decode cX7_readGuest 121 = .ok (.iastore, 1) := by decide +kernel
theorem dX7_readGuest_122 : decode cX7_readGuest 122 = .ok (.aload_n 0, 1) := by decide +kernel
theorem dX7_readGuest_123 : decode cX7_readGuest 123 = .ok (.getfield 52, 3) := by decide +kernel
theorem dX7_readGuest_126 : decode cX7_readGuest 126 = .ok (.iload_n 2, 1) := by decide +kernel
theorem dX7_readGuest_127 : decode cX7_readGuest 127 = .ok (.iaload, 1) := by decide +kernel
theorem dX7_readGuest_128 : decode cX7_readGuest 128 = .ok (.iconst 2, 1) := by decide +kernel
theorem dX7_readGuest_129 : decode cX7_readGuest 129 = .ok (.if_icmp .ne 41, 3) := by decide +kernel
theorem dX7_readGuest_132 : decode cX7_readGuest 132 = .ok (.aload_n 0, 1) := by decide +kernel
theorem dX7_readGuest_133 : decode cX7_readGuest 133 = .ok (.getfield 58, 3) := by decide +kernel
theorem dX7_readGuest_136 : decode cX7_readGuest 136 = .ok (.iload_n 2, 1) := by decide +kernel
theorem dX7_readGuest_137 : decode cX7_readGuest 137 = .ok (.aload_n 0, 1) := by decide +kernel
theorem dX7_readGuest_138 : decode cX7_readGuest 138 = .ok (.aload_n 0, 1) := by decide +kernel
theorem dX7_readGuest_139 : decode cX7_readGuest 139 = .ok (.getfield 131, 3) := by decide +kernel
theorem dX7_readGuest_142 : decode cX7_readGuest 142 = .ok (.iload_n 1, 1) := by decide +kernel
theorem dX7_readGuest_143 : decode cX7_readGuest 143 = .ok (.invokevirtual 174, 3) := by decide +kernel
theorem dX7_readGuest_146 : decode cX7_readGuest 146 = .ok (.iastore, 1) := by decide +kernel
theorem dX7_readGuest_147 : decode cX7_readGuest 147 = .ok (.aload_n 0, 1) := by decide +kernel
theorem dX7_readGuest_148 : decode cX7_readGuest 148 = .ok (.getfield 58, 3) := by decide +kernel
theorem dX7_readGuest_151 : decode cX7_readGuest 151 = .ok (.iload_n 2, 1) := by decide +kernel
theorem dX7_readGuest_152 : decode cX7_readGuest 152 = .ok (.iaload, 1) := by decide +kernel
theorem dX7_readGuest_153 : decode cX7_readGuest 153 = .ok (.bipush (-9), 2) := by decide +kernel
theorem dX7_readGuest_155 : decode cX7_readGuest 155 = .ok (.if_icmp .ne 5, 3) := by decide +kernel
theorem dX7_readGuest_158 : decode cX7_readGuest 158 = .ok (.iconst 0, 1) := by decide +kernel
theorem dX7_readGuest_159 : decode cX7_readGuest 159 = .ok (.ireturn, 1) := by decide +kernel
theorem dX7_readGuest_160 : decode cX7_readGuest 160 = .ok (.aload_n 0, 1) := by decide +kernel
theorem dX7_readGuest_161 : decode cX7_readGuest 161 = .ok (.dup, 1) := by decide +kernel
theorem dX7_readGuest_162 : decode cX7_readGuest 162 = .ok (.getfield 131, 3) := by decide +kernel
theorem dX7_readGuest_165 : decode cX7_readGuest 165 = .ok (.iconst 1, 1) := by decide +kernel
theorem dX7_readGuest_166 : decode cX7_readGuest 166 = .ok (.iadd, 1) := by decide +kernel
theorem dX7_readGuest_167 : decode cX7_readGuest 167 = .ok (.putfield 131, 3) := by decide +kernel
theorem dX7_readGuest_170 : decode cX7_readGuest 170 = .ok (.iconst 0, 1) := by decide +kernel
theorem dX7_readGuest_171 : decode cX7_readGuest 171 = .ok (.istore_n 3, 1) := by decide +kernel
theorem dX7_readGuest_172 : decode cX7_readGuest 172 = .ok (.iconst 0, 1) := by decide +kernel
theorem dX7_readGuest_173 : decode cX7_readGuest 173 = .ok (.istore 4, 2) := by decide +kernel
theorem dX7_readGuest_175 : decode cX7_readGuest 175 = .ok (.iload 4, 2) := by decide +kernel
theorem dX7_readGuest_177 : decode cX7_readGuest 177 = .ok (.aload_n 0, 1) := by decide +kernel
theorem dX7_readGuest_178 : decode cX7_readGuest 178 = .ok (.getfield 158, 3) := by decide +kernel
theorem dX7_readGuest_181 : decode cX7_readGuest 181 = .ok (.if_icmp .ge 104, 3) := by decide +kernel
theorem dX7_readGuest_184 : decode cX7_readGuest 184 = .ok (.aload_n 0, 1) := by decide +kernel
theorem dX7_readGuest_185 : decode cX7_readGuest 185 = .ok (.bipush 120, 2) := by decide +kernel
theorem dX7_readGuest_187 : decode cX7_readGuest 187 = .ok (.iload_n 1, 1) := by decide +kernel
theorem dX7_readGuest_188 : decode cX7_readGuest 188 = .ok (.invokevirtual 170, 3) := by decide +kernel
theorem dX7_readGuest_191 : decode cX7_readGuest 191 = .ok (.ifCond .eq 7, 3) := by decide +kernel
theorem dX7_readGuest_194 : decode cX7_readGuest 194 = .ok (.iconst (-1), 1) := by decide +kernel
theorem dX7_readGuest_195 : decode cX7_readGuest 195 = .ok (.goto 12, 3) := by decide +kernel
theorem dX7_readGuest_198 : decode cX7_readGuest 198 = .ok (.aload_n 0, 1) := by decide +kernel
theorem dX7_readGuest_199 : decode cX7_readGuest 199 = .ok (.aload_n 0, 1) := by decide +kernel
theorem dX7_readGuest_200 : decode cX7_readGuest 200 = .ok (.getfield 131, 3) := by decide +kernel
theorem dX7_readGuest_203 : decode cX7_readGuest 203 = .ok (.iload_n 1, 1) := by decide +kernel
theorem dX7_readGuest_204 : decode cX7_readGuest 204 = .ok (.invokevirtual 174, 3) := by decide +kernel
theorem dX7_readGuest_207 : decode cX7_readGuest 207 = .ok (.istore 5, 2) := by decide +kernel
theorem dX7_readGuest_209 : decode cX7_readGuest 209 = .ok (.iload 5, 2) := by decide +kernel
theorem dX7_readGuest_211 : decode cX7_readGuest 211 = .ok (.bipush (-9), 2) := by decide +kernel
theorem dX7_readGuest_213 : decode cX7_readGuest 213 = .ok (.if_icmp .eq 24, 3) := by decide +kernel
theorem dX7_readGuest_216 : decode cX7_readGuest 216 = .ok (.iload 5, 2) := by decide +kernel
theorem dX7_readGuest_218 : decode cX7_readGuest 218 = .ok (.iconst (-1), 1) := by decide +kernel
theorem dX7_readGuest_219 : decode cX7_readGuest 219 = .ok (.if_icmp .ne 20, 3) := by decide +kernel
theorem dX7_readGuest_222 : decode cX7_readGuest 222 = .ok (.iload_n 3, 1) := by decide +kernel
theorem dX7_readGuest_223 : decode cX7_readGuest 223 = .ok (.ifCond .ne 16, 3) := by decide +kernel
theorem dX7_readGuest_226 : decode cX7_readGuest 226 = .ok (.iload 4, 2) := by decide +kernel
theorem dX7_readGuest_228 : decode cX7_readGuest 228 = .ok (.aload_n 0, 1) := by decide +kernel
theorem dX7_readGuest_229 : decode cX7_readGuest 229 = .ok (.getfield 158, 3) := by decide +kernel
theorem dX7_readGuest_232 : decode cX7_readGuest 232 = .ok (.iconst 1, 1) := by decide +kernel
theorem dX7_readGuest_233 : decode cX7_readGuest 233 = .ok (.isub, 1) := by decide +kernel
theorem dX7_readGuest_234 : decode cX7_readGuest 234 = .ok (.if_icmp .ne 5, 3) := by decide +kernel
theorem dX7_readGuest_237 : decode cX7_readGuest 237 = .ok (.iconst 0, 1) := by decide +kernel
theorem dX7_readGuest_238 : decode cX7_readGuest 238 = .ok (.ireturn, 1) := by decide +kernel
theorem dX7_readGuest_239 : decode cX7_readGuest 239 = .ok (.iload_n 3, 1) := by decide +kernel
theorem dX7_readGuest_240 : decode cX7_readGuest 240 = .ok (.ifCond .ne 9, 3) := by decide +kernel
theorem dX7_readGuest_243 : decode cX7_readGuest 243 = .ok (.iload 5, 2) := by decide +kernel
theorem dX7_readGuest_245 : decode cX7_readGuest 245 = .ok (.iconst (-1), 1) := by decide +kernel
theorem dX7_readGuest_246 : decode cX7_readGuest 246 = .ok (.if_icmp .eq 7, 3) := by decide +kernel
theorem dX7_readGuest_249 : decode cX7_readGuest 249 = .ok (.iconst 1, 1) := by decide +kernel
theorem dX7_readGuest_250 : decode cX7_readGuest 250 = .ok (.goto 4, 3) := by decide +kernel
theorem dX7_readGuest_253 : decode cX7_readGuest 253 = .ok (.iconst 0, 1) := by decide +kernel
theorem dX7_readGuest_254 : decode cX7_readGuest 254 = .ok (.istore_n 3, 1) := by decide +kernel
theorem dX7_readGuest_255 : decode cX7_readGuest 255 = .ok (.aload_n 0, 1) := by decide +kernel
theorem dX7_readGuest_256 : decode cX7_readGuest 256 = .ok (.getfield 61, 3) := by decide +kernel
theorem dX7_readGuest_259 : decode cX7_readGuest 259 = .ok (.bipush 6, 2) := by decide +kernel
theorem dX7_readGuest_261 : decode cX7_readGuest 261 = .ok (.iload_n 2, 1) := by decide +kernel
theorem dX7_readGuest_262 : decode cX7_readGuest 262 = .ok (.imul, 1) := by decide +kernel
theorem dX7_readGuest_263 : decode cX7_readGuest 263 = .ok (.iload 4, 2) := by decide +kernel
theorem dX7_readGuest_265 : decode cX7_readGuest 265 = .ok (.iadd, 1) := by decide +kernel
theorem dX7_readGuest_266 : decode cX7_readGuest 266 = .ok (.iload 5, 2) := by decide +kernel
theorem dX7_readGuest_268 : decode cX7_readGuest 268 = .ok (.iastore, 1) := by decide +kernel
theorem dX7_readGuest_269 : decode cX7_readGuest 269 = .ok (.aload_n 0, 1) := by decide +kernel
theorem dX7_readGuest_270 : decode cX7_readGuest 270 = .ok (.dup, 1) := by decide +kernel
theorem dX7_readGuest_271 : decode cX7_readGuest 271 = .ok (.getfield 131, 3) := by decide +kernel
theorem dX7_readGuest_274 : decode cX7_readGuest 274 = .ok (.iconst 1, 1) := by decide +kernel
theorem dX7_readGuest_275 : decode cX7_readGuest 275 = .ok (.iadd, 1) := by decide +kernel
theorem dX7_readGuest_276 : decode cX7_readGuest 276 = .ok (.putfield 131, 3) := by decide +kernel
theorem dX7_readGuest_279 : decode cX7_readGuest 279 = .ok (.iinc 4 1, 3) := by decide +kernel
theorem dX7_readGuest_282 : decode cX7_readGuest 282 = .ok (.goto (-107), 3) := by decide +kernel
theorem dX7_readGuest_285 : decode cX7_readGuest 285 = .ok (.aload_n 0, 1) := by decide +kernel
theorem dX7_readGuest_286 : decode cX7_readGuest 286 = .ok (.dup, 1) := by decide +kernel
theorem dX7_readGuest_287 : decode cX7_readGuest 287 = .ok (.getfield 155, 3) := by decide +kernel
theorem dX7_readGuest_290 : decode cX7_readGuest 290 = .ok (.iconst 1, 1) := by decide +kernel
theorem dX7_readGuest_291 : decode cX7_readGuest 291 = .ok (.iadd, 1) := by decide +kernel
theorem dX7_readGuest_292 : decode cX7_readGuest 292 = .ok (.putfield 155, 3) := by decide +kernel
theorem dX7_readGuest_295 : decode cX7_readGuest 295 = .ok (.iconst 1, 1) := by decide +kernel
theorem dX7_readGuest_296 : decode cX7_readGuest 296 = .ok (.ireturn, 1) := by decide +kernel
theorem dX7_ofDish_0 : decode cX7_ofDish 0 = .ok (.aload_n 0, 1) := by decide +kernel
theorem dX7_ofDish_1 : decode cX7_ofDish 1 = .ok (.iload_n 1, 1) := by decide +kernel
theorem dX7_ofDish_2 : decode cX7_ofDish 2 = .ok (.invokevirtual 181, 3) := by decide +kernel
theorem dX7_ofDish_5 : decode cX7_ofDish 5 = .ok (.ifCond .ne 5, 3) := by decide +kernel
theorem dX7_ofDish_8 : decode cX7_ofDish 8 = .ok (.iconst (-1), 1) := by decide +kernel
theorem dX7_ofDish_9 : decode cX7_ofDish 9 = .ok (.ireturn, 1) := by decide +kernel
theorem dX7_ofDish_10 : decode cX7_ofDish 10 = .ok (.iload_n 2, 1) := by decide +kernel
theorem dX7_ofDish_11 : decode cX7_ofDish 11 = .ok (.ifCond .ne 12, 3) := by decide +kernel
theorem dX7_ofDish_14 : decode cX7_ofDish 14 = .ok (.aload_n 0, 1) := by decide +kernel
theorem dX7_ofDish_15 : decode cX7_ofDish 15 = .ok (.getfield 19, 3) := by decide +kernel
theorem dX7_ofDish_18 : decode cX7_ofDish 18 = .ok (.iload_n 1, 1) := by decide +kernel
theorem dX7_ofDish_19 : decode cX7_ofDish 19 = .ok (.iaload, 1) := by decide +kernel
theorem dX7_ofDish_20 : decode cX7_ofDish 20 = .ok (.goto 19, 3) := by decide +kernel
theorem dX7_ofDish_23 : decode cX7_ofDish 23 = .ok (.iload_n 2, 1) := by decide +kernel
theorem dX7_ofDish_24 : decode cX7_ofDish 24 = .ok (.iconst 1, 1) := by decide +kernel
theorem dX7_ofDish_25 : decode cX7_ofDish 25 = .ok (.if_icmp .ne 12, 3) := by decide +kernel
theorem dX7_ofDish_28 : decode cX7_ofDish 28 = .ok (.aload_n 0, 1) := by decide +kernel
theorem dX7_ofDish_29 : decode cX7_ofDish 29 = .ok (.getfield 22, 3) := by decide +kernel
theorem dX7_ofDish_32 : decode cX7_ofDish 32 = .ok (.iload_n 1, 1) := by decide +kernel
theorem dX7_ofDish_33 : decode cX7_ofDish 33 = .ok (.iaload, 1) := by decide +kernel
theorem dX7_ofDish_34 : decode cX7_ofDish 34 = .ok (.goto 5, 3) := by decide +kernel
theorem dX7_ofDish_37 : decode cX7_ofDish 37 = .ok (.bipush (-2), 2) := by decide +kernel
theorem dX7_ofDish_39 : decode cX7_ofDish 39 = .ok (.ireturn, 1) := by decide +kernel
theorem dX7_seatOf_0 : decode cX7_seatOf 0 = .ok (.iconst 0, 1) := by decide +kernel
theorem dX7_seatOf_1 : decode cX7_seatOf 1 = .ok (.istore_n 2, 1) := by decide +kernel
theorem dX7_seatOf_2 : decode cX7_seatOf 2 = .ok (.aload_n 0, 1) := by decide +kernel
theorem dX7_seatOf_3 : decode cX7_seatOf 3 = .ok (.getfield 40, 3) := by decide +kernel
theorem dX7_seatOf_6 : decode cX7_seatOf 6 = .ok (.iload_n 2, 1) := by decide +kernel
theorem dX7_seatOf_7 : decode cX7_seatOf 7 = .ok (.iaload, 1) := by decide +kernel
theorem dX7_seatOf_8 : decode cX7_seatOf 8 = .ok (.iload_n 1, 1) := by decide +kernel
theorem dX7_seatOf_9 : decode cX7_seatOf 9 = .ok (.if_icmp .eq 9, 3) := by decide +kernel
theorem dX7_seatOf_12 : decode cX7_seatOf 12 = .ok (.iinc 2 1, 3) := by decide +kernel
theorem dX7_seatOf_15 : decode cX7_seatOf 15 = .ok (.goto (-13), 3) := by decide +kernel
theorem dX7_seatOf_18 : decode cX7_seatOf 18 = .ok (.iload_n 2, 1) := by decide +kernel
theorem dX7_seatOf_19 : decode cX7_seatOf 19 = .ok (.ireturn, 1) := by decide +kernel
theorem dX7_ofGuest_0 : decode cX7_ofGuest 0 = .ok (.aload_n 0, 1) := by decide +kernel
theorem dX7_ofGuest_1 : decode cX7_ofGuest 1 = .ok (.iload_n 1, 1) := by decide +kernel
theorem dX7_ofGuest_2 : decode cX7_ofGuest 2 = .ok (.invokevirtual 184, 3) := by decide +kernel
theorem dX7_ofGuest_5 : decode cX7_ofGuest 5 = .ok (.ifCond .ne 5, 3) := by decide +kernel
theorem dX7_ofGuest_8 : decode cX7_ofGuest 8 = .ok (.iconst (-1), 1) := by decide +kernel
theorem dX7_ofGuest_9 : decode cX7_ofGuest 9 = .ok (.ireturn, 1) := by decide +kernel
theorem dX7_ofGuest_10 : decode cX7_ofGuest 10 = .ok (.iload_n 2, 1) := by decide +kernel
theorem dX7_ofGuest_11 : decode cX7_ofGuest 11 = .ok (.tableswitch 67 0 4 #[33, 40, 47, 54, 60], 33) := by decide +kernel
theorem dX7_ofGuest_44 : decode cX7_ofGuest 44 = .ok (.aload_n 0, 1) := by decide +kernel
theorem dX7_ofGuest_45 : decode cX7_ofGuest 45 = .ok (.getfield 25, 3) := by decide +kernel
theorem dX7_ofGuest_48 : decode cX7_ofGuest 48 = .ok (.iload_n 1, 1) := by decide +kernel
theorem dX7_ofGuest_49 : decode cX7_ofGuest 49 = .ok (.iaload, 1) := by decide +kernel
theorem dX7_ofGuest_50 : decode cX7_ofGuest 50 = .ok (.ireturn, 1) := by decide +kernel
theorem dX7_ofGuest_51 : decode cX7_ofGuest 51 = .ok (.aload_n 0, 1) := by decide +kernel
theorem dX7_ofGuest_52 : decode cX7_ofGuest 52 = .ok (.getfield 28, 3) := by decide +kernel
theorem dX7_ofGuest_55 : decode cX7_ofGuest 55 = .ok (.iload_n 1, 1) := by decide +kernel
theorem dX7_ofGuest_56 : decode cX7_ofGuest 56 = .ok (.iaload, 1) := by decide +kernel
theorem dX7_ofGuest_57 : decode cX7_ofGuest 57 = .ok (.ireturn, 1) := by decide +kernel
theorem dX7_ofGuest_58 : decode cX7_ofGuest 58 = .ok (.aload_n 0, 1) := by decide +kernel
theorem dX7_ofGuest_59 : decode cX7_ofGuest 59 = .ok (.getfield 31, 3) := by decide +kernel
theorem dX7_ofGuest_62 : decode cX7_ofGuest 62 = .ok (.iload_n 1, 1) := by decide +kernel
theorem dX7_ofGuest_63 : decode cX7_ofGuest 63 = .ok (.iaload, 1) := by decide +kernel
theorem dX7_ofGuest_64 : decode cX7_ofGuest 64 = .ok (.ireturn, 1) := by decide +kernel
theorem dX7_ofGuest_65 : decode cX7_ofGuest 65 = .ok (.aload_n 0, 1) := by decide +kernel
theorem dX7_ofGuest_66 : decode cX7_ofGuest 66 = .ok (.iload_n 1, 1) := by decide +kernel
theorem dX7_ofGuest_67 : decode cX7_ofGuest 67 = .ok (.invokevirtual 187, 3) := by decide +kernel
theorem dX7_ofGuest_70 : decode cX7_ofGuest 70 = .ok (.ireturn, 1) := by decide +kernel
theorem dX7_ofGuest_71 : decode cX7_ofGuest 71 = .ok (.aload_n 0, 1) := by decide +kernel
theorem dX7_ofGuest_72 : decode cX7_ofGuest 72 = .ok (.getfield 43, 3) := by decide +kernel
theorem dX7_ofGuest_75 : decode cX7_ofGuest 75 = .ok (.iload_n 1, 1) := by decide +kernel
theorem dX7_ofGuest_76 : decode cX7_ofGuest 76 = .ok (.iaload, 1) := by decide +kernel
theorem dX7_ofGuest_77 : decode cX7_ofGuest 77 = .ok (.ireturn, 1) := by decide +kernel
theorem dX7_ofGuest_78 : decode cX7_ofGuest 78 = .ok (.bipush (-2), 2) := by decide +kernel
theorem dX7_ofGuest_80 : decode cX7_ofGuest 80 = .ok (.ireturn, 1) := by decide +kernel
theorem dX7_worth_0 : decode cX7_worth 0 = .ok (.aload_n 0, 1) := by decide +kernel
theorem dX7_worth_1 : decode cX7_worth 1 = .ok (.iload_n 1, 1) := by decide +kernel
theorem dX7_worth_2 : decode cX7_worth 2 = .ok (.invokevirtual 184, 3) := by decide +kernel
theorem dX7_worth_5 : decode cX7_worth 5 = .ok (.ifCond .eq 11, 3) := by decide +kernel
theorem dX7_worth_8 : decode cX7_worth 8 = .ok (.aload_n 0, 1) := by decide +kernel
theorem dX7_worth_9 : decode cX7_worth 9 = .ok (.iload_n 2, 1) := by decide +kernel
theorem dX7_worth_10 : decode cX7_worth 10 = .ok (.invokevirtual 181, 3) := by decide +kernel
theorem dX7_worth_13 : decode cX7_worth 13 = .ok (.ifCond .ne 6, 3) := by decide +kernel
theorem dX7_worth_16 : decode cX7_worth 16 = .ok (.bipush (-5), 2) := by decide +kernel
theorem dX7_worth_18 : decode cX7_worth 18 = .ok (.ireturn, 1) := by decide +kernel
theorem dX7_worth_19 : decode cX7_worth 19 = .ok (.iload_n 3, 1) := by decide +kernel
theorem dX7_worth_20 : decode cX7_worth 20 = .ok (.ifCond .eq 17, 3) := by decide +kernel
theorem dX7_worth_23 : decode cX7_worth 23 = .ok (.aload_n 0, 1) := by decide +kernel
theorem dX7_worth_24 : decode cX7_worth 24 = .ok (.getfield 37, 3) := by decide +kernel
theorem dX7_worth_27 : decode cX7_worth 27 = .ok (.bipush 6, 2) := by decide +kernel
theorem dX7_worth_29 : decode cX7_worth 29 = .ok (.iload_n 1, 1) := by decide +kernel
theorem dX7_worth_30 : decode cX7_worth 30 = .ok (.imul, 1) := by decide +kernel
theorem dX7_worth_31 : decode cX7_worth 31 = .ok (.iload_n 2, 1) := by decide +kernel
theorem dX7_worth_32 : decode cX7_worth 32 = .ok (.iadd, 1) := by decide +kernel
theorem dX7_worth_33 : decode cX7_worth 33 = .ok (.iaload, 1) := by decide +kernel
theorem dX7_worth_34 : decode cX7_worth 34 = .ok (.goto 14, 3) := by decide +kernel
theorem dX7_worth_37 : decode cX7_worth 37 = .ok (.aload_n 0, 1) := by decide +kernel
theorem dX7_worth_38 : decode cX7_worth 38 = .ok (.getfield 34, 3) := by decide +kernel
theorem dX7_worth_41 : decode cX7_worth 41 = .ok (.bipush 6, 2) := by decide +kernel
theorem dX7_worth_43 : decode cX7_worth 43 = .ok (.iload_n 1, 1) := by decide +kernel
theorem dX7_worth_44 : decode cX7_worth 44 = .ok (.imul, 1) := by decide +kernel
theorem dX7_worth_45 : decode cX7_worth 45 = .ok (.iload_n 2, 1) := by decide +kernel
theorem dX7_worth_46 : decode cX7_worth 46 = .ok (.iadd, 1) := by decide +kernel
theorem dX7_worth_47 : decode cX7_worth 47 = .ok (.iaload, 1) := by decide +kernel
theorem dX7_worth_48 : decode cX7_worth 48 = .ok (.ireturn, 1) := by decide +kernel
theorem dX7_say_0 : decode cX7_say 0 = .ok (.aload_n 0, 1) := by decide +kernel
theorem dX7_say_1 : decode cX7_say 1 = .ok (.iload_n 1, 1) := by decide +kernel
theorem dX7_say_2 : decode cX7_say 2 = .ok (.invokevirtual 184, 3) := by decide +kernel
theorem dX7_say_5 : decode cX7_say 5 = .ok (.ifCond .eq 11, 3) := by decide +kernel
theorem dX7_say_8 : decode cX7_say 8 = .ok (.aload_n 0, 1) := by decide +kernel
theorem dX7_say_9 : decode cX7_say 9 = .ok (.iload_n 2, 1) := by decide +kernel
theorem dX7_say_10 : decode cX7_say 10 = .ok (.invokevirtual 181, 3) := by decide +kernel
theorem dX7_say_13 : decode cX7_say 13 = .ok (.ifCond .ne 5, 3) := by decide +kernel
theorem dX7_say_16 : decode cX7_say 16 = .ok (.iconst (-1), 1) := by decide +kernel
theorem dX7_say_17 : decode cX7_say 17 = .ok (.ireturn, 1) := by decide +kernel
theorem dX7_say_18 : decode cX7_say 18 = .ok (.iload_n 3, 1) := by decide +kernel
theorem dX7_say_19 : decode cX7_say 19 = .ok (.iconst 0, 1) := by decide +kernel
theorem dX7_say_20 : decode cX7_say 20 = .ok (.bipush 9, 2) := by decide +kernel
theorem dX7_say_22 : decode cX7_say 22 = .ok (.invokestatic 121, 3) := by decide +kernel
theorem dX7_say_25 : decode cX7_say 25 = .ok (.ifCond .ne 6, 3) := by decide +kernel
theorem dX7_say_28 : decode cX7_say 28 = .ok (.bipush (-2), 2) := by decide +kernel
theorem dX7_say_30 : decode cX7_say 30 = .ok (.ireturn, 1) := by decide +kernel
theorem dX7_say_31 : decode cX7_say 31 = .ok (.aload_n 0, 1) := by decide +kernel
theorem dX7_say_32 : decode cX7_say 32 = .ok (.getfield 34, 3) := by decide +kernel
theorem dX7_say_35 : decode cX7_say 35 = .ok (.bipush 6, 2) := by decide +kernel
theorem dX7_say_37 : decode cX7_say 37 = .ok (.iload_n 1, 1) := by decide +kernel
theorem dX7_say_38 : decode cX7_say 38 = .ok (.imul, 1) := by decide +kernel
theorem dX7_say_39 : decode cX7_say 39 = .ok (.iload_n 2, 1) := by decide +kernel
theorem dX7_say_40 : decode cX7_say 40 = .ok (.iadd, 1) := by decide +kernel
theorem dX7_say_41 : decode cX7_say 41 = .ok (.iaload, 1) := by decide +kernel
theorem dX7_say_42 : decode cX7_say 42 = .ok (.iconst (-1), 1) := by decide +kernel
theorem dX7_say_43 : decode cX7_say 43 = .ok (.if_icmp .ne 6, 3) := by decide +kernel
theorem dX7_say_46 : decode cX7_say 46 = .ok (.bipush (-3), 2) := by decide +kernel
theorem dX7_say_48 : decode cX7_say 48 = .ok (.ireturn, 1) := by decide +kernel
theorem dX7_say_49 : decode cX7_say 49 = .ok (.aload_n 0, 1) := by decide +kernel
theorem dX7_say_50 : decode cX7_say 50 = .ok (.getfield 37, 3) := by decide +kernel
theorem dX7_say_53 : decode cX7_say 53 = .ok (.bipush 6, 2) := by decide +kernel
theorem dX7_say_55 : decode cX7_say 55 = .ok (.iload_n 1, 1) := by decide +kernel
theorem dX7_say_56 : decode cX7_say 56 = .ok (.imul, 1) := by decide +kernel
theorem dX7_say_57 : decode cX7_say 57 = .ok (.iload_n 2, 1) := by decide +kernel
theorem dX7_say_58 : decode cX7_say 58 = .ok (.iadd, 1) := by decide +kernel
theorem dX7_say_59 : decode cX7_say 59 = .ok (.iaload, 1) := by decide +kernel
theorem dX7_say_60 : decode cX7_say 60 = .ok (.istore 4, 2) := by decide +kernel
theorem dX7_say_62 : decode cX7_say 62 = .ok (.aload_n 0, 1) := by decide +kernel
theorem dX7_say_63 : decode cX7_say 63 = .ok (.getfield 37, 3) := by decide +kernel
theorem dX7_say_66 : decode cX7_say 66 = .ok (.bipush 6, 2) := by decide +kernel
theorem dX7_say_68 : decode cX7_say 68 = .ok (.iload_n 1, 1) := by decide +kernel
theorem dX7_say_69 : decode cX7_say 69 = .ok (.imul, 1) := by decide +kernel
theorem dX7_say_70 : decode cX7_say 70 = .ok (.iload_n 2, 1) := by decide +kernel
theorem dX7_say_71 : decode cX7_say 71 = .ok (.iadd, 1) := by decide +kernel
theorem dX7_say_72 : decode cX7_say 72 = .ok (.iload_n 3, 1) := by decide +kernel
theorem dX7_say_73 : decode cX7_say 73 = .ok (.iastore, 1) := by decide +kernel
theorem dX7_say_74 : decode cX7_say 74 = .ok (.iload 4, 2) := by decide +kernel
theorem dX7_say_76 : decode cX7_say 76 = .ok (.ireturn, 1) := by decide +kernel
theorem dX7_swap_0 : decode cX7_swap 0 = .ok (.aload_n 0, 1) := by decide +kernel
theorem dX7_swap_1 : decode cX7_swap 1 = .ok (.iload_n 1, 1) := by decide +kernel
theorem dX7_swap_2 : decode cX7_swap 2 = .ok (.invokevirtual 184, 3) := by decide +kernel
theorem dX7_swap_5 : decode cX7_swap 5 = .ok (.ifCond .eq 11, 3) := by decide +kernel
theorem dX7_swap_8 : decode cX7_swap 8 = .ok (.aload_n 0, 1) := by decide +kernel
theorem dX7_swap_9 : decode cX7_swap 9 = .ok (.iload_n 2, 1) := by decide +kernel
theorem dX7_swap_10 : decode cX7_swap 10 = .ok (.invokevirtual 184, 3) := by decide +kernel
theorem dX7_swap_13 : decode cX7_swap 13 = .ok (.ifCond .ne 5, 3) := by decide +kernel
theorem dX7_swap_16 : decode cX7_swap 16 = .ok (.iconst (-1), 1) := by decide +kernel
theorem dX7_swap_17 : decode cX7_swap 17 = .ok (.ireturn, 1) := by decide +kernel
theorem dX7_swap_18 : decode cX7_swap 18 = .ok (.aload_n 0, 1) := by decide +kernel
theorem dX7_swap_19 : decode cX7_swap 19 = .ok (.iload_n 1, 1) := by decide +kernel
theorem dX7_swap_20 : decode cX7_swap 20 = .ok (.invokevirtual 187, 3) := by decide +kernel
theorem dX7_swap_23 : decode cX7_swap 23 = .ok (.istore_n 3, 1) := by decide +kernel
theorem dX7_swap_24 : decode cX7_swap 24 = .ok (.aload_n 0, 1) := by decide +kernel
theorem dX7_swap_25 : decode cX7_swap 25 = .ok (.iload_n 2, 1) := by decide +kernel
theorem dX7_swap_26 : decode cX7_swap 26 = .ok (.invokevirtual 187, 3) := by decide +kernel
theorem dX7_swap_29 : decode cX7_swap 29 = .ok (.istore 4, 2) := by decide +kernel
theorem dX7_swap_31 : decode cX7_swap 31 = .ok (.aload_n 0, 1) := by decide +kernel
theorem dX7_swap_32 : decode cX7_swap 32 = .ok (.getfield 40, 3) := by decide +kernel
theorem dX7_swap_35 : decode cX7_swap 35 = .ok (.iload_n 3, 1) := by decide +kernel
theorem dX7_swap_36 : decode cX7_swap 36 = .ok (.iload_n 2, 1) := by decide +kernel
theorem dX7_swap_37 : decode cX7_swap 37 = .ok (.iastore, 1) := by decide +kernel
theorem dX7_swap_38 : decode cX7_swap 38 = .ok (.aload_n 0, 1) := by decide +kernel
theorem dX7_swap_39 : decode cX7_swap 39 = .ok (.getfield 40, 3) := by decide +kernel
theorem dX7_swap_42 : decode cX7_swap 42 = .ok (.iload 4, 2) := by decide +kernel
theorem dX7_swap_44 : decode cX7_swap 44 = .ok (.iload_n 1, 1) := by decide +kernel
theorem dX7_swap_45 : decode cX7_swap 45 = .ok (.iastore, 1) := by decide +kernel
theorem dX7_swap_46 : decode cX7_swap 46 = .ok (.iconst 1, 1) := by decide +kernel
theorem dX7_swap_47 : decode cX7_swap 47 = .ok (.ireturn, 1) := by decide +kernel
theorem dX7_step_0 : decode cX7_step 0 = .ok (.aload_n 0, 1) := by decide +kernel
theorem dX7_step_1 : decode cX7_step 1 = .ok (.invokevirtual 190, 3) := by decide +kernel
theorem dX7_step_4 : decode cX7_step 4 = .ok (.ifCond .eq 17, 3) := by decide +kernel
theorem dX7_step_7 : decode cX7_step 7 = .ok (.iload_n 1, 1) := by decide +kernel
theorem dX7_step_8 : decode cX7_step 8 = .ok (.iconst 1, 1) := by decide +kernel
theorem dX7_step_9 : decode cX7_step 9 = .ok (.aload_n 0, 1) := by decide +kernel
theorem dX7_step_10 : decode cX7_step 10 = .ok (.getfield 125, 3) := by decide +kernel
theorem dX7_step_13 : decode cX7_step 13 = .ok (.iconst 1, 1) := by decide +kernel
theorem dX7_step_14 : decode cX7_step 14 = .ok (.isub, 1) := by decide +kernel
theorem dX7_step_15 : decode cX7_step 15 = .ok (.invokestatic 121, 3) := by decide +kernel
theorem dX7_step_18 : decode cX7_step 18 = .ok (.ifCond .ne 6, 3) := by decide +kernel
theorem dX7_step_21 : decode cX7_step 21 = .ok (.bipush (-2), 2) := by decide +kernel
theorem dX7_step_23 : decode cX7_step 23 = .ok (.ireturn, 1) := by decide +kernel
theorem dX7_step_24 : decode cX7_step 24 = .ok (.aload_n 0, 1) := by decide +kernel
theorem dX7_step_25 : decode cX7_step 25 = .ok (.getfield 161, 3) := by decide +kernel
theorem dX7_step_28 : decode cX7_step 28 = .ok (.istore_n 2, 1) := by decide +kernel
theorem dX7_step_29 : decode cX7_step 29 = .ok (.aload_n 0, 1) := by decide +kernel
theorem dX7_step_30 : decode cX7_step 30 = .ok (.iload_n 1, 1) := by decide +kernel
theorem dX7_step_31 : decode cX7_step 31 = .ok (.putfield 161, 3) := by decide +kernel
theorem dX7_step_34 : decode cX7_step 34 = .ok (.iload_n 2, 1) := by decide +kernel
theorem dX7_step_35 : decode cX7_step 35 = .ok (.ireturn, 1) := by decide +kernel
theorem dX7_courses_0 : decode cX7_courses 0 = .ok (.iload_n 1, 1) := by decide +kernel
theorem dX7_courses_1 : decode cX7_courses 1 = .ok (.iconst 1, 1) := by decide +kernel
theorem dX7_courses_2 : decode cX7_courses 2 = .ok (.bipush 8, 2) := by decide +kernel
theorem dX7_courses_4 : decode cX7_courses 4 = .ok (.invokestatic 121, 3) := by decide +kernel
theorem dX7_courses_7 : decode cX7_courses 7 = .ok (.ifCond .ne 6, 3) := by decide +kernel
theorem dX7_courses_10 : decode cX7_courses 10 = .ok (.bipush (-2), 2) := by decide +kernel
theorem dX7_courses_12 : decode cX7_courses 12 = .ok (.ireturn, 1) := by decide +kernel
theorem dX7_courses_13 : decode cX7_courses 13 = .ok (.aload_n 0, 1) := by decide +kernel
theorem dX7_courses_14 : decode cX7_courses 14 = .ok (.invokevirtual 190, 3) := by decide +kernel
theorem dX7_courses_17 : decode cX7_courses 17 = .ok (.ifCond .ne 6, 3) := by decide +kernel
theorem dX7_courses_20 : decode cX7_courses 20 = .ok (.bipush (-3), 2) := by decide +kernel
theorem dX7_courses_22 : decode cX7_courses 22 = .ok (.ireturn, 1) := by decide +kernel
theorem dX7_courses_23 : decode cX7_courses 23 = .ok (.aload_n 0, 1) := by decide +kernel
theorem dX7_courses_24 : decode cX7_courses 24 = .ok (.getfield 164, 3) := by decide +kernel
theorem dX7_courses_27 : decode cX7_courses 27 = .ok (.istore_n 2, 1) := by decide +kernel
theorem dX7_courses_28 : decode cX7_courses 28 = .ok (.aload_n 0, 1) := by decide +kernel
theorem dX7_courses_29 : decode cX7_courses 29 = .ok (.iload_n 1, 1) := by decide +kernel
theorem dX7_courses_30 : decode cX7_courses 30 = .ok (.putfield 164, 3) := by decide +kernel
theorem dX7_courses_33 : decode cX7_courses 33 = .ok (.iload_n 2, 1) := by decide +kernel
theorem dX7_courses_34 : decode cX7_courses 34 = .ok (.ireturn, 1) := by decide +kernel
theorem dX7_layNow_0 : decode cX7_layNow 0 = .ok (.aload_n 0, 1) := by decide +kernel
theorem dX7_layNow_1 : decode cX7_layNow 1 = .ok (.aload_n 0, 1) := by decide +kernel
theorem dX7_layNow_2 : decode cX7_layNow 2 = .ok (.getfield 125, 3) := by decide +kernel
theorem dX7_layNow_5 : decode cX7_layNow 5 = .ok (.putfield 194, 3) := by decide +kernel
theorem dX7_layNow_8 : decode cX7_layNow 8 = .ok (.aload_n 0, 1) := by decide +kernel
theorem dX7_layNow_9 : decode cX7_layNow 9 = .ok (.aload_n 0, 1) := by decide +kernel
theorem dX7_layNow_10 : decode cX7_layNow 10 = .ok (.getfield 161, 3) := by decide +kernel
theorem dX7_layNow_13 : decode cX7_layNow 13 = .ok (.putfield 197, 3) := by decide +kernel
theorem dX7_layNow_16 : decode cX7_layNow 16 = .ok (.aload_n 0, 1) := by decide +kernel
theorem dX7_layNow_17 : decode cX7_layNow 17 = .ok (.bipush (-9), 2) := by decide +kernel
theorem dX7_layNow_19 : decode cX7_layNow 19 = .ok (.putfield 200, 3) := by decide +kernel
theorem dX7_layNow_22 : decode cX7_layNow 22 = .ok (.iconst 0, 1) := by decide +kernel
theorem dX7_layNow_23 : decode cX7_layNow 23 = .ok (.istore_n 1, 1) := by decide +kernel
theorem dX7_layNow_24 : decode cX7_layNow 24 = .ok (.iload_n 1, 1) := by decide +kernel
theorem dX7_layNow_25 : decode cX7_layNow 25 = .ok (.aload_n 0, 1) := by decide +kernel
theorem dX7_layNow_26 : decode cX7_layNow 26 = .ok (.getfield 125, 3) := by decide +kernel
theorem dX7_layNow_29 : decode cX7_layNow 29 = .ok (.if_icmp .ge 45, 3) := by decide +kernel
theorem dX7_layNow_32 : decode cX7_layNow 32 = .ok (.aload_n 0, 1) := by decide +kernel
theorem dX7_layNow_33 : decode cX7_layNow 33 = .ok (.getfield 64, 3) := by decide +kernel
theorem dX7_layNow_36 : decode cX7_layNow 36 = .ok (.iload_n 1, 1) := by decide +kernel
theorem dX7_layNow_37 : decode cX7_layNow 37 = .ok (.aload_n 0, 1) := by decide +kernel
theorem dX7_layNow_38 : decode cX7_layNow 38 = .ok (.getfield 40, 3) := by decide +kernel
theorem dX7_layNow_41 : decode cX7_layNow 41 = .ok (.iload_n 1, 1) := by decide +kernel
theorem dX7_layNow_42 : decode cX7_layNow 42 = .ok (.iaload, 1) := by decide +kernel
theorem dX7_layNow_43 : decode cX7_layNow 43 = .ok (.iastore, 1) := by decide +kernel
theorem dX7_layNow_44 : decode cX7_layNow 44 = .ok (.aload_n 0, 1) := by decide +kernel
theorem dX7_layNow_45 : decode cX7_layNow 45 = .ok (.getfield 67, 3) := by decide +kernel
theorem dX7_layNow_48 : decode cX7_layNow 48 = .ok (.iload_n 1, 1) := by decide +kernel
theorem dX7_layNow_49 : decode cX7_layNow 49 = .ok (.aload_n 0, 1) := by decide +kernel
theorem dX7_layNow_50 : decode cX7_layNow 50 = .ok (.getfield 43, 3) := by decide +kernel
theorem dX7_layNow_53 : decode cX7_layNow 53 = .ok (.iload_n 1, 1) := by decide +kernel
theorem dX7_layNow_54 : decode cX7_layNow 54 = .ok (.iaload, 1) := by decide +kernel
theorem dX7_layNow_55 : decode cX7_layNow 55 = .ok (.iastore, 1) := by decide +kernel
theorem dX7_layNow_56 : decode cX7_layNow 56 = .ok (.aload_n 0, 1) := by decide +kernel
theorem dX7_layNow_57 : decode cX7_layNow 57 = .ok (.getfield 70, 3) := by decide +kernel
theorem dX7_layNow_60 : decode cX7_layNow 60 = .ok (.iload_n 1, 1) := by decide +kernel
theorem dX7_layNow_61 : decode cX7_layNow 61 = .ok (.aload_n 0, 1) := by decide +kernel
theorem dX7_layNow_62 : decode cX7_layNow 62 = .ok (.getfield 25, 3) := by decide +kernel
theorem dX7_layNow_65 : decode cX7_layNow 65 = .ok (.iload_n 1, 1) := by decide +kernel
theorem dX7_layNow_66 : decode cX7_layNow 66 = .ok (.iaload, 1) := by decide +kernel
theorem dX7_layNow_67 : decode cX7_layNow 67 = .ok (.iastore, 1) := by decide +kernel
theorem dX7_layNow_68 : decode cX7_layNow 68 = .ok (.iinc 1 1, 3) := by decide +kernel
theorem dX7_layNow_71 : decode cX7_layNow 71 = .ok (.goto (-47), 3) := by decide +kernel
theorem dX7_layNow_74 : decode cX7_layNow 74 = .ok (.return_, 1) := by decide +kernel
theorem dX7_truly_0 : decode cX7_truly 0 = .ok (.iload_n 2, 1) := by decide +kernel
theorem dX7_truly_1 : decode cX7_truly 1 = .ok (.ifCond .ge 7, 3) := by decide +kernel
theorem dX7_truly_4 : decode cX7_truly 4 = .ok (.iconst 0, 1) := by decide +kernel
theorem dX7_truly_5 : decode cX7_truly 5 = .ok (.goto 14, 3) := by decide +kernel
theorem dX7_truly_8 : decode cX7_truly 8 = .ok (.aload_n 0, 1) := by decide +kernel
theorem dX7_truly_9 : decode cX7_truly 9 = .ok (.getfield 34, 3) := by decide +kernel
theorem dX7_truly_12 : decode cX7_truly 12 = .ok (.bipush 6, 2) := by decide +kernel
theorem dX7_truly_14 : decode cX7_truly 14 = .ok (.iload_n 1, 1) := by decide +kernel
theorem dX7_truly_15 : decode cX7_truly 15 = .ok (.imul, 1) := by decide +kernel
theorem dX7_truly_16 : decode cX7_truly 16 = .ok (.iload_n 2, 1) := by decide +kernel
theorem dX7_truly_17 : decode cX7_truly 17 = .ok (.iadd, 1) := by decide +kernel
theorem dX7_truly_18 : decode cX7_truly 18 = .ok (.iaload, 1) := by decide +kernel
theorem dX7_truly_19 : decode cX7_truly 19 = .ok (.ireturn, 1) := by decide +kernel
theorem dX7_howAsks_0 : decode cX7_howAsks 0 = .ok (.iload_n 1, 1) := by decide +kernel
theorem dX7_howAsks_1 : decode cX7_howAsks 1 = .ok (.aload_n 0, 1) := by decide +kernel
theorem dX7_howAsks_2 : decode cX7_howAsks 2 = .ok (.getfield 200, 3) := by decide +kernel
theorem dX7_howAsks_5 : decode cX7_howAsks 5 = .ok (.if_icmp .ne 9, 3) := by decide +kernel
theorem dX7_howAsks_8 : decode cX7_howAsks 8 = .ok (.iload_n 2, 1) := by decide +kernel
theorem dX7_howAsks_9 : decode cX7_howAsks 9 = .ok (.ifCond .ne 5, 3) := by decide +kernel
theorem dX7_howAsks_12 : decode cX7_howAsks 12 = .ok (.iconst 2, 1) := by decide +kernel
theorem dX7_howAsks_13 : decode cX7_howAsks 13 = .ok (.ireturn, 1) := by decide +kernel
theorem dX7_howAsks_14 : decode cX7_howAsks 14 = .ok (.aload_n 0, 1) := by decide +kernel
theorem dX7_howAsks_15 : decode cX7_howAsks 15 = .ok (.getfield 70, 3) := by decide +kernel
theorem dX7_howAsks_18 : decode cX7_howAsks 18 = .ok (.iload_n 1, 1) := by decide +kernel
theorem dX7_howAsks_19 : decode cX7_howAsks 19 = .ok (.iaload, 1) := by decide +kernel
theorem dX7_howAsks_20 : decode cX7_howAsks 20 = .ok (.iconst 2, 1) := by decide +kernel
theorem dX7_howAsks_21 : decode cX7_howAsks 21 = .ok (.if_icmp .ge 10, 3) := by decide +kernel
theorem dX7_howAsks_24 : decode cX7_howAsks 24 = .ok (.aload_n 0, 1) := by decide +kernel
theorem dX7_howAsks_25 : decode cX7_howAsks 25 = .ok (.getfield 70, 3) := by decide +kernel
theorem dX7_howAsks_28 : decode cX7_howAsks 28 = .ok (.iload_n 1, 1) := by decide +kernel
theorem dX7_howAsks_29 : decode cX7_howAsks 29 = .ok (.iaload, 1) := by decide +kernel
theorem dX7_howAsks_30 : decode cX7_howAsks 30 = .ok (.ireturn, 1) := by decide +kernel
theorem dX7_howAsks_31 : decode cX7_howAsks 31 = .ok (.aload_n 0, 1) := by decide +kernel
theorem dX7_howAsks_32 : decode cX7_howAsks 32 = .ok (.getfield 67, 3) := by decide +kernel
theorem dX7_howAsks_35 : decode cX7_howAsks 35 = .ok (.iload_n 1, 1) := by decide +kernel
theorem dX7_howAsks_36 : decode cX7_howAsks 36 = .ok (.iaload, 1) := by decide +kernel
theorem dX7_howAsks_37 : decode cX7_howAsks 37 = .ok (.bipush (-8), 2) := by decide +kernel
theorem dX7_howAsks_39 : decode cX7_howAsks 39 = .ok (.if_icmp .eq 27, 3) := by decide +kernel
theorem dX7_howAsks_42 : decode cX7_howAsks 42 = .ok (.aload_n 0, 1) := by decide +kernel
theorem dX7_howAsks_43 : decode cX7_howAsks 43 = .ok (.iload_n 1, 1) := by decide +kernel
theorem dX7_howAsks_44 : decode cX7_howAsks 44 = .ok (.aload_n 0, 1) := by decide +kernel
theorem dX7_howAsks_45 : decode cX7_howAsks 45 = .ok (.getfield 67, 3) := by decide +kernel
theorem dX7_howAsks_48 : decode cX7_howAsks 48 = .ok (.iload_n 1, 1) := by decide +kernel
theorem dX7_howAsks_49 : decode cX7_howAsks 49 = .ok (.iaload, 1) := by decide +kernel
theorem dX7_howAsks_50 : decode cX7_howAsks 50 = .ok (.invokevirtual 203, 3) := by decide +kernel
theorem dX7_howAsks_53 : decode cX7_howAsks 53 = .ok (.aload_n 0, 1) := by decide +kernel
theorem dX7_howAsks_54 : decode cX7_howAsks 54 = .ok (.getfield 31, 3) := by decide +kernel
theorem dX7_howAsks_57 : decode cX7_howAsks 57 = .ok (.iload_n 1, 1) := by decide +kernel
theorem dX7_howAsks_58 : decode cX7_howAsks 58 = .ok (.iaload, 1) := by decide +kernel
theorem dX7_howAsks_59 : decode cX7_howAsks 59 = .ok (.if_icmp .ge 7, 3) := by decide +kernel
theorem dX7_howAsks_62 : decode cX7_howAsks 62 = .ok (.iconst 2, 1) := by decide +kernel
theorem dX7_howAsks_63 : decode cX7_howAsks 63 = .ok (.goto 4, 3) := by decide +kernel
theorem dX7_howAsks_66 : decode cX7_howAsks 66 = .ok (.iconst 0, 1) := by decide +kernel
theorem dX7_howAsks_67 : decode cX7_howAsks 67 = .ok (.ireturn, 1) := by decide +kernel
theorem dX7_isAhead_0 : decode cX7_isAhead 0 = .ok (.aload_n 0, 1) := by decide +kernel
theorem dX7_isAhead_1 : decode cX7_isAhead 1 = .ok (.getfield 37, 3) := by decide +kernel
theorem dX7_isAhead_4 : decode cX7_isAhead 4 = .ok (.bipush 6, 2) := by decide +kernel
theorem dX7_isAhead_6 : decode cX7_isAhead 6 = .ok (.iload_n 2, 1) := by decide +kernel
theorem dX7_isAhead_7 : decode cX7_isAhead 7 = .ok (.imul, 1) := by decide +kernel
theorem dX7_isAhead_8 : decode cX7_isAhead 8 = .ok (.iload_n 3, 1) := by decide +kernel
theorem dX7_isAhead_9 : decode cX7_isAhead 9 = .ok (.iadd, 1) := by decide +kernel
theorem dX7_isAhead_10 : decode cX7_isAhead 10 = .ok (.iaload, 1) := by decide +kernel
theorem dX7_isAhead_11 : decode cX7_isAhead 11 = .ok (.aload_n 0, 1) := by decide +kernel
theorem dX7_isAhead_12 : decode cX7_isAhead 12 = .ok (.getfield 37, 3) := by decide +kernel
theorem dX7_isAhead_15 : decode cX7_isAhead 15 = .ok (.bipush 6, 2) := by decide +kernel
theorem dX7_isAhead_17 : decode cX7_isAhead 17 = .ok (.iload_n 2, 1) := by decide +kernel
theorem dX7_isAhead_18 : decode cX7_isAhead 18 = .ok (.imul, 1) := by decide +kernel
theorem dX7_isAhead_19 : decode cX7_isAhead 19 = .ok (.iload 4, 2) := by decide +kernel
theorem dX7_isAhead_21 : decode cX7_isAhead 21 = .ok (.iadd, 1) := by decide +kernel
theorem dX7_isAhead_22 : decode cX7_isAhead 22 = .ok (.iaload, 1) := by decide +kernel
theorem dX7_isAhead_23 : decode cX7_isAhead 23 = .ok (.isub, 1) := by decide +kernel
theorem dX7_isAhead_24 : decode cX7_isAhead 24 = .ok (.istore 5, 2) := by decide +kernel
theorem dX7_isAhead_26 : decode cX7_isAhead 26 = .ok (.aload_n 0, 1) := by decide +kernel
theorem dX7_isAhead_27 : decode cX7_isAhead 27 = .ok (.getfield 22, 3) := by decide +kernel
theorem dX7_isAhead_30 : decode cX7_isAhead 30 = .ok (.iload_n 3, 1) := by decide +kernel
theorem dX7_isAhead_31 : decode cX7_isAhead 31 = .ok (.iaload, 1) := by decide +kernel
theorem dX7_isAhead_32 : decode cX7_isAhead 32 = .ok (.aload_n 0, 1) := by decide +kernel
theorem dX7_isAhead_33 : decode cX7_isAhead 33 = .ok (.getfield 22, 3) := by decide +kernel
theorem dX7_isAhead_36 : decode cX7_isAhead 36 = .ok (.iload 4, 2) := by decide +kernel
theorem dX7_isAhead_38 : decode cX7_isAhead 38 = .ok (.iaload, 1) := by decide +kernel
theorem dX7_isAhead_39 : decode cX7_isAhead 39 = .ok (.isub, 1) := by decide +kernel
theorem dX7_isAhead_40 : decode cX7_isAhead 40 = .ok (.istore 6, 2) := by decide +kernel
theorem dX7_isAhead_42 : decode cX7_isAhead 42 = .ok (.iload_n 1, 1) := by decide +kernel
theorem dX7_isAhead_43 : decode cX7_isAhead 43 = .ok (.ifCond .ne 32, 3) := by decide +kernel
theorem dX7_isAhead_46 : decode cX7_isAhead 46 = .ok (.iload 5, 2) := by decide +kernel
theorem dX7_isAhead_48 : decode cX7_isAhead 48 = .ok (.ifCond .eq 16, 3) := by decide +kernel
theorem dX7_isAhead_51 : decode cX7_isAhead 51 = .ok (.iload 5, 2) := by decide +kernel
theorem dX7_isAhead_53 : decode cX7_isAhead 53 = .ok (.ifCond .le 7, 3) := by decide +kernel
theorem dX7_isAhead_56 : decode cX7_isAhead 56 = .ok (.iconst 1, 1) := by decide +kernel
theorem dX7_isAhead_57 : decode cX7_isAhead 57 = .ok (.goto 17, 3) := by decide +kernel
theorem dX7_isAhead_60 : decode cX7_isAhead 60 = .ok (.iconst 0, 1) := by decide +kernel
theorem dX7_isAhead_61 : decode cX7_isAhead 61 = .ok (.goto 13, 3) := by decide +kernel
theorem dX7_isAhead_64 : decode cX7_isAhead 64 = .ok (.iload 6, 2) := by decide +kernel
theorem dX7_isAhead_66 : decode cX7_isAhead 66 = .ok (.ifCond .ge 7, 3) := by decide +kernel
theorem dX7_isAhead_69 : decode cX7_isAhead 69 = .ok (.iconst 1, 1) := by decide +kernel
theorem dX7_isAhead_70 : decode cX7_isAhead 70 = .ok (.goto 4, 3) := by decide +kernel
theorem dX7_isAhead_73 : decode cX7_isAhead 73 = .ok (.iconst 0, 1) := by decide +kernel
theorem dX7_isAhead_74 : decode cX7_isAhead 74 = .ok (.ireturn, 1) := by decide +kernel
theorem dX7_isAhead_75 : decode cX7_isAhead 75 = .ok (.iload_n 1, 1) := by decide +kernel
theorem dX7_isAhead_76 : decode cX7_isAhead 76 = .ok (.iconst 1, 1) := by decide +kernel
theorem dX7_isAhead_77 : decode cX7_isAhead 77 = .ok (.if_icmp .ne 32, 3) := by decide +kernel
theorem dX7_isAhead_80 : decode cX7_isAhead 80 = .ok (.iload 6, 2) := by decide +kernel
theorem dX7_isAhead_82 : decode cX7_isAhead 82 = .ok (.ifCond .eq 16, 3) := by decide +kernel
theorem dX7_isAhead_85 : decode cX7_isAhead 85 = .ok (.iload 6, 2) := by decide +kernel
theorem dX7_isAhead_87 : decode cX7_isAhead 87 = .ok (.ifCond .ge 7, 3) := by decide +kernel
theorem dX7_isAhead_90 : decode cX7_isAhead 90 = .ok (.iconst 1, 1) := by decide +kernel
theorem dX7_isAhead_91 : decode cX7_isAhead 91 = .ok (.goto 17, 3) := by decide +kernel
theorem dX7_isAhead_94 : decode cX7_isAhead 94 = .ok (.iconst 0, 1) := by decide +kernel
theorem dX7_isAhead_95 : decode cX7_isAhead 95 = .ok (.goto 13, 3) := by decide +kernel
theorem dX7_isAhead_98 : decode cX7_isAhead 98 = .ok (.iload 5, 2) := by decide +kernel
theorem dX7_isAhead_100 : decode cX7_isAhead 100 = .ok (.ifCond .le 7, 3) := by decide +kernel
theorem dX7_isAhead_103 : decode cX7_isAhead 103 = .ok (.iconst 1, 1) := by decide +kernel
theorem dX7_isAhead_104 : decode cX7_isAhead 104 = .ok (.goto 4, 3) := by decide +kernel
theorem dX7_isAhead_107 : decode cX7_isAhead 107 = .ok (.iconst 0, 1) := by decide +kernel
theorem dX7_isAhead_108 : decode cX7_isAhead 108 = .ok (.ireturn, 1) := by decide +kernel
theorem dX7_isAhead_109 : decode cX7_isAhead 109 = .ok (.iload 5, 2) := by decide +kernel
theorem dX7_isAhead_111 : decode cX7_isAhead 111 = .ok (.ifCond .eq 16, 3) := by decide +kernel
theorem dX7_isAhead_114 : decode cX7_isAhead 114 = .ok (.iload 5, 2) := by decide +kernel
theorem dX7_isAhead_116 : decode cX7_isAhead 116 = .ok (.ifCond .ge 7, 3) := by decide +kernel
theorem dX7_isAhead_119 : decode cX7_isAhead 119 = .ok (.iconst 1, 1) := by decide +kernel
theorem dX7_isAhead_120 : decode cX7_isAhead 120 = .ok (.goto 17, 3) := by decide +kernel
theorem dX7_isAhead_123 : decode cX7_isAhead 123 = .ok (.iconst 0, 1) := by decide +kernel
theorem dX7_isAhead_124 : decode cX7_isAhead 124 = .ok (.goto 13, 3) := by decide +kernel
theorem dX7_isAhead_127 : decode cX7_isAhead 127 = .ok (.iload 6, 2) := by decide +kernel
theorem dX7_isAhead_129 : decode cX7_isAhead 129 = .ok (.ifCond .ge 7, 3) := by decide +kernel
theorem dX7_isAhead_132 : decode cX7_isAhead 132 = .ok (.iconst 1, 1) := by decide +kernel
theorem dX7_isAhead_133 : decode cX7_isAhead 133 = .ok (.goto 4, 3) := by decide +kernel
theorem dX7_isAhead_136 : decode cX7_isAhead 136 = .ok (.iconst 0, 1) := by decide +kernel
theorem dX7_isAhead_137 : decode cX7_isAhead 137 = .ok (.ireturn, 1) := by decide +kernel
theorem dX7_asked_0 : decode cX7_asked 0 = .ok (.aload_n 0, 1) := by decide +kernel
theorem dX7_asked_1 : decode cX7_asked 1 = .ok (.iload_n 1, 1) := by decide +kernel
theorem dX7_asked_2 : decode cX7_asked 2 = .ok (.iload_n 3, 1) := by decide +kernel
theorem dX7_asked_3 : decode cX7_asked 3 = .ok (.invokevirtual 206, 3) := by decide +kernel
theorem dX7_asked_6 : decode cX7_asked 6 = .ok (.istore 4, 2) := by decide +kernel
theorem dX7_asked_8 : decode cX7_asked 8 = .ok (.bipush (-9), 2) := by decide +kernel
theorem dX7_asked_10 : decode cX7_asked 10 = .ok (.istore 5, 2) := by decide +kernel
theorem dX7_asked_12 : decode cX7_asked 12 = .ok (.iconst 0, 1) := by decide +kernel
theorem dX7_asked_13 : decode cX7_asked 13 = .ok (.istore 6, 2) := by decide +kernel
theorem dX7_asked_15 : decode cX7_asked 15 = .ok (.iload 6, 2) := by decide +kernel
theorem dX7_asked_17 : decode cX7_asked 17 = .ok (.aload_n 0, 1) := by decide +kernel
theorem dX7_asked_18 : decode cX7_asked 18 = .ok (.getfield 128, 3) := by decide +kernel
theorem dX7_asked_21 : decode cX7_asked 21 = .ok (.if_icmp .ge 60, 3) := by decide +kernel
theorem dX7_asked_24 : decode cX7_asked 24 = .ok (.aload_n 0, 1) := by decide +kernel
theorem dX7_asked_25 : decode cX7_asked 25 = .ok (.getfield 82, 3) := by decide +kernel
theorem dX7_asked_28 : decode cX7_asked 28 = .ok (.iload 6, 2) := by decide +kernel
theorem dX7_asked_30 : decode cX7_asked 30 = .ok (.iaload, 1) := by decide +kernel
theorem dX7_asked_31 : decode cX7_asked 31 = .ok (.ifCond .le 44, 3) := by decide +kernel
theorem dX7_asked_34 : decode cX7_asked 34 = .ok (.aload_n 0, 1) := by decide +kernel
theorem dX7_asked_35 : decode cX7_asked 35 = .ok (.getfield 34, 3) := by decide +kernel
theorem dX7_asked_38 : decode cX7_asked 38 = .ok (.bipush 6, 2) := by decide +kernel
theorem dX7_asked_40 : decode cX7_asked 40 = .ok (.iload_n 2, 1) := by decide +kernel
theorem dX7_asked_41 : decode cX7_asked 41 = .ok (.imul, 1) := by decide +kernel
theorem dX7_asked_42 : decode cX7_asked 42 = .ok (.iload 6, 2) := by decide +kernel
theorem dX7_asked_44 : decode cX7_asked 44 = .ok (.iadd, 1) := by decide +kernel
theorem dX7_asked_45 : decode cX7_asked 45 = .ok (.iaload, 1) := by decide +kernel
theorem dX7_asked_46 : decode cX7_asked 46 = .ok (.iconst (-1), 1) := by decide +kernel
theorem dX7_asked_47 : decode cX7_asked 47 = .ok (.if_icmp .eq 28, 3) := by decide +kernel
theorem dX7_asked_50 : decode cX7_asked 50 = .ok (.iload 5, 2) := by decide +kernel
theorem dX7_asked_52 : decode cX7_asked 52 = .ok (.bipush (-9), 2) := by decide +kernel
theorem dX7_asked_54 : decode cX7_asked 54 = .ok (.if_icmp .eq 17, 3) := by decide +kernel
theorem dX7_asked_57 : decode cX7_asked 57 = .ok (.aload_n 0, 1) := by decide +kernel
theorem dX7_asked_58 : decode cX7_asked 58 = .ok (.iload 4, 2) := by decide +kernel
theorem dX7_asked_60 : decode cX7_asked 60 = .ok (.iload_n 2, 1) := by decide +kernel
theorem dX7_asked_61 : decode cX7_asked 61 = .ok (.iload 6, 2) := by decide +kernel
theorem dX7_asked_63 : decode cX7_asked 63 = .ok (.iload 5, 2) := by decide +kernel
theorem dX7_asked_65 : decode cX7_asked 65 = .ok (.invokevirtual 209, 3) := by decide +kernel
theorem dX7_asked_68 : decode cX7_asked 68 = .ok (.ifCond .eq 7, 3) := by decide +kernel
theorem dX7_asked_71 : decode cX7_asked 71 = .ok (.iload 6, 2) := by decide +kernel
theorem dX7_asked_73 : decode cX7_asked 73 = .ok (.istore 5, 2) := by decide +kernel
theorem dX7_asked_75 : decode cX7_asked 75 = .ok (.iinc 6 1, 3) := by decide +kernel
theorem dX7_asked_78 : decode cX7_asked 78 = .ok (.goto (-63), 3) := by decide +kernel
theorem dX7_asked_81 : decode cX7_asked 81 = .ok (.iload 5, 2) := by decide +kernel
theorem dX7_asked_83 : decode cX7_asked 83 = .ok (.ireturn, 1) := by decide +kernel
theorem dX7_refill_0 : decode cX7_refill 0 = .ok (.iconst 0, 1) := by decide +kernel
theorem dX7_refill_1 : decode cX7_refill 1 = .ok (.istore_n 1, 1) := by decide +kernel
theorem dX7_refill_2 : decode cX7_refill 2 = .ok (.iload_n 1, 1) := by decide +kernel
theorem dX7_refill_3 : decode cX7_refill 3 = .ok (.aload_n 0, 1) := by decide +kernel
theorem dX7_refill_4 : decode cX7_refill 4 = .ok (.getfield 128, 3) := by decide +kernel
theorem dX7_refill_7 : decode cX7_refill 7 = .ok (.if_icmp .ge 21, 3) := by decide +kernel
theorem dX7_refill_10 : decode cX7_refill 10 = .ok (.aload_n 0, 1) := by decide +kernel
theorem dX7_refill_11 : decode cX7_refill 11 = .ok (.getfield 82, 3) := by decide +kernel
theorem dX7_refill_14 : decode cX7_refill 14 = .ok (.iload_n 1, 1) := by decide +kernel
theorem dX7_refill_15 : decode cX7_refill 15 = .ok (.aload_n 0, 1) := by decide +kernel
theorem dX7_refill_16 : decode cX7_refill 16 = .ok (.getfield 19, 3) := by decide +kernel
theorem dX7_refill_19 : decode cX7_refill 19 = .ok (.iload_n 1, 1) := by decide +kernel
theorem dX7_refill_20 : decode cX7_refill 20 = .ok (.iaload, 1) := by decide +kernel
theorem dX7_refill_21 : decode cX7_refill 21 = .ok (.iastore, 1) := by decide +kernel
theorem dX7_refill_22 : decode cX7_refill 22 = .ok (.iinc 1 1, 3) := by decide +kernel
theorem dX7_refill_25 : decode cX7_refill 25 = .ok (.goto (-23), 3) := by decide +kernel
theorem dX7_refill_28 : decode cX7_refill 28 = .ok (.return_, 1) := by decide +kernel
theorem dX7_goNight_0 : decode cX7_goNight 0 = .ok (.aload_n 0, 1) := by decide +kernel
theorem dX7_goNight_1 : decode cX7_goNight 1 = .ok (.invokevirtual 213, 3) := by decide +kernel
theorem dX7_goNight_4 : decode cX7_goNight 4 = .ok (.iconst 0, 1) := by decide +kernel
theorem dX7_goNight_5 : decode cX7_goNight 5 = .ok (.istore_n 1, 1) := by decide +kernel
theorem dX7_goNight_6 : decode cX7_goNight 6 = .ok (.iload_n 1, 1) := by decide +kernel
theorem dX7_goNight_7 : decode cX7_goNight 7 = .ok (.aload_n 0, 1) := by decide +kernel
theorem dX7_goNight_8 : decode cX7_goNight 8 = .ok (.getfield 125, 3) := by decide +kernel
theorem dX7_goNight_11 : decode cX7_goNight 11 = .ok (.if_icmp .ge 23, 3) := by decide +kernel
theorem dX7_goNight_14 : decode cX7_goNight 14 = .ok (.aload_n 0, 1) := by decide +kernel
theorem dX7_goNight_15 : decode cX7_goNight 15 = .ok (.getfield 76, 3) := by decide +kernel
theorem dX7_goNight_18 : decode cX7_goNight 18 = .ok (.iload_n 1, 1) := by decide +kernel
theorem dX7_goNight_19 : decode cX7_goNight 19 = .ok (.iconst 0, 1) := by decide +kernel
theorem dX7_goNight_20 : decode cX7_goNight 20 = .ok (.iastore, 1) := by decide +kernel
theorem dX7_goNight_21 : decode cX7_goNight 21 = .ok (.aload_n 0, 1) := by decide +kernel
theorem dX7_goNight_22 : decode cX7_goNight 22 = .ok (.getfield 79, 3) := by decide +kernel
theorem dX7_goNight_25 : decode cX7_goNight 25 = .ok (.iload_n 1, 1) := by decide +kernel
theorem dX7_goNight_26 : decode cX7_goNight 26 = .ok (.iconst 0, 1) := by decide +kernel
theorem dX7_goNight_27 : decode cX7_goNight 27 = .ok (.iastore, 1) := by decide +kernel
theorem dX7_goNight_28 : decode cX7_goNight 28 = .ok (.iinc 1 1, 3) := by decide +kernel
theorem dX7_goNight_31 : decode cX7_goNight 31 = .ok (.goto (-25), 3) := by decide +kernel
theorem dX7_goNight_34 : decode cX7_goNight 34 = .ok (.iconst 0, 1) := by decide +kernel
theorem dX7_goNight_35 : decode cX7_goNight 35 = .ok (.istore_n 1, 1) := by decide +kernel
theorem dX7_goNight_36 : decode cX7_goNight 36 = .ok (.iload_n 1, 1) := by decide +kernel
theorem dX7_goNight_37 : decode cX7_goNight 37 = .ok (.aload_n 0, 1) := by decide +kernel
theorem dX7_goNight_38 : decode cX7_goNight 38 = .ok (.getfield 164, 3) := by decide +kernel
theorem dX7_goNight_41 : decode cX7_goNight 41 = .ok (.if_icmp .ge 14, 3) := by decide +kernel
theorem dX7_goNight_44 : decode cX7_goNight 44 = .ok (.aload_n 0, 1) := by decide +kernel
theorem dX7_goNight_45 : decode cX7_goNight 45 = .ok (.iload_n 1, 1) := by decide +kernel
theorem dX7_goNight_46 : decode cX7_goNight 46 = .ok (.invokevirtual 216, 3) := by decide +kernel
theorem dX7_goNight_49 : decode cX7_goNight 49 = .ok (.iinc 1 1, 3) := by decide +kernel
theorem dX7_goNight_52 : decode cX7_goNight 52 = .ok (.goto (-16), 3) := by decide +kernel
theorem dX7_goNight_55 : decode cX7_goNight 55 = .ok (.aload_n 0, 1) := by decide +kernel
theorem dX7_goNight_56 : decode cX7_goNight 56 = .ok (.bipush (-9), 2) := by decide +kernel
theorem dX7_goNight_58 : decode cX7_goNight 58 = .ok (.putfield 200, 3) := by decide +kernel
theorem dX7_goNight_61 : decode cX7_goNight 61 = .ok (.return_, 1) := by decide +kernel
theorem dX7_goCourse_0 : decode cX7_goCourse 0 = .ok (.iconst 0, 1) := by decide +kernel
theorem dX7_goCourse_1 : decode cX7_goCourse 1 = .ok (.istore_n 2, 1) := by decide +kernel
theorem dX7_goCourse_2 : decode cX7_goCourse 2 = .ok (.iload_n 2, 1) := by decide +kernel
theorem dX7_goCourse_3 : decode cX7_goCourse 3 = .ok (.aload_n 0, 1) := by decide +kernel
theorem dX7_goCourse_4 : decode cX7_goCourse 4 = .ok (.getfield 194, 3) := by decide +kernel
theorem dX7_goCourse_7 : decode cX7_goCourse 7 = .ok (.if_icmp .ge 101, 3) := by decide +kernel
theorem dX7_goCourse_10 : decode cX7_goCourse 10 = .ok (.aload_n 0, 1) := by decide +kernel
theorem dX7_goCourse_11 : decode cX7_goCourse 11 = .ok (.getfield 64, 3) := by decide +kernel
theorem dX7_goCourse_14 : decode cX7_goCourse 14 = .ok (.iload_n 2, 1) := by decide +kernel
theorem dX7_goCourse_15 : decode cX7_goCourse 15 = .ok (.iaload, 1) := by decide +kernel
theorem dX7_goCourse_16 : decode cX7_goCourse 16 = .ok (.istore_n 3, 1) := by decide +kernel
theorem dX7_goCourse_17 : decode cX7_goCourse 17 = .ok (.aload_n 0, 1) := by decide +kernel
theorem dX7_goCourse_18 : decode cX7_goCourse 18 = .ok (.getfield 64, 3) := by decide +kernel
theorem dX7_goCourse_21 : decode cX7_goCourse 21 = .ok (.iload_n 2, 1) := by decide +kernel
theorem dX7_goCourse_22 : decode cX7_goCourse 22 = .ok (.aload_n 0, 1) := by decide +kernel
theorem dX7_goCourse_23 : decode cX7_goCourse 23 = .ok (.getfield 197, 3) := by decide +kernel
theorem dX7_goCourse_26 : decode cX7_goCourse 26 = .ok (.iadd, 1) := by decide +kernel
theorem dX7_goCourse_27 : decode cX7_goCourse 27 = .ok (.aload_n 0, 1) := by decide +kernel
theorem dX7_goCourse_28 : decode cX7_goCourse 28 = .ok (.getfield 194, 3) := by decide +kernel
theorem dX7_goCourse_31 : decode cX7_goCourse 31 = .ok (.irem, 1) := by decide +kernel
theorem dX7_goCourse_32 : decode cX7_goCourse 32 = .ok (.iaload, 1) := by decide +kernel
theorem dX7_goCourse_33 : decode cX7_goCourse 33 = .ok (.istore 4, 2) := by decide +kernel
theorem dX7_goCourse_35 : decode cX7_goCourse 35 = .ok (.aload_n 0, 1) := by decide +kernel
theorem dX7_goCourse_36 : decode cX7_goCourse 36 = .ok (.iload_n 3, 1) := by decide +kernel
theorem dX7_goCourse_37 : decode cX7_goCourse 37 = .ok (.iload 4, 2) := by decide +kernel
theorem dX7_goCourse_39 : decode cX7_goCourse 39 = .ok (.iload_n 1, 1) := by decide +kernel
theorem dX7_goCourse_40 : decode cX7_goCourse 40 = .ok (.invokevirtual 220, 3) := by decide +kernel
theorem dX7_goCourse_43 : decode cX7_goCourse 43 = .ok (.istore 5, 2) := by decide +kernel
theorem dX7_goCourse_45 : decode cX7_goCourse 45 = .ok (.aload_n 0, 1) := by decide +kernel
theorem dX7_goCourse_46 : decode cX7_goCourse 46 = .ok (.getfield 73, 3) := by decide +kernel
theorem dX7_goCourse_49 : decode cX7_goCourse 49 = .ok (.bipush 7, 2) := by decide +kernel
theorem dX7_goCourse_51 : decode cX7_goCourse 51 = .ok (.iload_n 1, 1) := by decide +kernel
theorem dX7_goCourse_52 : decode cX7_goCourse 52 = .ok (.imul, 1) := by decide +kernel
theorem dX7_goCourse_53 : decode cX7_goCourse 53 = .ok (.iload 4, 2) := by decide +kernel
theorem dX7_goCourse_55 : decode cX7_goCourse 55 = .ok (.iadd, 1) := by decide +kernel
theorem dX7_goCourse_56 : decode cX7_goCourse 56 = .ok (.iload 5, 2) := by decide +kernel
theorem dX7_goCourse_58 : decode cX7_goCourse 58 = .ok (.iastore, 1) := by decide +kernel
theorem dX7_goCourse_59 : decode cX7_goCourse 59 = .ok (.aload_n 0, 1) := by decide +kernel
theorem dX7_goCourse_60 : decode cX7_goCourse 60 = .ok (.getfield 67, 3) := by decide +kernel
theorem dX7_goCourse_63 : decode cX7_goCourse 63 = .ok (.iload 4, 2) := by decide +kernel
theorem dX7_goCourse_65 : decode cX7_goCourse 65 = .ok (.iload 5, 2) := by decide +kernel
theorem dX7_goCourse_67 : decode cX7_goCourse 67 = .ok (.iastore, 1) := by decide +kernel
theorem dX7_goCourse_68 : decode cX7_goCourse 68 = .ok (.iload 5, 2) := by decide +kernel
theorem dX7_goCourse_70 : decode cX7_goCourse 70 = .ok (.bipush (-9), 2) := by decide +kernel
theorem dX7_goCourse_72 : decode cX7_goCourse 72 = .ok (.if_icmp .eq 30, 3) := by decide +kernel
theorem dX7_goCourse_75 : decode cX7_goCourse 75 = .ok (.aload_n 0, 1) := by decide +kernel
theorem dX7_goCourse_76 : decode cX7_goCourse 76 = .ok (.getfield 82, 3) := by decide +kernel
theorem dX7_goCourse_79 : decode cX7_goCourse 79 = .ok (.iload 5, 2) := by decide +kernel
theorem dX7_goCourse_81 : decode cX7_goCourse 81 = .ok (.dup2, 1) := by decide +kernel
theorem dX7_goCourse_82 : decode cX7_goCourse 82 = .ok (.iaload, 1) := by decide +kernel
theorem dX7_goCourse_83 : decode cX7_goCourse 83 = .ok (.iconst 1, 1) := by decide +kernel
theorem dX7_goCourse_84 : decode cX7_goCourse 84 = .ok (.isub, 1) := by decide +kernel
theorem dX7_goCourse_85 : decode cX7_goCourse 85 = .ok (.iastore, 1) := by decide +kernel
theorem dX7_goCourse_86 : decode cX7_goCourse 86 = .ok (.aload_n 0, 1) := by decide +kernel
theorem dX7_goCourse_87 : decode cX7_goCourse 87 = .ok (.getfield 79, 3) := by decide +kernel
theorem dX7_goCourse_90 : decode cX7_goCourse 90 = .ok (.iload_n 3, 1) := by decide +kernel
theorem dX7_goCourse_91 : decode cX7_goCourse 91 = .ok (.dup2, 1) := by decide +kernel
theorem dX7_goCourse_92 : decode cX7_goCourse 92 = .ok (.iaload, 1) := by decide +kernel
theorem dX7_goCourse_93 : decode cX7_goCourse 93 = .ok (.aload_n 0, 1) := by decide +kernel
theorem dX7_goCourse_94 : decode cX7_goCourse 94 = .ok (.getfield 22, 3) := by decide +kernel
theorem dX7_goCourse_97 : decode cX7_goCourse 97 = .ok (.iload 5, 2) := by decide +kernel
theorem dX7_goCourse_99 : decode cX7_goCourse 99 = .ok (.iaload, 1) := by decide +kernel
theorem dX7_goCourse_100 : decode cX7_goCourse 100 = .ok (.iadd, 1) := by decide +kernel
theorem dX7_goCourse_101 : decode cX7_goCourse 101 = .ok (.iastore, 1) := by decide +kernel
theorem dX7_goCourse_102 : decode cX7_goCourse 102 = .ok (.iinc 2 1, 3) := by decide +kernel
theorem dX7_goCourse_105 : decode cX7_goCourse 105 = .ok (.goto (-103), 3) := by decide +kernel
theorem dX7_goCourse_108 : decode cX7_goCourse 108 = .ok (.iconst 0, 1) := by decide +kernel
theorem dX7_goCourse_109 : decode cX7_goCourse 109 = .ok (.istore_n 2, 1) := by decide +kernel
theorem dX7_goCourse_110 : decode cX7_goCourse 110 = .ok (.iload_n 2, 1) := by decide +kernel
theorem dX7_goCourse_111 : decode cX7_goCourse 111 = .ok (.aload_n 0, 1) := by decide +kernel
theorem dX7_goCourse_112 : decode cX7_goCourse 112 = .ok (.getfield 194, 3) := by decide +kernel
theorem dX7_goCourse_115 : decode cX7_goCourse 115 = .ok (.if_icmp .ge 88, 3) := by decide +kernel
theorem dX7_goCourse_118 : decode cX7_goCourse 118 = .ok (.aload_n 0, 1) := by decide +kernel
theorem dX7_goCourse_119 : decode cX7_goCourse 119 = .ok (.getfield 64, 3) := by decide +kernel
theorem dX7_goCourse_122 : decode cX7_goCourse 122 = .ok (.iload_n 2, 1) := by decide +kernel
theorem dX7_goCourse_123 : decode cX7_goCourse 123 = .ok (.iaload, 1) := by decide +kernel
theorem dX7_goCourse_124 : decode cX7_goCourse 124 = .ok (.istore_n 3, 1) := by decide +kernel
theorem dX7_goCourse_125 : decode cX7_goCourse 125 = .ok (.aload_n 0, 1) := by decide +kernel
theorem dX7_goCourse_126 : decode cX7_goCourse 126 = .ok (.getfield 64, 3) := by decide +kernel
theorem dX7_goCourse_129 : decode cX7_goCourse 129 = .ok (.iload_n 2, 1) := by decide +kernel
theorem dX7_goCourse_130 : decode cX7_goCourse 130 = .ok (.aload_n 0, 1) := by decide +kernel
theorem dX7_goCourse_131 : decode cX7_goCourse 131 = .ok (.getfield 197, 3) := by decide +kernel
theorem dX7_goCourse_134 : decode cX7_goCourse 134 = .ok (.iadd, 1) := by decide +kernel
theorem dX7_goCourse_135 : decode cX7_goCourse 135 = .ok (.aload_n 0, 1) := by decide +kernel
theorem dX7_goCourse_136 : decode cX7_goCourse 136 = .ok (.getfield 194, 3) := by decide +kernel
theorem dX7_goCourse_139 : decode cX7_goCourse 139 = .ok (.irem, 1) := by decide +kernel
theorem dX7_goCourse_140 : decode cX7_goCourse 140 = .ok (.iaload, 1) := by decide +kernel
theorem dX7_goCourse_141 : decode cX7_goCourse 141 = .ok (.istore 4, 2) := by decide +kernel
theorem dX7_goCourse_143 : decode cX7_goCourse 143 = .ok (.aload_n 0, 1) := by decide +kernel
theorem dX7_goCourse_144 : decode cX7_goCourse 144 = .ok (.getfield 76, 3) := by decide +kernel
theorem dX7_goCourse_147 : decode cX7_goCourse 147 = .ok (.iload_n 3, 1) := by decide +kernel
theorem dX7_goCourse_148 : decode cX7_goCourse 148 = .ok (.dup2, 1) := by decide +kernel
theorem dX7_goCourse_149 : decode cX7_goCourse 149 = .ok (.iaload, 1) := by decide +kernel
theorem dX7_goCourse_150 : decode cX7_goCourse 150 = .ok (.bipush 10, 2) := by decide +kernel
theorem dX7_goCourse_152 : decode cX7_goCourse 152 = .ok (.aload_n 0, 1) := by decide +kernel
theorem dX7_goCourse_153 : decode cX7_goCourse 153 = .ok (.iload_n 3, 1) := by decide +kernel
theorem dX7_goCourse_154 : decode cX7_goCourse 154 = .ok (.aload_n 0, 1) := by decide +kernel
theorem dX7_goCourse_155 : decode cX7_goCourse 155 = .ok (.getfield 73, 3) := by decide +kernel
theorem dX7_goCourse_158 : decode cX7_goCourse 158 = .ok (.bipush 7, 2) := by decide +kernel
theorem dX7_goCourse_160 : decode cX7_goCourse 160 = .ok (.iload_n 1, 1) := by decide +kernel
theorem dX7_goCourse_161 : decode cX7_goCourse 161 = .ok (.imul, 1) := by decide +kernel
theorem dX7_goCourse_162 : decode cX7_goCourse 162 = .ok (.iload_n 3, 1) := by decide +kernel
theorem dX7_goCourse_163 : decode cX7_goCourse 163 = .ok (.iadd, 1) := by decide +kernel
theorem dX7_goCourse_164 : decode cX7_goCourse 164 = .ok (.iaload, 1) := by decide +kernel
theorem dX7_goCourse_165 : decode cX7_goCourse 165 = .ok (.invokevirtual 203, 3) := by decide +kernel
theorem dX7_goCourse_168 : decode cX7_goCourse 168 = .ok (.imul, 1) := by decide +kernel
theorem dX7_goCourse_169 : decode cX7_goCourse 169 = .ok (.aload_n 0, 1) := by decide +kernel
theorem dX7_goCourse_170 : decode cX7_goCourse 170 = .ok (.getfield 28, 3) := by decide +kernel
theorem dX7_goCourse_173 : decode cX7_goCourse 173 = .ok (.iload_n 3, 1) := by decide +kernel
theorem dX7_goCourse_174 : decode cX7_goCourse 174 = .ok (.iaload, 1) := by decide +kernel
theorem dX7_goCourse_175 : decode cX7_goCourse 175 = .ok (.aload_n 0, 1) := by decide +kernel
theorem dX7_goCourse_176 : decode cX7_goCourse 176 = .ok (.iload 4, 2) := by decide +kernel
theorem dX7_goCourse_178 : decode cX7_goCourse 178 = .ok (.aload_n 0, 1) := by decide +kernel
theorem dX7_goCourse_179 : decode cX7_goCourse 179 = .ok (.getfield 73, 3) := by decide +kernel
theorem dX7_goCourse_182 : decode cX7_goCourse 182 = .ok (.bipush 7, 2) := by decide +kernel
theorem dX7_goCourse_184 : decode cX7_goCourse 184 = .ok (.iload_n 1, 1) := by decide +kernel
theorem dX7_goCourse_185 : decode cX7_goCourse 185 = .ok (.imul, 1) := by decide +kernel
theorem dX7_goCourse_186 : decode cX7_goCourse 186 = .ok (.iload 4, 2) := by decide +kernel
theorem dX7_goCourse_188 : decode cX7_goCourse 188 = .ok (.iadd, 1) := by decide +kernel
theorem dX7_goCourse_189 : decode cX7_goCourse 189 = .ok (.iaload, 1) := by decide +kernel
theorem dX7_goCourse_190 : decode cX7_goCourse 190 = .ok (.invokevirtual 203, 3) := by decide +kernel
theorem dX7_goCourse_193 : decode cX7_goCourse 193 = .ok (.imul, 1) := by decide +kernel
theorem dX7_goCourse_194 : decode cX7_goCourse 194 = .ok (.iadd, 1) := by decide +kernel
theorem dX7_goCourse_195 : decode cX7_goCourse 195 = .ok (.iadd, 1) := by decide +kernel
theorem dX7_goCourse_196 : decode cX7_goCourse 196 = .ok (.iastore, 1) := by decide +kernel
theorem dX7_goCourse_197 : decode cX7_goCourse 197 = .ok (.iinc 2 1, 3) := by decide +kernel
theorem dX7_goCourse_200 : decode cX7_goCourse 200 = .ok (.goto (-90), 3) := by decide +kernel
theorem dX7_goCourse_203 : decode cX7_goCourse 203 = .ok (.return_, 1) := by decide +kernel
theorem dX7_allGlad_0 : decode cX7_allGlad 0 = .ok (.iconst 0, 1) := by decide +kernel
theorem dX7_allGlad_1 : decode cX7_allGlad 1 = .ok (.istore_n 1, 1) := by decide +kernel
theorem dX7_allGlad_2 : decode cX7_allGlad 2 = .ok (.iconst 0, 1) := by decide +kernel
theorem dX7_allGlad_3 : decode cX7_allGlad 3 = .ok (.istore_n 2, 1) := by decide +kernel
theorem dX7_allGlad_4 : decode cX7_allGlad 4 = .ok (.iload_n 2, 1) := by decide +kernel
theorem dX7_allGlad_5 : decode cX7_allGlad 5 = .ok (.aload_n 0, 1) := by decide +kernel
theorem dX7_allGlad_6 : decode cX7_allGlad 6 = .ok (.getfield 194, 3) := by decide +kernel
theorem dX7_allGlad_9 : decode cX7_allGlad 9 = .ok (.if_icmp .ge 23, 3) := by decide +kernel
theorem dX7_allGlad_12 : decode cX7_allGlad 12 = .ok (.iload_n 1, 1) := by decide +kernel
theorem dX7_allGlad_13 : decode cX7_allGlad 13 = .ok (.aload_n 0, 1) := by decide +kernel
theorem dX7_allGlad_14 : decode cX7_allGlad 14 = .ok (.getfield 76, 3) := by decide +kernel
theorem dX7_allGlad_17 : decode cX7_allGlad 17 = .ok (.aload_n 0, 1) := by decide +kernel
theorem dX7_allGlad_18 : decode cX7_allGlad 18 = .ok (.getfield 64, 3) := by decide +kernel
theorem dX7_allGlad_21 : decode cX7_allGlad 21 = .ok (.iload_n 2, 1) := by decide +kernel
theorem dX7_allGlad_22 : decode cX7_allGlad 22 = .ok (.iaload, 1) := by decide +kernel
theorem dX7_allGlad_23 : decode cX7_allGlad 23 = .ok (.iaload, 1) := by decide +kernel
theorem dX7_allGlad_24 : decode cX7_allGlad 24 = .ok (.iadd, 1) := by decide +kernel
theorem dX7_allGlad_25 : decode cX7_allGlad 25 = .ok (.istore_n 1, 1) := by decide +kernel
theorem dX7_allGlad_26 : decode cX7_allGlad 26 = .ok (.iinc 2 1, 3) := by decide +kernel
theorem dX7_allGlad_29 : decode cX7_allGlad 29 = .ok (.goto (-25), 3) := by decide +kernel
theorem dX7_allGlad_32 : decode cX7_allGlad 32 = .ok (.iload_n 1, 1) := by decide +kernel
theorem dX7_allGlad_33 : decode cX7_allGlad 33 = .ok (.ireturn, 1) := by decide +kernel
theorem dX7_dine_0 : decode cX7_dine 0 = .ok (.aload_n 0, 1) := by decide +kernel
theorem dX7_dine_1 : decode cX7_dine 1 = .ok (.invokevirtual 190, 3) := by decide +kernel
theorem dX7_dine_4 : decode cX7_dine 4 = .ok (.ifCond .ne 6, 3) := by decide +kernel
theorem dX7_dine_7 : decode cX7_dine 7 = .ok (.bipush (-3), 2) := by decide +kernel
theorem dX7_dine_9 : decode cX7_dine 9 = .ok (.ireturn, 1) := by decide +kernel
theorem dX7_dine_10 : decode cX7_dine 10 = .ok (.aload_n 0, 1) := by decide +kernel
theorem dX7_dine_11 : decode cX7_dine 11 = .ok (.invokevirtual 224, 3) := by decide +kernel
theorem dX7_dine_14 : decode cX7_dine 14 = .ok (.aload_n 0, 1) := by decide +kernel
theorem dX7_dine_15 : decode cX7_dine 15 = .ok (.invokevirtual 227, 3) := by decide +kernel
theorem dX7_dine_18 : decode cX7_dine 18 = .ok (.iconst 0, 1) := by decide +kernel
theorem dX7_dine_19 : decode cX7_dine 19 = .ok (.istore_n 1, 1) := by decide +kernel
theorem dX7_dine_20 : decode cX7_dine 20 = .ok (.iload_n 1, 1) := by decide +kernel
theorem dX7_dine_21 : decode cX7_dine 21 = .ok (.aload_n 0, 1) := by decide +kernel
theorem dX7_dine_22 : decode cX7_dine 22 = .ok (.getfield 125, 3) := by decide +kernel
theorem dX7_dine_25 : decode cX7_dine 25 = .ok (.if_icmp .ge 21, 3) := by decide +kernel
theorem dX7_dine_28 : decode cX7_dine 28 = .ok (.aload_n 0, 1) := by decide +kernel
theorem dX7_dine_29 : decode cX7_dine 29 = .ok (.getfield 43, 3) := by decide +kernel
theorem dX7_dine_32 : decode cX7_dine 32 = .ok (.iload_n 1, 1) := by decide +kernel
theorem dX7_dine_33 : decode cX7_dine 33 = .ok (.aload_n 0, 1) := by decide +kernel
theorem dX7_dine_34 : decode cX7_dine 34 = .ok (.getfield 67, 3) := by decide +kernel
theorem dX7_dine_37 : decode cX7_dine 37 = .ok (.iload_n 1, 1) := by decide +kernel
theorem dX7_dine_38 : decode cX7_dine 38 = .ok (.iaload, 1) := by decide +kernel
theorem dX7_dine_39 : decode cX7_dine 39 = .ok (.iastore, 1) := by decide +kernel
theorem dX7_dine_40 : decode cX7_dine 40 = .ok (.iinc 1 1, 3) := by decide +kernel
theorem dX7_dine_43 : decode cX7_dine 43 = .ok (.goto (-23), 3) := by decide +kernel
theorem dX7_dine_46 : decode cX7_dine 46 = .ok (.aload_n 0, 1) := by decide +kernel
theorem dX7_dine_47 : decode cX7_dine 47 = .ok (.dup, 1) := by decide +kernel
theorem dX7_dine_48 : decode cX7_dine 48 = .ok (.getfield 167, 3) := by decide +kernel
theorem dX7_dine_51 : decode cX7_dine 51 = .ok (.iconst 1, 1) := by decide +kernel
theorem dX7_dine_52 : decode cX7_dine 52 = .ok (.iadd, 1) := by decide +kernel
theorem dX7_dine_53 : decode cX7_dine 53 = .ok (.putfield 167, 3) := by decide +kernel
theorem dX7_dine_56 : decode cX7_dine 56 = .ok (.aload_n 0, 1) := by decide +kernel
theorem dX7_dine_57 : decode cX7_dine 57 = .ok (.invokevirtual 230, 3) := by decide +kernel
theorem dX7_dine_60 : decode cX7_dine 60 = .ok (.ireturn, 1) := by decide +kernel
theorem dX7_forget_0 : decode cX7_forget 0 = .ok (.iconst 0, 1) := by decide +kernel
theorem dX7_forget_1 : decode cX7_forget 1 = .ok (.istore_n 1, 1) := by decide +kernel
theorem dX7_forget_2 : decode cX7_forget 2 = .ok (.iconst 0, 1) := by decide +kernel
theorem dX7_forget_3 : decode cX7_forget 3 = .ok (.istore_n 2, 1) := by decide +kernel
theorem dX7_forget_4 : decode cX7_forget 4 = .ok (.iload_n 2, 1) := by decide +kernel
theorem dX7_forget_5 : decode cX7_forget 5 = .ok (.aload_n 0, 1) := by decide +kernel
theorem dX7_forget_6 : decode cX7_forget 6 = .ok (.getfield 125, 3) := by decide +kernel
theorem dX7_forget_9 : decode cX7_forget 9 = .ok (.if_icmp .ge 36, 3) := by decide +kernel
theorem dX7_forget_12 : decode cX7_forget 12 = .ok (.iload_n 1, 1) := by decide +kernel
theorem dX7_forget_13 : decode cX7_forget 13 = .ok (.aload_n 0, 1) := by decide +kernel
theorem dX7_forget_14 : decode cX7_forget 14 = .ok (.getfield 43, 3) := by decide +kernel
theorem dX7_forget_17 : decode cX7_forget 17 = .ok (.iload_n 2, 1) := by decide +kernel
theorem dX7_forget_18 : decode cX7_forget 18 = .ok (.iaload, 1) := by decide +kernel
theorem dX7_forget_19 : decode cX7_forget 19 = .ok (.bipush (-8), 2) := by decide +kernel
theorem dX7_forget_21 : decode cX7_forget 21 = .ok (.if_icmp .ne 7, 3) := by decide +kernel
theorem dX7_forget_24 : decode cX7_forget 24 = .ok (.iconst 0, 1) := by decide +kernel
theorem dX7_forget_25 : decode cX7_forget 25 = .ok (.goto 4, 3) := by decide +kernel
theorem dX7_forget_28 : decode cX7_forget 28 = .ok (.iconst 1, 1) := by decide +kernel
theorem dX7_forget_29 : decode cX7_forget 29 = .ok (.iadd, 1) := by decide +kernel
theorem dX7_forget_30 : decode cX7_forget 30 = .ok (.istore_n 1, 1) := by decide +kernel
theorem dX7_forget_31 : decode cX7_forget 31 = .ok (.aload_n 0, 1) := by decide +kernel
theorem dX7_forget_32 : decode cX7_forget 32 = .ok (.getfield 43, 3) := by decide +kernel
theorem dX7_forget_35 : decode cX7_forget 35 = .ok (.iload_n 2, 1) := by decide +kernel
theorem dX7_forget_36 : decode cX7_forget 36 = .ok (.bipush (-8), 2) := by decide +kernel
theorem dX7_forget_38 : decode cX7_forget 38 = .ok (.iastore, 1) := by decide +kernel
theorem dX7_forget_39 : decode cX7_forget 39 = .ok (.iinc 2 1, 3) := by decide +kernel
theorem dX7_forget_42 : decode cX7_forget 42 = .ok (.goto (-38), 3) := by decide +kernel
theorem dX7_forget_45 : decode cX7_forget 45 = .ok (.iload_n 1, 1) := by decide +kernel
theorem dX7_forget_46 : decode cX7_forget 46 = .ok (.ireturn, 1) := by decide +kernel
theorem dX7_gets_0 : decode cX7_gets 0 = .ok (.aload_n 0, 1) := by decide +kernel
theorem dX7_gets_1 : decode cX7_gets 1 = .ok (.iload_n 1, 1) := by decide +kernel
theorem dX7_gets_2 : decode cX7_gets 2 = .ok (.invokevirtual 184, 3) := by decide +kernel
theorem dX7_gets_5 : decode cX7_gets 5 = .ok (.ifCond .eq 15, 3) := by decide +kernel
theorem dX7_gets_8 : decode cX7_gets 8 = .ok (.iload_n 2, 1) := by decide +kernel
theorem dX7_gets_9 : decode cX7_gets 9 = .ok (.ifCond .lt 11, 3) := by decide +kernel
theorem dX7_gets_12 : decode cX7_gets 12 = .ok (.iload_n 2, 1) := by decide +kernel
theorem dX7_gets_13 : decode cX7_gets 13 = .ok (.aload_n 0, 1) := by decide +kernel
theorem dX7_gets_14 : decode cX7_gets 14 = .ok (.getfield 164, 3) := by decide +kernel
theorem dX7_gets_17 : decode cX7_gets 17 = .ok (.if_icmp .lt 5, 3) := by decide +kernel
theorem dX7_gets_20 : decode cX7_gets 20 = .ok (.iconst (-1), 1) := by decide +kernel
theorem dX7_gets_21 : decode cX7_gets 21 = .ok (.ireturn, 1) := by decide +kernel
theorem dX7_gets_22 : decode cX7_gets 22 = .ok (.aload_n 0, 1) := by decide +kernel
theorem dX7_gets_23 : decode cX7_gets 23 = .ok (.invokevirtual 224, 3) := by decide +kernel
theorem dX7_gets_26 : decode cX7_gets 26 = .ok (.aload_n 0, 1) := by decide +kernel
theorem dX7_gets_27 : decode cX7_gets 27 = .ok (.invokevirtual 227, 3) := by decide +kernel
theorem dX7_gets_30 : decode cX7_gets 30 = .ok (.aload_n 0, 1) := by decide +kernel
theorem dX7_gets_31 : decode cX7_gets 31 = .ok (.getfield 73, 3) := by decide +kernel
theorem dX7_gets_34 : decode cX7_gets 34 = .ok (.bipush 7, 2) := by decide +kernel
theorem dX7_gets_36 : decode cX7_gets 36 = .ok (.iload_n 2, 1) := by decide +kernel
theorem dX7_gets_37 : decode cX7_gets 37 = .ok (.imul, 1) := by decide +kernel
theorem dX7_gets_38 : decode cX7_gets 38 = .ok (.iload_n 1, 1) := by decide +kernel
theorem dX7_gets_39 : decode cX7_gets 39 = .ok (.iadd, 1) := by decide +kernel
theorem dX7_gets_40 : decode cX7_gets 40 = .ok (.iaload, 1) := by decide +kernel
theorem dX7_gets_41 : decode cX7_gets 41 = .ok (.ireturn, 1) := by decide +kernel
theorem dX7_glad_0 : decode cX7_glad 0 = .ok (.aload_n 0, 1) := by decide +kernel
theorem dX7_glad_1 : decode cX7_glad 1 = .ok (.iload_n 1, 1) := by decide +kernel
theorem dX7_glad_2 : decode cX7_glad 2 = .ok (.invokevirtual 184, 3) := by decide +kernel
theorem dX7_glad_5 : decode cX7_glad 5 = .ok (.ifCond .ne 5, 3) := by decide +kernel
theorem dX7_glad_8 : decode cX7_glad 8 = .ok (.iconst (-1), 1) := by decide +kernel
theorem dX7_glad_9 : decode cX7_glad 9 = .ok (.ireturn, 1) := by decide +kernel
theorem dX7_glad_10 : decode cX7_glad 10 = .ok (.aload_n 0, 1) := by decide +kernel
theorem dX7_glad_11 : decode cX7_glad 11 = .ok (.invokevirtual 224, 3) := by decide +kernel
theorem dX7_glad_14 : decode cX7_glad 14 = .ok (.aload_n 0, 1) := by decide +kernel
theorem dX7_glad_15 : decode cX7_glad 15 = .ok (.invokevirtual 227, 3) := by decide +kernel
theorem dX7_glad_18 : decode cX7_glad 18 = .ok (.aload_n 0, 1) := by decide +kernel
theorem dX7_glad_19 : decode cX7_glad 19 = .ok (.getfield 76, 3) := by decide +kernel
theorem dX7_glad_22 : decode cX7_glad 22 = .ok (.iload_n 1, 1) := by decide +kernel
theorem dX7_glad_23 : decode cX7_glad 23 = .ok (.iaload, 1) := by decide +kernel
theorem dX7_glad_24 : decode cX7_glad 24 = .ok (.ireturn, 1) := by decide +kernel
theorem dX7_pays_0 : decode cX7_pays 0 = .ok (.aload_n 0, 1) := by decide +kernel
theorem dX7_pays_1 : decode cX7_pays 1 = .ok (.iload_n 1, 1) := by decide +kernel
theorem dX7_pays_2 : decode cX7_pays 2 = .ok (.invokevirtual 184, 3) := by decide +kernel
theorem dX7_pays_5 : decode cX7_pays 5 = .ok (.ifCond .eq 12, 3) := by decide +kernel
theorem dX7_pays_8 : decode cX7_pays 8 = .ok (.iload_n 3, 1) := by decide +kernel
theorem dX7_pays_9 : decode cX7_pays 9 = .ok (.iconst 0, 1) := by decide +kernel
theorem dX7_pays_10 : decode cX7_pays 10 = .ok (.iconst 1, 1) := by decide +kernel
theorem dX7_pays_11 : decode cX7_pays 11 = .ok (.invokestatic 121, 3) := by decide +kernel
theorem dX7_pays_14 : decode cX7_pays 14 = .ok (.ifCond .ne 7, 3) := by decide +kernel
theorem dX7_pays_17 : decode cX7_pays 17 = .ok (.ldc2_w 119, 3) := by decide +kernel
theorem dX7_pays_20 : decode cX7_pays 20 = .ok (.lreturn, 1) := by decide +kernel
theorem dX7_pays_21 : decode cX7_pays 21 = .ok (.aload_n 0, 1) := by decide +kernel
theorem dX7_pays_22 : decode cX7_pays 22 = .ok (.invokevirtual 224, 3) := by decide +kernel
theorem dX7_pays_25 : decode cX7_pays 25 = .ok (.aload_n 0, 1) := by decide +kernel
theorem dX7_pays_26 : decode cX7_pays 26 = .ok (.invokevirtual 227, 3) := by decide +kernel
theorem dX7_pays_29 : decode cX7_pays 29 = .ok (.lconst 0, 1) := by decide +kernel
theorem dX7_pays_30 : decode cX7_pays 30 = .ok (.lstore 4, 2) := by decide +kernel
theorem dX7_pays_32 : decode cX7_pays 32 = .ok (.iconst 0, 1) := by decide +kernel
theorem dX7_pays_33 : decode cX7_pays 33 = .ok (.istore 6, 2) := by decide +kernel
theorem dX7_pays_35 : decode cX7_pays 35 = .ok (.iload 6, 2) := by decide +kernel
theorem dX7_pays_37 : decode cX7_pays 37 = .ok (.aload_n 0, 1) := by decide +kernel
theorem dX7_pays_38 : decode cX7_pays 38 = .ok (.getfield 125, 3) := by decide +kernel
theorem dX7_pays_41 : decode cX7_pays 41 = .ok (.if_icmp .ge 22, 3) := by decide +kernel
theorem dX7_pays_44 : decode cX7_pays 44 = .ok (.lload 4, 2) := by decide +kernel
theorem dX7_pays_46 : decode cX7_pays 46 = .ok (.aload_n 0, 1) := by decide +kernel
theorem dX7_pays_47 : decode cX7_pays 47 = .ok (.getfield 79, 3) := by decide +kernel
theorem dX7_pays_50 : decode cX7_pays 50 = .ok (.iload 6, 2) := by decide +kernel
theorem dX7_pays_52 : decode cX7_pays 52 = .ok (.iaload, 1) := by decide +kernel
theorem dX7_pays_53 : decode cX7_pays 53 = .ok (.i2l, 1) := by decide +kernel
theorem dX7_pays_54 : decode cX7_pays 54 = .ok (.ladd, 1) := by decide +kernel
theorem dX7_pays_55 : decode cX7_pays 55 = .ok (.lstore 4, 2) := by decide +kernel
theorem dX7_pays_57 : decode cX7_pays 57 = .ok (.iinc 6 1, 3) := by decide +kernel
theorem dX7_pays_60 : decode cX7_pays 60 = .ok (.goto (-25), 3) := by decide +kernel
theorem dX7_pays_63 : decode cX7_pays 63 = .ok (.iload_n 2, 1) := by decide +kernel
theorem dX7_pays_64 : decode cX7_pays 64 = .ok (.ifCond .eq 17, 3) := by decide +kernel
theorem dX7_pays_67 : decode cX7_pays 67 = .ok (.lload 4, 2) := by decide +kernel
theorem dX7_pays_69 : decode cX7_pays 69 = .ok (.aload_n 0, 1) := by decide +kernel
theorem dX7_pays_70 : decode cX7_pays 70 = .ok (.getfield 125, 3) := by decide +kernel
theorem dX7_pays_73 : decode cX7_pays 73 = .ok (.i2l, 1) := by decide +kernel
theorem dX7_pays_74 : decode cX7_pays 74 = .ok (.iload_n 3, 1) := by decide +kernel
theorem dX7_pays_75 : decode cX7_pays 75 = .ok (.invokestatic 234, 3) := by decide +kernel
theorem dX7_pays_78 : decode cX7_pays 78 = .ok (.goto 15, 3) := by decide +kernel
theorem dX7_pays_81 : decode cX7_pays 81 = .ok (.aload_n 0, 1) := by decide +kernel
theorem dX7_pays_82 : decode cX7_pays 82 = .ok (.getfield 79, 3) := by decide +kernel
theorem dX7_pays_85 : decode cX7_pays 85 = .ok (.iload_n 1, 1) := by decide +kernel
theorem dX7_pays_86 : decode cX7_pays 86 = .ok (.iaload, 1) := by decide +kernel
theorem dX7_pays_87 : decode cX7_pays 87 = .ok (.i2l, 1) := by decide +kernel
theorem dX7_pays_88 : decode cX7_pays 88 = .ok (.lconst 1, 1) := by decide +kernel
theorem dX7_pays_89 : decode cX7_pays 89 = .ok (.iload_n 3, 1) := by decide +kernel
theorem dX7_pays_90 : decode cX7_pays 90 = .ok (.invokestatic 234, 3) := by decide +kernel
theorem dX7_pays_93 : decode cX7_pays 93 = .ok (.lreturn, 1) := by decide +kernel
theorem dX7_mayBe_0 : decode cX7_mayBe 0 = .ok (.iload_n 2, 1) := by decide +kernel
theorem dX7_mayBe_1 : decode cX7_mayBe 1 = .ok (.bipush (-9), 2) := by decide +kernel
theorem dX7_mayBe_3 : decode cX7_mayBe 3 = .ok (.if_icmp .eq 33, 3) := by decide +kernel
theorem dX7_mayBe_6 : decode cX7_mayBe 6 = .ok (.aload_n 0, 1) := by decide +kernel
theorem dX7_mayBe_7 : decode cX7_mayBe 7 = .ok (.getfield 82, 3) := by decide +kernel
theorem dX7_mayBe_10 : decode cX7_mayBe 10 = .ok (.iload_n 2, 1) := by decide +kernel
theorem dX7_mayBe_11 : decode cX7_mayBe 11 = .ok (.iaload, 1) := by decide +kernel
theorem dX7_mayBe_12 : decode cX7_mayBe 12 = .ok (.ifCond .le 22, 3) := by decide +kernel
theorem dX7_mayBe_15 : decode cX7_mayBe 15 = .ok (.aload_n 0, 1) := by decide +kernel
theorem dX7_mayBe_16 : decode cX7_mayBe 16 = .ok (.getfield 34, 3) := by decide +kernel
theorem dX7_mayBe_19 : decode cX7_mayBe 19 = .ok (.bipush 6, 2) := by decide +kernel
theorem dX7_mayBe_21 : decode cX7_mayBe 21 = .ok (.iload_n 1, 1) := by decide +kernel
theorem dX7_mayBe_22 : decode cX7_mayBe 22 = .ok (.imul, 1) := by decide +kernel
theorem dX7_mayBe_23 : decode cX7_mayBe 23 = .ok (.iload_n 2, 1) := by decide +kernel
theorem dX7_mayBe_24 : decode cX7_mayBe 24 = .ok (.iadd, 1) := by decide +kernel
theorem dX7_mayBe_25 : decode cX7_mayBe 25 = .ok (.iaload, 1) := by decide +kernel
theorem dX7_mayBe_26 : decode cX7_mayBe 26 = .ok (.iconst (-1), 1) := by decide +kernel
theorem dX7_mayBe_27 : decode cX7_mayBe 27 = .ok (.if_icmp .eq 7, 3) := by decide +kernel
theorem dX7_mayBe_30 : decode cX7_mayBe 30 = .ok (.iconst 1, 1) := by decide +kernel
theorem dX7_mayBe_31 : decode cX7_mayBe 31 = .ok (.goto 4, 3) := by decide +kernel
theorem dX7_mayBe_34 : decode cX7_mayBe 34 = .ok (.iconst 0, 1) := by decide +kernel
theorem dX7_mayBe_35 : decode cX7_mayBe 35 = .ok (.ireturn, 1) := by decide +kernel
theorem dX7_mayBe_36 : decode cX7_mayBe 36 = .ok (.iconst 0, 1) := by decide +kernel
theorem dX7_mayBe_37 : decode cX7_mayBe 37 = .ok (.istore_n 3, 1) := by decide +kernel
theorem dX7_mayBe_38 : decode cX7_mayBe 38 = .ok (.iload_n 3, 1) := by decide +kernel
theorem dX7_mayBe_39 : decode cX7_mayBe 39 = .ok (.aload_n 0, 1) := by decide +kernel
theorem dX7_mayBe_40 : decode cX7_mayBe 40 = .ok (.getfield 128, 3) := by decide +kernel
theorem dX7_mayBe_43 : decode cX7_mayBe 43 = .ok (.if_icmp .ge 35, 3) := by decide +kernel
theorem dX7_mayBe_46 : decode cX7_mayBe 46 = .ok (.aload_n 0, 1) := by decide +kernel
theorem dX7_mayBe_47 : decode cX7_mayBe 47 = .ok (.getfield 82, 3) := by decide +kernel
theorem dX7_mayBe_50 : decode cX7_mayBe 50 = .ok (.iload_n 3, 1) := by decide +kernel
theorem dX7_mayBe_51 : decode cX7_mayBe 51 = .ok (.iaload, 1) := by decide +kernel
theorem dX7_mayBe_52 : decode cX7_mayBe 52 = .ok (.ifCond .le 20, 3) := by decide +kernel
theorem dX7_mayBe_55 : decode cX7_mayBe 55 = .ok (.aload_n 0, 1) := by decide +kernel
theorem dX7_mayBe_56 : decode cX7_mayBe 56 = .ok (.getfield 34, 3) := by decide +kernel
theorem dX7_mayBe_59 : decode cX7_mayBe 59 = .ok (.bipush 6, 2) := by decide +kernel
theorem dX7_mayBe_61 : decode cX7_mayBe 61 = .ok (.iload_n 1, 1) := by decide +kernel
theorem dX7_mayBe_62 : decode cX7_mayBe 62 = .ok (.imul, 1) := by decide +kernel
theorem dX7_mayBe_63 : decode cX7_mayBe 63 = .ok (.iload_n 3, 1) := by decide +kernel
theorem dX7_mayBe_64 : decode cX7_mayBe 64 = .ok (.iadd, 1) := by decide +kernel
theorem dX7_mayBe_65 : decode cX7_mayBe 65 = .ok (.iaload, 1) := by decide +kernel
theorem dX7_mayBe_66 : decode cX7_mayBe 66 = .ok (.iconst (-1), 1) := by decide +kernel
theorem dX7_mayBe_67 : decode cX7_mayBe 67 = .ok (.if_icmp .eq 5, 3) := by decide +kernel
theorem dX7_mayBe_70 : decode cX7_mayBe 70 = .ok (.iconst 0, 1) := by decide +kernel
theorem dX7_mayBe_71 : decode cX7_mayBe 71 = .ok (.ireturn, 1) := by decide +kernel
theorem dX7_mayBe_72 : decode cX7_mayBe 72 = .ok (.iinc 3 1, 3) := by decide +kernel
theorem dX7_mayBe_75 : decode cX7_mayBe 75 = .ok (.goto (-37), 3) := by decide +kernel
theorem dX7_mayBe_78 : decode cX7_mayBe 78 = .ok (.iconst 1, 1) := by decide +kernel
theorem dX7_mayBe_79 : decode cX7_mayBe 79 = .ok (.ireturn, 1) := by decide +kernel
theorem dX7_judge_0 : decode cX7_judge 0 = .ok (.aload_n 0, 1) := by decide +kernel
theorem dX7_judge_1 : decode cX7_judge 1 = .ok (.iconst 0, 1) := by decide +kernel
theorem dX7_judge_2 : decode cX7_judge 2 = .ok (.putfield 115, 3) := by decide +kernel
theorem dX7_judge_5 : decode cX7_judge 5 = .ok (.iload_n 1, 1) := by decide +kernel
theorem dX7_judge_6 : decode cX7_judge 6 = .ok (.invokestatic 134, 3) := by decide +kernel
theorem dX7_judge_9 : decode cX7_judge 9 = .ok (.ifCond .ne 5, 3) := by decide +kernel
theorem dX7_judge_12 : decode cX7_judge 12 = .ok (.iconst (-1), 1) := by decide +kernel
theorem dX7_judge_13 : decode cX7_judge 13 = .ok (.ireturn, 1) := by decide +kernel
theorem dX7_judge_14 : decode cX7_judge 14 = .ok (.iload_n 2, 1) := by decide +kernel
theorem dX7_judge_15 : decode cX7_judge 15 = .ok (.invokestatic 138, 3) := by decide +kernel
theorem dX7_judge_18 : decode cX7_judge 18 = .ok (.ifCond .ne 6, 3) := by decide +kernel
theorem dX7_judge_21 : decode cX7_judge 21 = .ok (.bipush (-2), 2) := by decide +kernel
theorem dX7_judge_23 : decode cX7_judge 23 = .ok (.ireturn, 1) := by decide +kernel
theorem dX7_judge_24 : decode cX7_judge 24 = .ok (.aload_n 0, 1) := by decide +kernel
theorem dX7_judge_25 : decode cX7_judge 25 = .ok (.iload_n 1, 1) := by decide +kernel
theorem dX7_judge_26 : decode cX7_judge 26 = .ok (.iload_n 2, 1) := by decide +kernel
theorem dX7_judge_27 : decode cX7_judge 27 = .ok (.iload_n 3, 1) := by decide +kernel
theorem dX7_judge_28 : decode cX7_judge 28 = .ok (.iload 4, 2) := by decide +kernel
theorem dX7_judge_30 : decode cX7_judge 30 = .ok (.invokevirtual 141, 3) := by decide +kernel
theorem dX7_judge_33 : decode cX7_judge 33 = .ok (.istore 5, 2) := by decide +kernel
theorem dX7_judge_35 : decode cX7_judge 35 = .ok (.iload 5, 2) := by decide +kernel
theorem dX7_judge_37 : decode cX7_judge 37 = .ok (.ifCond .eq 10, 3) := by decide +kernel
theorem dX7_judge_40 : decode cX7_judge 40 = .ok (.aload_n 0, 1) := by decide +kernel
theorem dX7_judge_41 : decode cX7_judge 41 = .ok (.iload 5, 2) := by decide +kernel
theorem dX7_judge_43 : decode cX7_judge 43 = .ok (.invokevirtual 145, 3) := by decide +kernel
theorem dX7_judge_46 : decode cX7_judge 46 = .ok (.ireturn, 1) := by decide +kernel
theorem dX7_judge_47 : decode cX7_judge 47 = .ok (.aload_n 0, 1) := by decide +kernel
theorem dX7_judge_48 : decode cX7_judge 48 = .ok (.invokevirtual 190, 3) := by decide +kernel
theorem dX7_judge_51 : decode cX7_judge 51 = .ok (.ifCond .ne 6, 3) := by decide +kernel
theorem dX7_judge_54 : decode cX7_judge 54 = .ok (.bipush (-3), 2) := by decide +kernel
theorem dX7_judge_56 : decode cX7_judge 56 = .ok (.ireturn, 1) := by decide +kernel
theorem dX7_judge_57 : decode cX7_judge 57 = .ok (.iload 4, 2) := by decide +kernel
theorem dX7_judge_59 : decode cX7_judge 59 = .ok (.aload_n 0, 1) := by decide +kernel
theorem dX7_judge_60 : decode cX7_judge 60 = .ok (.getfield 164, 3) := by decide +kernel
theorem dX7_judge_63 : decode cX7_judge 63 = .ok (.aload_n 0, 1) := by decide +kernel
theorem dX7_judge_64 : decode cX7_judge 64 = .ok (.getfield 125, 3) := by decide +kernel
theorem dX7_judge_67 : decode cX7_judge 67 = .ok (.imul, 1) := by decide +kernel
theorem dX7_judge_68 : decode cX7_judge 68 = .ok (.if_icmp .le 6, 3) := by decide +kernel
theorem dX7_judge_71 : decode cX7_judge 71 = .ok (.bipush (-2), 2) := by decide +kernel
theorem dX7_judge_73 : decode cX7_judge 73 = .ok (.ireturn, 1) := by decide +kernel
theorem dX7_judge_74 : decode cX7_judge 74 = .ok (.bipush 100, 2) := by decide +kernel
theorem dX7_judge_76 : decode cX7_judge 76 = .ok (.iload_n 1, 1) := by decide +kernel
theorem dX7_judge_77 : decode cX7_judge 77 = .ok (.imul, 1) := by decide +kernel
theorem dX7_judge_78 : decode cX7_judge 78 = .ok (.iload_n 3, 1) := by decide +kernel
theorem dX7_judge_79 : decode cX7_judge 79 = .ok (.iadd, 1) := by decide +kernel
theorem dX7_judge_80 : decode cX7_judge 80 = .ok (.istore 6, 2) := by decide +kernel
theorem dX7_judge_82 : decode cX7_judge 82 = .ok (.iconst 0, 1) := by decide +kernel
theorem dX7_judge_83 : decode cX7_judge 83 = .ok (.istore 7, 2) := by decide +kernel
theorem dX7_judge_85 : decode cX7_judge 85 = .ok (.iload 7, 2) := by decide +kernel
theorem dX7_judge_87 : decode cX7_judge 87 = .ok (.iload 4, 2) := by decide +kernel
theorem dX7_judge_89 : decode cX7_judge 89 = .ok (.if_icmp .ge 43, 3) := by decide +kernel
theorem dX7_judge_92 : decode cX7_judge 92 = .ok (.aload_n 0, 1) := by decide +kernel
theorem dX7_judge_93 : decode cX7_judge 93 = .ok (.getfield 16, 3) := by decide +kernel
theorem dX7_judge_96 : decode cX7_judge 96 = .ok (.iload 6, 2) := by decide +kernel
theorem dX7_judge_98 : decode cX7_judge 98 = .ok (.iload 7, 2) := by decide +kernel
theorem dX7_judge_100 : decode cX7_judge 100 = .ok (.iadd, 1) := by decide +kernel
theorem dX7_judge_101 : decode cX7_judge 101 = .ok (.iaload, 1) := by decide +kernel
theorem dX7_judge_102 : decode cX7_judge 102 = .ok (.bipush (-9), 2) := by decide +kernel
theorem dX7_judge_104 : decode cX7_judge 104 = .ok (.if_icmp .eq 22, 3) := by decide +kernel
theorem dX7_judge_107 : decode cX7_judge 107 = .ok (.aload_n 0, 1) := by decide +kernel
theorem dX7_judge_108 : decode cX7_judge 108 = .ok (.aload_n 0, 1) := by decide +kernel
theorem dX7_judge_109 : decode cX7_judge 109 = .ok (.getfield 16, 3) := by decide +kernel
theorem dX7_judge_112 : decode cX7_judge 112 = .ok (.iload 6, 2) := by decide +kernel
theorem dX7_judge_114 : decode cX7_judge 114 = .ok (.iload 7, 2) := by decide +kernel
theorem dX7_judge_116 : decode cX7_judge 116 = .ok (.iadd, 1) := by decide +kernel
theorem dX7_judge_117 : decode cX7_judge 117 = .ok (.iaload, 1) := by decide +kernel
theorem dX7_judge_118 : decode cX7_judge 118 = .ok (.invokevirtual 181, 3) := by decide +kernel
theorem dX7_judge_121 : decode cX7_judge 121 = .ok (.ifCond .ne 5, 3) := by decide +kernel
theorem dX7_judge_124 : decode cX7_judge 124 = .ok (.iconst (-1), 1) := by decide +kernel
theorem dX7_judge_125 : decode cX7_judge 125 = .ok (.ireturn, 1) := by decide +kernel
theorem dX7_judge_126 : decode cX7_judge 126 = .ok (.iinc 7 1, 3) := by decide +kernel
theorem dX7_judge_129 : decode cX7_judge 129 = .ok (.goto (-44), 3) := by decide +kernel
theorem dX7_judge_132 : decode cX7_judge 132 = .ok (.aload_n 0, 1) := by decide +kernel
theorem dX7_judge_133 : decode cX7_judge 133 = .ok (.invokevirtual 213, 3) := by decide +kernel
theorem dX7_judge_136 : decode cX7_judge 136 = .ok (.iconst 0, 1) := by decide +kernel
theorem dX7_judge_137 : decode cX7_judge 137 = .ok (.istore 7, 2) := by decide +kernel
theorem dX7_judge_139 : decode cX7_judge 139 = .ok (.iload 7, 2) := by decide +kernel
theorem dX7_judge_141 : decode cX7_judge 141 = .ok (.iload 4, 2) := by decide +kernel
theorem dX7_judge_143 : decode cX7_judge 143 = .ok (.if_icmp .ge 77, 3) := by decide +kernel
theorem dX7_judge_146 : decode cX7_judge 146 = .ok (.aload_n 0, 1) := by decide +kernel
theorem dX7_judge_147 : decode cX7_judge 147 = .ok (.getfield 40, 3) := by decide +kernel
theorem dX7_judge_150 : decode cX7_judge 150 = .ok (.iload 7, 2) := by decide +kernel
theorem dX7_judge_152 : decode cX7_judge 152 = .ok (.aload_n 0, 1) := by decide +kernel
theorem dX7_judge_153 : decode cX7_judge 153 = .ok (.getfield 125, 3) := by decide +kernel
theorem dX7_judge_156 : decode cX7_judge 156 = .ok (.irem, 1) := by decide +kernel
theorem dX7_judge_157 : decode cX7_judge 157 = .ok (.aload_n 0, 1) := by decide +kernel
theorem dX7_judge_158 : decode cX7_judge 158 = .ok (.getfield 161, 3) := by decide +kernel
theorem dX7_judge_161 : decode cX7_judge 161 = .ok (.iadd, 1) := by decide +kernel
theorem dX7_judge_162 : decode cX7_judge 162 = .ok (.aload_n 0, 1) := by decide +kernel
theorem dX7_judge_163 : decode cX7_judge 163 = .ok (.getfield 125, 3) := by decide +kernel
theorem dX7_judge_166 : decode cX7_judge 166 = .ok (.irem, 1) := by decide +kernel
theorem dX7_judge_167 : decode cX7_judge 167 = .ok (.iaload, 1) := by decide +kernel
theorem dX7_judge_168 : decode cX7_judge 168 = .ok (.istore 8, 2) := by decide +kernel
