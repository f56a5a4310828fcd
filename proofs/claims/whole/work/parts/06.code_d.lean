theorem dX7_judge_170 : decode cX7_judge 170 = .ok (.aload_n 0, 1) := by decide +kernel
theorem dX7_judge_171 : decode cX7_judge 171 = .ok (.getfield 16, 3) := by decide +kernel
theorem dX7_judge_174 : decode cX7_judge 174 = .ok (.iload 6, 2) := by decide +kernel
theorem dX7_judge_176 : decode cX7_judge 176 = .ok (.iload 7, 2) := by decide +kernel
theorem dX7_judge_178 : decode cX7_judge 178 = .ok (.iadd, 1) := by decide +kernel
theorem dX7_judge_179 : decode cX7_judge 179 = .ok (.iaload, 1) := by decide +kernel
theorem dX7_judge_180 : decode cX7_judge 180 = .ok (.istore 9, 2) := by decide +kernel
theorem dX7_judge_182 : decode cX7_judge 182 = .ok (.aload_n 0, 1) := by decide +kernel
theorem dX7_judge_183 : decode cX7_judge 183 = .ok (.iload 8, 2) := by decide +kernel
theorem dX7_judge_185 : decode cX7_judge 185 = .ok (.iload 9, 2) := by decide +kernel
theorem dX7_judge_187 : decode cX7_judge 187 = .ok (.invokevirtual 238, 3) := by decide +kernel
theorem dX7_judge_190 : decode cX7_judge 190 = .ok (.ifCond .ne 6, 3) := by decide +kernel
theorem dX7_judge_193 : decode cX7_judge 193 = .ok (.iload 7, 2) := by decide +kernel
theorem dX7_judge_195 : decode cX7_judge 195 = .ok (.ireturn, 1) := by decide +kernel
theorem dX7_judge_196 : decode cX7_judge 196 = .ok (.iload 9, 2) := by decide +kernel
theorem dX7_judge_198 : decode cX7_judge 198 = .ok (.bipush (-9), 2) := by decide +kernel
theorem dX7_judge_200 : decode cX7_judge 200 = .ok (.if_icmp .eq 14, 3) := by decide +kernel
theorem dX7_judge_203 : decode cX7_judge 203 = .ok (.aload_n 0, 1) := by decide +kernel
theorem dX7_judge_204 : decode cX7_judge 204 = .ok (.getfield 82, 3) := by decide +kernel
theorem dX7_judge_207 : decode cX7_judge 207 = .ok (.iload 9, 2) := by decide +kernel
theorem dX7_judge_209 : decode cX7_judge 209 = .ok (.dup2, 1) := by decide +kernel
theorem dX7_judge_210 : decode cX7_judge 210 = .ok (.iaload, 1) := by decide +kernel
theorem dX7_judge_211 : decode cX7_judge 211 = .ok (.iconst 1, 1) := by decide +kernel
theorem dX7_judge_212 : decode cX7_judge 212 = .ok (.isub, 1) := by decide +kernel
theorem dX7_judge_213 : decode cX7_judge 213 = .ok (.iastore, 1) := by decide +kernel
theorem dX7_judge_214 : decode cX7_judge 214 = .ok (.iinc 7 1, 3) := by decide +kernel
theorem dX7_judge_217 : decode cX7_judge 217 = .ok (.goto (-78), 3) := by decide +kernel
theorem dX7_judge_220 : decode cX7_judge 220 = .ok (.bipush (-9), 2) := by decide +kernel
theorem dX7_judge_222 : decode cX7_judge 222 = .ok (.ireturn, 1) := by decide +kernel
theorem dX7_layWeights_0 : decode cX7_layWeights 0 = .ok (.iconst 0, 1) := by decide +kernel
theorem dX7_layWeights_1 : decode cX7_layWeights 1 = .ok (.istore_n 1, 1) := by decide +kernel
theorem dX7_layWeights_2 : decode cX7_layWeights 2 = .ok (.iload_n 1, 1) := by decide +kernel
theorem dX7_layWeights_3 : decode cX7_layWeights 3 = .ok (.aload_n 0, 1) := by decide +kernel
theorem dX7_layWeights_4 : decode cX7_layWeights 4 = .ok (.getfield 125, 3) := by decide +kernel
theorem dX7_layWeights_7 : decode cX7_layWeights 7 = .ok (.if_icmp .ge 44, 3) := by decide +kernel
theorem dX7_layWeights_10 : decode cX7_layWeights 10 = .ok (.aload_n 0, 1) := by decide +kernel
theorem dX7_layWeights_11 : decode cX7_layWeights 11 = .ok (.getfield 85, 3) := by decide +kernel
theorem dX7_layWeights_14 : decode cX7_layWeights 14 = .ok (.aload_n 0, 1) := by decide +kernel
theorem dX7_layWeights_15 : decode cX7_layWeights 15 = .ok (.getfield 40, 3) := by decide +kernel
theorem dX7_layWeights_18 : decode cX7_layWeights 18 = .ok (.iload_n 1, 1) := by decide +kernel
theorem dX7_layWeights_19 : decode cX7_layWeights 19 = .ok (.aload_n 0, 1) := by decide +kernel
theorem dX7_layWeights_20 : decode cX7_layWeights 20 = .ok (.getfield 161, 3) := by decide +kernel
theorem dX7_layWeights_23 : decode cX7_layWeights 23 = .ok (.iadd, 1) := by decide +kernel
theorem dX7_layWeights_24 : decode cX7_layWeights 24 = .ok (.aload_n 0, 1) := by decide +kernel
theorem dX7_layWeights_25 : decode cX7_layWeights 25 = .ok (.getfield 125, 3) := by decide +kernel
theorem dX7_layWeights_28 : decode cX7_layWeights 28 = .ok (.irem, 1) := by decide +kernel
theorem dX7_layWeights_29 : decode cX7_layWeights 29 = .ok (.iaload, 1) := by decide +kernel
theorem dX7_layWeights_30 : decode cX7_layWeights 30 = .ok (.bipush 10, 2) := by decide +kernel
theorem dX7_layWeights_32 : decode cX7_layWeights 32 = .ok (.aload_n 0, 1) := by decide +kernel
theorem dX7_layWeights_33 : decode cX7_layWeights 33 = .ok (.getfield 28, 3) := by decide +kernel
theorem dX7_layWeights_36 : decode cX7_layWeights 36 = .ok (.aload_n 0, 1) := by decide +kernel
theorem dX7_layWeights_37 : decode cX7_layWeights 37 = .ok (.getfield 40, 3) := by decide +kernel
theorem dX7_layWeights_40 : decode cX7_layWeights 40 = .ok (.iload_n 1, 1) := by decide +kernel
theorem dX7_layWeights_41 : decode cX7_layWeights 41 = .ok (.iaload, 1) := by decide +kernel
theorem dX7_layWeights_42 : decode cX7_layWeights 42 = .ok (.iaload, 1) := by decide +kernel
theorem dX7_layWeights_43 : decode cX7_layWeights 43 = .ok (.iadd, 1) := by decide +kernel
theorem dX7_layWeights_44 : decode cX7_layWeights 44 = .ok (.iastore, 1) := by decide +kernel
theorem dX7_layWeights_45 : decode cX7_layWeights 45 = .ok (.iinc 1 1, 3) := by decide +kernel
theorem dX7_layWeights_48 : decode cX7_layWeights 48 = .ok (.goto (-46), 3) := by decide +kernel
theorem dX7_layWeights_51 : decode cX7_layWeights 51 = .ok (.aload_n 0, 1) := by decide +kernel
theorem dX7_layWeights_52 : decode cX7_layWeights 52 = .ok (.getfield 94, 3) := by decide +kernel
theorem dX7_layWeights_55 : decode cX7_layWeights 55 = .ok (.aload_n 0, 1) := by decide +kernel
theorem dX7_layWeights_56 : decode cX7_layWeights 56 = .ok (.getfield 125, 3) := by decide +kernel
theorem dX7_layWeights_59 : decode cX7_layWeights 59 = .ok (.iconst 0, 1) := by decide +kernel
theorem dX7_layWeights_60 : decode cX7_layWeights 60 = .ok (.iastore, 1) := by decide +kernel
theorem dX7_layWeights_61 : decode cX7_layWeights 61 = .ok (.aload_n 0, 1) := by decide +kernel
theorem dX7_layWeights_62 : decode cX7_layWeights 62 = .ok (.getfield 125, 3) := by decide +kernel
theorem dX7_layWeights_65 : decode cX7_layWeights 65 = .ok (.iconst 1, 1) := by decide +kernel
theorem dX7_layWeights_66 : decode cX7_layWeights 66 = .ok (.isub, 1) := by decide +kernel
theorem dX7_layWeights_67 : decode cX7_layWeights 67 = .ok (.istore_n 1, 1) := by decide +kernel
theorem dX7_layWeights_68 : decode cX7_layWeights 68 = .ok (.iload_n 1, 1) := by decide +kernel
theorem dX7_layWeights_69 : decode cX7_layWeights 69 = .ok (.ifCond .lt 76, 3) := by decide +kernel
theorem dX7_layWeights_72 : decode cX7_layWeights 72 = .ok (.iconst 0, 1) := by decide +kernel
theorem dX7_layWeights_73 : decode cX7_layWeights 73 = .ok (.istore_n 2, 1) := by decide +kernel
theorem dX7_layWeights_74 : decode cX7_layWeights 74 = .ok (.iconst 0, 1) := by decide +kernel
theorem dX7_layWeights_75 : decode cX7_layWeights 75 = .ok (.istore_n 3, 1) := by decide +kernel
theorem dX7_layWeights_76 : decode cX7_layWeights 76 = .ok (.iload_n 3, 1) := by decide +kernel
theorem dX7_layWeights_77 : decode cX7_layWeights 77 = .ok (.aload_n 0, 1) := by decide +kernel
theorem dX7_layWeights_78 : decode cX7_layWeights 78 = .ok (.getfield 128, 3) := by decide +kernel
theorem dX7_layWeights_81 : decode cX7_layWeights 81 = .ok (.if_icmp .ge 42, 3) := by decide +kernel
theorem dX7_layWeights_84 : decode cX7_layWeights 84 = .ok (.aload_n 0, 1) := by decide +kernel
theorem dX7_layWeights_85 : decode cX7_layWeights 85 = .ok (.getfield 34, 3) := by decide +kernel
theorem dX7_layWeights_88 : decode cX7_layWeights 88 = .ok (.bipush 6, 2) := by decide +kernel
theorem dX7_layWeights_90 : decode cX7_layWeights 90 = .ok (.iload_n 1, 1) := by decide +kernel
theorem dX7_layWeights_91 : decode cX7_layWeights 91 = .ok (.imul, 1) := by decide +kernel
theorem dX7_layWeights_92 : decode cX7_layWeights 92 = .ok (.iload_n 3, 1) := by decide +kernel
theorem dX7_layWeights_93 : decode cX7_layWeights 93 = .ok (.iadd, 1) := by decide +kernel
theorem dX7_layWeights_94 : decode cX7_layWeights 94 = .ok (.iaload, 1) := by decide +kernel
theorem dX7_layWeights_95 : decode cX7_layWeights 95 = .ok (.aload_n 0, 1) := by decide +kernel
theorem dX7_layWeights_96 : decode cX7_layWeights 96 = .ok (.getfield 85, 3) := by decide +kernel
theorem dX7_layWeights_99 : decode cX7_layWeights 99 = .ok (.iload_n 1, 1) := by decide +kernel
theorem dX7_layWeights_100 : decode cX7_layWeights 100 = .ok (.iaload, 1) := by decide +kernel
theorem dX7_layWeights_101 : decode cX7_layWeights 101 = .ok (.imul, 1) := by decide +kernel
theorem dX7_layWeights_102 : decode cX7_layWeights 102 = .ok (.istore 4, 2) := by decide +kernel
theorem dX7_layWeights_104 : decode cX7_layWeights 104 = .ok (.iload 4, 2) := by decide +kernel
theorem dX7_layWeights_106 : decode cX7_layWeights 106 = .ok (.iload_n 2, 1) := by decide +kernel
theorem dX7_layWeights_107 : decode cX7_layWeights 107 = .ok (.if_icmp .le 8, 3) := by decide +kernel
theorem dX7_layWeights_110 : decode cX7_layWeights 110 = .ok (.iload 4, 2) := by decide +kernel
theorem dX7_layWeights_112 : decode cX7_layWeights 112 = .ok (.goto 4, 3) := by decide +kernel
theorem dX7_layWeights_115 : decode cX7_layWeights 115 = .ok (.iload_n 2, 1) := by decide +kernel
theorem dX7_layWeights_116 : decode cX7_layWeights 116 = .ok (.istore_n 2, 1) := by decide +kernel
theorem dX7_layWeights_117 : decode cX7_layWeights 117 = .ok (.iinc 3 1, 3) := by decide +kernel
theorem dX7_layWeights_120 : decode cX7_layWeights 120 = .ok (.goto (-44), 3) := by decide +kernel
theorem dX7_layWeights_123 : decode cX7_layWeights 123 = .ok (.aload_n 0, 1) := by decide +kernel
theorem dX7_layWeights_124 : decode cX7_layWeights 124 = .ok (.getfield 94, 3) := by decide +kernel
theorem dX7_layWeights_127 : decode cX7_layWeights 127 = .ok (.iload_n 1, 1) := by decide +kernel
theorem dX7_layWeights_128 : decode cX7_layWeights 128 = .ok (.aload_n 0, 1) := by decide +kernel
theorem dX7_layWeights_129 : decode cX7_layWeights 129 = .ok (.getfield 94, 3) := by decide +kernel
theorem dX7_layWeights_132 : decode cX7_layWeights 132 = .ok (.iload_n 1, 1) := by decide +kernel
theorem dX7_layWeights_133 : decode cX7_layWeights 133 = .ok (.iconst 1, 1) := by decide +kernel
theorem dX7_layWeights_134 : decode cX7_layWeights 134 = .ok (.iadd, 1) := by decide +kernel
theorem dX7_layWeights_135 : decode cX7_layWeights 135 = .ok (.iaload, 1) := by decide +kernel
theorem dX7_layWeights_136 : decode cX7_layWeights 136 = .ok (.iload_n 2, 1) := by decide +kernel
theorem dX7_layWeights_137 : decode cX7_layWeights 137 = .ok (.iadd, 1) := by decide +kernel
theorem dX7_layWeights_138 : decode cX7_layWeights 138 = .ok (.iastore, 1) := by decide +kernel
theorem dX7_layWeights_139 : decode cX7_layWeights 139 = .ok (.iinc 1 (-1), 3) := by decide +kernel
theorem dX7_layWeights_142 : decode cX7_layWeights 142 = .ok (.goto (-74), 3) := by decide +kernel
theorem dX7_layWeights_145 : decode cX7_layWeights 145 = .ok (.return_, 1) := by decide +kernel
theorem dX7_mayHave_0 : decode cX7_mayHave 0 = .ok (.iload_n 2, 1) := by decide +kernel
theorem dX7_mayHave_1 : decode cX7_mayHave 1 = .ok (.aload_n 0, 1) := by decide +kernel
theorem dX7_mayHave_2 : decode cX7_mayHave 2 = .ok (.getfield 128, 3) := by decide +kernel
theorem dX7_mayHave_5 : decode cX7_mayHave 5 = .ok (.if_icmp .eq 27, 3) := by decide +kernel
theorem dX7_mayHave_8 : decode cX7_mayHave 8 = .ok (.aload_n 0, 1) := by decide +kernel
theorem dX7_mayHave_9 : decode cX7_mayHave 9 = .ok (.getfield 82, 3) := by decide +kernel
theorem dX7_mayHave_12 : decode cX7_mayHave 12 = .ok (.iload_n 2, 1) := by decide +kernel
theorem dX7_mayHave_13 : decode cX7_mayHave 13 = .ok (.iaload, 1) := by decide +kernel
theorem dX7_mayHave_14 : decode cX7_mayHave 14 = .ok (.ifCond .le 22, 3) := by decide +kernel
theorem dX7_mayHave_17 : decode cX7_mayHave 17 = .ok (.aload_n 0, 1) := by decide +kernel
theorem dX7_mayHave_18 : decode cX7_mayHave 18 = .ok (.getfield 34, 3) := by decide +kernel
theorem dX7_mayHave_21 : decode cX7_mayHave 21 = .ok (.bipush 6, 2) := by decide +kernel
theorem dX7_mayHave_23 : decode cX7_mayHave 23 = .ok (.iload_n 1, 1) := by decide +kernel
theorem dX7_mayHave_24 : decode cX7_mayHave 24 = .ok (.imul, 1) := by decide +kernel
theorem dX7_mayHave_25 : decode cX7_mayHave 25 = .ok (.iload_n 2, 1) := by decide +kernel
theorem dX7_mayHave_26 : decode cX7_mayHave 26 = .ok (.iadd, 1) := by decide +kernel
theorem dX7_mayHave_27 : decode cX7_mayHave 27 = .ok (.iaload, 1) := by decide +kernel
theorem dX7_mayHave_28 : decode cX7_mayHave 28 = .ok (.iconst (-1), 1) := by decide +kernel
theorem dX7_mayHave_29 : decode cX7_mayHave 29 = .ok (.if_icmp .eq 7, 3) := by decide +kernel
theorem dX7_mayHave_32 : decode cX7_mayHave 32 = .ok (.iconst 1, 1) := by decide +kernel
theorem dX7_mayHave_33 : decode cX7_mayHave 33 = .ok (.goto 4, 3) := by decide +kernel
theorem dX7_mayHave_36 : decode cX7_mayHave 36 = .ok (.iconst 0, 1) := by decide +kernel
theorem dX7_mayHave_37 : decode cX7_mayHave 37 = .ok (.ireturn, 1) := by decide +kernel
theorem dX7_valueOf_0 : decode cX7_valueOf 0 = .ok (.iload_n 2, 1) := by decide +kernel
theorem dX7_valueOf_1 : decode cX7_valueOf 1 = .ok (.aload_n 0, 1) := by decide +kernel
theorem dX7_valueOf_2 : decode cX7_valueOf 2 = .ok (.getfield 128, 3) := by decide +kernel
theorem dX7_valueOf_5 : decode cX7_valueOf 5 = .ok (.if_icmp .ne 7, 3) := by decide +kernel
theorem dX7_valueOf_8 : decode cX7_valueOf 8 = .ok (.iconst 0, 1) := by decide +kernel
theorem dX7_valueOf_9 : decode cX7_valueOf 9 = .ok (.goto 21, 3) := by decide +kernel
theorem dX7_valueOf_12 : decode cX7_valueOf 12 = .ok (.aload_n 0, 1) := by decide +kernel
theorem dX7_valueOf_13 : decode cX7_valueOf 13 = .ok (.getfield 34, 3) := by decide +kernel
theorem dX7_valueOf_16 : decode cX7_valueOf 16 = .ok (.bipush 6, 2) := by decide +kernel
theorem dX7_valueOf_18 : decode cX7_valueOf 18 = .ok (.iload_n 1, 1) := by decide +kernel
theorem dX7_valueOf_19 : decode cX7_valueOf 19 = .ok (.imul, 1) := by decide +kernel
theorem dX7_valueOf_20 : decode cX7_valueOf 20 = .ok (.iload_n 2, 1) := by decide +kernel
theorem dX7_valueOf_21 : decode cX7_valueOf 21 = .ok (.iadd, 1) := by decide +kernel
theorem dX7_valueOf_22 : decode cX7_valueOf 22 = .ok (.iaload, 1) := by decide +kernel
theorem dX7_valueOf_23 : decode cX7_valueOf 23 = .ok (.aload_n 0, 1) := by decide +kernel
theorem dX7_valueOf_24 : decode cX7_valueOf 24 = .ok (.getfield 85, 3) := by decide +kernel
theorem dX7_valueOf_27 : decode cX7_valueOf 27 = .ok (.iload_n 1, 1) := by decide +kernel
theorem dX7_valueOf_28 : decode cX7_valueOf 28 = .ok (.iaload, 1) := by decide +kernel
theorem dX7_valueOf_29 : decode cX7_valueOf 29 = .ok (.imul, 1) := by decide +kernel
theorem dX7_valueOf_30 : decode cX7_valueOf 30 = .ok (.ireturn, 1) := by decide +kernel
theorem dX7_takes_0 : decode cX7_takes 0 = .ok (.iload_n 1, 1) := by decide +kernel
theorem dX7_takes_1 : decode cX7_takes 1 = .ok (.ifCond .lt 21, 3) := by decide +kernel
theorem dX7_takes_4 : decode cX7_takes 4 = .ok (.iload_n 1, 1) := by decide +kernel
theorem dX7_takes_5 : decode cX7_takes 5 = .ok (.aload_n 0, 1) := by decide +kernel
theorem dX7_takes_6 : decode cX7_takes 6 = .ok (.getfield 128, 3) := by decide +kernel
theorem dX7_takes_9 : decode cX7_takes 9 = .ok (.if_icmp .ge 13, 3) := by decide +kernel
theorem dX7_takes_12 : decode cX7_takes 12 = .ok (.aload_n 0, 1) := by decide +kernel
theorem dX7_takes_13 : decode cX7_takes 13 = .ok (.getfield 82, 3) := by decide +kernel
theorem dX7_takes_16 : decode cX7_takes 16 = .ok (.iload_n 1, 1) := by decide +kernel
theorem dX7_takes_17 : decode cX7_takes 17 = .ok (.dup2, 1) := by decide +kernel
theorem dX7_takes_18 : decode cX7_takes 18 = .ok (.iaload, 1) := by decide +kernel
theorem dX7_takes_19 : decode cX7_takes 19 = .ok (.iload_n 2, 1) := by decide +kernel
theorem dX7_takes_20 : decode cX7_takes 20 = .ok (.isub, 1) := by decide +kernel
theorem dX7_takes_21 : decode cX7_takes 21 = .ok (.iastore, 1) := by decide +kernel
theorem dX7_takes_22 : decode cX7_takes 22 = .ok (.return_, 1) := by decide +kernel
theorem dX7_findBest_0 : decode cX7_findBest 0 = .ok (.aload_n 0, 1) := by decide +kernel
theorem dX7_findBest_1 : decode cX7_findBest 1 = .ok (.invokevirtual 213, 3) := by decide +kernel
theorem dX7_findBest_4 : decode cX7_findBest 4 = .ok (.aload_n 0, 1) := by decide +kernel
theorem dX7_findBest_5 : decode cX7_findBest 5 = .ok (.invokevirtual 241, 3) := by decide +kernel
theorem dX7_findBest_8 : decode cX7_findBest 8 = .ok (.aload_n 0, 1) := by decide +kernel
theorem dX7_findBest_9 : decode cX7_findBest 9 = .ok (.iconst (-1), 1) := by decide +kernel
theorem dX7_findBest_10 : decode cX7_findBest 10 = .ok (.putfield 244, 3) := by decide +kernel
theorem dX7_findBest_13 : decode cX7_findBest 13 = .ok (.iconst 0, 1) := by decide +kernel
theorem dX7_findBest_14 : decode cX7_findBest 14 = .ok (.istore_n 1, 1) := by decide +kernel
theorem dX7_findBest_15 : decode cX7_findBest 15 = .ok (.iconst 0, 1) := by decide +kernel
theorem dX7_findBest_16 : decode cX7_findBest 16 = .ok (.istore_n 2, 1) := by decide +kernel
theorem dX7_findBest_17 : decode cX7_findBest 17 = .ok (.aload_n 0, 1) := by decide +kernel
theorem dX7_findBest_18 : decode cX7_findBest 18 = .ok (.getfield 88, 3) := by decide +kernel
theorem dX7_findBest_21 : decode cX7_findBest 21 = .ok (.iconst 0, 1) := by decide +kernel
theorem dX7_findBest_22 : decode cX7_findBest 22 = .ok (.iconst (-1), 1) := by decide +kernel
theorem dX7_findBest_23 : decode cX7_findBest 23 = .ok (.iastore, 1) := by decide +kernel
theorem dX7_findBest_24 : decode cX7_findBest 24 = .ok (.iload_n 1, 1) := by decide +kernel
theorem dX7_findBest_25 : decode cX7_findBest 25 = .ok (.ifCond .lt 179, 3) := by decide +kernel
theorem dX7_findBest_28 : decode cX7_findBest 28 = .ok (.aload_n 0, 1) := by decide +kernel
theorem dX7_findBest_29 : decode cX7_findBest 29 = .ok (.getfield 88, 3) := by decide +kernel
theorem dX7_findBest_32 : decode cX7_findBest 32 = .ok (.iload_n 1, 1) := by decide +kernel
theorem dX7_findBest_33 : decode cX7_findBest 33 = .ok (.iaload, 1) := by decide +kernel
theorem dX7_findBest_34 : decode cX7_findBest 34 = .ok (.ifCond .lt 28, 3) := by decide +kernel
theorem dX7_findBest_37 : decode cX7_findBest 37 = .ok (.aload_n 0, 1) := by decide +kernel
theorem dX7_findBest_38 : decode cX7_findBest 38 = .ok (.aload_n 0, 1) := by decide +kernel
theorem dX7_findBest_39 : decode cX7_findBest 39 = .ok (.getfield 88, 3) := by decide +kernel
theorem dX7_findBest_42 : decode cX7_findBest 42 = .ok (.iload_n 1, 1) := by decide +kernel
theorem dX7_findBest_43 : decode cX7_findBest 43 = .ok (.iaload, 1) := by decide +kernel
theorem dX7_findBest_44 : decode cX7_findBest 44 = .ok (.iconst (-1), 1) := by decide +kernel
theorem dX7_findBest_45 : decode cX7_findBest 45 = .ok (.invokevirtual 247, 3) := by decide +kernel
theorem dX7_findBest_48 : decode cX7_findBest 48 = .ok (.iload_n 2, 1) := by decide +kernel
theorem dX7_findBest_49 : decode cX7_findBest 49 = .ok (.aload_n 0, 1) := by decide +kernel
theorem dX7_findBest_50 : decode cX7_findBest 50 = .ok (.iload_n 1, 1) := by decide +kernel
theorem dX7_findBest_51 : decode cX7_findBest 51 = .ok (.aload_n 0, 1) := by decide +kernel
theorem dX7_findBest_52 : decode cX7_findBest 52 = .ok (.getfield 88, 3) := by decide +kernel
theorem dX7_findBest_55 : decode cX7_findBest 55 = .ok (.iload_n 1, 1) := by decide +kernel
theorem dX7_findBest_56 : decode cX7_findBest 56 = .ok (.iaload, 1) := by decide +kernel
theorem dX7_findBest_57 : decode cX7_findBest 57 = .ok (.invokevirtual 251, 3) := by decide +kernel
theorem dX7_findBest_60 : decode cX7_findBest 60 = .ok (.isub, 1) := by decide +kernel
theorem dX7_findBest_61 : decode cX7_findBest 61 = .ok (.istore_n 2, 1) := by decide +kernel
theorem dX7_findBest_62 : decode cX7_findBest 62 = .ok (.aload_n 0, 1) := by decide +kernel
theorem dX7_findBest_63 : decode cX7_findBest 63 = .ok (.getfield 88, 3) := by decide +kernel
theorem dX7_findBest_66 : decode cX7_findBest 66 = .ok (.iload_n 1, 1) := by decide +kernel
theorem dX7_findBest_67 : decode cX7_findBest 67 = .ok (.dup2, 1) := by decide +kernel
theorem dX7_findBest_68 : decode cX7_findBest 68 = .ok (.iaload, 1) := by decide +kernel
theorem dX7_findBest_69 : decode cX7_findBest 69 = .ok (.iconst 1, 1) := by decide +kernel
theorem dX7_findBest_70 : decode cX7_findBest 70 = .ok (.iadd, 1) := by decide +kernel
theorem dX7_findBest_71 : decode cX7_findBest 71 = .ok (.iastore, 1) := by decide +kernel
theorem dX7_findBest_72 : decode cX7_findBest 72 = .ok (.aload_n 0, 1) := by decide +kernel
theorem dX7_findBest_73 : decode cX7_findBest 73 = .ok (.getfield 88, 3) := by decide +kernel
theorem dX7_findBest_76 : decode cX7_findBest 76 = .ok (.iload_n 1, 1) := by decide +kernel
theorem dX7_findBest_77 : decode cX7_findBest 77 = .ok (.iaload, 1) := by decide +kernel
theorem dX7_findBest_78 : decode cX7_findBest 78 = .ok (.aload_n 0, 1) := by decide +kernel
theorem dX7_findBest_79 : decode cX7_findBest 79 = .ok (.getfield 128, 3) := by decide +kernel
theorem dX7_findBest_82 : decode cX7_findBest 82 = .ok (.if_icmp .gt 30, 3) := by decide +kernel
theorem dX7_findBest_85 : decode cX7_findBest 85 = .ok (.aload_n 0, 1) := by decide +kernel
theorem dX7_findBest_86 : decode cX7_findBest 86 = .ok (.iload_n 1, 1) := by decide +kernel
theorem dX7_findBest_87 : decode cX7_findBest 87 = .ok (.aload_n 0, 1) := by decide +kernel
theorem dX7_findBest_88 : decode cX7_findBest 88 = .ok (.getfield 88, 3) := by decide +kernel
theorem dX7_findBest_91 : decode cX7_findBest 91 = .ok (.iload_n 1, 1) := by decide +kernel
theorem dX7_findBest_92 : decode cX7_findBest 92 = .ok (.iaload, 1) := by decide +kernel
theorem dX7_findBest_93 : decode cX7_findBest 93 = .ok (.invokevirtual 254, 3) := by decide +kernel
theorem dX7_findBest_96 : decode cX7_findBest 96 = .ok (.ifCond .ne 16, 3) := by decide +kernel
theorem dX7_findBest_99 : decode cX7_findBest 99 = .ok (.aload_n 0, 1) := by decide +kernel
theorem dX7_findBest_100 : decode cX7_findBest 100 = .ok (.getfield 88, 3) := by decide +kernel
theorem dX7_findBest_103 : decode cX7_findBest 103 = .ok (.iload_n 1, 1) := by decide +kernel
theorem dX7_findBest_104 : decode cX7_findBest 104 = .ok (.dup2, 1) := by decide +kernel
theorem dX7_findBest_105 : decode cX7_findBest 105 = .ok (.iaload, 1) := by decide +kernel
theorem dX7_findBest_106 : decode cX7_findBest 106 = .ok (.iconst 1, 1) := by decide +kernel
theorem dX7_findBest_107 : decode cX7_findBest 107 = .ok (.iadd, 1) := by decide +kernel
theorem dX7_findBest_108 : decode cX7_findBest 108 = .ok (.iastore, 1) := by decide +kernel
theorem dX7_findBest_109 : decode cX7_findBest 109 = .ok (.goto (-37), 3) := by decide +kernel
theorem dX7_findBest_112 : decode cX7_findBest 112 = .ok (.aload_n 0, 1) := by decide +kernel
theorem dX7_findBest_113 : decode cX7_findBest 113 = .ok (.getfield 88, 3) := by decide +kernel
theorem dX7_findBest_116 : decode cX7_findBest 116 = .ok (.iload_n 1, 1) := by decide +kernel
theorem dX7_findBest_117 : decode cX7_findBest 117 = .ok (.iaload, 1) := by decide +kernel
theorem dX7_findBest_118 : decode cX7_findBest 118 = .ok (.aload_n 0, 1) := by decide +kernel
theorem dX7_findBest_119 : decode cX7_findBest 119 = .ok (.getfield 128, 3) := by decide +kernel
theorem dX7_findBest_122 : decode cX7_findBest 122 = .ok (.if_icmp .le 9, 3) := by decide +kernel
theorem dX7_findBest_125 : decode cX7_findBest 125 = .ok (.iinc 1 (-1), 3) := by decide +kernel
theorem dX7_findBest_128 : decode cX7_findBest 128 = .ok (.goto (-104), 3) := by decide +kernel
theorem dX7_findBest_131 : decode cX7_findBest 131 = .ok (.aload_n 0, 1) := by decide +kernel
theorem dX7_findBest_132 : decode cX7_findBest 132 = .ok (.aload_n 0, 1) := by decide +kernel
theorem dX7_findBest_133 : decode cX7_findBest 133 = .ok (.getfield 88, 3) := by decide +kernel
theorem dX7_findBest_136 : decode cX7_findBest 136 = .ok (.iload_n 1, 1) := by decide +kernel
theorem dX7_findBest_137 : decode cX7_findBest 137 = .ok (.iaload, 1) := by decide +kernel
theorem dX7_findBest_138 : decode cX7_findBest 138 = .ok (.iconst 1, 1) := by decide +kernel
theorem dX7_findBest_139 : decode cX7_findBest 139 = .ok (.invokevirtual 247, 3) := by decide +kernel
theorem dX7_findBest_142 : decode cX7_findBest 142 = .ok (.iload_n 2, 1) := by decide +kernel
theorem dX7_findBest_143 : decode cX7_findBest 143 = .ok (.aload_n 0, 1) := by decide +kernel
theorem dX7_findBest_144 : decode cX7_findBest 144 = .ok (.iload_n 1, 1) := by decide +kernel
theorem dX7_findBest_145 : decode cX7_findBest 145 = .ok (.aload_n 0, 1) := by decide +kernel
theorem dX7_findBest_146 : decode cX7_findBest 146 = .ok (.getfield 88, 3) := by decide +kernel
theorem dX7_findBest_149 : decode cX7_findBest 149 = .ok (.iload_n 1, 1) := by decide +kernel
theorem dX7_findBest_150 : decode cX7_findBest 150 = .ok (.iaload, 1) := by decide +kernel
theorem dX7_findBest_151 : decode cX7_findBest 151 = .ok (.invokevirtual 251, 3) := by decide +kernel
theorem dX7_findBest_154 : decode cX7_findBest 154 = .ok (.iadd, 1) := by decide +kernel
theorem dX7_findBest_155 : decode cX7_findBest 155 = .ok (.istore_n 2, 1) := by decide +kernel
theorem dX7_findBest_156 : decode cX7_findBest 156 = .ok (.iload_n 1, 1) := by decide +kernel
theorem dX7_findBest_157 : decode cX7_findBest 157 = .ok (.aload_n 0, 1) := by decide +kernel
theorem dX7_findBest_158 : decode cX7_findBest 158 = .ok (.getfield 125, 3) := by decide +kernel
theorem dX7_findBest_161 : decode cX7_findBest 161 = .ok (.iconst 1, 1) := by decide +kernel
theorem dX7_findBest_162 : decode cX7_findBest 162 = .ok (.isub, 1) := by decide +kernel
theorem dX7_findBest_163 : decode cX7_findBest 163 = .ok (.if_icmp .ne 11, 3) := by decide +kernel
theorem dX7_findBest_166 : decode cX7_findBest 166 = .ok (.aload_n 0, 1) := by decide +kernel
theorem dX7_findBest_167 : decode cX7_findBest 167 = .ok (.iload_n 2, 1) := by decide +kernel
theorem dX7_findBest_168 : decode cX7_findBest 168 = .ok (.invokevirtual 257, 3) := by decide +kernel
theorem dX7_findBest_171 : decode cX7_findBest 171 = .ok (.goto (-147), 3) := by decide +kernel
theorem dX7_findBest_174 : decode cX7_findBest 174 = .ok (.iload_n 2, 1) := by decide +kernel
theorem dX7_findBest_175 : decode cX7_findBest 175 = .ok (.aload_n 0, 1) := by decide +kernel
theorem dX7_findBest_176 : decode cX7_findBest 176 = .ok (.getfield 94, 3) := by decide +kernel
theorem dX7_findBest_179 : decode cX7_findBest 179 = .ok (.iload_n 1, 1) := by decide +kernel
theorem dX7_findBest_180 : decode cX7_findBest 180 = .ok (.iconst 1, 1) := by decide +kernel
theorem dX7_findBest_181 : decode cX7_findBest 181 = .ok (.iadd, 1) := by decide +kernel
theorem dX7_findBest_182 : decode cX7_findBest 182 = .ok (.iaload, 1) := by decide +kernel
theorem dX7_findBest_183 : decode cX7_findBest 183 = .ok (.iadd, 1) := by decide +kernel
theorem dX7_findBest_184 : decode cX7_findBest 184 = .ok (.aload_n 0, 1) := by decide +kernel
theorem dX7_findBest_185 : decode cX7_findBest 185 = .ok (.getfield 244, 3) := by decide +kernel
theorem dX7_findBest_188 : decode cX7_findBest 188 = .ok (.if_icmp .le (-164), 3) := by decide +kernel
theorem dX7_findBest_191 : decode cX7_findBest 191 = .ok (.iinc 1 1, 3) := by decide +kernel
theorem dX7_findBest_194 : decode cX7_findBest 194 = .ok (.aload_n 0, 1) := by decide +kernel
theorem dX7_findBest_195 : decode cX7_findBest 195 = .ok (.getfield 88, 3) := by decide +kernel
theorem dX7_findBest_198 : decode cX7_findBest 198 = .ok (.iload_n 1, 1) := by decide +kernel
theorem dX7_findBest_199 : decode cX7_findBest 199 = .ok (.iconst (-1), 1) := by decide +kernel
theorem dX7_findBest_200 : decode cX7_findBest 200 = .ok (.iastore, 1) := by decide +kernel
theorem dX7_findBest_201 : decode cX7_findBest 201 = .ok (.goto (-177), 3) := by decide +kernel
theorem dX7_findBest_204 : decode cX7_findBest 204 = .ok (.return_, 1) := by decide +kernel
theorem dX7_keepBest_0 : decode cX7_keepBest 0 = .ok (.iload_n 1, 1) := by decide +kernel
theorem dX7_keepBest_1 : decode cX7_keepBest 1 = .ok (.aload_n 0, 1) := by decide +kernel
theorem dX7_keepBest_2 : decode cX7_keepBest 2 = .ok (.getfield 244, 3) := by decide +kernel
theorem dX7_keepBest_5 : decode cX7_keepBest 5 = .ok (.if_icmp .gt 4, 3) := by decide +kernel
theorem dX7_keepBest_8 : decode cX7_keepBest 8 = .ok (.return_, 1) := by decide +kernel
theorem dX7_keepBest_9 : decode cX7_keepBest 9 = .ok (.aload_n 0, 1) := by decide +kernel
theorem dX7_keepBest_10 : decode cX7_keepBest 10 = .ok (.iload_n 1, 1) := by decide +kernel
theorem dX7_keepBest_11 : decode cX7_keepBest 11 = .ok (.putfield 244, 3) := by decide +kernel
theorem dX7_keepBest_14 : decode cX7_keepBest 14 = .ok (.iconst 0, 1) := by decide +kernel
theorem dX7_keepBest_15 : decode cX7_keepBest 15 = .ok (.istore_n 2, 1) := by decide +kernel
theorem dX7_keepBest_16 : decode cX7_keepBest 16 = .ok (.iload_n 2, 1) := by decide +kernel
theorem dX7_keepBest_17 : decode cX7_keepBest 17 = .ok (.aload_n 0, 1) := by decide +kernel
theorem dX7_keepBest_18 : decode cX7_keepBest 18 = .ok (.getfield 125, 3) := by decide +kernel
theorem dX7_keepBest_21 : decode cX7_keepBest 21 = .ok (.if_icmp .ge 39, 3) := by decide +kernel
theorem dX7_keepBest_24 : decode cX7_keepBest 24 = .ok (.aload_n 0, 1) := by decide +kernel
theorem dX7_keepBest_25 : decode cX7_keepBest 25 = .ok (.getfield 91, 3) := by decide +kernel
theorem dX7_keepBest_28 : decode cX7_keepBest 28 = .ok (.iload_n 2, 1) := by decide +kernel
theorem dX7_keepBest_29 : decode cX7_keepBest 29 = .ok (.aload_n 0, 1) := by decide +kernel
theorem dX7_keepBest_30 : decode cX7_keepBest 30 = .ok (.getfield 88, 3) := by decide +kernel
theorem dX7_keepBest_33 : decode cX7_keepBest 33 = .ok (.iload_n 2, 1) := by decide +kernel
theorem dX7_keepBest_34 : decode cX7_keepBest 34 = .ok (.iaload, 1) := by decide +kernel
theorem dX7_keepBest_35 : decode cX7_keepBest 35 = .ok (.aload_n 0, 1) := by decide +kernel
theorem dX7_keepBest_36 : decode cX7_keepBest 36 = .ok (.getfield 128, 3) := by decide +kernel
theorem dX7_keepBest_39 : decode cX7_keepBest 39 = .ok (.if_icmp .ne 8, 3) := by decide +kernel
theorem dX7_keepBest_42 : decode cX7_keepBest 42 = .ok (.bipush (-9), 2) := by decide +kernel
theorem dX7_keepBest_44 : decode cX7_keepBest 44 = .ok (.goto 9, 3) := by decide +kernel
theorem dX7_keepBest_47 : decode cX7_keepBest 47 = .ok (.aload_n 0, 1) := by decide +kernel
theorem dX7_keepBest_48 : decode cX7_keepBest 48 = .ok (.getfield 88, 3) := by decide +kernel
theorem dX7_keepBest_51 : decode cX7_keepBest 51 = .ok (.iload_n 2, 1) := by decide +kernel
theorem dX7_keepBest_52 : decode cX7_keepBest 52 = .ok (.iaload, 1) := by decide +kernel
theorem dX7_keepBest_53 : decode cX7_keepBest 53 = .ok (.iastore, 1) := by decide +kernel
theorem dX7_keepBest_54 : decode cX7_keepBest 54 = .ok (.iinc 2 1, 3) := by decide +kernel
theorem dX7_keepBest_57 : decode cX7_keepBest 57 = .ok (.goto (-41), 3) := by decide +kernel
theorem dX7_keepBest_60 : decode cX7_keepBest 60 = .ok (.return_, 1) := by decide +kernel
theorem dX7_best_0 : decode cX7_best 0 = .ok (.iload_n 1, 1) := by decide +kernel
theorem dX7_best_1 : decode cX7_best 1 = .ok (.iconst (-1), 1) := by decide +kernel
theorem dX7_best_2 : decode cX7_best 2 = .ok (.aload_n 0, 1) := by decide +kernel
theorem dX7_best_3 : decode cX7_best 3 = .ok (.getfield 125, 3) := by decide +kernel
theorem dX7_best_6 : decode cX7_best 6 = .ok (.iconst 1, 1) := by decide +kernel
theorem dX7_best_7 : decode cX7_best 7 = .ok (.isub, 1) := by decide +kernel
theorem dX7_best_8 : decode cX7_best 8 = .ok (.invokestatic 121, 3) := by decide +kernel
theorem dX7_best_11 : decode cX7_best 11 = .ok (.ifCond .ne 5, 3) := by decide +kernel
theorem dX7_best_14 : decode cX7_best 14 = .ok (.iconst (-1), 1) := by decide +kernel
theorem dX7_best_15 : decode cX7_best 15 = .ok (.ireturn, 1) := by decide +kernel
theorem dX7_best_16 : decode cX7_best 16 = .ok (.aload_n 0, 1) := by decide +kernel
theorem dX7_best_17 : decode cX7_best 17 = .ok (.invokevirtual 190, 3) := by decide +kernel
theorem dX7_best_20 : decode cX7_best 20 = .ok (.ifCond .ne 6, 3) := by decide +kernel
theorem dX7_best_23 : decode cX7_best 23 = .ok (.bipush (-3), 2) := by decide +kernel
theorem dX7_best_25 : decode cX7_best 25 = .ok (.ireturn, 1) := by decide +kernel
theorem dX7_best_26 : decode cX7_best 26 = .ok (.aload_n 0, 1) := by decide +kernel
theorem dX7_best_27 : decode cX7_best 27 = .ok (.invokevirtual 260, 3) := by decide +kernel
theorem dX7_best_30 : decode cX7_best 30 = .ok (.iload_n 1, 1) := by decide +kernel
theorem dX7_best_31 : decode cX7_best 31 = .ok (.ifCond .ge 10, 3) := by decide +kernel
theorem dX7_best_34 : decode cX7_best 34 = .ok (.aload_n 0, 1) := by decide +kernel
theorem dX7_best_35 : decode cX7_best 35 = .ok (.getfield 244, 3) := by decide +kernel
theorem dX7_best_38 : decode cX7_best 38 = .ok (.goto 9, 3) := by decide +kernel
theorem dX7_best_41 : decode cX7_best 41 = .ok (.aload_n 0, 1) := by decide +kernel
theorem dX7_best_42 : decode cX7_best 42 = .ok (.getfield 91, 3) := by decide +kernel
theorem dX7_best_45 : decode cX7_best 45 = .ok (.iload_n 1, 1) := by decide +kernel
theorem dX7_best_46 : decode cX7_best 46 = .ok (.iaload, 1) := by decide +kernel
theorem dX7_best_47 : decode cX7_best 47 = .ok (.ireturn, 1) := by decide +kernel
theorem dX7_leastGlad_0 : decode cX7_leastGlad 0 = .ok (.aload_n 0, 1) := by decide +kernel
theorem dX7_leastGlad_1 : decode cX7_leastGlad 1 = .ok (.getfield 76, 3) := by decide +kernel
theorem dX7_leastGlad_4 : decode cX7_leastGlad 4 = .ok (.iconst 0, 1) := by decide +kernel
theorem dX7_leastGlad_5 : decode cX7_leastGlad 5 = .ok (.iaload, 1) := by decide +kernel
theorem dX7_leastGlad_6 : decode cX7_leastGlad 6 = .ok (.istore_n 1, 1) := by decide +kernel
theorem dX7_leastGlad_7 : decode cX7_leastGlad 7 = .ok (.iconst 1, 1) := by decide +kernel
theorem dX7_leastGlad_8 : decode cX7_leastGlad 8 = .ok (.istore_n 2, 1) := by decide +kernel
theorem dX7_leastGlad_9 : decode cX7_leastGlad 9 = .ok (.iload_n 2, 1) := by decide +kernel
theorem dX7_leastGlad_10 : decode cX7_leastGlad 10 = .ok (.aload_n 0, 1) := by decide +kernel
theorem dX7_leastGlad_11 : decode cX7_leastGlad 11 = .ok (.getfield 125, 3) := by decide +kernel
theorem dX7_leastGlad_14 : decode cX7_leastGlad 14 = .ok (.if_icmp .ge 30, 3) := by decide +kernel
theorem dX7_leastGlad_17 : decode cX7_leastGlad 17 = .ok (.aload_n 0, 1) := by decide +kernel
theorem dX7_leastGlad_18 : decode cX7_leastGlad 18 = .ok (.getfield 76, 3) := by decide +kernel
theorem dX7_leastGlad_21 : decode cX7_leastGlad 21 = .ok (.iload_n 2, 1) := by decide +kernel
theorem dX7_leastGlad_22 : decode cX7_leastGlad 22 = .ok (.iaload, 1) := by decide +kernel
theorem dX7_leastGlad_23 : decode cX7_leastGlad 23 = .ok (.iload_n 1, 1) := by decide +kernel
theorem dX7_leastGlad_24 : decode cX7_leastGlad 24 = .ok (.if_icmp .ge 12, 3) := by decide +kernel
theorem dX7_leastGlad_27 : decode cX7_leastGlad 27 = .ok (.aload_n 0, 1) := by decide +kernel
theorem dX7_leastGlad_28 : decode cX7_leastGlad 28 = .ok (.getfield 76, 3) := by decide +kernel
theorem dX7_leastGlad_31 : decode cX7_leastGlad 31 = .ok (.iload_n 2, 1) := by decide +kernel
theorem dX7_leastGlad_32 : decode cX7_leastGlad 32 = .ok (.iaload, 1) := by decide +kernel
theorem dX7_leastGlad_33 : decode cX7_leastGlad 33 = .ok (.goto 4, 3) := by decide +kernel
theorem dX7_leastGlad_36 : decode cX7_leastGlad 36 = .ok (.iload_n 1, 1) := by decide +kernel
theorem dX7_leastGlad_37 : decode cX7_leastGlad 37 = .ok (.istore_n 1, 1) := by decide +kernel
theorem dX7_leastGlad_38 : decode cX7_leastGlad 38 = .ok (.iinc 2 1, 3) := by decide +kernel
theorem dX7_leastGlad_41 : decode cX7_leastGlad 41 = .ok (.goto (-32), 3) := by decide +kernel
theorem dX7_leastGlad_44 : decode cX7_leastGlad 44 = .ok (.iload_n 1, 1) := by decide +kernel
theorem dX7_leastGlad_45 : decode cX7_leastGlad 45 = .ok (.ireturn, 1) := by decide +kernel
theorem dX7_isInPerm_0 : decode cX7_isInPerm 0 = .ok (.iconst 0, 1) := by decide +kernel
theorem dX7_isInPerm_1 : decode cX7_isInPerm 1 = .ok (.istore_n 3, 1) := by decide +kernel
theorem dX7_isInPerm_2 : decode cX7_isInPerm 2 = .ok (.iload_n 3, 1) := by decide +kernel
theorem dX7_isInPerm_3 : decode cX7_isInPerm 3 = .ok (.iload_n 2, 1) := by decide +kernel
theorem dX7_isInPerm_4 : decode cX7_isInPerm 4 = .ok (.if_icmp .ge 21, 3) := by decide +kernel
theorem dX7_isInPerm_7 : decode cX7_isInPerm 7 = .ok (.aload_n 0, 1) := by decide +kernel
theorem dX7_isInPerm_8 : decode cX7_isInPerm 8 = .ok (.getfield 97, 3) := by decide +kernel
theorem dX7_isInPerm_11 : decode cX7_isInPerm 11 = .ok (.iload_n 3, 1) := by decide +kernel
theorem dX7_isInPerm_12 : decode cX7_isInPerm 12 = .ok (.iaload, 1) := by decide +kernel
theorem dX7_isInPerm_13 : decode cX7_isInPerm 13 = .ok (.iload_n 1, 1) := by decide +kernel
theorem dX7_isInPerm_14 : decode cX7_isInPerm 14 = .ok (.if_icmp .ne 5, 3) := by decide +kernel
theorem dX7_isInPerm_17 : decode cX7_isInPerm 17 = .ok (.iconst 1, 1) := by decide +kernel
theorem dX7_isInPerm_18 : decode cX7_isInPerm 18 = .ok (.ireturn, 1) := by decide +kernel
theorem dX7_isInPerm_19 : decode cX7_isInPerm 19 = .ok (.iinc 3 1, 3) := by decide +kernel
theorem dX7_isInPerm_22 : decode cX7_isInPerm 22 = .ok (.goto (-20), 3) := by decide +kernel
theorem dX7_isInPerm_25 : decode cX7_isInPerm 25 = .ok (.iconst 0, 1) := by decide +kernel
theorem dX7_isInPerm_26 : decode cX7_isInPerm 26 = .ok (.ireturn, 1) := by decide +kernel
theorem dX7_findSeats_0 : decode cX7_findSeats 0 = .ok (.aload_n 0, 1) := by decide +kernel
theorem dX7_findSeats_1 : decode cX7_findSeats 1 = .ok (.iconst (-1), 1) := by decide +kernel
theorem dX7_findSeats_2 : decode cX7_findSeats 2 = .ok (.putfield 244, 3) := by decide +kernel
theorem dX7_findSeats_5 : decode cX7_findSeats 5 = .ok (.aload_n 0, 1) := by decide +kernel
theorem dX7_findSeats_6 : decode cX7_findSeats 6 = .ok (.getfield 97, 3) := by decide +kernel
theorem dX7_findSeats_9 : decode cX7_findSeats 9 = .ok (.iconst 0, 1) := by decide +kernel
theorem dX7_findSeats_10 : decode cX7_findSeats 10 = .ok (.iconst 0, 1) := by decide +kernel
theorem dX7_findSeats_11 : decode cX7_findSeats 11 = .ok (.iastore, 1) := by decide +kernel
theorem dX7_findSeats_12 : decode cX7_findSeats 12 = .ok (.iconst 1, 1) := by decide +kernel
theorem dX7_findSeats_13 : decode cX7_findSeats 13 = .ok (.istore_n 2, 1) := by decide +kernel
theorem dX7_findSeats_14 : decode cX7_findSeats 14 = .ok (.aload_n 0, 1) := by decide +kernel
theorem dX7_findSeats_15 : decode cX7_findSeats 15 = .ok (.getfield 97, 3) := by decide +kernel
theorem dX7_findSeats_18 : decode cX7_findSeats 18 = .ok (.iconst 1, 1) := by decide +kernel
theorem dX7_findSeats_19 : decode cX7_findSeats 19 = .ok (.iconst 0, 1) := by decide +kernel
theorem dX7_findSeats_20 : decode cX7_findSeats 20 = .ok (.iastore, 1) := by decide +kernel
theorem dX7_findSeats_21 : decode cX7_findSeats 21 = .ok (.iload_n 2, 1) := by decide +kernel
theorem dX7_findSeats_22 : decode cX7_findSeats 22 = .ok (.ifCond .le 103, 3) := by decide +kernel
theorem dX7_findSeats_25 : decode cX7_findSeats 25 = .ok (.aload_n 0, 1) := by decide +kernel
theorem dX7_findSeats_26 : decode cX7_findSeats 26 = .ok (.getfield 97, 3) := by decide +kernel
theorem dX7_findSeats_29 : decode cX7_findSeats 29 = .ok (.iload_n 2, 1) := by decide +kernel
theorem dX7_findSeats_30 : decode cX7_findSeats 30 = .ok (.dup2, 1) := by decide +kernel
theorem dX7_findSeats_31 : decode cX7_findSeats 31 = .ok (.iaload, 1) := by decide +kernel
theorem dX7_findSeats_32 : decode cX7_findSeats 32 = .ok (.iconst 1, 1) := by decide +kernel
theorem dX7_findSeats_33 : decode cX7_findSeats 33 = .ok (.iadd, 1) := by decide +kernel
theorem dX7_findSeats_34 : decode cX7_findSeats 34 = .ok (.iastore, 1) := by decide +kernel
theorem dX7_findSeats_35 : decode cX7_findSeats 35 = .ok (.aload_n 0, 1) := by decide +kernel
theorem dX7_findSeats_36 : decode cX7_findSeats 36 = .ok (.getfield 97, 3) := by decide +kernel
theorem dX7_findSeats_39 : decode cX7_findSeats 39 = .ok (.iload_n 2, 1) := by decide +kernel
theorem dX7_findSeats_40 : decode cX7_findSeats 40 = .ok (.iaload, 1) := by decide +kernel
theorem dX7_findSeats_41 : decode cX7_findSeats 41 = .ok (.aload_n 0, 1) := by decide +kernel
theorem dX7_findSeats_42 : decode cX7_findSeats 42 = .ok (.getfield 125, 3) := by decide +kernel
theorem dX7_findSeats_45 : decode cX7_findSeats 45 = .ok (.if_icmp .ge 30, 3) := by decide +kernel
theorem dX7_findSeats_48 : decode cX7_findSeats 48 = .ok (.aload_n 0, 1) := by decide +kernel
theorem dX7_findSeats_49 : decode cX7_findSeats 49 = .ok (.aload_n 0, 1) := by decide +kernel
theorem dX7_findSeats_50 : decode cX7_findSeats 50 = .ok (.getfield 97, 3) := by decide +kernel
theorem dX7_findSeats_53 : decode cX7_findSeats 53 = .ok (.iload_n 2, 1) := by decide +kernel
theorem dX7_findSeats_54 : decode cX7_findSeats 54 = .ok (.iaload, 1) := by decide +kernel
theorem dX7_findSeats_55 : decode cX7_findSeats 55 = .ok (.iload_n 2, 1) := by decide +kernel
theorem dX7_findSeats_56 : decode cX7_findSeats 56 = .ok (.invokevirtual 263, 3) := by decide +kernel
theorem dX7_findSeats_59 : decode cX7_findSeats 59 = .ok (.ifCond .eq 16, 3) := by decide +kernel
theorem dX7_findSeats_62 : decode cX7_findSeats 62 = .ok (.aload_n 0, 1) := by decide +kernel
theorem dX7_findSeats_63 : decode cX7_findSeats 63 = .ok (.getfield 97, 3) := by decide +kernel
theorem dX7_findSeats_66 : decode cX7_findSeats 66 = .ok (.iload_n 2, 1) := by decide +kernel
theorem dX7_findSeats_67 : decode cX7_findSeats 67 = .ok (.dup2, 1) := by decide +kernel
theorem dX7_findSeats_68 : decode cX7_findSeats 68 = .ok (.iaload, 1) := by decide +kernel
theorem dX7_findSeats_69 : decode cX7_findSeats 69 = .ok (.iconst 1, 1) := by decide +kernel
theorem dX7_findSeats_70 : decode cX7_findSeats 70 = .ok (.iadd, 1) := by decide +kernel
theorem dX7_findSeats_71 : decode cX7_findSeats 71 = .ok (.iastore, 1) := by decide +kernel
theorem dX7_findSeats_72 : decode cX7_findSeats 72 = .ok (.goto (-37), 3) := by decide +kernel
theorem dX7_findSeats_75 : decode cX7_findSeats 75 = .ok (.aload_n 0, 1) := by decide +kernel
theorem dX7_findSeats_76 : decode cX7_findSeats 76 = .ok (.getfield 97, 3) := by decide +kernel
theorem dX7_findSeats_79 : decode cX7_findSeats 79 = .ok (.iload_n 2, 1) := by decide +kernel
theorem dX7_findSeats_80 : decode cX7_findSeats 80 = .ok (.iaload, 1) := by decide +kernel
theorem dX7_findSeats_81 : decode cX7_findSeats 81 = .ok (.aload_n 0, 1) := by decide +kernel
theorem dX7_findSeats_82 : decode cX7_findSeats 82 = .ok (.getfield 125, 3) := by decide +kernel
theorem dX7_findSeats_85 : decode cX7_findSeats 85 = .ok (.if_icmp .lt 9, 3) := by decide +kernel
theorem dX7_findSeats_88 : decode cX7_findSeats 88 = .ok (.iinc 2 (-1), 3) := by decide +kernel
theorem dX7_findSeats_91 : decode cX7_findSeats 91 = .ok (.goto (-70), 3) := by decide +kernel
theorem dX7_findSeats_94 : decode cX7_findSeats 94 = .ok (.iload_n 2, 1) := by decide +kernel
theorem dX7_findSeats_95 : decode cX7_findSeats 95 = .ok (.aload_n 0, 1) := by decide +kernel
theorem dX7_findSeats_96 : decode cX7_findSeats 96 = .ok (.getfield 125, 3) := by decide +kernel
theorem dX7_findSeats_99 : decode cX7_findSeats 99 = .ok (.iconst 1, 1) := by decide +kernel
theorem dX7_findSeats_100 : decode cX7_findSeats 100 = .ok (.isub, 1) := by decide +kernel
theorem dX7_findSeats_101 : decode cX7_findSeats 101 = .ok (.if_icmp .ne 11, 3) := by decide +kernel
theorem dX7_findSeats_104 : decode cX7_findSeats 104 = .ok (.aload_n 0, 1) := by decide +kernel
theorem dX7_findSeats_105 : decode cX7_findSeats 105 = .ok (.iload_n 1, 1) := by decide +kernel
theorem dX7_findSeats_106 : decode cX7_findSeats 106 = .ok (.invokevirtual 266, 3) := by decide +kernel
theorem dX7_findSeats_109 : decode cX7_findSeats 109 = .ok (.goto (-88), 3) := by decide +kernel
theorem dX7_findSeats_112 : decode cX7_findSeats 112 = .ok (.iinc 2 1, 3) := by decide +kernel
theorem dX7_findSeats_115 : decode cX7_findSeats 115 = .ok (.aload_n 0, 1) := by decide +kernel
theorem dX7_findSeats_116 : decode cX7_findSeats 116 = .ok (.getfield 97, 3) := by decide +kernel
theorem dX7_findSeats_119 : decode cX7_findSeats 119 = .ok (.iload_n 2, 1) := by decide +kernel
theorem dX7_findSeats_120 : decode cX7_findSeats 120 = .ok (.iconst 0, 1) := by decide +kernel
theorem dX7_findSeats_121 : decode cX7_findSeats 121 = .ok (.iastore, 1) := by decide +kernel
theorem dX7_findSeats_122 : decode cX7_findSeats 122 = .ok (.goto (-101), 3) := by decide +kernel
theorem dX7_findSeats_125 : decode cX7_findSeats 125 = .ok (.return_, 1) := by decide +kernel
theorem dX7_trySeats_0 : decode cX7_trySeats 0 = .ok (.aload_n 0, 1) := by decide +kernel
theorem dX7_trySeats_1 : decode cX7_trySeats 1 = .ok (.invokevirtual 224, 3) := by decide +kernel
theorem dX7_trySeats_4 : decode cX7_trySeats 4 = .ok (.iconst 0, 1) := by decide +kernel
theorem dX7_trySeats_5 : decode cX7_trySeats 5 = .ok (.istore_n 2, 1) := by decide +kernel
theorem dX7_trySeats_6 : decode cX7_trySeats 6 = .ok (.iload_n 2, 1) := by decide +kernel
theorem dX7_trySeats_7 : decode cX7_trySeats 7 = .ok (.aload_n 0, 1) := by decide +kernel
theorem dX7_trySeats_8 : decode cX7_trySeats 8 = .ok (.getfield 125, 3) := by decide +kernel
theorem dX7_trySeats_11 : decode cX7_trySeats 11 = .ok (.if_icmp .ge 29, 3) := by decide +kernel
theorem dX7_trySeats_14 : decode cX7_trySeats 14 = .ok (.aload_n 0, 1) := by decide +kernel
theorem dX7_trySeats_15 : decode cX7_trySeats 15 = .ok (.getfield 64, 3) := by decide +kernel
theorem dX7_trySeats_18 : decode cX7_trySeats 18 = .ok (.iload_n 2, 1) := by decide +kernel
theorem dX7_trySeats_19 : decode cX7_trySeats 19 = .ok (.aload_n 0, 1) := by decide +kernel
theorem dX7_trySeats_20 : decode cX7_trySeats 20 = .ok (.getfield 97, 3) := by decide +kernel
theorem dX7_trySeats_23 : decode cX7_trySeats 23 = .ok (.iload_n 2, 1) := by decide +kernel
theorem dX7_trySeats_24 : decode cX7_trySeats 24 = .ok (.iaload, 1) := by decide +kernel
theorem dX7_trySeats_25 : decode cX7_trySeats 25 = .ok (.iastore, 1) := by decide +kernel
theorem dX7_trySeats_26 : decode cX7_trySeats 26 = .ok (.aload_n 0, 1) := by decide +kernel
theorem dX7_trySeats_27 : decode cX7_trySeats 27 = .ok (.getfield 67, 3) := by decide +kernel
theorem dX7_trySeats_30 : decode cX7_trySeats 30 = .ok (.iload_n 2, 1) := by decide +kernel
theorem dX7_trySeats_31 : decode cX7_trySeats 31 = .ok (.bipush (-8), 2) := by decide +kernel
theorem dX7_trySeats_33 : decode cX7_trySeats 33 = .ok (.iastore, 1) := by decide +kernel
theorem dX7_trySeats_34 : decode cX7_trySeats 34 = .ok (.iinc 2 1, 3) := by decide +kernel
theorem dX7_trySeats_37 : decode cX7_trySeats 37 = .ok (.goto (-31), 3) := by decide +kernel
theorem dX7_trySeats_40 : decode cX7_trySeats 40 = .ok (.aload_n 0, 1) := by decide +kernel
theorem dX7_trySeats_41 : decode cX7_trySeats 41 = .ok (.invokevirtual 227, 3) := by decide +kernel
theorem dX7_trySeats_44 : decode cX7_trySeats 44 = .ok (.iload_n 1, 1) := by decide +kernel
theorem dX7_trySeats_45 : decode cX7_trySeats 45 = .ok (.ifCond .ne 10, 3) := by decide +kernel
theorem dX7_trySeats_48 : decode cX7_trySeats 48 = .ok (.aload_n 0, 1) := by decide +kernel
theorem dX7_trySeats_49 : decode cX7_trySeats 49 = .ok (.invokevirtual 230, 3) := by decide +kernel
theorem dX7_trySeats_52 : decode cX7_trySeats 52 = .ok (.goto 7, 3) := by decide +kernel
theorem dX7_trySeats_55 : decode cX7_trySeats 55 = .ok (.aload_n 0, 1) := by decide +kernel
theorem dX7_trySeats_56 : decode cX7_trySeats 56 = .ok (.invokevirtual 269, 3) := by decide +kernel
theorem dX7_trySeats_59 : decode cX7_trySeats 59 = .ok (.istore_n 2, 1) := by decide +kernel
theorem dX7_trySeats_60 : decode cX7_trySeats 60 = .ok (.iload_n 2, 1) := by decide +kernel
theorem dX7_trySeats_61 : decode cX7_trySeats 61 = .ok (.aload_n 0, 1) := by decide +kernel
theorem dX7_trySeats_62 : decode cX7_trySeats 62 = .ok (.getfield 244, 3) := by decide +kernel
theorem dX7_trySeats_65 : decode cX7_trySeats 65 = .ok (.if_icmp .gt 4, 3) := by decide +kernel
theorem dX7_trySeats_68 : decode cX7_trySeats 68 = .ok (.return_, 1) := by decide +kernel
theorem dX7_trySeats_69 : decode cX7_trySeats 69 = .ok (.aload_n 0, 1) := by decide +kernel
theorem dX7_trySeats_70 : decode cX7_trySeats 70 = .ok (.iload_n 2, 1) := by decide +kernel
theorem dX7_trySeats_71 : decode cX7_trySeats 71 = .ok (.putfield 244, 3) := by decide +kernel
theorem dX7_trySeats_74 : decode cX7_trySeats 74 = .ok (.iconst 0, 1) := by decide +kernel
theorem dX7_trySeats_75 : decode cX7_trySeats 75 = .ok (.istore_n 3, 1) := by decide +kernel
theorem dX7_trySeats_76 : decode cX7_trySeats 76 = .ok (.iload_n 3, 1) := by decide +kernel
theorem dX7_trySeats_77 : decode cX7_trySeats 77 = .ok (.aload_n 0, 1) := by decide +kernel
theorem dX7_trySeats_78 : decode cX7_trySeats 78 = .ok (.getfield 125, 3) := by decide +kernel
theorem dX7_trySeats_81 : decode cX7_trySeats 81 = .ok (.if_icmp .ge 21, 3) := by decide +kernel
theorem dX7_trySeats_84 : decode cX7_trySeats 84 = .ok (.aload_n 0, 1) := by decide +kernel
theorem dX7_trySeats_85 : decode cX7_trySeats 85 = .ok (.getfield 91, 3) := by decide +kernel
theorem dX7_trySeats_88 : decode cX7_trySeats 88 = .ok (.iload_n 3, 1) := by decide +kernel
theorem dX7_trySeats_89 : decode cX7_trySeats 89 = .ok (.aload_n 0, 1) := by decide +kernel
theorem dX7_trySeats_90 : decode cX7_trySeats 90 = .ok (.getfield 97, 3) := by decide +kernel
theorem dX7_trySeats_93 : decode cX7_trySeats 93 = .ok (.iload_n 3, 1) := by decide +kernel
theorem dX7_trySeats_94 : decode cX7_trySeats 94 = .ok (.iaload, 1) := by decide +kernel
theorem dX7_trySeats_95 : decode cX7_trySeats 95 = .ok (.iastore, 1) := by decide +kernel
theorem dX7_trySeats_96 : decode cX7_trySeats 96 = .ok (.iinc 3 1, 3) := by decide +kernel
theorem dX7_trySeats_99 : decode cX7_trySeats 99 = .ok (.goto (-23), 3) := by decide +kernel
theorem dX7_trySeats_102 : decode cX7_trySeats 102 = .ok (.return_, 1) := by decide +kernel
theorem dX7_seats_0 : decode cX7_seats 0 = .ok (.iload_n 1, 1) := by decide +kernel
theorem dX7_seats_1 : decode cX7_seats 1 = .ok (.iconst 0, 1) := by decide +kernel
theorem dX7_seats_2 : decode cX7_seats 2 = .ok (.iconst 1, 1) := by decide +kernel
theorem dX7_seats_3 : decode cX7_seats 3 = .ok (.invokestatic 121, 3) := by decide +kernel
theorem dX7_seats_6 : decode cX7_seats 6 = .ok (.ifCond .ne 6, 3) := by decide +kernel
theorem dX7_seats_9 : decode cX7_seats 9 = .ok (.bipush (-2), 2) := by decide +kernel
theorem dX7_seats_11 : decode cX7_seats 11 = .ok (.ireturn, 1) := by decide +kernel
theorem dX7_seats_12 : decode cX7_seats 12 = .ok (.iload_n 2, 1) := by decide +kernel
theorem dX7_seats_13 : decode cX7_seats 13 = .ok (.iconst (-1), 1) := by decide +kernel
theorem dX7_seats_14 : decode cX7_seats 14 = .ok (.aload_n 0, 1) := by decide +kernel
theorem dX7_seats_15 : decode cX7_seats 15 = .ok (.getfield 125, 3) := by decide +kernel
theorem dX7_seats_18 : decode cX7_seats 18 = .ok (.iconst 1, 1) := by decide +kernel
theorem dX7_seats_19 : decode cX7_seats 19 = .ok (.isub, 1) := by decide +kernel
theorem dX7_seats_20 : decode cX7_seats 20 = .ok (.invokestatic 121, 3) := by decide +kernel
theorem dX7_seats_23 : decode cX7_seats 23 = .ok (.ifCond .ne 5, 3) := by decide +kernel
theorem dX7_seats_26 : decode cX7_seats 26 = .ok (.iconst (-1), 1) := by decide +kernel
theorem dX7_seats_27 : decode cX7_seats 27 = .ok (.ireturn, 1) := by decide +kernel
theorem dX7_seats_28 : decode cX7_seats 28 = .ok (.aload_n 0, 1) := by decide +kernel
theorem dX7_seats_29 : decode cX7_seats 29 = .ok (.invokevirtual 190, 3) := by decide +kernel
theorem dX7_seats_32 : decode cX7_seats 32 = .ok (.ifCond .ne 6, 3) := by decide +kernel
theorem dX7_seats_35 : decode cX7_seats 35 = .ok (.bipush (-3), 2) := by decide +kernel
theorem dX7_seats_37 : decode cX7_seats 37 = .ok (.ireturn, 1) := by decide +kernel
theorem dX7_seats_38 : decode cX7_seats 38 = .ok (.aload_n 0, 1) := by decide +kernel
theorem dX7_seats_39 : decode cX7_seats 39 = .ok (.iload_n 1, 1) := by decide +kernel
theorem dX7_seats_40 : decode cX7_seats 40 = .ok (.invokevirtual 272, 3) := by decide +kernel
theorem dX7_seats_43 : decode cX7_seats 43 = .ok (.iload_n 2, 1) := by decide +kernel
theorem dX7_seats_44 : decode cX7_seats 44 = .ok (.ifCond .ge 10, 3) := by decide +kernel
theorem dX7_seats_47 : decode cX7_seats 47 = .ok (.aload_n 0, 1) := by decide +kernel
theorem dX7_seats_48 : decode cX7_seats 48 = .ok (.getfield 244, 3) := by decide +kernel
theorem dX7_seats_51 : decode cX7_seats 51 = .ok (.goto 9, 3) := by decide +kernel
theorem dX7_seats_54 : decode cX7_seats 54 = .ok (.aload_n 0, 1) := by decide +kernel
theorem dX7_seats_55 : decode cX7_seats 55 = .ok (.getfield 91, 3) := by decide +kernel
theorem dX7_seats_58 : decode cX7_seats 58 = .ok (.iload_n 2, 1) := by decide +kernel
theorem dX7_seats_59 : decode cX7_seats 59 = .ok (.iaload, 1) := by decide +kernel
theorem dX7_seats_60 : decode cX7_seats 60 = .ok (.ireturn, 1) := by decide +kernel
theorem dX7_keepMemory_0 : decode cX7_keepMemory 0 = .ok (.iconst 0, 1) := by decide +kernel
theorem dX7_keepMemory_1 : decode cX7_keepMemory 1 = .ok (.istore_n 2, 1) := by decide +kernel
theorem dX7_keepMemory_2 : decode cX7_keepMemory 2 = .ok (.iload_n 2, 1) := by decide +kernel
theorem dX7_keepMemory_3 : decode cX7_keepMemory 3 = .ok (.aload_n 0, 1) := by decide +kernel
theorem dX7_keepMemory_4 : decode cX7_keepMemory 4 = .ok (.getfield 125, 3) := by decide +kernel
theorem dX7_keepMemory_7 : decode cX7_keepMemory 7 = .ok (.if_icmp .ge 26, 3) := by decide +kernel
theorem dX7_keepMemory_10 : decode cX7_keepMemory 10 = .ok (.aload_n 0, 1) := by decide +kernel
theorem dX7_keepMemory_11 : decode cX7_keepMemory 11 = .ok (.getfield 100, 3) := by decide +kernel
theorem dX7_keepMemory_14 : decode cX7_keepMemory 14 = .ok (.bipush 7, 2) := by decide +kernel
theorem dX7_keepMemory_16 : decode cX7_keepMemory 16 = .ok (.iload_n 1, 1) := by decide +kernel
theorem dX7_keepMemory_17 : decode cX7_keepMemory 17 = .ok (.imul, 1) := by decide +kernel
theorem dX7_keepMemory_18 : decode cX7_keepMemory 18 = .ok (.iload_n 2, 1) := by decide +kernel
theorem dX7_keepMemory_19 : decode cX7_keepMemory 19 = .ok (.iadd, 1) := by decide +kernel
theorem dX7_keepMemory_20 : decode cX7_keepMemory 20 = .ok (.aload_n 0, 1) := by decide +kernel
theorem dX7_keepMemory_21 : decode cX7_keepMemory 21 = .ok (.getfield 67, 3) := by decide +kernel
theorem dX7_keepMemory_24 : decode cX7_keepMemory 24 = .ok (.iload_n 2, 1) := by decide +kernel
theorem dX7_keepMemory_25 : decode cX7_keepMemory 25 = .ok (.iaload, 1) := by decide +kernel
theorem dX7_keepMemory_26 : decode cX7_keepMemory 26 = .ok (.iastore, 1) := by decide +kernel
theorem dX7_keepMemory_27 : decode cX7_keepMemory 27 = .ok (.iinc 2 1, 3) := by decide +kernel
theorem dX7_keepMemory_30 : decode cX7_keepMemory 30 = .ok (.goto (-28), 3) := by decide +kernel
theorem dX7_keepMemory_33 : decode cX7_keepMemory 33 = .ok (.return_, 1) := by decide +kernel
theorem dX7_areAlike_0 : decode cX7_areAlike 0 = .ok (.iconst 0, 1) := by decide +kernel
theorem dX7_areAlike_1 : decode cX7_areAlike 1 = .ok (.istore_n 3, 1) := by decide +kernel
theorem dX7_areAlike_2 : decode cX7_areAlike 2 = .ok (.iload_n 3, 1) := by decide +kernel
theorem dX7_areAlike_3 : decode cX7_areAlike 3 = .ok (.aload_n 0, 1) := by decide +kernel
theorem dX7_areAlike_4 : decode cX7_areAlike 4 = .ok (.getfield 125, 3) := by decide +kernel
theorem dX7_areAlike_7 : decode cX7_areAlike 7 = .ok (.if_icmp .ge 36, 3) := by decide +kernel
theorem dX7_areAlike_10 : decode cX7_areAlike 10 = .ok (.aload_n 0, 1) := by decide +kernel
theorem dX7_areAlike_11 : decode cX7_areAlike 11 = .ok (.getfield 100, 3) := by decide +kernel
theorem dX7_areAlike_14 : decode cX7_areAlike 14 = .ok (.bipush 7, 2) := by decide +kernel
theorem dX7_areAlike_16 : decode cX7_areAlike 16 = .ok (.iload_n 1, 1) := by decide +kernel
theorem dX7_areAlike_17 : decode cX7_areAlike 17 = .ok (.imul, 1) := by decide +kernel
theorem dX7_areAlike_18 : decode cX7_areAlike 18 = .ok (.iload_n 3, 1) := by decide +kernel
theorem dX7_areAlike_19 : decode cX7_areAlike 19 = .ok (.iadd, 1) := by decide +kernel
theorem dX7_areAlike_20 : decode cX7_areAlike 20 = .ok (.iaload, 1) := by decide +kernel
theorem dX7_areAlike_21 : decode cX7_areAlike 21 = .ok (.aload_n 0, 1) := by decide +kernel
theorem dX7_areAlike_22 : decode cX7_areAlike 22 = .ok (.getfield 100, 3) := by decide +kernel
theorem dX7_areAlike_25 : decode cX7_areAlike 25 = .ok (.bipush 7, 2) := by decide +kernel
theorem dX7_areAlike_27 : decode cX7_areAlike 27 = .ok (.iload_n 2, 1) := by decide +kernel
theorem dX7_areAlike_28 : decode cX7_areAlike 28 = .ok (.imul, 1) := by decide +kernel
theorem dX7_areAlike_29 : decode cX7_areAlike 29 = .ok (.iload_n 3, 1) := by decide +kernel
theorem dX7_areAlike_30 : decode cX7_areAlike 30 = .ok (.iadd, 1) := by decide +kernel
theorem dX7_areAlike_31 : decode cX7_areAlike 31 = .ok (.iaload, 1) := by decide +kernel
theorem dX7_areAlike_32 : decode cX7_areAlike 32 = .ok (.if_icmp .eq 5, 3) := by decide +kernel
theorem dX7_areAlike_35 : decode cX7_areAlike 35 = .ok (.iconst 0, 1) := by decide +kernel
theorem dX7_areAlike_36 : decode cX7_areAlike 36 = .ok (.ireturn, 1) := by decide +kernel
theorem dX7_areAlike_37 : decode cX7_areAlike 37 = .ok (.iinc 3 1, 3) := by decide +kernel
theorem dX7_areAlike_40 : decode cX7_areAlike 40 = .ok (.goto (-38), 3) := by decide +kernel
theorem dX7_areAlike_43 : decode cX7_areAlike 43 = .ok (.iconst 1, 1) := by decide +kernel
theorem dX7_areAlike_44 : decode cX7_areAlike 44 = .ok (.ireturn, 1) := by decide +kernel
theorem dX7_sameAs_0 : decode cX7_sameAs 0 = .ok (.iconst 0, 1) := by decide +kernel
theorem dX7_sameAs_1 : decode cX7_sameAs 1 = .ok (.istore_n 2, 1) := by decide +kernel
theorem dX7_sameAs_2 : decode cX7_sameAs 2 = .ok (.iload_n 2, 1) := by decide +kernel
theorem dX7_sameAs_3 : decode cX7_sameAs 3 = .ok (.iload_n 1, 1) := by decide +kernel
theorem dX7_sameAs_4 : decode cX7_sameAs 4 = .ok (.if_icmp .ge 20, 3) := by decide +kernel
theorem dX7_sameAs_7 : decode cX7_sameAs 7 = .ok (.aload_n 0, 1) := by decide +kernel
theorem dX7_sameAs_8 : decode cX7_sameAs 8 = .ok (.iload_n 2, 1) := by decide +kernel
theorem dX7_sameAs_9 : decode cX7_sameAs 9 = .ok (.iload_n 1, 1) := by decide +kernel
theorem dX7_sameAs_10 : decode cX7_sameAs 10 = .ok (.invokevirtual 275, 3) := by decide +kernel
theorem dX7_sameAs_13 : decode cX7_sameAs 13 = .ok (.ifCond .eq 5, 3) := by decide +kernel
theorem dX7_sameAs_16 : decode cX7_sameAs 16 = .ok (.iload_n 2, 1) := by decide +kernel
theorem dX7_sameAs_17 : decode cX7_sameAs 17 = .ok (.ireturn, 1) := by decide +kernel
theorem dX7_sameAs_18 : decode cX7_sameAs 18 = .ok (.iinc 2 1, 3) := by decide +kernel
theorem dX7_sameAs_21 : decode cX7_sameAs 21 = .ok (.goto (-19), 3) := by decide +kernel
theorem dX7_sameAs_24 : decode cX7_sameAs 24 = .ok (.bipush (-9), 2) := by decide +kernel
theorem dX7_sameAs_26 : decode cX7_sameAs 26 = .ok (.ireturn, 1) := by decide +kernel
theorem dX7_findRing_0 : decode cX7_findRing 0 = .ok (.aload_n 0, 1) := by decide +kernel
theorem dX7_findRing_1 : decode cX7_findRing 1 = .ok (.iconst 0, 1) := by decide +kernel
theorem dX7_findRing_2 : decode cX7_findRing 2 = .ok (.invokevirtual 278, 3) := by decide +kernel
theorem dX7_findRing_5 : decode cX7_findRing 5 = .ok (.iconst 0, 1) := by decide +kernel
theorem dX7_findRing_6 : decode cX7_findRing 6 = .ok (.istore_n 1, 1) := by decide +kernel
theorem dX7_findRing_7 : decode cX7_findRing 7 = .ok (.aload_n 0, 1) := by decide +kernel
theorem dX7_findRing_8 : decode cX7_findRing 8 = .ok (.bipush (-9), 2) := by decide +kernel
theorem dX7_findRing_10 : decode cX7_findRing 10 = .ok (.putfield 281, 3) := by decide +kernel
theorem dX7_findRing_13 : decode cX7_findRing 13 = .ok (.aload_n 0, 1) := by decide +kernel
theorem dX7_findRing_14 : decode cX7_findRing 14 = .ok (.getfield 281, 3) := by decide +kernel
theorem dX7_findRing_17 : decode cX7_findRing 17 = .ok (.bipush (-9), 2) := by decide +kernel
theorem dX7_findRing_19 : decode cX7_findRing 19 = .ok (.if_icmp .ne 27, 3) := by decide +kernel
theorem dX7_findRing_22 : decode cX7_findRing 22 = .ok (.aload_n 0, 1) := by decide +kernel
theorem dX7_findRing_23 : decode cX7_findRing 23 = .ok (.invokevirtual 227, 3) := by decide +kernel
theorem dX7_findRing_26 : decode cX7_findRing 26 = .ok (.iinc 1 1, 3) := by decide +kernel
theorem dX7_findRing_29 : decode cX7_findRing 29 = .ok (.aload_n 0, 1) := by decide +kernel
theorem dX7_findRing_30 : decode cX7_findRing 30 = .ok (.iload_n 1, 1) := by decide +kernel
theorem dX7_findRing_31 : decode cX7_findRing 31 = .ok (.invokevirtual 278, 3) := by decide +kernel
theorem dX7_findRing_34 : decode cX7_findRing 34 = .ok (.aload_n 0, 1) := by decide +kernel
theorem dX7_findRing_35 : decode cX7_findRing 35 = .ok (.aload_n 0, 1) := by decide +kernel
theorem dX7_findRing_36 : decode cX7_findRing 36 = .ok (.iload_n 1, 1) := by decide +kernel
theorem dX7_findRing_37 : decode cX7_findRing 37 = .ok (.invokevirtual 284, 3) := by decide +kernel
theorem dX7_findRing_40 : decode cX7_findRing 40 = .ok (.putfield 281, 3) := by decide +kernel
theorem dX7_findRing_43 : decode cX7_findRing 43 = .ok (.goto (-30), 3) := by decide +kernel
theorem dX7_findRing_46 : decode cX7_findRing 46 = .ok (.aload_n 0, 1) := by decide +kernel
theorem dX7_findRing_47 : decode cX7_findRing 47 = .ok (.iload_n 1, 1) := by decide +kernel
theorem dX7_findRing_48 : decode cX7_findRing 48 = .ok (.aload_n 0, 1) := by decide +kernel
theorem dX7_findRing_49 : decode cX7_findRing 49 = .ok (.getfield 281, 3) := by decide +kernel
theorem dX7_findRing_52 : decode cX7_findRing 52 = .ok (.isub, 1) := by decide +kernel
theorem dX7_findRing_53 : decode cX7_findRing 53 = .ok (.putfield 287, 3) := by decide +kernel
theorem dX7_findRing_56 : decode cX7_findRing 56 = .ok (.return_, 1) := by decide +kernel
theorem dX7_ever_0 : decode cX7_ever 0 = .ok (.iload_n 1, 1) := by decide +kernel
theorem dX7_ever_1 : decode cX7_ever 1 = .ok (.iconst 0, 1) := by decide +kernel
theorem dX7_ever_2 : decode cX7_ever 2 = .ok (.iconst 1, 1) := by decide +kernel
theorem dX7_ever_3 : decode cX7_ever 3 = .ok (.invokestatic 121, 3) := by decide +kernel
theorem dX7_ever_6 : decode cX7_ever 6 = .ok (.ifCond .ne 6, 3) := by decide +kernel
theorem dX7_ever_9 : decode cX7_ever 9 = .ok (.bipush (-2), 2) := by decide +kernel
theorem dX7_ever_11 : decode cX7_ever 11 = .ok (.ireturn, 1) := by decide +kernel
theorem dX7_ever_12 : decode cX7_ever 12 = .ok (.aload_n 0, 1) := by decide +kernel
theorem dX7_ever_13 : decode cX7_ever 13 = .ok (.invokevirtual 190, 3) := by decide +kernel
theorem dX7_ever_16 : decode cX7_ever 16 = .ok (.ifCond .ne 6, 3) := by decide +kernel
theorem dX7_ever_19 : decode cX7_ever 19 = .ok (.bipush (-3), 2) := by decide +kernel
theorem dX7_ever_21 : decode cX7_ever 21 = .ok (.ireturn, 1) := by decide +kernel
theorem dX7_ever_22 : decode cX7_ever 22 = .ok (.aload_n 0, 1) := by decide +kernel
theorem dX7_ever_23 : decode cX7_ever 23 = .ok (.invokevirtual 224, 3) := by decide +kernel
theorem dX7_ever_26 : decode cX7_ever 26 = .ok (.aload_n 0, 1) := by decide +kernel
theorem dX7_ever_27 : decode cX7_ever 27 = .ok (.invokevirtual 290, 3) := by decide +kernel
theorem dX7_ever_30 : decode cX7_ever 30 = .ok (.iload_n 1, 1) := by decide +kernel
theorem dX7_ever_31 : decode cX7_ever 31 = .ok (.ifCond .ne 10, 3) := by decide +kernel
theorem dX7_ever_34 : decode cX7_ever 34 = .ok (.aload_n 0, 1) := by decide +kernel
theorem dX7_ever_35 : decode cX7_ever 35 = .ok (.getfield 281, 3) := by decide +kernel
theorem dX7_ever_38 : decode cX7_ever 38 = .ok (.goto 7, 3) := by decide +kernel
theorem dX7_ever_41 : decode cX7_ever 41 = .ok (.aload_n 0, 1) := by decide +kernel
theorem dX7_ever_42 : decode cX7_ever 42 = .ok (.getfield 287, 3) := by decide +kernel
theorem dX7_ever_45 : decode cX7_ever 45 = .ok (.ireturn, 1) := by decide +kernel
theorem dX7_gladInRing_0 : decode cX7_gladInRing 0 = .ok (.aload_n 0, 1) := by decide +kernel
theorem dX7_gladInRing_1 : decode cX7_gladInRing 1 = .ok (.invokevirtual 290, 3) := by decide +kernel
theorem dX7_gladInRing_4 : decode cX7_gladInRing 4 = .ok (.lconst 0, 1) := by decide +kernel
theorem dX7_gladInRing_5 : decode cX7_gladInRing 5 = .ok (.lstore_n 2, 1) := by decide +kernel
theorem dX7_gladInRing_6 : decode cX7_gladInRing 6 = .ok (.iconst 0, 1) := by decide +kernel
theorem dX7_gladInRing_7 : decode cX7_gladInRing 7 = .ok (.istore 4, 2) := by decide +kernel
theorem dX7_gladInRing_9 : decode cX7_gladInRing 9 = .ok (.iload 4, 2) := by decide +kernel
theorem dX7_gladInRing_11 : decode cX7_gladInRing 11 = .ok (.aload_n 0, 1) := by decide +kernel
theorem dX7_gladInRing_12 : decode cX7_gladInRing 12 = .ok (.getfield 287, 3) := by decide +kernel
theorem dX7_gladInRing_15 : decode cX7_gladInRing 15 = .ok (.if_icmp .ge 23, 3) := by decide +kernel
theorem dX7_gladInRing_18 : decode cX7_gladInRing 18 = .ok (.aload_n 0, 1) := by decide +kernel
theorem dX7_gladInRing_19 : decode cX7_gladInRing 19 = .ok (.invokevirtual 227, 3) := by decide +kernel
theorem dX7_gladInRing_22 : decode cX7_gladInRing 22 = .ok (.lload_n 2, 1) := by decide +kernel
theorem dX7_gladInRing_23 : decode cX7_gladInRing 23 = .ok (.aload_n 0, 1) := by decide +kernel
theorem dX7_gladInRing_24 : decode cX7_gladInRing 24 = .ok (.getfield 76, 3) := by decide +kernel
theorem dX7_gladInRing_27 : decode cX7_gladInRing 27 = .ok (.iload_n 1, 1) := by decide +kernel
theorem dX7_gladInRing_28 : decode cX7_gladInRing 28 = .ok (.iaload, 1) := by decide +kernel
theorem dX7_gladInRing_29 : decode cX7_gladInRing 29 = .ok (.i2l, 1) := by decide +kernel
theorem dX7_gladInRing_30 : decode cX7_gladInRing 30 = .ok (.ladd, 1) := by decide +kernel
theorem dX7_gladInRing_31 : decode cX7_gladInRing 31 = .ok (.lstore_n 2, 1) := by decide +kernel
theorem dX7_gladInRing_32 : decode cX7_gladInRing 32 = .ok (.iinc 4 1, 3) := by decide +kernel
theorem dX7_gladInRing_35 : decode cX7_gladInRing 35 = .ok (.goto (-26), 3) := by decide +kernel
theorem dX7_gladInRing_38 : decode cX7_gladInRing 38 = .ok (.lload_n 2, 1) := by decide +kernel
theorem dX7_gladInRing_39 : decode cX7_gladInRing 39 = .ok (.lreturn, 1) := by decide +kernel
theorem dX7_mean_0 : decode cX7_mean 0 = .ok (.aload_n 0, 1) := by decide +kernel
theorem dX7_mean_1 : decode cX7_mean 1 = .ok (.iload_n 1, 1) := by decide +kernel
theorem dX7_mean_2 : decode cX7_mean 2 = .ok (.invokevirtual 184, 3) := by decide +kernel
theorem dX7_mean_5 : decode cX7_mean 5 = .ok (.ifCond .eq 12, 3) := by decide +kernel
theorem dX7_mean_8 : decode cX7_mean 8 = .ok (.iload_n 2, 1) := by decide +kernel
theorem dX7_mean_9 : decode cX7_mean 9 = .ok (.iconst 0, 1) := by decide +kernel
theorem dX7_mean_10 : decode cX7_mean 10 = .ok (.iconst 1, 1) := by decide +kernel
theorem dX7_mean_11 : decode cX7_mean 11 = .ok (.invokestatic 121, 3) := by decide +kernel
theorem dX7_mean_14 : decode cX7_mean 14 = .ok (.ifCond .ne 7, 3) := by decide +kernel
theorem dX7_mean_17 : decode cX7_mean 17 = .ok (.ldc2_w 119, 3) := by decide +kernel
theorem dX7_mean_20 : decode cX7_mean 20 = .ok (.lreturn, 1) := by decide +kernel
theorem dX7_mean_21 : decode cX7_mean 21 = .ok (.aload_n 0, 1) := by decide +kernel
theorem dX7_mean_22 : decode cX7_mean 22 = .ok (.invokevirtual 224, 3) := by decide +kernel
theorem dX7_mean_25 : decode cX7_mean 25 = .ok (.aload_n 0, 1) := by decide +kernel
theorem dX7_mean_26 : decode cX7_mean 26 = .ok (.iload_n 1, 1) := by decide +kernel
theorem dX7_mean_27 : decode cX7_mean 27 = .ok (.invokevirtual 293, 3) := by decide +kernel
theorem dX7_mean_30 : decode cX7_mean 30 = .ok (.lstore_n 3, 1) := by decide +kernel
theorem dX7_mean_31 : decode cX7_mean 31 = .ok (.lload_n 3, 1) := by decide +kernel
theorem dX7_mean_32 : decode cX7_mean 32 = .ok (.aload_n 0, 1) := by decide +kernel
theorem dX7_mean_33 : decode cX7_mean 33 = .ok (.getfield 287, 3) := by decide +kernel
theorem dX7_mean_36 : decode cX7_mean 36 = .ok (.i2l, 1) := by decide +kernel
theorem dX7_mean_37 : decode cX7_mean 37 = .ok (.iload_n 2, 1) := by decide +kernel
theorem dX7_mean_38 : decode cX7_mean 38 = .ok (.invokestatic 234, 3) := by decide +kernel
theorem dX7_mean_41 : decode cX7_mean 41 = .ok (.lreturn, 1) := by decide +kernel
theorem dX7_wouldLeave_0 : decode cX7_wouldLeave 0 = .ok (.aload_n 0, 1) := by decide +kernel
theorem dX7_wouldLeave_1 : decode cX7_wouldLeave 1 = .ok (.invokevirtual 224, 3) := by decide +kernel
theorem dX7_wouldLeave_4 : decode cX7_wouldLeave 4 = .ok (.aload_n 0, 1) := by decide +kernel
theorem dX7_wouldLeave_5 : decode cX7_wouldLeave 5 = .ok (.iload_n 1, 1) := by decide +kernel
theorem dX7_wouldLeave_6 : decode cX7_wouldLeave 6 = .ok (.invokevirtual 293, 3) := by decide +kernel
theorem dX7_wouldLeave_9 : decode cX7_wouldLeave 9 = .ok (.lstore_n 2, 1) := by decide +kernel
theorem dX7_wouldLeave_10 : decode cX7_wouldLeave 10 = .ok (.aload_n 0, 1) := by decide +kernel
theorem dX7_wouldLeave_11 : decode cX7_wouldLeave 11 = .ok (.getfield 287, 3) := by decide +kernel
theorem dX7_wouldLeave_14 : decode cX7_wouldLeave 14 = .ok (.i2l, 1) := by decide +kernel
theorem dX7_wouldLeave_15 : decode cX7_wouldLeave 15 = .ok (.lstore 4, 2) := by decide +kernel
theorem dX7_wouldLeave_17 : decode cX7_wouldLeave 17 = .ok (.iconst 0, 1) := by decide +kernel
theorem dX7_wouldLeave_18 : decode cX7_wouldLeave 18 = .ok (.istore 6, 2) := by decide +kernel
theorem dX7_wouldLeave_20 : decode cX7_wouldLeave 20 = .ok (.iload 6, 2) := by decide +kernel
theorem dX7_wouldLeave_22 : decode cX7_wouldLeave 22 = .ok (.iconst 3, 1) := by decide +kernel
theorem dX7_wouldLeave_23 : decode cX7_wouldLeave 23 = .ok (.if_icmp .ge 57, 3) := by decide +kernel
theorem dX7_wouldLeave_26 : decode cX7_wouldLeave 26 = .ok (.iload 6, 2) := by decide +kernel
theorem dX7_wouldLeave_28 : decode cX7_wouldLeave 28 = .ok (.aload_n 0, 1) := by decide +kernel
theorem dX7_wouldLeave_29 : decode cX7_wouldLeave 29 = .ok (.getfield 25, 3) := by decide +kernel
theorem dX7_wouldLeave_32 : decode cX7_wouldLeave 32 = .ok (.iload_n 1, 1) := by decide +kernel
theorem dX7_wouldLeave_33 : decode cX7_wouldLeave 33 = .ok (.iaload, 1) := by decide +kernel
theorem dX7_wouldLeave_34 : decode cX7_wouldLeave 34 = .ok (.if_icmp .eq 40, 3) := by decide +kernel
theorem dX7_wouldLeave_37 : decode cX7_wouldLeave 37 = .ok (.aload_n 0, 1) := by decide +kernel
theorem dX7_wouldLeave_38 : decode cX7_wouldLeave 38 = .ok (.invokevirtual 224, 3) := by decide +kernel
theorem dX7_wouldLeave_41 : decode cX7_wouldLeave 41 = .ok (.aload_n 0, 1) := by decide +kernel
theorem dX7_wouldLeave_42 : decode cX7_wouldLeave 42 = .ok (.getfield 70, 3) := by decide +kernel
theorem dX7_wouldLeave_45 : decode cX7_wouldLeave 45 = .ok (.iload_n 1, 1) := by decide +kernel
theorem dX7_wouldLeave_46 : decode cX7_wouldLeave 46 = .ok (.iload 6, 2) := by decide +kernel
theorem dX7_wouldLeave_48 : decode cX7_wouldLeave 48 = .ok (.iastore, 1) := by decide +kernel
theorem dX7_wouldLeave_49 : decode cX7_wouldLeave 49 = .ok (.aload_n 0, 1) := by decide +kernel
theorem dX7_wouldLeave_50 : decode cX7_wouldLeave 50 = .ok (.iload_n 1, 1) := by decide +kernel
theorem dX7_wouldLeave_51 : decode cX7_wouldLeave 51 = .ok (.invokevirtual 293, 3) := by decide +kernel
theorem dX7_wouldLeave_54 : decode cX7_wouldLeave 54 = .ok (.lstore 7, 2) := by decide +kernel
theorem dX7_wouldLeave_56 : decode cX7_wouldLeave 56 = .ok (.lload 7, 2) := by decide +kernel
theorem dX7_wouldLeave_58 : decode cX7_wouldLeave 58 = .ok (.lload 4, 2) := by decide +kernel
theorem dX7_wouldLeave_60 : decode cX7_wouldLeave 60 = .ok (.lmul, 1) := by decide +kernel
theorem dX7_wouldLeave_61 : decode cX7_wouldLeave 61 = .ok (.lload_n 2, 1) := by decide +kernel
theorem dX7_wouldLeave_62 : decode cX7_wouldLeave 62 = .ok (.aload_n 0, 1) := by decide +kernel
theorem dX7_wouldLeave_63 : decode cX7_wouldLeave 63 = .ok (.getfield 287, 3) := by decide +kernel
theorem dX7_wouldLeave_66 : decode cX7_wouldLeave 66 = .ok (.i2l, 1) := by decide +kernel
theorem dX7_wouldLeave_67 : decode cX7_wouldLeave 67 = .ok (.lmul, 1) := by decide +kernel
theorem dX7_wouldLeave_68 : decode cX7_wouldLeave 68 = .ok (.lcmp, 1) := by decide +kernel
theorem dX7_wouldLeave_69 : decode cX7_wouldLeave 69 = .ok (.ifCond .le 5, 3) := by decide +kernel
theorem dX7_wouldLeave_72 : decode cX7_wouldLeave 72 = .ok (.iconst 1, 1) := by decide +kernel
theorem dX7_wouldLeave_73 : decode cX7_wouldLeave 73 = .ok (.ireturn, 1) := by decide +kernel
theorem dX7_wouldLeave_74 : decode cX7_wouldLeave 74 = .ok (.iinc 6 1, 3) := by decide +kernel
theorem dX7_wouldLeave_77 : decode cX7_wouldLeave 77 = .ok (.goto (-57), 3) := by decide +kernel
theorem dX7_wouldLeave_80 : decode cX7_wouldLeave 80 = .ok (.iconst 0, 1) := by decide +kernel
theorem dX7_wouldLeave_81 : decode cX7_wouldLeave 81 = .ok (.ireturn, 1) := by decide +kernel
theorem dX7_leaves_0 : decode cX7_leaves 0 = .ok (.aload_n 0, 1) := by decide +kernel
theorem dX7_leaves_1 : decode cX7_leaves 1 = .ok (.invokevirtual 190, 3) := by decide +kernel
theorem dX7_leaves_4 : decode cX7_leaves 4 = .ok (.ifCond .ne 6, 3) := by decide +kernel
theorem dX7_leaves_7 : decode cX7_leaves 7 = .ok (.bipush (-3), 2) := by decide +kernel
theorem dX7_leaves_9 : decode cX7_leaves 9 = .ok (.ireturn, 1) := by decide +kernel
theorem dX7_leaves_10 : decode cX7_leaves 10 = .ok (.iconst 0, 1) := by decide +kernel
theorem dX7_leaves_11 : decode cX7_leaves 11 = .ok (.istore_n 1, 1) := by decide +kernel
theorem dX7_leaves_12 : decode cX7_leaves 12 = .ok (.iconst 0, 1) := by decide +kernel
theorem dX7_leaves_13 : decode cX7_leaves 13 = .ok (.istore_n 2, 1) := by decide +kernel
theorem dX7_leaves_14 : decode cX7_leaves 14 = .ok (.iload_n 2, 1) := by decide +kernel
theorem dX7_leaves_15 : decode cX7_leaves 15 = .ok (.aload_n 0, 1) := by decide +kernel
theorem dX7_leaves_16 : decode cX7_leaves 16 = .ok (.getfield 125, 3) := by decide +kernel
theorem dX7_leaves_19 : decode cX7_leaves 19 = .ok (.if_icmp .ge 27, 3) := by decide +kernel
theorem dX7_leaves_22 : decode cX7_leaves 22 = .ok (.iload_n 1, 1) := by decide +kernel
theorem dX7_leaves_23 : decode cX7_leaves 23 = .ok (.aload_n 0, 1) := by decide +kernel
theorem dX7_leaves_24 : decode cX7_leaves 24 = .ok (.iload_n 2, 1) := by decide +kernel
theorem dX7_leaves_25 : decode cX7_leaves 25 = .ok (.invokevirtual 297, 3) := by decide +kernel
theorem dX7_leaves_28 : decode cX7_leaves 28 = .ok (.ifCond .eq 9, 3) := by decide +kernel
theorem dX7_leaves_31 : decode cX7_leaves 31 = .ok (.iconst 1, 1) := by decide +kernel
theorem dX7_leaves_32 : decode cX7_leaves 32 = .ok (.iload_n 2, 1) := by decide +kernel
theorem dX7_leaves_33 : decode cX7_leaves 33 = .ok (.ishl, 1) := by decide +kernel
theorem dX7_leaves_34 : decode cX7_leaves 34 = .ok (.goto 4, 3) := by decide +kernel
theorem dX7_leaves_37 : decode cX7_leaves 37 = .ok (.iconst 0, 1) := by decide +kernel
theorem dX7_leaves_38 : decode cX7_leaves 38 = .ok (.ior, 1) := by decide +kernel
theorem dX7_leaves_39 : decode cX7_leaves 39 = .ok (.istore_n 1, 1) := by decide +kernel
theorem dX7_leaves_40 : decode cX7_leaves 40 = .ok (.iinc 2 1, 3) := by decide +kernel
theorem dX7_leaves_43 : decode cX7_leaves 43 = .ok (.goto (-29), 3) := by decide +kernel
theorem dX7_leaves_46 : decode cX7_leaves 46 = .ok (.iload_n 1, 1) := by decide +kernel
theorem dX7_leaves_47 : decode cX7_leaves 47 = .ok (.ireturn, 1) := by decide +kernel
theorem dX7_swapIn_0 : decode cX7_swapIn 0 = .ok (.iconst 0, 1) := by decide +kernel
theorem dX7_swapIn_1 : decode cX7_swapIn 1 = .ok (.istore_n 2, 1) := by decide +kernel
theorem dX7_swapIn_2 : decode cX7_swapIn 2 = .ok (.iload_n 2, 1) := by decide +kernel
theorem dX7_swapIn_3 : decode cX7_swapIn 3 = .ok (.aload_n 0, 1) := by decide +kernel
theorem dX7_swapIn_4 : decode cX7_swapIn 4 = .ok (.getfield 125, 3) := by decide +kernel
theorem dX7_swapIn_7 : decode cX7_swapIn 7 = .ok (.if_icmp .ge 18, 3) := by decide +kernel
theorem dX7_swapIn_10 : decode cX7_swapIn 10 = .ok (.aload_n 0, 1) := by decide +kernel
theorem dX7_swapIn_11 : decode cX7_swapIn 11 = .ok (.getfield 67, 3) := by decide +kernel
theorem dX7_swapIn_14 : decode cX7_swapIn 14 = .ok (.iload_n 2, 1) := by decide +kernel
theorem dX7_swapIn_15 : decode cX7_swapIn 15 = .ok (.aload_n 1, 1) := by decide +kernel
theorem dX7_swapIn_16 : decode cX7_swapIn 16 = .ok (.iload_n 2, 1) := by decide +kernel
theorem dX7_swapIn_17 : decode cX7_swapIn 17 = .ok (.iaload, 1) := by decide +kernel
theorem dX7_swapIn_18 : decode cX7_swapIn 18 = .ok (.iastore, 1) := by decide +kernel
theorem dX7_swapIn_19 : decode cX7_swapIn 19 = .ok (.iinc 2 1, 3) := by decide +kernel
theorem dX7_swapIn_22 : decode cX7_swapIn 22 = .ok (.goto (-20), 3) := by decide +kernel
theorem dX7_swapIn_25 : decode cX7_swapIn 25 = .ok (.return_, 1) := by decide +kernel
theorem dX7_swapOut_0 : decode cX7_swapOut 0 = .ok (.iconst 0, 1) := by decide +kernel
theorem dX7_swapOut_1 : decode cX7_swapOut 1 = .ok (.istore_n 2, 1) := by decide +kernel
theorem dX7_swapOut_2 : decode cX7_swapOut 2 = .ok (.iload_n 2, 1) := by decide +kernel
theorem dX7_swapOut_3 : decode cX7_swapOut 3 = .ok (.aload_n 0, 1) := by decide +kernel
theorem dX7_swapOut_4 : decode cX7_swapOut 4 = .ok (.getfield 125, 3) := by decide +kernel
theorem dX7_swapOut_7 : decode cX7_swapOut 7 = .ok (.if_icmp .ge 18, 3) := by decide +kernel
theorem dX7_swapOut_10 : decode cX7_swapOut 10 = .ok (.aload_n 1, 1) := by decide +kernel
theorem dX7_swapOut_11 : decode cX7_swapOut 11 = .ok (.iload_n 2, 1) := by decide +kernel
theorem dX7_swapOut_12 : decode cX7_swapOut 12 = .ok (.aload_n 0, 1) := by decide +kernel
theorem dX7_swapOut_13 : decode cX7_swapOut 13 = .ok (.getfield 67, 3) := by decide +kernel
theorem dX7_swapOut_16 : decode cX7_swapOut 16 = .ok (.iload_n 2, 1) := by decide +kernel
theorem dX7_swapOut_17 : decode cX7_swapOut 17 = .ok (.iaload, 1) := by decide +kernel
theorem dX7_swapOut_18 : decode cX7_swapOut 18 = .ok (.iastore, 1) := by decide +kernel
theorem dX7_swapOut_19 : decode cX7_swapOut 19 = .ok (.iinc 2 1, 3) := by decide +kernel
theorem dX7_swapOut_22 : decode cX7_swapOut 22 = .ok (.goto (-20), 3) := by decide +kernel
theorem dX7_swapOut_25 : decode cX7_swapOut 25 = .ok (.return_, 1) := by decide +kernel
theorem dX7_areSame_0 : decode cX7_areSame 0 = .ok (.iconst 0, 1) := by decide +kernel
theorem dX7_areSame_1 : decode cX7_areSame 1 = .ok (.istore_n 1, 1) := by decide +kernel
theorem dX7_areSame_2 : decode cX7_areSame 2 = .ok (.iload_n 1, 1) := by decide +kernel
theorem dX7_areSame_3 : decode cX7_areSame 3 = .ok (.aload_n 0, 1) := by decide +kernel
theorem dX7_areSame_4 : decode cX7_areSame 4 = .ok (.getfield 125, 3) := by decide +kernel
theorem dX7_areSame_7 : decode cX7_areSame 7 = .ok (.if_icmp .ge 26, 3) := by decide +kernel
theorem dX7_areSame_10 : decode cX7_areSame 10 = .ok (.aload_n 0, 1) := by decide +kernel
theorem dX7_areSame_11 : decode cX7_areSame 11 = .ok (.getfield 106, 3) := by decide +kernel
theorem dX7_areSame_14 : decode cX7_areSame 14 = .ok (.iload_n 1, 1) := by decide +kernel
theorem dX7_areSame_15 : decode cX7_areSame 15 = .ok (.iaload, 1) := by decide +kernel
theorem dX7_areSame_16 : decode cX7_areSame 16 = .ok (.aload_n 0, 1) := by decide +kernel
theorem dX7_areSame_17 : decode cX7_areSame 17 = .ok (.getfield 103, 3) := by decide +kernel
theorem dX7_areSame_20 : decode cX7_areSame 20 = .ok (.iload_n 1, 1) := by decide +kernel
theorem dX7_areSame_21 : decode cX7_areSame 21 = .ok (.iaload, 1) := by decide +kernel
theorem dX7_areSame_22 : decode cX7_areSame 22 = .ok (.if_icmp .eq 5, 3) := by decide +kernel
theorem dX7_areSame_25 : decode cX7_areSame 25 = .ok (.iconst 0, 1) := by decide +kernel
theorem dX7_areSame_26 : decode cX7_areSame 26 = .ok (.ireturn, 1) := by decide +kernel
theorem dX7_areSame_27 : decode cX7_areSame 27 = .ok (.iinc 1 1, 3) := by decide +kernel
theorem dX7_areSame_30 : decode cX7_areSame 30 = .ok (.goto (-28), 3) := by decide +kernel
theorem dX7_areSame_33 : decode cX7_areSame 33 = .ok (.iconst 1, 1) := by decide +kernel
theorem dX7_areSame_34 : decode cX7_areSame 34 = .ok (.ireturn, 1) := by decide +kernel
theorem dX7_spite_0 : decode cX7_spite 0 = .ok (.aload_n 0, 1) := by decide +kernel
theorem dX7_spite_1 : decode cX7_spite 1 = .ok (.iload_n 1, 1) := by decide +kernel
theorem dX7_spite_2 : decode cX7_spite 2 = .ok (.invokevirtual 184, 3) := by decide +kernel
theorem dX7_spite_5 : decode cX7_spite 5 = .ok (.ifCond .ne 5, 3) := by decide +kernel
theorem dX7_spite_8 : decode cX7_spite 8 = .ok (.iconst (-1), 1) := by decide +kernel
theorem dX7_spite_9 : decode cX7_spite 9 = .ok (.ireturn, 1) := by decide +kernel
theorem dX7_spite_10 : decode cX7_spite 10 = .ok (.iload_n 2, 1) := by decide +kernel
theorem dX7_spite_11 : decode cX7_spite 11 = .ok (.iconst 0, 1) := by decide +kernel
theorem dX7_spite_12 : decode cX7_spite 12 = .ok (.iconst 1, 1) := by decide +kernel
theorem dX7_spite_13 : decode cX7_spite 13 = .ok (.invokestatic 121, 3) := by decide +kernel
theorem dX7_spite_16 : decode cX7_spite 16 = .ok (.ifCond .ne 6, 3) := by decide +kernel
theorem dX7_spite_19 : decode cX7_spite 19 = .ok (.bipush (-2), 2) := by decide +kernel
theorem dX7_spite_21 : decode cX7_spite 21 = .ok (.ireturn, 1) := by decide +kernel
theorem dX7_spite_22 : decode cX7_spite 22 = .ok (.aload_n 0, 1) := by decide +kernel
theorem dX7_spite_23 : decode cX7_spite 23 = .ok (.invokevirtual 224, 3) := by decide +kernel
theorem dX7_spite_26 : decode cX7_spite 26 = .ok (.aload_n 0, 1) := by decide +kernel
theorem dX7_spite_27 : decode cX7_spite 27 = .ok (.aload_n 0, 1) := by decide +kernel
theorem dX7_spite_28 : decode cX7_spite 28 = .ok (.getfield 106, 3) := by decide +kernel
theorem dX7_spite_31 : decode cX7_spite 31 = .ok (.invokevirtual 300, 3) := by decide +kernel
theorem dX7_spite_34 : decode cX7_spite 34 = .ok (.aload_n 0, 1) := by decide +kernel
theorem dX7_spite_35 : decode cX7_spite 35 = .ok (.aload_n 0, 1) := by decide +kernel
theorem dX7_spite_36 : decode cX7_spite 36 = .ok (.getfield 103, 3) := by decide +kernel
theorem dX7_spite_39 : decode cX7_spite 39 = .ok (.invokevirtual 300, 3) := by decide +kernel
theorem dX7_spite_42 : decode cX7_spite 42 = .ok (.iconst 0, 1) := by decide +kernel
theorem dX7_spite_43 : decode cX7_spite 43 = .ok (.istore_n 3, 1) := by decide +kernel
theorem dX7_spite_44 : decode cX7_spite 44 = .ok (.iload_n 3, 1) := by decide +kernel
theorem dX7_spite_45 : decode cX7_spite 45 = .ok (.sipush 200, 3) := by decide +kernel
theorem dX7_spite_48 : decode cX7_spite 48 = .ok (.if_icmp .ge 185, 3) := by decide +kernel
theorem dX7_spite_51 : decode cX7_spite 51 = .ok (.aload_n 0, 1) := by decide +kernel
theorem dX7_spite_52 : decode cX7_spite 52 = .ok (.aload_n 0, 1) := by decide +kernel
theorem dX7_spite_53 : decode cX7_spite 53 = .ok (.getfield 103, 3) := by decide +kernel
theorem dX7_spite_56 : decode cX7_spite 56 = .ok (.invokevirtual 304, 3) := by decide +kernel
theorem dX7_spite_59 : decode cX7_spite 59 = .ok (.aload_n 0, 1) := by decide +kernel
theorem dX7_spite_60 : decode cX7_spite 60 = .ok (.invokevirtual 227, 3) := by decide +kernel
theorem dX7_spite_63 : decode cX7_spite 63 = .ok (.aload_n 0, 1) := by decide +kernel
theorem dX7_spite_64 : decode cX7_spite 64 = .ok (.aload_n 0, 1) := by decide +kernel
theorem dX7_spite_65 : decode cX7_spite 65 = .ok (.getfield 103, 3) := by decide +kernel
theorem dX7_spite_68 : decode cX7_spite 68 = .ok (.invokevirtual 300, 3) := by decide +kernel
theorem dX7_spite_71 : decode cX7_spite 71 = .ok (.iconst 0, 1) := by decide +kernel
theorem dX7_spite_72 : decode cX7_spite 72 = .ok (.istore 4, 2) := by decide +kernel
theorem dX7_spite_74 : decode cX7_spite 74 = .ok (.iload 4, 2) := by decide +kernel
theorem dX7_spite_76 : decode cX7_spite 76 = .ok (.aload_n 0, 1) := by decide +kernel
theorem dX7_spite_77 : decode cX7_spite 77 = .ok (.getfield 164, 3) := by decide +kernel
theorem dX7_spite_80 : decode cX7_spite 80 = .ok (.if_icmp .ge 33, 3) := by decide +kernel
theorem dX7_spite_83 : decode cX7_spite 83 = .ok (.aload_n 0, 1) := by decide +kernel
theorem dX7_spite_84 : decode cX7_spite 84 = .ok (.getfield 109, 3) := by decide +kernel
theorem dX7_spite_87 : decode cX7_spite 87 = .ok (.iload 4, 2) := by decide +kernel
theorem dX7_spite_89 : decode cX7_spite 89 = .ok (.aload_n 0, 1) := by decide +kernel
theorem dX7_spite_90 : decode cX7_spite 90 = .ok (.iload_n 1, 1) := by decide +kernel
theorem dX7_spite_91 : decode cX7_spite 91 = .ok (.aload_n 0, 1) := by decide +kernel
theorem dX7_spite_92 : decode cX7_spite 92 = .ok (.getfield 73, 3) := by decide +kernel
theorem dX7_spite_95 : decode cX7_spite 95 = .ok (.bipush 7, 2) := by decide +kernel
theorem dX7_spite_97 : decode cX7_spite 97 = .ok (.iload 4, 2) := by decide +kernel
theorem dX7_spite_99 : decode cX7_spite 99 = .ok (.imul, 1) := by decide +kernel
theorem dX7_spite_100 : decode cX7_spite 100 = .ok (.iload_n 1, 1) := by decide +kernel
theorem dX7_spite_101 : decode cX7_spite 101 = .ok (.iadd, 1) := by decide +kernel
theorem dX7_spite_102 : decode cX7_spite 102 = .ok (.iaload, 1) := by decide +kernel
theorem dX7_spite_103 : decode cX7_spite 103 = .ok (.invokevirtual 203, 3) := by decide +kernel
theorem dX7_spite_106 : decode cX7_spite 106 = .ok (.iastore, 1) := by decide +kernel
theorem dX7_spite_107 : decode cX7_spite 107 = .ok (.iinc 4 1, 3) := by decide +kernel
theorem dX7_spite_110 : decode cX7_spite 110 = .ok (.goto (-36), 3) := by decide +kernel
theorem dX7_spite_113 : decode cX7_spite 113 = .ok (.aload_n 0, 1) := by decide +kernel
theorem dX7_spite_114 : decode cX7_spite 114 = .ok (.aload_n 0, 1) := by decide +kernel
theorem dX7_spite_115 : decode cX7_spite 115 = .ok (.getfield 106, 3) := by decide +kernel
theorem dX7_spite_118 : decode cX7_spite 118 = .ok (.invokevirtual 304, 3) := by decide +kernel
theorem dX7_spite_121 : decode cX7_spite 121 = .ok (.aload_n 0, 1) := by decide +kernel
theorem dX7_spite_122 : decode cX7_spite 122 = .ok (.iload_n 3, 1) := by decide +kernel
theorem dX7_spite_123 : decode cX7_spite 123 = .ok (.ifCond .ne 7, 3) := by decide +kernel
theorem dX7_spite_126 : decode cX7_spite 126 = .ok (.iload_n 1, 1) := by decide +kernel
theorem dX7_spite_127 : decode cX7_spite 127 = .ok (.goto 5, 3) := by decide +kernel
theorem dX7_spite_130 : decode cX7_spite 130 = .ok (.bipush (-9), 2) := by decide +kernel
theorem dX7_spite_132 : decode cX7_spite 132 = .ok (.putfield 200, 3) := by decide +kernel
theorem dX7_spite_135 : decode cX7_spite 135 = .ok (.aload_n 0, 1) := by decide +kernel
theorem dX7_spite_136 : decode cX7_spite 136 = .ok (.invokevirtual 227, 3) := by decide +kernel
theorem dX7_spite_139 : decode cX7_spite 139 = .ok (.aload_n 0, 1) := by decide +kernel
theorem dX7_spite_140 : decode cX7_spite 140 = .ok (.aload_n 0, 1) := by decide +kernel
theorem dX7_spite_141 : decode cX7_spite 141 = .ok (.getfield 106, 3) := by decide +kernel
theorem dX7_spite_144 : decode cX7_spite 144 = .ok (.invokevirtual 300, 3) := by decide +kernel
theorem dX7_spite_147 : decode cX7_spite 147 = .ok (.iconst 0, 1) := by decide +kernel
theorem dX7_spite_148 : decode cX7_spite 148 = .ok (.istore 4, 2) := by decide +kernel
theorem dX7_spite_150 : decode cX7_spite 150 = .ok (.iload 4, 2) := by decide +kernel
theorem dX7_spite_152 : decode cX7_spite 152 = .ok (.aload_n 0, 1) := by decide +kernel
theorem dX7_spite_153 : decode cX7_spite 153 = .ok (.getfield 164, 3) := by decide +kernel
theorem dX7_spite_156 : decode cX7_spite 156 = .ok (.if_icmp .ge 51, 3) := by decide +kernel
theorem dX7_spite_159 : decode cX7_spite 159 = .ok (.iload_n 2, 1) := by decide +kernel
theorem dX7_spite_160 : decode cX7_spite 160 = .ok (.iconst 1, 1) := by decide +kernel
theorem dX7_spite_161 : decode cX7_spite 161 = .ok (.if_icmp .ne 46, 3) := by decide +kernel
theorem dX7_spite_164 : decode cX7_spite 164 = .ok (.aload_n 0, 1) := by decide +kernel
theorem dX7_spite_165 : decode cX7_spite 165 = .ok (.iload_n 1, 1) := by decide +kernel
theorem dX7_spite_166 : decode cX7_spite 166 = .ok (.aload_n 0, 1) := by decide +kernel
theorem dX7_spite_167 : decode cX7_spite 167 = .ok (.getfield 73, 3) := by decide +kernel
theorem dX7_spite_170 : decode cX7_spite 170 = .ok (.bipush 7, 2) := by decide +kernel
theorem dX7_spite_172 : decode cX7_spite 172 = .ok (.iload 4, 2) := by decide +kernel
theorem dX7_spite_174 : decode cX7_spite 174 = .ok (.imul, 1) := by decide +kernel
theorem dX7_spite_175 : decode cX7_spite 175 = .ok (.iload_n 1, 1) := by decide +kernel
theorem dX7_spite_176 : decode cX7_spite 176 = .ok (.iadd, 1) := by decide +kernel
theorem dX7_spite_177 : decode cX7_spite 177 = .ok (.iaload, 1) := by decide +kernel
theorem dX7_spite_178 : decode cX7_spite 178 = .ok (.invokevirtual 203, 3) := by decide +kernel
theorem dX7_spite_181 : decode cX7_spite 181 = .ok (.aload_n 0, 1) := by decide +kernel
theorem dX7_spite_182 : decode cX7_spite 182 = .ok (.getfield 109, 3) := by decide +kernel
theorem dX7_spite_185 : decode cX7_spite 185 = .ok (.iload 4, 2) := by decide +kernel
theorem dX7_spite_187 : decode cX7_spite 187 = .ok (.iaload, 1) := by decide +kernel
theorem dX7_spite_188 : decode cX7_spite 188 = .ok (.if_icmp .ge 13, 3) := by decide +kernel
theorem dX7_spite_191 : decode cX7_spite 191 = .ok (.aload_n 0, 1) := by decide +kernel
theorem dX7_spite_192 : decode cX7_spite 192 = .ok (.getfield 164, 3) := by decide +kernel
theorem dX7_spite_195 : decode cX7_spite 195 = .ok (.iload_n 3, 1) := by decide +kernel
theorem dX7_spite_196 : decode cX7_spite 196 = .ok (.imul, 1) := by decide +kernel
theorem dX7_spite_197 : decode cX7_spite 197 = .ok (.iload 4, 2) := by decide +kernel
theorem dX7_spite_199 : decode cX7_spite 199 = .ok (.iadd, 1) := by decide +kernel
theorem dX7_spite_200 : decode cX7_spite 200 = .ok (.ireturn, 1) := by decide +kernel
theorem dX7_spite_201 : decode cX7_spite 201 = .ok (.iinc 4 1, 3) := by decide +kernel
theorem dX7_spite_204 : decode cX7_spite 204 = .ok (.goto (-54), 3) := by decide +kernel
theorem dX7_spite_207 : decode cX7_spite 207 = .ok (.aload_n 0, 1) := by decide +kernel
theorem dX7_spite_208 : decode cX7_spite 208 = .ok (.invokevirtual 307, 3) := by decide +kernel
theorem dX7_spite_211 : decode cX7_spite 211 = .ok (.ifCond .eq 16, 3) := by decide +kernel
theorem dX7_spite_214 : decode cX7_spite 214 = .ok (.iload_n 2, 1) := by decide +kernel
theorem dX7_spite_215 : decode cX7_spite 215 = .ok (.ifCond .ne 9, 3) := by decide +kernel
theorem dX7_spite_218 : decode cX7_spite 218 = .ok (.iload_n 3, 1) := by decide +kernel
theorem dX7_spite_219 : decode cX7_spite 219 = .ok (.iconst 1, 1) := by decide +kernel
theorem dX7_spite_220 : decode cX7_spite 220 = .ok (.iadd, 1) := by decide +kernel
theorem dX7_spite_221 : decode cX7_spite 221 = .ok (.goto 5, 3) := by decide +kernel
theorem dX7_spite_224 : decode cX7_spite 224 = .ok (.bipush (-9), 2) := by decide +kernel
theorem dX7_spite_226 : decode cX7_spite 226 = .ok (.ireturn, 1) := by decide +kernel
theorem dX7_spite_227 : decode cX7_spite 227 = .ok (.iinc 3 1, 3) := by decide +kernel
theorem dX7_spite_230 : decode cX7_spite 230 = .ok (.goto (-186), 3) := by decide +kernel
theorem dX7_spite_233 : decode cX7_spite 233 = .ok (.bipush (-9), 2) := by decide +kernel
theorem dX7_spite_235 : decode cX7_spite 235 = .ok (.ireturn, 1) := by decide +kernel
theorem dX7_gladByLie_0 : decode cX7_gladByLie 0 = .ok (.iconst 0, 1) := by decide +kernel
theorem dX7_gladByLie_1 : decode cX7_gladByLie 1 = .ok (.istore_n 3, 1) := by decide +kernel
theorem dX7_gladByLie_2 : decode cX7_gladByLie 2 = .ok (.iload_n 3, 1) := by decide +kernel
theorem dX7_gladByLie_3 : decode cX7_gladByLie 3 = .ok (.aload_n 0, 1) := by decide +kernel
theorem dX7_gladByLie_4 : decode cX7_gladByLie 4 = .ok (.getfield 128, 3) := by decide +kernel
theorem dX7_gladByLie_7 : decode cX7_gladByLie 7 = .ok (.if_icmp .ge 48, 3) := by decide +kernel
theorem dX7_gladByLie_10 : decode cX7_gladByLie 10 = .ok (.aload_n 0, 1) := by decide +kernel
theorem dX7_gladByLie_11 : decode cX7_gladByLie 11 = .ok (.getfield 112, 3) := by decide +kernel
theorem dX7_gladByLie_14 : decode cX7_gladByLie 14 = .ok (.iload_n 3, 1) := by decide +kernel
theorem dX7_gladByLie_15 : decode cX7_gladByLie 15 = .ok (.aload_n 0, 1) := by decide +kernel
theorem dX7_gladByLie_16 : decode cX7_gladByLie 16 = .ok (.getfield 37, 3) := by decide +kernel
theorem dX7_gladByLie_19 : decode cX7_gladByLie 19 = .ok (.bipush 6, 2) := by decide +kernel
theorem dX7_gladByLie_21 : decode cX7_gladByLie 21 = .ok (.iload_n 1, 1) := by decide +kernel
theorem dX7_gladByLie_22 : decode cX7_gladByLie 22 = .ok (.imul, 1) := by decide +kernel
theorem dX7_gladByLie_23 : decode cX7_gladByLie 23 = .ok (.iload_n 3, 1) := by decide +kernel
theorem dX7_gladByLie_24 : decode cX7_gladByLie 24 = .ok (.iadd, 1) := by decide +kernel
theorem dX7_gladByLie_25 : decode cX7_gladByLie 25 = .ok (.iaload, 1) := by decide +kernel
theorem dX7_gladByLie_26 : decode cX7_gladByLie 26 = .ok (.iastore, 1) := by decide +kernel
theorem dX7_gladByLie_27 : decode cX7_gladByLie 27 = .ok (.aload_n 0, 1) := by decide +kernel
theorem dX7_gladByLie_28 : decode cX7_gladByLie 28 = .ok (.getfield 37, 3) := by decide +kernel
theorem dX7_gladByLie_31 : decode cX7_gladByLie 31 = .ok (.bipush 6, 2) := by decide +kernel
theorem dX7_gladByLie_33 : decode cX7_gladByLie 33 = .ok (.iload_n 1, 1) := by decide +kernel
theorem dX7_gladByLie_34 : decode cX7_gladByLie 34 = .ok (.imul, 1) := by decide +kernel
theorem dX7_gladByLie_35 : decode cX7_gladByLie 35 = .ok (.iload_n 3, 1) := by decide +kernel
theorem dX7_gladByLie_36 : decode cX7_gladByLie 36 = .ok (.iadd, 1) := by decide +kernel
theorem dX7_gladByLie_37 : decode cX7_gladByLie 37 = .ok (.iload_n 3, 1) := by decide +kernel
theorem dX7_gladByLie_38 : decode cX7_gladByLie 38 = .ok (.iload_n 2, 1) := by decide +kernel
theorem dX7_gladByLie_39 : decode cX7_gladByLie 39 = .ok (.if_icmp .ne 8, 3) := by decide +kernel
theorem dX7_gladByLie_42 : decode cX7_gladByLie 42 = .ok (.bipush 9, 2) := by decide +kernel
theorem dX7_gladByLie_44 : decode cX7_gladByLie 44 = .ok (.goto 4, 3) := by decide +kernel
theorem dX7_gladByLie_47 : decode cX7_gladByLie 47 = .ok (.iconst 0, 1) := by decide +kernel
theorem dX7_gladByLie_48 : decode cX7_gladByLie 48 = .ok (.iastore, 1) := by decide +kernel
theorem dX7_gladByLie_49 : decode cX7_gladByLie 49 = .ok (.iinc 3 1, 3) := by decide +kernel
theorem dX7_gladByLie_52 : decode cX7_gladByLie 52 = .ok (.goto (-50), 3) := by decide +kernel
theorem dX7_gladByLie_55 : decode cX7_gladByLie 55 = .ok (.aload_n 0, 1) := by decide +kernel
theorem dX7_gladByLie_56 : decode cX7_gladByLie 56 = .ok (.invokevirtual 224, 3) := by decide +kernel
theorem dX7_gladByLie_59 : decode cX7_gladByLie 59 = .ok (.aload_n 0, 1) := by decide +kernel
theorem dX7_gladByLie_60 : decode cX7_gladByLie 60 = .ok (.invokevirtual 227, 3) := by decide +kernel
theorem dX7_gladByLie_63 : decode cX7_gladByLie 63 = .ok (.iconst 0, 1) := by decide +kernel
theorem dX7_gladByLie_64 : decode cX7_gladByLie 64 = .ok (.istore_n 3, 1) := by decide +kernel
theorem dX7_gladByLie_65 : decode cX7_gladByLie 65 = .ok (.iload_n 3, 1) := by decide +kernel
theorem dX7_gladByLie_66 : decode cX7_gladByLie 66 = .ok (.aload_n 0, 1) := by decide +kernel
theorem dX7_gladByLie_67 : decode cX7_gladByLie 67 = .ok (.getfield 128, 3) := by decide +kernel
theorem dX7_gladByLie_70 : decode cX7_gladByLie 70 = .ok (.if_icmp .ge 26, 3) := by decide +kernel
theorem dX7_gladByLie_73 : decode cX7_gladByLie 73 = .ok (.aload_n 0, 1) := by decide +kernel
theorem dX7_gladByLie_74 : decode cX7_gladByLie 74 = .ok (.getfield 37, 3) := by decide +kernel
theorem dX7_gladByLie_77 : decode cX7_gladByLie 77 = .ok (.bipush 6, 2) := by decide +kernel
theorem dX7_gladByLie_79 : decode cX7_gladByLie 79 = .ok (.iload_n 1, 1) := by decide +kernel
theorem dX7_gladByLie_80 : decode cX7_gladByLie 80 = .ok (.imul, 1) := by decide +kernel
theorem dX7_gladByLie_81 : decode cX7_gladByLie 81 = .ok (.iload_n 3, 1) := by decide +kernel
theorem dX7_gladByLie_82 : decode cX7_gladByLie 82 = .ok (.iadd, 1) := by decide +kernel
theorem dX7_gladByLie_83 : decode cX7_gladByLie 83 = .ok (.aload_n 0, 1) := by decide +kernel
theorem dX7_gladByLie_84 : decode cX7_gladByLie 84 = .ok (.getfield 112, 3) := by decide +kernel
theorem dX7_gladByLie_87 : decode cX7_gladByLie 87 = .ok (.iload_n 3, 1) := by decide +kernel
theorem dX7_gladByLie_88 : decode cX7_gladByLie 88 = .ok (.iaload, 1) := by decide +kernel
theorem dX7_gladByLie_89 : decode cX7_gladByLie 89 = .ok (.iastore, 1) := by decide +kernel
theorem dX7_gladByLie_90 : decode cX7_gladByLie 90 = .ok (.iinc 3 1, 3) := by decide +kernel
theorem dX7_gladByLie_93 : decode cX7_gladByLie 93 = .ok (.goto (-28), 3) := by decide +kernel
theorem dX7_gladByLie_96 : decode cX7_gladByLie 96 = .ok (.aload_n 0, 1) := by decide +kernel
theorem dX7_gladByLie_97 : decode cX7_gladByLie 97 = .ok (.getfield 76, 3) := by decide +kernel
theorem dX7_gladByLie_100 : decode cX7_gladByLie 100 = .ok (.iload_n 1, 1) := by decide +kernel
theorem dX7_gladByLie_101 : decode cX7_gladByLie 101 = .ok (.iaload, 1) := by decide +kernel
theorem dX7_gladByLie_102 : decode cX7_gladByLie 102 = .ok (.ireturn, 1) := by decide +kernel
theorem dX7_lies_0 : decode cX7_lies 0 = .ok (.aload_n 0, 1) := by decide +kernel
theorem dX7_lies_1 : decode cX7_lies 1 = .ok (.iload_n 1, 1) := by decide +kernel
theorem dX7_lies_2 : decode cX7_lies 2 = .ok (.invokevirtual 184, 3) := by decide +kernel
theorem dX7_lies_5 : decode cX7_lies 5 = .ok (.ifCond .ne 5, 3) := by decide +kernel
theorem dX7_lies_8 : decode cX7_lies 8 = .ok (.iconst (-1), 1) := by decide +kernel
theorem dX7_lies_9 : decode cX7_lies 9 = .ok (.ireturn, 1) := by decide +kernel
theorem dX7_lies_10 : decode cX7_lies 10 = .ok (.iload_n 2, 1) := by decide +kernel
theorem dX7_lies_11 : decode cX7_lies 11 = .ok (.iconst 0, 1) := by decide +kernel
theorem dX7_lies_12 : decode cX7_lies 12 = .ok (.iconst 1, 1) := by decide +kernel
theorem dX7_lies_13 : decode cX7_lies 13 = .ok (.invokestatic 121, 3) := by decide +kernel
theorem dX7_lies_16 : decode cX7_lies 16 = .ok (.ifCond .ne 6, 3) := by decide +kernel
theorem dX7_lies_19 : decode cX7_lies 19 = .ok (.bipush (-2), 2) := by decide +kernel
theorem dX7_lies_21 : decode cX7_lies 21 = .ok (.ireturn, 1) := by decide +kernel
theorem dX7_lies_22 : decode cX7_lies 22 = .ok (.aload_n 0, 1) := by decide +kernel
theorem dX7_lies_23 : decode cX7_lies 23 = .ok (.invokevirtual 224, 3) := by decide +kernel
theorem dX7_lies_26 : decode cX7_lies 26 = .ok (.aload_n 0, 1) := by decide +kernel
theorem dX7_lies_27 : decode cX7_lies 27 = .ok (.invokevirtual 227, 3) := by decide +kernel
theorem dX7_lies_30 : decode cX7_lies 30 = .ok (.aload_n 0, 1) := by decide +kernel
theorem dX7_lies_31 : decode cX7_lies 31 = .ok (.getfield 76, 3) := by decide +kernel
theorem dX7_lies_34 : decode cX7_lies 34 = .ok (.iload_n 1, 1) := by decide +kernel
theorem dX7_lies_35 : decode cX7_lies 35 = .ok (.iaload, 1) := by decide +kernel
theorem dX7_lies_36 : decode cX7_lies 36 = .ok (.istore_n 3, 1) := by decide +kernel
theorem dX7_lies_37 : decode cX7_lies 37 = .ok (.bipush (-9), 2) := by decide +kernel
theorem dX7_lies_39 : decode cX7_lies 39 = .ok (.istore 4, 2) := by decide +kernel
theorem dX7_lies_41 : decode cX7_lies 41 = .ok (.iconst 0, 1) := by decide +kernel
theorem dX7_lies_42 : decode cX7_lies 42 = .ok (.istore 5, 2) := by decide +kernel
theorem dX7_lies_44 : decode cX7_lies 44 = .ok (.iload 5, 2) := by decide +kernel
theorem dX7_lies_46 : decode cX7_lies 46 = .ok (.aload_n 0, 1) := by decide +kernel
theorem dX7_lies_47 : decode cX7_lies 47 = .ok (.getfield 128, 3) := by decide +kernel
theorem dX7_lies_50 : decode cX7_lies 50 = .ok (.if_icmp .ge 51, 3) := by decide +kernel
theorem dX7_lies_53 : decode cX7_lies 53 = .ok (.aload_n 0, 1) := by decide +kernel
theorem dX7_lies_54 : decode cX7_lies 54 = .ok (.getfield 34, 3) := by decide +kernel
theorem dX7_lies_57 : decode cX7_lies 57 = .ok (.bipush 6, 2) := by decide +kernel
theorem dX7_lies_59 : decode cX7_lies 59 = .ok (.iload_n 1, 1) := by decide +kernel
theorem dX7_lies_60 : decode cX7_lies 60 = .ok (.imul, 1) := by decide +kernel
theorem dX7_lies_61 : decode cX7_lies 61 = .ok (.iload 5, 2) := by decide +kernel
theorem dX7_lies_63 : decode cX7_lies 63 = .ok (.iadd, 1) := by decide +kernel
theorem dX7_lies_64 : decode cX7_lies 64 = .ok (.iaload, 1) := by decide +kernel
theorem dX7_lies_65 : decode cX7_lies 65 = .ok (.iconst (-1), 1) := by decide +kernel
theorem dX7_lies_66 : decode cX7_lies 66 = .ok (.if_icmp .ne 7, 3) := by decide +kernel
theorem dX7_lies_69 : decode cX7_lies 69 = .ok (.iconst (-1), 1) := by decide +kernel
theorem dX7_lies_70 : decode cX7_lies 70 = .ok (.goto 10, 3) := by decide +kernel
theorem dX7_lies_73 : decode cX7_lies 73 = .ok (.aload_n 0, 1) := by decide +kernel
theorem dX7_lies_74 : decode cX7_lies 74 = .ok (.iload_n 1, 1) := by decide +kernel
theorem dX7_lies_75 : decode cX7_lies 75 = .ok (.iload 5, 2) := by decide +kernel
theorem dX7_lies_77 : decode cX7_lies 77 = .ok (.invokevirtual 310, 3) := by decide +kernel
theorem dX7_lies_80 : decode cX7_lies 80 = .ok (.istore 6, 2) := by decide +kernel
theorem dX7_lies_82 : decode cX7_lies 82 = .ok (.iload 6, 2) := by decide +kernel
theorem dX7_lies_84 : decode cX7_lies 84 = .ok (.iload_n 3, 1) := by decide +kernel
theorem dX7_lies_85 : decode cX7_lies 85 = .ok (.if_icmp .le 10, 3) := by decide +kernel
theorem dX7_lies_88 : decode cX7_lies 88 = .ok (.iload 6, 2) := by decide +kernel
theorem dX7_lies_90 : decode cX7_lies 90 = .ok (.istore_n 3, 1) := by decide +kernel
theorem dX7_lies_91 : decode cX7_lies 91 = .ok (.iload 5, 2) := by decide +kernel
theorem dX7_lies_93 : decode cX7_lies 93 = .ok (.istore 4, 2) := by decide +kernel
theorem dX7_lies_95 : decode cX7_lies 95 = .ok (.iinc 5 1, 3) := by decide +kernel
theorem dX7_lies_98 : decode cX7_lies 98 = .ok (.goto (-54), 3) := by decide +kernel
theorem dX7_lies_101 : decode cX7_lies 101 = .ok (.iload_n 2, 1) := by decide +kernel
theorem dX7_lies_102 : decode cX7_lies 102 = .ok (.ifCond .ne 8, 3) := by decide +kernel
theorem dX7_lies_105 : decode cX7_lies 105 = .ok (.iload 4, 2) := by decide +kernel
theorem dX7_lies_107 : decode cX7_lies 107 = .ok (.goto 4, 3) := by decide +kernel
theorem dX7_lies_110 : decode cX7_lies 110 = .ok (.iload_n 3, 1) := by decide +kernel
theorem dX7_lies_111 : decode cX7_lies 111 = .ok (.ireturn, 1) := by decide +kernel
theorem dX7_chair_0 : decode cX7_chair 0 = .ok (.aload_n 0, 1) := by decide +kernel
theorem dX7_chair_1 : decode cX7_chair 1 = .ok (.iload_n 1, 1) := by decide +kernel
theorem dX7_chair_2 : decode cX7_chair 2 = .ok (.invokevirtual 184, 3) := by decide +kernel
theorem dX7_chair_5 : decode cX7_chair 5 = .ok (.ifCond .eq 24, 3) := by decide +kernel
theorem dX7_chair_8 : decode cX7_chair 8 = .ok (.aload_n 0, 1) := by decide +kernel
theorem dX7_chair_9 : decode cX7_chair 9 = .ok (.getfield 125, 3) := by decide +kernel
theorem dX7_chair_12 : decode cX7_chair 12 = .ok (.iconst 2, 1) := by decide +kernel
theorem dX7_chair_13 : decode cX7_chair 13 = .ok (.if_icmp .eq 16, 3) := by decide +kernel
theorem dX7_chair_16 : decode cX7_chair 16 = .ok (.aload_n 0, 1) := by decide +kernel
theorem dX7_chair_17 : decode cX7_chair 17 = .ok (.getfield 161, 3) := by decide +kernel
theorem dX7_chair_20 : decode cX7_chair 20 = .ok (.aload_n 0, 1) := by decide +kernel
theorem dX7_chair_21 : decode cX7_chair 21 = .ok (.getfield 125, 3) := by decide +kernel
theorem dX7_chair_24 : decode cX7_chair 24 = .ok (.iconst 1, 1) := by decide +kernel
theorem dX7_chair_25 : decode cX7_chair 25 = .ok (.isub, 1) := by decide +kernel
theorem dX7_chair_26 : decode cX7_chair 26 = .ok (.if_icmp .ne 7, 3) := by decide +kernel
theorem dX7_chair_29 : decode cX7_chair 29 = .ok (.ldc2_w 119, 3) := by decide +kernel
theorem dX7_chair_32 : decode cX7_chair 32 = .ok (.lreturn, 1) := by decide +kernel
theorem dX7_chair_33 : decode cX7_chair 33 = .ok (.aload_n 0, 1) := by decide +kernel
theorem dX7_chair_34 : decode cX7_chair 34 = .ok (.invokevirtual 224, 3) := by decide +kernel
theorem dX7_chair_37 : decode cX7_chair 37 = .ok (.aload_n 0, 1) := by decide +kernel
theorem dX7_chair_38 : decode cX7_chair 38 = .ok (.invokevirtual 227, 3) := by decide +kernel
theorem dX7_chair_41 : decode cX7_chair 41 = .ok (.aload_n 0, 1) := by decide +kernel
theorem dX7_chair_42 : decode cX7_chair 42 = .ok (.invokevirtual 230, 3) := by decide +kernel
theorem dX7_chair_45 : decode cX7_chair 45 = .ok (.aload_n 0, 1) := by decide +kernel
theorem dX7_chair_46 : decode cX7_chair 46 = .ok (.getfield 76, 3) := by decide +kernel
theorem dX7_chair_49 : decode cX7_chair 49 = .ok (.iload_n 1, 1) := by decide +kernel
theorem dX7_chair_50 : decode cX7_chair 50 = .ok (.iaload, 1) := by decide +kernel
theorem dX7_chair_51 : decode cX7_chair 51 = .ok (.isub, 1) := by decide +kernel
theorem dX7_chair_52 : decode cX7_chair 52 = .ok (.istore_n 2, 1) := by decide +kernel
theorem dX7_chair_53 : decode cX7_chair 53 = .ok (.aload_n 0, 1) := by decide +kernel
theorem dX7_chair_54 : decode cX7_chair 54 = .ok (.invokevirtual 224, 3) := by decide +kernel
theorem dX7_chair_57 : decode cX7_chair 57 = .ok (.aload_n 0, 1) := by decide +kernel
theorem dX7_chair_58 : decode cX7_chair 58 = .ok (.iconst 0, 1) := by decide +kernel
theorem dX7_chair_59 : decode cX7_chair 59 = .ok (.putfield 194, 3) := by decide +kernel
theorem dX7_chair_62 : decode cX7_chair 62 = .ok (.iconst 0, 1) := by decide +kernel
theorem dX7_chair_63 : decode cX7_chair 63 = .ok (.istore_n 3, 1) := by decide +kernel
theorem dX7_chair_64 : decode cX7_chair 64 = .ok (.iload_n 3, 1) := by decide +kernel
theorem dX7_chair_65 : decode cX7_chair 65 = .ok (.aload_n 0, 1) := by decide +kernel
theorem dX7_chair_66 : decode cX7_chair 66 = .ok (.getfield 125, 3) := by decide +kernel
theorem dX7_chair_69 : decode cX7_chair 69 = .ok (.if_icmp .ge 44, 3) := by decide +kernel
theorem dX7_chair_72 : decode cX7_chair 72 = .ok (.aload_n 0, 1) := by decide +kernel
theorem dX7_chair_73 : decode cX7_chair 73 = .ok (.getfield 40, 3) := by decide +kernel
theorem dX7_chair_76 : decode cX7_chair 76 = .ok (.iload_n 3, 1) := by decide +kernel
theorem dX7_chair_77 : decode cX7_chair 77 = .ok (.iaload, 1) := by decide +kernel
theorem dX7_chair_78 : decode cX7_chair 78 = .ok (.iload_n 1, 1) := by decide +kernel
theorem dX7_chair_79 : decode cX7_chair 79 = .ok (.if_icmp .eq 28, 3) := by decide +kernel
theorem dX7_chair_82 : decode cX7_chair 82 = .ok (.aload_n 0, 1) := by decide +kernel
theorem dX7_chair_83 : decode cX7_chair 83 = .ok (.getfield 64, 3) := by decide +kernel
theorem dX7_chair_86 : decode cX7_chair 86 = .ok (.aload_n 0, 1) := by decide +kernel
theorem dX7_chair_87 : decode cX7_chair 87 = .ok (.getfield 194, 3) := by decide +kernel
theorem dX7_chair_90 : decode cX7_chair 90 = .ok (.aload_n 0, 1) := by decide +kernel
theorem dX7_chair_91 : decode cX7_chair 91 = .ok (.getfield 40, 3) := by decide +kernel
theorem dX7_chair_94 : decode cX7_chair 94 = .ok (.iload_n 3, 1) := by decide +kernel
theorem dX7_chair_95 : decode cX7_chair 95 = .ok (.iaload, 1) := by decide +kernel
theorem dX7_chair_96 : decode cX7_chair 96 = .ok (.iastore, 1) := by decide +kernel
theorem dX7_chair_97 : decode cX7_chair 97 = .ok (.aload_n 0, 1) := by decide +kernel
theorem dX7_chair_98 : decode cX7_chair 98 = .ok (.dup, 1) := by decide +kernel
theorem dX7_chair_99 : decode cX7_chair 99 = .ok (.getfield 194, 3) := by decide +kernel
theorem dX7_chair_102 : decode cX7_chair 102 = .ok (.iconst 1, 1) := by decide +kernel
theorem dX7_chair_103 : decode cX7_chair 103 = .ok (.iadd, 1) := by decide +kernel
theorem dX7_chair_104 : decode cX7_chair 104 = .ok (.putfield 194, 3) := by decide +kernel
theorem dX7_chair_107 : decode cX7_chair 107 = .ok (.iinc 3 1, 3) := by decide +kernel
theorem dX7_chair_110 : decode cX7_chair 110 = .ok (.goto (-46), 3) := by decide +kernel
theorem dX7_chair_113 : decode cX7_chair 113 = .ok (.aload_n 0, 1) := by decide +kernel
theorem dX7_chair_114 : decode cX7_chair 114 = .ok (.invokevirtual 227, 3) := by decide +kernel
theorem dX7_chair_117 : decode cX7_chair 117 = .ok (.aload_n 0, 1) := by decide +kernel
theorem dX7_chair_118 : decode cX7_chair 118 = .ok (.invokevirtual 230, 3) := by decide +kernel
theorem dX7_chair_121 : decode cX7_chair 121 = .ok (.iload_n 2, 1) := by decide +kernel
theorem dX7_chair_122 : decode cX7_chair 122 = .ok (.isub, 1) := by decide +kernel
theorem dX7_chair_123 : decode cX7_chair 123 = .ok (.i2l, 1) := by decide +kernel
theorem dX7_chair_124 : decode cX7_chair 124 = .ok (.lreturn, 1) := by decide +kernel
theorem dX7_law_0 : decode cX7_law 0 = .ok (.iload_n 1, 1) := by decide +kernel
theorem dX7_law_1 : decode cX7_law 1 = .ok (.iconst 0, 1) := by decide +kernel
theorem dX7_law_2 : decode cX7_law 2 = .ok (.iconst 1, 1) := by decide +kernel
theorem dX7_law_3 : decode cX7_law 3 = .ok (.invokestatic 121, 3) := by decide +kernel
theorem dX7_law_6 : decode cX7_law 6 = .ok (.ifCond .ne 6, 3) := by decide +kernel
theorem dX7_law_9 : decode cX7_law 9 = .ok (.bipush (-2), 2) := by decide +kernel
theorem dX7_law_11 : decode cX7_law 11 = .ok (.ireturn, 1) := by decide +kernel
theorem dX7_law_12 : decode cX7_law 12 = .ok (.aload_n 0, 1) := by decide +kernel
theorem dX7_law_13 : decode cX7_law 13 = .ok (.invokevirtual 190, 3) := by decide +kernel
theorem dX7_law_16 : decode cX7_law 16 = .ok (.ifCond .ne 6, 3) := by decide +kernel
theorem dX7_law_19 : decode cX7_law 19 = .ok (.bipush (-3), 2) := by decide +kernel
theorem dX7_law_21 : decode cX7_law 21 = .ok (.ireturn, 1) := by decide +kernel
theorem dX7_law_22 : decode cX7_law 22 = .ok (.iconst (-1), 1) := by decide +kernel
theorem dX7_law_23 : decode cX7_law 23 = .ok (.istore_n 2, 1) := by decide +kernel
theorem dX7_law_24 : decode cX7_law 24 = .ok (.iconst 0, 1) := by decide +kernel
theorem dX7_law_25 : decode cX7_law 25 = .ok (.istore_n 3, 1) := by decide +kernel
theorem dX7_law_26 : decode cX7_law 26 = .ok (.iconst 1, 1) := by decide +kernel
theorem dX7_law_27 : decode cX7_law 27 = .ok (.istore 4, 2) := by decide +kernel
theorem dX7_law_29 : decode cX7_law 29 = .ok (.iload 4, 2) := by decide +kernel
theorem dX7_law_31 : decode cX7_law 31 = .ok (.aload_n 0, 1) := by decide +kernel
theorem dX7_law_32 : decode cX7_law 32 = .ok (.getfield 125, 3) := by decide +kernel
theorem dX7_law_35 : decode cX7_law 35 = .ok (.if_icmp .ge 39, 3) := by decide +kernel
theorem dX7_law_38 : decode cX7_law 38 = .ok (.aload_n 0, 1) := by decide +kernel
theorem dX7_law_39 : decode cX7_law 39 = .ok (.invokevirtual 224, 3) := by decide +kernel
theorem dX7_law_42 : decode cX7_law 42 = .ok (.aload_n 0, 1) := by decide +kernel
theorem dX7_law_43 : decode cX7_law 43 = .ok (.iload 4, 2) := by decide +kernel
theorem dX7_law_45 : decode cX7_law 45 = .ok (.putfield 197, 3) := by decide +kernel
theorem dX7_law_48 : decode cX7_law 48 = .ok (.aload_n 0, 1) := by decide +kernel
theorem dX7_law_49 : decode cX7_law 49 = .ok (.invokevirtual 227, 3) := by decide +kernel
theorem dX7_law_52 : decode cX7_law 52 = .ok (.aload_n 0, 1) := by decide +kernel
theorem dX7_law_53 : decode cX7_law 53 = .ok (.invokevirtual 230, 3) := by decide +kernel
theorem dX7_law_56 : decode cX7_law 56 = .ok (.iload_n 2, 1) := by decide +kernel
theorem dX7_law_57 : decode cX7_law 57 = .ok (.if_icmp .le 11, 3) := by decide +kernel
theorem dX7_law_60 : decode cX7_law 60 = .ok (.aload_n 0, 1) := by decide +kernel
theorem dX7_law_61 : decode cX7_law 61 = .ok (.invokevirtual 230, 3) := by decide +kernel
theorem dX7_law_64 : decode cX7_law 64 = .ok (.istore_n 2, 1) := by decide +kernel
theorem dX7_law_65 : decode cX7_law 65 = .ok (.iload 4, 2) := by decide +kernel
theorem dX7_law_67 : decode cX7_law 67 = .ok (.istore_n 3, 1) := by decide +kernel
theorem dX7_law_68 : decode cX7_law 68 = .ok (.iinc 4 1, 3) := by decide +kernel
theorem dX7_law_71 : decode cX7_law 71 = .ok (.goto (-42), 3) := by decide +kernel
theorem dX7_law_74 : decode cX7_law 74 = .ok (.iload_n 1, 1) := by decide +kernel
theorem dX7_law_75 : decode cX7_law 75 = .ok (.ifCond .ne 7, 3) := by decide +kernel
theorem dX7_law_78 : decode cX7_law 78 = .ok (.iload_n 3, 1) := by decide +kernel
theorem dX7_law_79 : decode cX7_law 79 = .ok (.goto 4, 3) := by decide +kernel
theorem dX7_law_82 : decode cX7_law 82 = .ok (.iload_n 2, 1) := by decide +kernel
theorem dX7_law_83 : decode cX7_law 83 = .ok (.ireturn, 1) := by decide +kernel
theorem dX7_sheet_0 : decode cX7_sheet 0 = .ok (.aload_n 0, 1) := by decide +kernel
theorem dX7_sheet_1 : decode cX7_sheet 1 = .ok (.iconst 0, 1) := by decide +kernel
theorem dX7_sheet_2 : decode cX7_sheet 2 = .ok (.putfield 115, 3) := by decide +kernel
theorem dX7_sheet_5 : decode cX7_sheet 5 = .ok (.iload_n 1, 1) := by decide +kernel
theorem dX7_sheet_6 : decode cX7_sheet 6 = .ok (.invokestatic 134, 3) := by decide +kernel
theorem dX7_sheet_9 : decode cX7_sheet 9 = .ok (.ifCond .ne 5, 3) := by decide +kernel
theorem dX7_sheet_12 : decode cX7_sheet 12 = .ok (.iconst (-1), 1) := by decide +kernel
theorem dX7_sheet_13 : decode cX7_sheet 13 = .ok (.ireturn, 1) := by decide +kernel
theorem dX7_sheet_14 : decode cX7_sheet 14 = .ok (.iload_n 2, 1) := by decide +kernel
theorem dX7_sheet_15 : decode cX7_sheet 15 = .ok (.invokestatic 138, 3) := by decide +kernel
theorem dX7_sheet_18 : decode cX7_sheet 18 = .ok (.ifCond .eq 9, 3) := by decide +kernel
theorem dX7_sheet_21 : decode cX7_sheet 21 = .ok (.iload_n 3, 1) := by decide +kernel
theorem dX7_sheet_22 : decode cX7_sheet 22 = .ok (.bipush 100, 2) := by decide +kernel
theorem dX7_sheet_24 : decode cX7_sheet 24 = .ok (.if_icmp .le 6, 3) := by decide +kernel
theorem dX7_sheet_27 : decode cX7_sheet 27 = .ok (.bipush (-2), 2) := by decide +kernel
theorem dX7_sheet_29 : decode cX7_sheet 29 = .ok (.ireturn, 1) := by decide +kernel
theorem dX7_sheet_30 : decode cX7_sheet 30 = .ok (.iload_n 3, 1) := by decide +kernel
theorem dX7_sheet_31 : decode cX7_sheet 31 = .ok (.ifCond .ge 9, 3) := by decide +kernel
theorem dX7_sheet_34 : decode cX7_sheet 34 = .ok (.aload_n 0, 1) := by decide +kernel
theorem dX7_sheet_35 : decode cX7_sheet 35 = .ok (.iconst 4, 1) := by decide +kernel
theorem dX7_sheet_36 : decode cX7_sheet 36 = .ok (.invokevirtual 145, 3) := by decide +kernel
theorem dX7_sheet_39 : decode cX7_sheet 39 = .ok (.ireturn, 1) := by decide +kernel
theorem dX7_sheet_40 : decode cX7_sheet 40 = .ok (.aload_n 0, 1) := by decide +kernel
theorem dX7_sheet_41 : decode cX7_sheet 41 = .ok (.getfield 9, 3) := by decide +kernel
theorem dX7_sheet_44 : decode cX7_sheet 44 = .ok (.iload_n 1, 1) := by decide +kernel
theorem dX7_sheet_45 : decode cX7_sheet 45 = .ok (.iload_n 2, 1) := by decide +kernel
theorem dX7_sheet_46 : decode cX7_sheet 46 = .ok (.iastore, 1) := by decide +kernel
theorem dX7_sheet_47 : decode cX7_sheet 47 = .ok (.aload_n 0, 1) := by decide +kernel
theorem dX7_sheet_48 : decode cX7_sheet 48 = .ok (.getfield 13, 3) := by decide +kernel
theorem dX7_sheet_51 : decode cX7_sheet 51 = .ok (.iload_n 1, 1) := by decide +kernel
theorem dX7_sheet_52 : decode cX7_sheet 52 = .ok (.iload_n 3, 1) := by decide +kernel
theorem dX7_sheet_53 : decode cX7_sheet 53 = .ok (.iastore, 1) := by decide +kernel
theorem dX7_sheet_54 : decode cX7_sheet 54 = .ok (.iconst 0, 1) := by decide +kernel
theorem dX7_sheet_55 : decode cX7_sheet 55 = .ok (.istore 4, 2) := by decide +kernel
theorem dX7_sheet_57 : decode cX7_sheet 57 = .ok (.iload 4, 2) := by decide +kernel
theorem dX7_sheet_59 : decode cX7_sheet 59 = .ok (.bipush 100, 2) := by decide +kernel
theorem dX7_sheet_61 : decode cX7_sheet 61 = .ok (.if_icmp .ge 22, 3) := by decide +kernel
theorem dX7_sheet_64 : decode cX7_sheet 64 = .ok (.aload_n 0, 1) := by decide +kernel
theorem dX7_sheet_65 : decode cX7_sheet 65 = .ok (.getfield 16, 3) := by decide +kernel
theorem dX7_sheet_68 : decode cX7_sheet 68 = .ok (.bipush 100, 2) := by decide +kernel
theorem dX7_sheet_70 : decode cX7_sheet 70 = .ok (.iload_n 1, 1) := by decide +kernel
theorem dX7_sheet_71 : decode cX7_sheet 71 = .ok (.imul, 1) := by decide +kernel
theorem dX7_sheet_72 : decode cX7_sheet 72 = .ok (.iload 4, 2) := by decide +kernel
theorem dX7_sheet_74 : decode cX7_sheet 74 = .ok (.iadd, 1) := by decide +kernel
theorem dX7_sheet_75 : decode cX7_sheet 75 = .ok (.iconst 0, 1) := by decide +kernel
theorem dX7_sheet_76 : decode cX7_sheet 76 = .ok (.iastore, 1) := by decide +kernel
theorem dX7_sheet_77 : decode cX7_sheet 77 = .ok (.iinc 4 1, 3) := by decide +kernel
theorem dX7_sheet_80 : decode cX7_sheet 80 = .ok (.goto (-23), 3) := by decide +kernel
theorem dX7_sheet_83 : decode cX7_sheet 83 = .ok (.iconst 1, 1) := by decide +kernel
theorem dX7_sheet_84 : decode cX7_sheet 84 = .ok (.ireturn, 1) := by decide +kernel
theorem dX7_lose_0 : decode cX7_lose 0 = .ok (.iload_n 1, 1) := by decide +kernel
theorem dX7_lose_1 : decode cX7_lose 1 = .ok (.invokestatic 134, 3) := by decide +kernel
theorem dX7_lose_4 : decode cX7_lose 4 = .ok (.ifCond .ne 5, 3) := by decide +kernel
theorem dX7_lose_7 : decode cX7_lose 7 = .ok (.iconst (-1), 1) := by decide +kernel
theorem dX7_lose_8 : decode cX7_lose 8 = .ok (.ireturn, 1) := by decide +kernel
theorem dX7_lose_9 : decode cX7_lose 9 = .ok (.aload_n 0, 1) := by decide +kernel
theorem dX7_lose_10 : decode cX7_lose 10 = .ok (.getfield 9, 3) := by decide +kernel
theorem dX7_lose_13 : decode cX7_lose 13 = .ok (.iload_n 1, 1) := by decide +kernel
theorem dX7_lose_14 : decode cX7_lose 14 = .ok (.iaload, 1) := by decide +kernel
theorem dX7_lose_15 : decode cX7_lose 15 = .ok (.bipush (-9), 2) := by decide +kernel
theorem dX7_lose_17 : decode cX7_lose 17 = .ok (.if_icmp .ne 7, 3) := by decide +kernel
theorem dX7_lose_20 : decode cX7_lose 20 = .ok (.iconst 0, 1) := by decide +kernel
theorem dX7_lose_21 : decode cX7_lose 21 = .ok (.goto 4, 3) := by decide +kernel
theorem dX7_lose_24 : decode cX7_lose 24 = .ok (.iconst 1, 1) := by decide +kernel
theorem dX7_lose_25 : decode cX7_lose 25 = .ok (.istore_n 2, 1) := by decide +kernel
theorem dX7_lose_26 : decode cX7_lose 26 = .ok (.aload_n 0, 1) := by decide +kernel
theorem dX7_lose_27 : decode cX7_lose 27 = .ok (.getfield 9, 3) := by decide +kernel
theorem dX7_lose_30 : decode cX7_lose 30 = .ok (.iload_n 1, 1) := by decide +kernel
theorem dX7_lose_31 : decode cX7_lose 31 = .ok (.bipush (-9), 2) := by decide +kernel
theorem dX7_lose_33 : decode cX7_lose 33 = .ok (.iastore, 1) := by decide +kernel
theorem dX7_lose_34 : decode cX7_lose 34 = .ok (.iload_n 2, 1) := by decide +kernel
theorem dX7_lose_35 : decode cX7_lose 35 = .ok (.ireturn, 1) := by decide +kernel
theorem dX7_put_0 : decode cX7_put 0 = .ok (.aload_n 0, 1) := by decide +kernel
theorem dX7_put_1 : decode cX7_put 1 = .ok (.iconst 0, 1) := by decide +kernel
theorem dX7_put_2 : decode cX7_put 2 = .ok (.putfield 115, 3) := by decide +kernel
theorem dX7_put_5 : decode cX7_put 5 = .ok (.iload_n 1, 1) := by decide +kernel
theorem dX7_put_6 : decode cX7_put 6 = .ok (.invokestatic 134, 3) := by decide +kernel
theorem dX7_put_9 : decode cX7_put 9 = .ok (.ifCond .ne 5, 3) := by decide +kernel
theorem dX7_put_12 : decode cX7_put 12 = .ok (.iconst (-1), 1) := by decide +kernel
theorem dX7_put_13 : decode cX7_put 13 = .ok (.ireturn, 1) := by decide +kernel
theorem dX7_put_14 : decode cX7_put 14 = .ok (.aload_n 0, 1) := by decide +kernel
theorem dX7_put_15 : decode cX7_put 15 = .ok (.getfield 9, 3) := by decide +kernel
theorem dX7_put_18 : decode cX7_put 18 = .ok (.iload_n 1, 1) := by decide +kernel
theorem dX7_put_19 : decode cX7_put 19 = .ok (.iaload, 1) := by decide +kernel
theorem dX7_put_20 : decode cX7_put 20 = .ok (.bipush (-9), 2) := by decide +kernel
theorem dX7_put_22 : decode cX7_put 22 = .ok (.if_icmp .ne 9, 3) := by decide +kernel
theorem dX7_put_25 : decode cX7_put 25 = .ok (.aload_n 0, 1) := by decide +kernel
theorem dX7_put_26 : decode cX7_put 26 = .ok (.iconst 1, 1) := by decide +kernel
theorem dX7_put_27 : decode cX7_put 27 = .ok (.invokevirtual 145, 3) := by decide +kernel
theorem dX7_put_30 : decode cX7_put 30 = .ok (.ireturn, 1) := by decide +kernel
theorem dX7_put_31 : decode cX7_put 31 = .ok (.iload_n 2, 1) := by decide +kernel
theorem dX7_put_32 : decode cX7_put 32 = .ok (.iconst 0, 1) := by decide +kernel
theorem dX7_put_33 : decode cX7_put 33 = .ok (.aload_n 0, 1) := by decide +kernel
theorem dX7_put_34 : decode cX7_put 34 = .ok (.getfield 13, 3) := by decide +kernel
theorem dX7_put_37 : decode cX7_put 37 = .ok (.iload_n 1, 1) := by decide +kernel
theorem dX7_put_38 : decode cX7_put 38 = .ok (.iaload, 1) := by decide +kernel
theorem dX7_put_39 : decode cX7_put 39 = .ok (.iconst 1, 1) := by decide +kernel
theorem dX7_put_40 : decode cX7_put 40 = .ok (.isub, 1) := by decide +kernel
theorem dX7_put_41 : decode cX7_put 41 = .ok (.invokestatic 121, 3) := by decide +kernel
theorem dX7_put_44 : decode cX7_put 44 = .ok (.ifCond .ne 9, 3) := by decide +kernel
theorem dX7_put_47 : decode cX7_put 47 = .ok (.aload_n 0, 1) := by decide +kernel
theorem dX7_put_48 : decode cX7_put 48 = .ok (.iconst 3, 1) := by decide +kernel
theorem dX7_put_49 : decode cX7_put 49 = .ok (.invokevirtual 145, 3) := by decide +kernel
theorem dX7_put_52 : decode cX7_put 52 = .ok (.ireturn, 1) := by decide +kernel
theorem dX7_put_53 : decode cX7_put 53 = .ok (.aload_n 0, 1) := by decide +kernel
theorem dX7_put_54 : decode cX7_put 54 = .ok (.getfield 16, 3) := by decide +kernel
theorem dX7_put_57 : decode cX7_put 57 = .ok (.bipush 100, 2) := by decide +kernel
theorem dX7_put_59 : decode cX7_put 59 = .ok (.iload_n 1, 1) := by decide +kernel
theorem dX7_put_60 : decode cX7_put 60 = .ok (.imul, 1) := by decide +kernel
theorem dX7_put_61 : decode cX7_put 61 = .ok (.iload_n 2, 1) := by decide +kernel
theorem dX7_put_62 : decode cX7_put 62 = .ok (.iadd, 1) := by decide +kernel
theorem dX7_put_63 : decode cX7_put 63 = .ok (.aload_n 0, 1) := by decide +kernel
theorem dX7_put_64 : decode cX7_put 64 = .ok (.getfield 9, 3) := by decide +kernel
theorem dX7_put_67 : decode cX7_put 67 = .ok (.iload_n 1, 1) := by decide +kernel
theorem dX7_put_68 : decode cX7_put 68 = .ok (.iaload, 1) := by decide +kernel
theorem dX7_put_69 : decode cX7_put 69 = .ok (.ifCond .ne 8, 3) := by decide +kernel
theorem dX7_put_72 : decode cX7_put 72 = .ok (.iload_n 3, 1) := by decide +kernel
theorem dX7_put_73 : decode cX7_put 73 = .ok (.i2b, 1) := by decide +kernel
theorem dX7_put_74 : decode cX7_put 74 = .ok (.goto 19, 3) := by decide +kernel
theorem dX7_put_77 : decode cX7_put 77 = .ok (.aload_n 0, 1) := by decide +kernel
theorem dX7_put_78 : decode cX7_put 78 = .ok (.getfield 9, 3) := by decide +kernel
theorem dX7_put_81 : decode cX7_put 81 = .ok (.iload_n 1, 1) := by decide +kernel
theorem dX7_put_82 : decode cX7_put 82 = .ok (.iaload, 1) := by decide +kernel
theorem dX7_put_83 : decode cX7_put 83 = .ok (.iconst 1, 1) := by decide +kernel
theorem dX7_put_84 : decode cX7_put 84 = .ok (.if_icmp .ne 8, 3) := by decide +kernel
theorem dX7_put_87 : decode cX7_put 87 = .ok (.iload_n 3, 1) := by decide +kernel
theorem dX7_put_88 : decode cX7_put 88 = .ok (.i2s, 1) := by decide +kernel
theorem dX7_put_89 : decode cX7_put 89 = .ok (.goto 4, 3) := by decide +kernel
theorem dX7_put_92 : decode cX7_put 92 = .ok (.iload_n 3, 1) := by decide +kernel
theorem dX7_put_93 : decode cX7_put 93 = .ok (.iastore, 1) := by decide +kernel
theorem dX7_put_94 : decode cX7_put 94 = .ok (.iconst 1, 1) := by decide +kernel
theorem dX7_put_95 : decode cX7_put 95 = .ok (.ireturn, 1) := by decide +kernel
theorem dX7_cell_0 : decode cX7_cell 0 = .ok (.aload_n 0, 1) := by decide +kernel
theorem dX7_cell_1 : decode cX7_cell 1 = .ok (.iconst 0, 1) := by decide +kernel
theorem dX7_cell_2 : decode cX7_cell 2 = .ok (.putfield 115, 3) := by decide +kernel
theorem dX7_cell_5 : decode cX7_cell 5 = .ok (.iload_n 1, 1) := by decide +kernel
theorem dX7_cell_6 : decode cX7_cell 6 = .ok (.invokestatic 134, 3) := by decide +kernel
theorem dX7_cell_9 : decode cX7_cell 9 = .ok (.ifCond .eq 10, 3) := by decide +kernel
theorem dX7_cell_12 : decode cX7_cell 12 = .ok (.iload_n 3, 1) := by decide +kernel
theorem dX7_cell_13 : decode cX7_cell 13 = .ok (.invokestatic 138, 3) := by decide +kernel
theorem dX7_cell_16 : decode cX7_cell 16 = .ok (.ifCond .ne 7, 3) := by decide +kernel
theorem dX7_cell_19 : decode cX7_cell 19 = .ok (.ldc2_w 119, 3) := by decide +kernel
theorem dX7_cell_22 : decode cX7_cell 22 = .ok (.lreturn, 1) := by decide +kernel
theorem dX7_cell_23 : decode cX7_cell 23 = .ok (.aload_n 0, 1) := by decide +kernel
theorem dX7_cell_24 : decode cX7_cell 24 = .ok (.getfield 9, 3) := by decide +kernel
theorem dX7_cell_27 : decode cX7_cell 27 = .ok (.iload_n 1, 1) := by decide +kernel
theorem dX7_cell_28 : decode cX7_cell 28 = .ok (.iaload, 1) := by decide +kernel
theorem dX7_cell_29 : decode cX7_cell 29 = .ok (.bipush (-9), 2) := by decide +kernel
theorem dX7_cell_31 : decode cX7_cell 31 = .ok (.if_icmp .eq 19, 3) := by decide +kernel
theorem dX7_cell_34 : decode cX7_cell 34 = .ok (.aload_n 0, 1) := by decide +kernel
theorem dX7_cell_35 : decode cX7_cell 35 = .ok (.getfield 9, 3) := by decide +kernel
theorem dX7_cell_38 : decode cX7_cell 38 = .ok (.iload_n 1, 1) := by decide +kernel
theorem dX7_cell_39 : decode cX7_cell 39 = .ok (.iaload, 1) := by decide +kernel
theorem dX7_cell_40 : decode cX7_cell 40 = .ok (.iload_n 3, 1) := by decide +kernel
theorem dX7_cell_41 : decode cX7_cell 41 = .ok (.if_icmp .eq 9, 3) := by decide +kernel
theorem dX7_cell_44 : decode cX7_cell 44 = .ok (.aload_n 0, 1) := by decide +kernel
theorem dX7_cell_45 : decode cX7_cell 45 = .ok (.iconst 2, 1) := by decide +kernel
theorem dX7_cell_46 : decode cX7_cell 46 = .ok (.invokevirtual 313, 3) := by decide +kernel
theorem dX7_cell_49 : decode cX7_cell 49 = .ok (.lreturn, 1) := by decide +kernel
theorem dX7_cell_50 : decode cX7_cell 50 = .ok (.aload_n 0, 1) := by decide +kernel
theorem dX7_cell_51 : decode cX7_cell 51 = .ok (.getfield 9, 3) := by decide +kernel
theorem dX7_cell_54 : decode cX7_cell 54 = .ok (.iload_n 1, 1) := by decide +kernel
theorem dX7_cell_55 : decode cX7_cell 55 = .ok (.iaload, 1) := by decide +kernel
theorem dX7_cell_56 : decode cX7_cell 56 = .ok (.bipush (-9), 2) := by decide +kernel
theorem dX7_cell_58 : decode cX7_cell 58 = .ok (.if_icmp .ne 9, 3) := by decide +kernel
theorem dX7_cell_61 : decode cX7_cell 61 = .ok (.aload_n 0, 1) := by decide +kernel
theorem dX7_cell_62 : decode cX7_cell 62 = .ok (.iconst 1, 1) := by decide +kernel
theorem dX7_cell_63 : decode cX7_cell 63 = .ok (.invokevirtual 313, 3) := by decide +kernel
theorem dX7_cell_66 : decode cX7_cell 66 = .ok (.lreturn, 1) := by decide +kernel
theorem dX7_cell_67 : decode cX7_cell 67 = .ok (.iload_n 2, 1) := by decide +kernel
theorem dX7_cell_68 : decode cX7_cell 68 = .ok (.iconst 0, 1) := by decide +kernel
theorem dX7_cell_69 : decode cX7_cell 69 = .ok (.aload_n 0, 1) := by decide +kernel
theorem dX7_cell_70 : decode cX7_cell 70 = .ok (.getfield 13, 3) := by decide +kernel
theorem dX7_cell_73 : decode cX7_cell 73 = .ok (.iload_n 1, 1) := by decide +kernel
theorem dX7_cell_74 : decode cX7_cell 74 = .ok (.iaload, 1) := by decide +kernel
theorem dX7_cell_75 : decode cX7_cell 75 = .ok (.iconst 1, 1) := by decide +kernel
theorem dX7_cell_76 : decode cX7_cell 76 = .ok (.isub, 1) := by decide +kernel
theorem dX7_cell_77 : decode cX7_cell 77 = .ok (.invokestatic 121, 3) := by decide +kernel
theorem dX7_cell_80 : decode cX7_cell 80 = .ok (.ifCond .ne 9, 3) := by decide +kernel
theorem dX7_cell_83 : decode cX7_cell 83 = .ok (.aload_n 0, 1) := by decide +kernel
theorem dX7_cell_84 : decode cX7_cell 84 = .ok (.iconst 3, 1) := by decide +kernel
theorem dX7_cell_85 : decode cX7_cell 85 = .ok (.invokevirtual 313, 3) := by decide +kernel
theorem dX7_cell_88 : decode cX7_cell 88 = .ok (.lreturn, 1) := by decide +kernel
theorem dX7_cell_89 : decode cX7_cell 89 = .ok (.aload_n 0, 1) := by decide +kernel
theorem dX7_cell_90 : decode cX7_cell 90 = .ok (.getfield 16, 3) := by decide +kernel
theorem dX7_cell_93 : decode cX7_cell 93 = .ok (.bipush 100, 2) := by decide +kernel
theorem dX7_cell_95 : decode cX7_cell 95 = .ok (.iload_n 1, 1) := by decide +kernel
theorem dX7_cell_96 : decode cX7_cell 96 = .ok (.imul, 1) := by decide +kernel
theorem dX7_cell_97 : decode cX7_cell 97 = .ok (.iload_n 2, 1) := by decide +kernel
theorem dX7_cell_98 : decode cX7_cell 98 = .ok (.iadd, 1) := by decide +kernel
theorem dX7_cell_99 : decode cX7_cell 99 = .ok (.iaload, 1) := by decide +kernel
theorem dX7_cell_100 : decode cX7_cell 100 = .ok (.i2l, 1) := by decide +kernel
theorem dX7_cell_101 : decode cX7_cell 101 = .ok (.lreturn, 1) := by decide +kernel
theorem dX7_copy_0 : decode cX7_copy 0 = .ok (.aload_n 0, 1) := by decide +kernel
theorem dX7_copy_1 : decode cX7_copy 1 = .ok (.iconst 0, 1) := by decide +kernel
theorem dX7_copy_2 : decode cX7_copy 2 = .ok (.putfield 115, 3) := by decide +kernel
theorem dX7_copy_5 : decode cX7_copy 5 = .ok (.iload_n 1, 1) := by decide +kernel
theorem dX7_copy_6 : decode cX7_copy 6 = .ok (.invokestatic 134, 3) := by decide +kernel
theorem dX7_copy_9 : decode cX7_copy 9 = .ok (.ifCond .eq 10, 3) := by decide +kernel
theorem dX7_copy_12 : decode cX7_copy 12 = .ok (.iload_n 3, 1) := by decide +kernel
theorem dX7_copy_13 : decode cX7_copy 13 = .ok (.invokestatic 134, 3) := by decide +kernel
theorem dX7_copy_16 : decode cX7_copy 16 = .ok (.ifCond .ne 5, 3) := by decide +kernel
theorem dX7_copy_19 : decode cX7_copy 19 = .ok (.iconst (-1), 1) := by decide +kernel
theorem dX7_copy_20 : decode cX7_copy 20 = .ok (.ireturn, 1) := by decide +kernel
theorem dX7_copy_21 : decode cX7_copy 21 = .ok (.aload_n 0, 1) := by decide +kernel
theorem dX7_copy_22 : decode cX7_copy 22 = .ok (.getfield 9, 3) := by decide +kernel
theorem dX7_copy_25 : decode cX7_copy 25 = .ok (.iload_n 1, 1) := by decide +kernel
theorem dX7_copy_26 : decode cX7_copy 26 = .ok (.iaload, 1) := by decide +kernel
theorem dX7_copy_27 : decode cX7_copy 27 = .ok (.bipush (-9), 2) := by decide +kernel
theorem dX7_copy_29 : decode cX7_copy 29 = .ok (.if_icmp .eq 14, 3) := by decide +kernel
theorem dX7_copy_32 : decode cX7_copy 32 = .ok (.aload_n 0, 1) := by decide +kernel
theorem dX7_copy_33 : decode cX7_copy 33 = .ok (.getfield 9, 3) := by decide +kernel
theorem dX7_copy_36 : decode cX7_copy 36 = .ok (.iload_n 3, 1) := by decide +kernel
theorem dX7_copy_37 : decode cX7_copy 37 = .ok (.iaload, 1) := by decide +kernel
theorem dX7_copy_38 : decode cX7_copy 38 = .ok (.bipush (-9), 2) := by decide +kernel
theorem dX7_copy_40 : decode cX7_copy 40 = .ok (.if_icmp .ne 9, 3) := by decide +kernel
theorem dX7_copy_43 : decode cX7_copy 43 = .ok (.aload_n 0, 1) := by decide +kernel
theorem dX7_copy_44 : decode cX7_copy 44 = .ok (.iconst 1, 1) := by decide +kernel
theorem dX7_copy_45 : decode cX7_copy 45 = .ok (.invokevirtual 145, 3) := by decide +kernel
theorem dX7_copy_48 : decode cX7_copy 48 = .ok (.ireturn, 1) := by decide +kernel
theorem dX7_copy_49 : decode cX7_copy 49 = .ok (.aload_n 0, 1) := by decide +kernel
theorem dX7_copy_50 : decode cX7_copy 50 = .ok (.getfield 9, 3) := by decide +kernel
theorem dX7_copy_53 : decode cX7_copy 53 = .ok (.iload_n 1, 1) := by decide +kernel
theorem dX7_copy_54 : decode cX7_copy 54 = .ok (.iaload, 1) := by decide +kernel
theorem dX7_copy_55 : decode cX7_copy 55 = .ok (.aload_n 0, 1) := by decide +kernel
theorem dX7_copy_56 : decode cX7_copy 56 = .ok (.getfield 9, 3) := by decide +kernel
theorem dX7_copy_59 : decode cX7_copy 59 = .ok (.iload_n 3, 1) := by decide +kernel
theorem dX7_copy_60 : decode cX7_copy 60 = .ok (.iaload, 1) := by decide +kernel
theorem dX7_copy_61 : decode cX7_copy 61 = .ok (.if_icmp .eq 9, 3) := by decide +kernel
theorem dX7_copy_64 : decode cX7_copy 64 = .ok (.aload_n 0, 1) := by decide +kernel
theorem dX7_copy_65 : decode cX7_copy 65 = .ok (.iconst 2, 1) := by decide +kernel
theorem dX7_copy_66 : decode cX7_copy 66 = .ok (.invokevirtual 145, 3) := by decide +kernel
theorem dX7_copy_69 : decode cX7_copy 69 = .ok (.ireturn, 1) := by decide +kernel
theorem dX7_copy_70 : decode cX7_copy 70 = .ok (.iload_n 2, 1) := by decide +kernel
theorem dX7_copy_71 : decode cX7_copy 71 = .ok (.ifCond .lt 38, 3) := by decide +kernel
theorem dX7_copy_74 : decode cX7_copy 74 = .ok (.iload 4, 2) := by decide +kernel
theorem dX7_copy_76 : decode cX7_copy 76 = .ok (.ifCond .lt 33, 3) := by decide +kernel
theorem dX7_copy_79 : decode cX7_copy 79 = .ok (.iload 5, 2) := by decide +kernel
theorem dX7_copy_81 : decode cX7_copy 81 = .ok (.ifCond .lt 28, 3) := by decide +kernel
theorem dX7_copy_84 : decode cX7_copy 84 = .ok (.iload_n 2, 1) := by decide +kernel
theorem dX7_copy_85 : decode cX7_copy 85 = .ok (.aload_n 0, 1) := by decide +kernel
theorem dX7_copy_86 : decode cX7_copy 86 = .ok (.getfield 13, 3) := by decide +kernel
theorem dX7_copy_89 : decode cX7_copy 89 = .ok (.iload_n 1, 1) := by decide +kernel
theorem dX7_copy_90 : decode cX7_copy 90 = .ok (.iaload, 1) := by decide +kernel
theorem dX7_copy_91 : decode cX7_copy 91 = .ok (.if_icmp .gt 18, 3) := by decide +kernel
theorem dX7_copy_94 : decode cX7_copy 94 = .ok (.iload 4, 2) := by decide +kernel
theorem dX7_copy_96 : decode cX7_copy 96 = .ok (.aload_n 0, 1) := by decide +kernel
theorem dX7_copy_97 : decode cX7_copy 97 = .ok (.getfield 13, 3) := by decide +kernel
theorem dX7_copy_100 : decode cX7_copy 100 = .ok (.iload_n 3, 1) := by decide +kernel
theorem dX7_copy_101 : decode cX7_copy 101 = .ok (.iaload, 1) := by decide +kernel
theorem dX7_copy_102 : decode cX7_copy 102 = .ok (.if_icmp .gt 7, 3) := by decide +kernel
theorem dX7_copy_105 : decode cX7_copy 105 = .ok (.iconst 1, 1) := by decide +kernel
theorem dX7_copy_106 : decode cX7_copy 106 = .ok (.goto 4, 3) := by decide +kernel
theorem dX7_copy_109 : decode cX7_copy 109 = .ok (.iconst 0, 1) := by decide +kernel
theorem dX7_copy_110 : decode cX7_copy 110 = .ok (.istore 6, 2) := by decide +kernel
theorem dX7_copy_112 : decode cX7_copy 112 = .ok (.iload 6, 2) := by decide +kernel
theorem dX7_copy_114 : decode cX7_copy 114 = .ok (.ifCond .eq 30, 3) := by decide +kernel
theorem dX7_copy_117 : decode cX7_copy 117 = .ok (.iload 5, 2) := by decide +kernel
theorem dX7_copy_119 : decode cX7_copy 119 = .ok (.aload_n 0, 1) := by decide +kernel
theorem dX7_copy_120 : decode cX7_copy 120 = .ok (.getfield 13, 3) := by decide +kernel
theorem dX7_copy_123 : decode cX7_copy 123 = .ok (.iload_n 1, 1) := by decide +kernel
theorem dX7_copy_124 : decode cX7_copy 124 = .ok (.iaload, 1) := by decide +kernel
theorem dX7_copy_125 : decode cX7_copy 125 = .ok (.iload_n 2, 1) := by decide +kernel
theorem dX7_copy_126 : decode cX7_copy 126 = .ok (.isub, 1) := by decide +kernel
theorem dX7_copy_127 : decode cX7_copy 127 = .ok (.if_icmp .gt 17, 3) := by decide +kernel
theorem dX7_copy_130 : decode cX7_copy 130 = .ok (.iload 5, 2) := by decide +kernel
theorem dX7_copy_132 : decode cX7_copy 132 = .ok (.aload_n 0, 1) := by decide +kernel
theorem dX7_copy_133 : decode cX7_copy 133 = .ok (.getfield 13, 3) := by decide +kernel
theorem dX7_copy_136 : decode cX7_copy 136 = .ok (.iload_n 3, 1) := by decide +kernel
theorem dX7_copy_137 : decode cX7_copy 137 = .ok (.iaload, 1) := by decide +kernel
theorem dX7_copy_138 : decode cX7_copy 138 = .ok (.iload 4, 2) := by decide +kernel
theorem dX7_copy_140 : decode cX7_copy 140 = .ok (.isub, 1) := by decide +kernel
theorem dX7_copy_141 : decode cX7_copy 141 = .ok (.if_icmp .le 9, 3) := by decide +kernel
theorem dX7_copy_144 : decode cX7_copy 144 = .ok (.aload_n 0, 1) := by decide +kernel
theorem dX7_copy_145 : decode cX7_copy 145 = .ok (.iconst 3, 1) := by decide +kernel
theorem dX7_copy_146 : decode cX7_copy 146 = .ok (.invokevirtual 145, 3) := by decide +kernel
theorem dX7_copy_149 : decode cX7_copy 149 = .ok (.ireturn, 1) := by decide +kernel
theorem dX7_copy_150 : decode cX7_copy 150 = .ok (.iload_n 2, 1) := by decide +kernel
theorem dX7_copy_151 : decode cX7_copy 151 = .ok (.iload 4, 2) := by decide +kernel
theorem dX7_copy_153 : decode cX7_copy 153 = .ok (.if_icmp .ge 7, 3) := by decide +kernel
theorem dX7_copy_156 : decode cX7_copy 156 = .ok (.iconst 1, 1) := by decide +kernel
theorem dX7_copy_157 : decode cX7_copy 157 = .ok (.goto 4, 3) := by decide +kernel
theorem dX7_copy_160 : decode cX7_copy 160 = .ok (.iconst 0, 1) := by decide +kernel
theorem dX7_copy_161 : decode cX7_copy 161 = .ok (.istore 7, 2) := by decide +kernel
theorem dX7_copy_163 : decode cX7_copy 163 = .ok (.iconst 0, 1) := by decide +kernel
theorem dX7_copy_164 : decode cX7_copy 164 = .ok (.istore 8, 2) := by decide +kernel
theorem dX7_copy_166 : decode cX7_copy 166 = .ok (.iload 8, 2) := by decide +kernel
theorem dX7_copy_168 : decode cX7_copy 168 = .ok (.iload 5, 2) := by decide +kernel
theorem dX7_copy_170 : decode cX7_copy 170 = .ok (.if_icmp .ge 57, 3) := by decide +kernel
theorem dX7_copy_173 : decode cX7_copy 173 = .ok (.iload 7, 2) := by decide +kernel
theorem dX7_copy_175 : decode cX7_copy 175 = .ok (.ifCond .eq 13, 3) := by decide +kernel
theorem dX7_copy_178 : decode cX7_copy 178 = .ok (.iload 5, 2) := by decide +kernel
theorem dX7_copy_180 : decode cX7_copy 180 = .ok (.iconst 1, 1) := by decide +kernel
theorem dX7_copy_181 : decode cX7_copy 181 = .ok (.isub, 1) := by decide +kernel
theorem dX7_copy_182 : decode cX7_copy 182 = .ok (.iload 8, 2) := by decide +kernel
theorem dX7_copy_184 : decode cX7_copy 184 = .ok (.isub, 1) := by decide +kernel
theorem dX7_copy_185 : decode cX7_copy 185 = .ok (.goto 5, 3) := by decide +kernel
theorem dX7_copy_188 : decode cX7_copy 188 = .ok (.iload 8, 2) := by decide +kernel
theorem dX7_copy_190 : decode cX7_copy 190 = .ok (.istore 9, 2) := by decide +kernel
theorem dX7_copy_192 : decode cX7_copy 192 = .ok (.aload_n 0, 1) := by decide +kernel
theorem dX7_copy_193 : decode cX7_copy 193 = .ok (.getfield 16, 3) := by decide +kernel
theorem dX7_copy_196 : decode cX7_copy 196 = .ok (.bipush 100, 2) := by decide +kernel
theorem dX7_copy_198 : decode cX7_copy 198 = .ok (.iload_n 3, 1) := by decide +kernel
theorem dX7_copy_199 : decode cX7_copy 199 = .ok (.imul, 1) := by decide +kernel
theorem dX7_copy_200 : decode cX7_copy 200 = .ok (.iload 4, 2) := by decide +kernel
theorem dX7_copy_202 : decode cX7_copy 202 = .ok (.iadd, 1) := by decide +kernel
theorem dX7_copy_203 : decode cX7_copy 203 = .ok (.iload 9, 2) := by decide +kernel
theorem dX7_copy_205 : decode cX7_copy 205 = .ok (.iadd, 1) := by decide +kernel
theorem dX7_copy_206 : decode cX7_copy 206 = .ok (.aload_n 0, 1) := by decide +kernel
theorem dX7_copy_207 : decode cX7_copy 207 = .ok (.getfield 16, 3) := by decide +kernel
theorem dX7_copy_210 : decode cX7_copy 210 = .ok (.bipush 100, 2) := by decide +kernel
theorem dX7_copy_212 : decode cX7_copy 212 = .ok (.iload_n 1, 1) := by decide +kernel
theorem dX7_copy_213 : decode cX7_copy 213 = .ok (.imul, 1) := by decide +kernel
theorem dX7_copy_214 : decode cX7_copy 214 = .ok (.iload_n 2, 1) := by decide +kernel
theorem dX7_copy_215 : decode cX7_copy 215 = .ok (.iadd, 1) := by decide +kernel
theorem dX7_copy_216 : decode cX7_copy 216 = .ok (.iload 9, 2) := by decide +kernel
theorem dX7_copy_218 : decode cX7_copy 218 = .ok (.iadd, 1) := by decide +kernel
theorem dX7_copy_219 : decode cX7_copy 219 = .ok (.iaload, 1) := by decide +kernel
theorem dX7_copy_220 : decode cX7_copy 220 = .ok (.iastore, 1) := by decide +kernel
theorem dX7_copy_221 : decode cX7_copy 221 = .ok (.iinc 8 1, 3) := by decide +kernel
theorem dX7_copy_224 : decode cX7_copy 224 = .ok (.goto (-58), 3) := by decide +kernel
theorem dX7_copy_227 : decode cX7_copy 227 = .ok (.iload 5, 2) := by decide +kernel
theorem dX7_copy_229 : decode cX7_copy 229 = .ok (.ireturn, 1) := by decide +kernel
theorem dX7_begins_0 : decode cX7_begins 0 = .ok (.aload_n 0, 1) := by decide +kernel
theorem dX7_begins_1 : decode cX7_begins 1 = .ok (.bipush 31, 2) := by decide +kernel
theorem dX7_begins_3 : decode cX7_begins 3 = .ok (.aload_n 0, 1) := by decide +kernel
theorem dX7_begins_4 : decode cX7_begins 4 = .ok (.getfield 316, 3) := by decide +kernel
theorem dX7_begins_7 : decode cX7_begins 7 = .ok (.imul, 1) := by decide +kernel
theorem dX7_begins_8 : decode cX7_begins 8 = .ok (.iload_n 1, 1) := by decide +kernel
theorem dX7_begins_9 : decode cX7_begins 9 = .ok (.iadd, 1) := by decide +kernel
theorem dX7_begins_10 : decode cX7_begins 10 = .ok (.putfield 316, 3) := by decide +kernel
theorem dX7_begins_13 : decode cX7_begins 13 = .ok (.return_, 1) := by decide +kernel
theorem dX7_tell_0 : decode cX7_tell 0 = .ok (.aload_n 0, 1) := by decide +kernel
theorem dX7_tell_1 : decode cX7_tell 1 = .ok (.iload_n 1, 1) := by decide +kernel
theorem dX7_tell_2 : decode cX7_tell 2 = .ok (.invokevirtual 184, 3) := by decide +kernel
theorem dX7_tell_5 : decode cX7_tell 5 = .ok (.ifCond .ne 5, 3) := by decide +kernel
theorem dX7_tell_8 : decode cX7_tell 8 = .ok (.iconst (-1), 1) := by decide +kernel
theorem dX7_tell_9 : decode cX7_tell 9 = .ok (.ireturn, 1) := by decide +kernel
theorem dX7_tell_10 : decode cX7_tell 10 = .ok (.aload_n 0, 1) := by decide +kernel
theorem dX7_tell_11 : decode cX7_tell 11 = .ok (.getfield 28, 3) := by decide +kernel
theorem dX7_tell_14 : decode cX7_tell 14 = .ok (.iload_n 1, 1) := by decide +kernel
theorem dX7_tell_15 : decode cX7_tell 15 = .ok (.iaload, 1) := by decide +kernel
theorem dX7_tell_16 : decode cX7_tell 16 = .ok (.istore_n 2, 1) := by decide +kernel
theorem dX7_tell_17 : decode cX7_tell 17 = .ok (.aload_n 0, 1) := by decide +kernel
theorem dX7_tell_18 : decode cX7_tell 18 = .ok (.getfield 25, 3) := by decide +kernel
theorem dX7_tell_21 : decode cX7_tell 21 = .ok (.iload_n 1, 1) := by decide +kernel
theorem dX7_tell_22 : decode cX7_tell 22 = .ok (.iaload, 1) := by decide +kernel
theorem dX7_tell_23 : decode cX7_tell 23 = .ok (.lookupswitch 67 #[(1, 25), (2, 40)], 25) := by decide +kernel
theorem dX7_tell_48 : decode cX7_tell 48 = .ok (.aload_n 0, 1) := by decide +kernel
theorem dX7_tell_49 : decode cX7_tell 49 = .ok (.iconst 2, 1) := by decide +kernel
theorem dX7_tell_50 : decode cX7_tell 50 = .ok (.invokevirtual 319, 3) := by decide +kernel
theorem dX7_tell_53 : decode cX7_tell 53 = .ok (.aload_n 0, 1) := by decide +kernel
theorem dX7_tell_54 : decode cX7_tell 54 = .ok (.iconst 1, 1) := by decide +kernel
theorem dX7_tell_55 : decode cX7_tell 55 = .ok (.invokevirtual 319, 3) := by decide +kernel
theorem dX7_tell_58 : decode cX7_tell 58 = .ok (.iload_n 2, 1) := by decide +kernel
theorem dX7_tell_59 : decode cX7_tell 59 = .ok (.bipush 100, 2) := by decide +kernel
theorem dX7_tell_61 : decode cX7_tell 61 = .ok (.iadd, 1) := by decide +kernel
theorem dX7_tell_62 : decode cX7_tell 62 = .ok (.ireturn, 1) := by decide +kernel
theorem dX7_tell_63 : decode cX7_tell 63 = .ok (.aload_n 0, 1) := by decide +kernel
theorem dX7_tell_64 : decode cX7_tell 64 = .ok (.iconst 3, 1) := by decide +kernel
theorem dX7_tell_65 : decode cX7_tell 65 = .ok (.invokevirtual 319, 3) := by decide +kernel
theorem dX7_tell_68 : decode cX7_tell 68 = .ok (.aload_n 0, 1) := by decide +kernel
theorem dX7_tell_69 : decode cX7_tell 69 = .ok (.iconst 2, 1) := by decide +kernel
theorem dX7_tell_70 : decode cX7_tell 70 = .ok (.invokevirtual 319, 3) := by decide +kernel
theorem dX7_tell_73 : decode cX7_tell 73 = .ok (.aload_n 0, 1) := by decide +kernel
theorem dX7_tell_74 : decode cX7_tell 74 = .ok (.iconst 1, 1) := by decide +kernel
theorem dX7_tell_75 : decode cX7_tell 75 = .ok (.invokevirtual 319, 3) := by decide +kernel
theorem dX7_tell_78 : decode cX7_tell 78 = .ok (.aload_n 0, 1) := by decide +kernel
theorem dX7_tell_79 : decode cX7_tell 79 = .ok (.iconst 1, 1) := by decide +kernel
theorem dX7_tell_80 : decode cX7_tell 80 = .ok (.invokevirtual 319, 3) := by decide +kernel
theorem dX7_tell_83 : decode cX7_tell 83 = .ok (.iconst 2, 1) := by decide +kernel
theorem dX7_tell_84 : decode cX7_tell 84 = .ok (.iload_n 2, 1) := by decide +kernel
theorem dX7_tell_85 : decode cX7_tell 85 = .ok (.imul, 1) := by decide +kernel
theorem dX7_tell_86 : decode cX7_tell 86 = .ok (.bipush 100, 2) := by decide +kernel
theorem dX7_tell_88 : decode cX7_tell 88 = .ok (.iadd, 1) := by decide +kernel
theorem dX7_tell_89 : decode cX7_tell 89 = .ok (.ireturn, 1) := by decide +kernel
theorem dX7_tell_90 : decode cX7_tell 90 = .ok (.aload_n 0, 1) := by decide +kernel
theorem dX7_tell_91 : decode cX7_tell 91 = .ok (.iconst 1, 1) := by decide +kernel
theorem dX7_tell_92 : decode cX7_tell 92 = .ok (.invokevirtual 319, 3) := by decide +kernel
theorem dX7_tell_95 : decode cX7_tell 95 = .ok (.iload_n 2, 1) := by decide +kernel
theorem dX7_tell_96 : decode cX7_tell 96 = .ok (.ireturn, 1) := by decide +kernel
theorem dX7_greet_0 : decode cX7_greet 0 = .ok (.aload_n 0, 1) := by decide +kernel
theorem dX7_greet_1 : decode cX7_greet 1 = .ok (.iload_n 1, 1) := by decide +kernel
theorem dX7_greet_2 : decode cX7_greet 2 = .ok (.invokevirtual 184, 3) := by decide +kernel
theorem dX7_greet_5 : decode cX7_greet 5 = .ok (.ifCond .ne 5, 3) := by decide +kernel
theorem dX7_greet_8 : decode cX7_greet 8 = .ok (.iconst (-1), 1) := by decide +kernel
theorem dX7_greet_9 : decode cX7_greet 9 = .ok (.ireturn, 1) := by decide +kernel
theorem dX7_greet_10 : decode cX7_greet 10 = .ok (.aload_n 0, 1) := by decide +kernel
theorem dX7_greet_11 : decode cX7_greet 11 = .ok (.aload_n 0, 1) := by decide +kernel
theorem dX7_greet_12 : decode cX7_greet 12 = .ok (.getfield 25, 3) := by decide +kernel
theorem dX7_greet_15 : decode cX7_greet 15 = .ok (.iload_n 1, 1) := by decide +kernel
theorem dX7_greet_16 : decode cX7_greet 16 = .ok (.iaload, 1) := by decide +kernel
theorem dX7_greet_17 : decode cX7_greet 17 = .ok (.iconst 2, 1) := by decide +kernel
theorem dX7_greet_18 : decode cX7_greet 18 = .ok (.if_icmp .ne 7, 3) := by decide +kernel
theorem dX7_greet_21 : decode cX7_greet 21 = .ok (.iconst 5, 1) := by decide +kernel
theorem dX7_greet_22 : decode cX7_greet 22 = .ok (.goto 4, 3) := by decide +kernel
theorem dX7_greet_25 : decode cX7_greet 25 = .ok (.iconst 4, 1) := by decide +kernel
theorem dX7_greet_26 : decode cX7_greet 26 = .ok (.invokevirtual 319, 3) := by decide +kernel
theorem dX7_greet_29 : decode cX7_greet 29 = .ok (.aload_n 0, 1) := by decide +kernel
theorem dX7_greet_30 : decode cX7_greet 30 = .ok (.getfield 25, 3) := by decide +kernel
theorem dX7_greet_33 : decode cX7_greet 33 = .ok (.iload_n 1, 1) := by decide +kernel
theorem dX7_greet_34 : decode cX7_greet 34 = .ok (.iaload, 1) := by decide +kernel
theorem dX7_greet_35 : decode cX7_greet 35 = .ok (.iconst 2, 1) := by decide +kernel
theorem dX7_greet_36 : decode cX7_greet 36 = .ok (.if_icmp .ne 8, 3) := by decide +kernel
theorem dX7_greet_39 : decode cX7_greet 39 = .ok (.bipush 70, 2) := by decide +kernel
theorem dX7_greet_41 : decode cX7_greet 41 = .ok (.goto 4, 3) := by decide +kernel
theorem dX7_greet_44 : decode cX7_greet 44 = .ok (.iload_n 1, 1) := by decide +kernel
theorem dX7_greet_45 : decode cX7_greet 45 = .ok (.ireturn, 1) := by decide +kernel
theorem dX7_as_0 : decode cX7_as 0 = .ok (.aload_n 0, 1) := by decide +kernel
theorem dX7_as_1 : decode cX7_as 1 = .ok (.iconst 0, 1) := by decide +kernel
theorem dX7_as_2 : decode cX7_as 2 = .ok (.putfield 115, 3) := by decide +kernel
theorem dX7_as_5 : decode cX7_as 5 = .ok (.aload_n 0, 1) := by decide +kernel
theorem dX7_as_6 : decode cX7_as 6 = .ok (.iload_n 1, 1) := by decide +kernel
theorem dX7_as_7 : decode cX7_as 7 = .ok (.invokevirtual 184, 3) := by decide +kernel
theorem dX7_as_10 : decode cX7_as 10 = .ok (.ifCond .ne 5, 3) := by decide +kernel
theorem dX7_as_13 : decode cX7_as 13 = .ok (.iconst (-1), 1) := by decide +kernel
theorem dX7_as_14 : decode cX7_as 14 = .ok (.ireturn, 1) := by decide +kernel
theorem dX7_as_15 : decode cX7_as 15 = .ok (.iload_n 2, 1) := by decide +kernel
theorem dX7_as_16 : decode cX7_as 16 = .ok (.iconst 0, 1) := by decide +kernel
theorem dX7_as_17 : decode cX7_as 17 = .ok (.iconst 2, 1) := by decide +kernel
theorem dX7_as_18 : decode cX7_as 18 = .ok (.invokestatic 121, 3) := by decide +kernel
theorem dX7_as_21 : decode cX7_as 21 = .ok (.ifCond .ne 6, 3) := by decide +kernel
theorem dX7_as_24 : decode cX7_as 24 = .ok (.bipush (-2), 2) := by decide +kernel
theorem dX7_as_26 : decode cX7_as 26 = .ok (.ireturn, 1) := by decide +kernel
theorem dX7_as_27 : decode cX7_as 27 = .ok (.aload_n 0, 1) := by decide +kernel
theorem dX7_as_28 : decode cX7_as 28 = .ok (.getfield 25, 3) := by decide +kernel
theorem dX7_as_31 : decode cX7_as 31 = .ok (.iload_n 1, 1) := by decide +kernel
theorem dX7_as_32 : decode cX7_as 32 = .ok (.iaload, 1) := by decide +kernel
theorem dX7_as_33 : decode cX7_as 33 = .ok (.iload_n 2, 1) := by decide +kernel
theorem dX7_as_34 : decode cX7_as 34 = .ok (.if_icmp .lt 7, 3) := by decide +kernel
theorem dX7_as_37 : decode cX7_as 37 = .ok (.iconst 1, 1) := by decide +kernel
theorem dX7_as_38 : decode cX7_as 38 = .ok (.goto 8, 3) := by decide +kernel
theorem dX7_as_41 : decode cX7_as 41 = .ok (.aload_n 0, 1) := by decide +kernel
theorem dX7_as_42 : decode cX7_as 42 = .ok (.iconst 2, 1) := by decide +kernel
theorem dX7_as_43 : decode cX7_as 43 = .ok (.invokevirtual 145, 3) := by decide +kernel
theorem dX7_as_46 : decode cX7_as 46 = .ok (.ireturn, 1) := by decide +kernel
theorem dX7_trace_0 : decode cX7_trace 0 = .ok (.aload_n 0, 1) := by decide +kernel
theorem dX7_trace_1 : decode cX7_trace 1 = .ok (.getfield 316, 3) := by decide +kernel
theorem dX7_trace_4 : decode cX7_trace 4 = .ok (.ireturn, 1) := by decide +kernel
theorem dX7_fault_0 : decode cX7_fault 0 = .ok (.aload_n 0, 1) := by decide +kernel
theorem dX7_fault_1 : decode cX7_fault 1 = .ok (.getfield 115, 3) := by decide +kernel
theorem dX7_fault_4 : decode cX7_fault 4 = .ok (.ireturn, 1) := by decide +kernel
theorem dX7_many_0 : decode cX7_many 0 = .ok (.iload_n 1, 1) := by decide +kernel
theorem dX7_many_1 : decode cX7_many 1 = .ok (.tableswitch 82 0 4 #[35, 40, 45, 61, 77], 35) := by decide +kernel
theorem dX7_many_36 : decode cX7_many 36 = .ok (.aload_n 0, 1) := by decide +kernel
theorem dX7_many_37 : decode cX7_many 37 = .ok (.getfield 125, 3) := by decide +kernel
theorem dX7_many_40 : decode cX7_many 40 = .ok (.ireturn, 1) := by decide +kernel
theorem dX7_many_41 : decode cX7_many 41 = .ok (.aload_n 0, 1) := by decide +kernel
theorem dX7_many_42 : decode cX7_many 42 = .ok (.getfield 128, 3) := by decide +kernel
theorem dX7_many_45 : decode cX7_many 45 = .ok (.ireturn, 1) := by decide +kernel
theorem dX7_many_46 : decode cX7_many 46 = .ok (.aload_n 0, 1) := by decide +kernel
theorem dX7_many_47 : decode cX7_many 47 = .ok (.invokevirtual 190, 3) := by decide +kernel
theorem dX7_many_50 : decode cX7_many 50 = .ok (.ifCond .eq 10, 3) := by decide +kernel
theorem dX7_many_53 : decode cX7_many 53 = .ok (.aload_n 0, 1) := by decide +kernel
theorem dX7_many_54 : decode cX7_many 54 = .ok (.getfield 161, 3) := by decide +kernel
theorem dX7_many_57 : decode cX7_many 57 = .ok (.goto 4, 3) := by decide +kernel
theorem dX7_many_60 : decode cX7_many 60 = .ok (.iconst 0, 1) := by decide +kernel
theorem dX7_many_61 : decode cX7_many 61 = .ok (.ireturn, 1) := by decide +kernel
theorem dX7_many_62 : decode cX7_many 62 = .ok (.aload_n 0, 1) := by decide +kernel
theorem dX7_many_63 : decode cX7_many 63 = .ok (.invokevirtual 190, 3) := by decide +kernel
theorem dX7_many_66 : decode cX7_many 66 = .ok (.ifCond .eq 10, 3) := by decide +kernel
theorem dX7_many_69 : decode cX7_many 69 = .ok (.aload_n 0, 1) := by decide +kernel
theorem dX7_many_70 : decode cX7_many 70 = .ok (.getfield 164, 3) := by decide +kernel
theorem dX7_many_73 : decode cX7_many 73 = .ok (.goto 4, 3) := by decide +kernel
theorem dX7_many_76 : decode cX7_many 76 = .ok (.iconst 0, 1) := by decide +kernel
theorem dX7_many_77 : decode cX7_many 77 = .ok (.ireturn, 1) := by decide +kernel
theorem dX7_many_78 : decode cX7_many 78 = .ok (.aload_n 0, 1) := by decide +kernel
theorem dX7_many_79 : decode cX7_many 79 = .ok (.getfield 167, 3) := by decide +kernel
theorem dX7_many_82 : decode cX7_many 82 = .ok (.ireturn, 1) := by decide +kernel
theorem dX7_many_83 : decode cX7_many 83 = .ok (.bipush (-2), 2) := by decide +kernel
theorem dX7_many_85 : decode cX7_many 85 = .ok (.ireturn, 1) := by decide +kernel
