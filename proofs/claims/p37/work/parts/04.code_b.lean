theorem dX6_init_0 : decode cX6_init 0 = .ok (.aload_n 0, 1) := by decide +kernel
theorem dX6_init_1 : decode cX6_init 1 = .ok (.invokespecial 3, 3) := by decide +kernel
theorem dX6_init_4 : decode cX6_init 4 = .ok (.aload_n 0, 1) := by decide +kernel
theorem dX6_init_5 : decode cX6_init 5 = .ok (.iconst 4, 1) := by decide +kernel
theorem dX6_init_6 : decode cX6_init 6 = .ok (.anewarray 11, 3) := by decide +kernel
theorem dX6_init_9 : decode cX6_init 9 = .ok (.putfield 13, 3) := by decide +kernel
theorem dX6_init_12 : decode cX6_init 12 = .ok (.aload_n 0, 1) := by decide +kernel
theorem dX6_init_13 : decode cX6_init 13 = .ok (.new 17, 3) := by decide +kernel
theorem dX6_init_16 : decode cX6_init 16 = .ok (.dup, 1) := by decide +kernel
theorem dX6_init_17 : decode cX6_init 17 = .ok (.invokespecial 19, 3) := by decide +kernel
theorem dX6_init_20 : decode cX6_init 20 = .ok (.putfield 20, 3) := by decide +kernel
theorem dX6_init_23 : decode cX6_init 23 = .ok (.aload_n 0, 1) := by decide +kernel
theorem dX6_init_24 : decode cX6_init 24 = .ok (.new 17, 3) := by decide +kernel
theorem dX6_init_27 : decode cX6_init 27 = .ok (.dup, 1) := by decide +kernel
theorem dX6_init_28 : decode cX6_init 28 = .ok (.invokespecial 19, 3) := by decide +kernel
theorem dX6_init_31 : decode cX6_init 31 = .ok (.putfield 24, 3) := by decide +kernel
theorem dX6_init_34 : decode cX6_init 34 = .ok (.aload_n 0, 1) := by decide +kernel
theorem dX6_init_35 : decode cX6_init 35 = .ok (.new 27, 3) := by decide +kernel
theorem dX6_init_38 : decode cX6_init 38 = .ok (.dup, 1) := by decide +kernel
theorem dX6_init_39 : decode cX6_init 39 = .ok (.invokespecial 29, 3) := by decide +kernel
theorem dX6_init_42 : decode cX6_init 42 = .ok (.putfield 30, 3) := by decide +kernel
theorem dX6_init_45 : decode cX6_init 45 = .ok (.aload_n 0, 1) := by decide +kernel
theorem dX6_init_46 : decode cX6_init 46 = .ok (.new 27, 3) := by decide +kernel
theorem dX6_init_49 : decode cX6_init 49 = .ok (.dup, 1) := by decide +kernel
theorem dX6_init_50 : decode cX6_init 50 = .ok (.invokespecial 29, 3) := by decide +kernel
theorem dX6_init_53 : decode cX6_init 53 = .ok (.putfield 34, 3) := by decide +kernel
theorem dX6_init_56 : decode cX6_init 56 = .ok (.aload_n 0, 1) := by decide +kernel
theorem dX6_init_57 : decode cX6_init 57 = .ok (.new 27, 3) := by decide +kernel
theorem dX6_init_60 : decode cX6_init 60 = .ok (.dup, 1) := by decide +kernel
theorem dX6_init_61 : decode cX6_init 61 = .ok (.invokespecial 29, 3) := by decide +kernel
theorem dX6_init_64 : decode cX6_init 64 = .ok (.putfield 37, 3) := by decide +kernel
theorem dX6_init_67 : decode cX6_init 67 = .ok (.aload_n 0, 1) := by decide +kernel
theorem dX6_init_68 : decode cX6_init 68 = .ok (.new 40, 3) := by decide +kernel
theorem dX6_init_71 : decode cX6_init 71 = .ok (.dup, 1) := by decide +kernel
theorem dX6_init_72 : decode cX6_init 72 = .ok (.invokespecial 42, 3) := by decide +kernel
theorem dX6_init_75 : decode cX6_init 75 = .ok (.putfield 43, 3) := by decide +kernel
theorem dX6_init_78 : decode cX6_init 78 = .ok (.aload_n 0, 1) := by decide +kernel
theorem dX6_init_79 : decode cX6_init 79 = .ok (.new 40, 3) := by decide +kernel
theorem dX6_init_82 : decode cX6_init 82 = .ok (.dup, 1) := by decide +kernel
theorem dX6_init_83 : decode cX6_init 83 = .ok (.invokespecial 42, 3) := by decide +kernel
theorem dX6_init_86 : decode cX6_init 86 = .ok (.putfield 47, 3) := by decide +kernel
theorem dX6_init_89 : decode cX6_init 89 = .ok (.aload_n 0, 1) := by decide +kernel
theorem dX6_init_90 : decode cX6_init 90 = .ok (.new 50, 3) := by decide +kernel
theorem dX6_init_93 : decode cX6_init 93 = .ok (.dup, 1) := by decide +kernel
theorem dX6_init_94 : decode cX6_init 94 = .ok (.invokespecial 52, 3) := by decide +kernel
theorem dX6_init_97 : decode cX6_init 97 = .ok (.putfield 53, 3) := by decide +kernel
theorem dX6_init_100 : decode cX6_init 100 = .ok (.aload_n 0, 1) := by decide +kernel
theorem dX6_init_101 : decode cX6_init 101 = .ok (.new 57, 3) := by decide +kernel
theorem dX6_init_104 : decode cX6_init 104 = .ok (.dup, 1) := by decide +kernel
theorem dX6_init_105 : decode cX6_init 105 = .ok (.invokespecial 59, 3) := by decide +kernel
theorem dX6_init_108 : decode cX6_init 108 = .ok (.putfield 60, 3) := by decide +kernel
theorem dX6_init_111 : decode cX6_init 111 = .ok (.iconst 0, 1) := by decide +kernel
theorem dX6_init_112 : decode cX6_init 112 = .ok (.istore_n 1, 1) := by decide +kernel
theorem dX6_init_113 : decode cX6_init 113 = .ok (.iload_n 1, 1) := by decide +kernel
theorem dX6_init_114 : decode cX6_init 114 = .ok (.iconst 4, 1) := by decide +kernel
theorem dX6_init_115 : decode cX6_init 115 = .ok (.if_icmp .ge 22, 3) := by decide +kernel
theorem dX6_init_118 : decode cX6_init 118 = .ok (.aload_n 0, 1) := by decide +kernel
theorem dX6_init_119 : decode cX6_init 119 = .ok (.getfield 13, 3) := by decide +kernel
theorem dX6_init_122 : decode cX6_init 122 = .ok (.iload_n 1, 1) := by decide +kernel
theorem dX6_init_123 : decode cX6_init 123 = .ok (.new 11, 3) := by decide +kernel
theorem dX6_init_126 : decode cX6_init 126 = .ok (.dup, 1) := by decide +kernel
theorem dX6_init_127 : decode cX6_init 127 = .ok (.invokespecial 64, 3) := by decide +kernel
theorem dX6_init_130 : decode cX6_init 130 = .ok (.aastore, 1) := by decide +kernel
theorem dX6_init_131 : decode cX6_init 131 = .ok (.iinc 1 1, 3) := by decide +kernel
theorem dX6_init_134 : decode cX6_init 134 = .ok (.goto (-21), 3) := by decide +kernel
theorem dX6_init_137 : decode cX6_init 137 = .ok (.return_, 1) := by decide +kernel
theorem dX6_table_0 : decode cX6_table 0 = .ok (.aload_n 0, 1) := by decide +kernel
theorem dX6_table_1 : decode cX6_table 1 = .ok (.iload_n 1, 1) := by decide +kernel
theorem dX6_table_2 : decode cX6_table 2 = .ok (.iload_n 2, 1) := by decide +kernel
theorem dX6_table_3 : decode cX6_table 3 = .ok (.iload_n 3, 1) := by decide +kernel
theorem dX6_table_4 : decode cX6_table 4 = .ok (.iload 4, 2) := by decide +kernel
theorem dX6_table_6 : decode cX6_table 6 = .ok (.invokevirtual 65, 3) := by decide +kernel
theorem dX6_table_9 : decode cX6_table 9 = .ok (.istore 5, 2) := by decide +kernel
theorem dX6_table_11 : decode cX6_table 11 = .ok (.iload 5, 2) := by decide +kernel
theorem dX6_table_13 : decode cX6_table 13 = .ok (.ifCond .eq 6, 3) := by decide +kernel
theorem dX6_table_16 : decode cX6_table 16 = .ok (.iload 5, 2) := by decide +kernel
theorem dX6_table_18 : decode cX6_table 18 = .ok (.ireturn, 1) := by decide +kernel
theorem dX6_table_19 : decode cX6_table 19 = .ok (.aload_n 0, 1) := by decide +kernel
theorem dX6_table_20 : decode cX6_table 20 = .ok (.getfield 24, 3) := by decide +kernel
theorem dX6_table_23 : decode cX6_table 23 = .ok (.aload_n 0, 1) := by decide +kernel
theorem dX6_table_24 : decode cX6_table 24 = .ok (.getfield 13, 3) := by decide +kernel
theorem dX6_table_27 : decode cX6_table 27 = .ok (.iload_n 1, 1) := by decide +kernel
theorem dX6_table_28 : decode cX6_table 28 = .ok (.aaload, 1) := by decide +kernel
theorem dX6_table_29 : decode cX6_table 29 = .ok (.iload_n 3, 1) := by decide +kernel
theorem dX6_table_30 : decode cX6_table 30 = .ok (.iload 4, 2) := by decide +kernel
theorem dX6_table_32 : decode cX6_table 32 = .ok (.invokevirtual 69, 3) := by decide +kernel
theorem dX6_table_35 : decode cX6_table 35 = .ok (.ifCond .ne 14, 3) := by decide +kernel
theorem dX6_table_38 : decode cX6_table 38 = .ok (.bipush (-100), 2) := by decide +kernel
theorem dX6_table_40 : decode cX6_table 40 = .ok (.aload_n 0, 1) := by decide +kernel
theorem dX6_table_41 : decode cX6_table 41 = .ok (.getfield 24, 3) := by decide +kernel
theorem dX6_table_44 : decode cX6_table 44 = .ok (.invokevirtual 73, 3) := by decide +kernel
theorem dX6_table_47 : decode cX6_table 47 = .ok (.isub, 1) := by decide +kernel
theorem dX6_table_48 : decode cX6_table 48 = .ok (.ireturn, 1) := by decide +kernel
theorem dX6_table_49 : decode cX6_table 49 = .ok (.aload_n 0, 1) := by decide +kernel
theorem dX6_table_50 : decode cX6_table 50 = .ok (.getfield 20, 3) := by decide +kernel
theorem dX6_table_53 : decode cX6_table 53 = .ok (.astore 6, 2) := by decide +kernel
theorem dX6_table_55 : decode cX6_table 55 = .ok (.aload_n 0, 1) := by decide +kernel
theorem dX6_table_56 : decode cX6_table 56 = .ok (.aload_n 0, 1) := by decide +kernel
theorem dX6_table_57 : decode cX6_table 57 = .ok (.getfield 24, 3) := by decide +kernel
theorem dX6_table_60 : decode cX6_table 60 = .ok (.putfield 20, 3) := by decide +kernel
theorem dX6_table_63 : decode cX6_table 63 = .ok (.aload_n 0, 1) := by decide +kernel
theorem dX6_table_64 : decode cX6_table 64 = .ok (.aload 6, 2) := by decide +kernel
theorem dX6_table_66 : decode cX6_table 66 = .ok (.putfield 24, 3) := by decide +kernel
theorem dX6_table_69 : decode cX6_table 69 = .ok (.aload_n 0, 1) := by decide +kernel
theorem dX6_table_70 : decode cX6_table 70 = .ok (.getfield 30, 3) := by decide +kernel
theorem dX6_table_73 : decode cX6_table 73 = .ok (.aload_n 0, 1) := by decide +kernel
theorem dX6_table_74 : decode cX6_table 74 = .ok (.getfield 20, 3) := by decide +kernel
theorem dX6_table_77 : decode cX6_table 77 = .ok (.invokevirtual 77, 3) := by decide +kernel
theorem dX6_table_80 : decode cX6_table 80 = .ok (.aload_n 0, 1) := by decide +kernel
theorem dX6_table_81 : decode cX6_table 81 = .ok (.iconst 0, 1) := by decide +kernel
theorem dX6_table_82 : decode cX6_table 82 = .ok (.putfield 81, 3) := by decide +kernel
theorem dX6_table_85 : decode cX6_table 85 = .ok (.aload_n 0, 1) := by decide +kernel
theorem dX6_table_86 : decode cX6_table 86 = .ok (.invokevirtual 85, 3) := by decide +kernel
theorem dX6_table_89 : decode cX6_table 89 = .ok (.aload_n 0, 1) := by decide +kernel
theorem dX6_table_90 : decode cX6_table 90 = .ok (.getfield 20, 3) := by decide +kernel
theorem dX6_table_93 : decode cX6_table 93 = .ok (.getfield 88, 3) := by decide +kernel
theorem dX6_table_96 : decode cX6_table 96 = .ok (.ireturn, 1) := by decide +kernel
theorem dX6_ofGuest_0 : decode cX6_ofGuest 0 = .ok (.aload_n 0, 1) := by decide +kernel
theorem dX6_ofGuest_1 : decode cX6_ofGuest 1 = .ok (.iload_n 1, 1) := by decide +kernel
theorem dX6_ofGuest_2 : decode cX6_ofGuest 2 = .ok (.invokevirtual 102, 3) := by decide +kernel
theorem dX6_ofGuest_5 : decode cX6_ofGuest 5 = .ok (.ifCond .ne 5, 3) := by decide +kernel
theorem dX6_ofGuest_8 : decode cX6_ofGuest 8 = .ok (.iconst (-1), 1) := by decide +kernel
theorem dX6_ofGuest_9 : decode cX6_ofGuest 9 = .ok (.ireturn, 1) := by decide +kernel
theorem dX6_ofGuest_10 : decode cX6_ofGuest 10 = .ok (.iload_n 2, 1) := by decide +kernel
theorem dX6_ofGuest_11 : decode cX6_ofGuest 11 = .ok (.tableswitch 82 0 4 #[33, 43, 53, 63, 72], 33) := by decide +kernel
theorem dX6_ofGuest_44 : decode cX6_ofGuest 44 = .ok (.aload_n 0, 1) := by decide +kernel
theorem dX6_ofGuest_45 : decode cX6_ofGuest 45 = .ok (.getfield 20, 3) := by decide +kernel
theorem dX6_ofGuest_48 : decode cX6_ofGuest 48 = .ok (.getfield 105, 3) := by decide +kernel
theorem dX6_ofGuest_51 : decode cX6_ofGuest 51 = .ok (.iload_n 1, 1) := by decide +kernel
theorem dX6_ofGuest_52 : decode cX6_ofGuest 52 = .ok (.iaload, 1) := by decide +kernel
theorem dX6_ofGuest_53 : decode cX6_ofGuest 53 = .ok (.ireturn, 1) := by decide +kernel
theorem dX6_ofGuest_54 : decode cX6_ofGuest 54 = .ok (.aload_n 0, 1) := by decide +kernel
theorem dX6_ofGuest_55 : decode cX6_ofGuest 55 = .ok (.getfield 20, 3) := by decide +kernel
theorem dX6_ofGuest_58 : decode cX6_ofGuest 58 = .ok (.getfield 108, 3) := by decide +kernel
theorem dX6_ofGuest_61 : decode cX6_ofGuest 61 = .ok (.iload_n 1, 1) := by decide +kernel
theorem dX6_ofGuest_62 : decode cX6_ofGuest 62 = .ok (.iaload, 1) := by decide +kernel
theorem dX6_ofGuest_63 : decode cX6_ofGuest 63 = .ok (.ireturn, 1) := by decide +kernel
theorem dX6_ofGuest_64 : decode cX6_ofGuest 64 = .ok (.aload_n 0, 1) := by decide +kernel
theorem dX6_ofGuest_65 : decode cX6_ofGuest 65 = .ok (.getfield 20, 3) := by decide +kernel
theorem dX6_ofGuest_68 : decode cX6_ofGuest 68 = .ok (.getfield 111, 3) := by decide +kernel
theorem dX6_ofGuest_71 : decode cX6_ofGuest 71 = .ok (.iload_n 1, 1) := by decide +kernel
theorem dX6_ofGuest_72 : decode cX6_ofGuest 72 = .ok (.iaload, 1) := by decide +kernel
theorem dX6_ofGuest_73 : decode cX6_ofGuest 73 = .ok (.ireturn, 1) := by decide +kernel
theorem dX6_ofGuest_74 : decode cX6_ofGuest 74 = .ok (.aload_n 0, 1) := by decide +kernel
theorem dX6_ofGuest_75 : decode cX6_ofGuest 75 = .ok (.getfield 30, 3) := by decide +kernel
theorem dX6_ofGuest_78 : decode cX6_ofGuest 78 = .ok (.iload_n 1, 1) := by decide +kernel
theorem dX6_ofGuest_79 : decode cX6_ofGuest 79 = .ok (.invokevirtual 114, 3) := by decide +kernel
theorem dX6_ofGuest_82 : decode cX6_ofGuest 82 = .ok (.ireturn, 1) := by decide +kernel
theorem dX6_ofGuest_83 : decode cX6_ofGuest 83 = .ok (.aload_n 0, 1) := by decide +kernel
theorem dX6_ofGuest_84 : decode cX6_ofGuest 84 = .ok (.getfield 30, 3) := by decide +kernel
theorem dX6_ofGuest_87 : decode cX6_ofGuest 87 = .ok (.getfield 118, 3) := by decide +kernel
theorem dX6_ofGuest_90 : decode cX6_ofGuest 90 = .ok (.iload_n 1, 1) := by decide +kernel
theorem dX6_ofGuest_91 : decode cX6_ofGuest 91 = .ok (.iaload, 1) := by decide +kernel
theorem dX6_ofGuest_92 : decode cX6_ofGuest 92 = .ok (.ireturn, 1) := by decide +kernel
theorem dX6_ofGuest_93 : decode cX6_ofGuest 93 = .ok (.bipush (-2), 2) := by decide +kernel
theorem dX6_ofGuest_95 : decode cX6_ofGuest 95 = .ok (.ireturn, 1) := by decide +kernel
theorem dX6_say_0 : decode cX6_say 0 = .ok (.aload_n 0, 1) := by decide +kernel
theorem dX6_say_1 : decode cX6_say 1 = .ok (.iload_n 1, 1) := by decide +kernel
theorem dX6_say_2 : decode cX6_say 2 = .ok (.invokevirtual 102, 3) := by decide +kernel
theorem dX6_say_5 : decode cX6_say 5 = .ok (.ifCond .eq 11, 3) := by decide +kernel
theorem dX6_say_8 : decode cX6_say 8 = .ok (.aload_n 0, 1) := by decide +kernel
theorem dX6_say_9 : decode cX6_say 9 = .ok (.iload_n 2, 1) := by decide +kernel
theorem dX6_say_10 : decode cX6_say 10 = .ok (.invokevirtual 91, 3) := by decide +kernel
theorem dX6_say_13 : decode cX6_say 13 = .ok (.ifCond .ne 5, 3) := by decide +kernel
theorem dX6_say_16 : decode cX6_say 16 = .ok (.iconst (-1), 1) := by decide +kernel
theorem dX6_say_17 : decode cX6_say 17 = .ok (.ireturn, 1) := by decide +kernel
theorem dX6_say_18 : decode cX6_say 18 = .ok (.iload_n 3, 1) := by decide +kernel
theorem dX6_say_19 : decode cX6_say 19 = .ok (.ifCond .lt 9, 3) := by decide +kernel
theorem dX6_say_22 : decode cX6_say 22 = .ok (.iload_n 3, 1) := by decide +kernel
theorem dX6_say_23 : decode cX6_say 23 = .ok (.bipush 9, 2) := by decide +kernel
theorem dX6_say_25 : decode cX6_say 25 = .ok (.if_icmp .le 6, 3) := by decide +kernel
theorem dX6_say_28 : decode cX6_say 28 = .ok (.bipush (-2), 2) := by decide +kernel
theorem dX6_say_30 : decode cX6_say 30 = .ok (.ireturn, 1) := by decide +kernel
theorem dX6_say_31 : decode cX6_say 31 = .ok (.aload_n 0, 1) := by decide +kernel
theorem dX6_say_32 : decode cX6_say 32 = .ok (.getfield 20, 3) := by decide +kernel
theorem dX6_say_35 : decode cX6_say 35 = .ok (.iload_n 1, 1) := by decide +kernel
theorem dX6_say_36 : decode cX6_say 36 = .ok (.iload_n 2, 1) := by decide +kernel
theorem dX6_say_37 : decode cX6_say 37 = .ok (.invokevirtual 128, 3) := by decide +kernel
theorem dX6_say_40 : decode cX6_say 40 = .ok (.ifCond .ne 6, 3) := by decide +kernel
theorem dX6_say_43 : decode cX6_say 43 = .ok (.bipush (-3), 2) := by decide +kernel
theorem dX6_say_45 : decode cX6_say 45 = .ok (.ireturn, 1) := by decide +kernel
theorem dX6_say_46 : decode cX6_say 46 = .ok (.aload_n 0, 1) := by decide +kernel
theorem dX6_say_47 : decode cX6_say 47 = .ok (.getfield 30, 3) := by decide +kernel
theorem dX6_say_50 : decode cX6_say 50 = .ok (.getfield 121, 3) := by decide +kernel
theorem dX6_say_53 : decode cX6_say 53 = .ok (.iload_n 1, 1) := by decide +kernel
theorem dX6_say_54 : decode cX6_say 54 = .ok (.aaload, 1) := by decide +kernel
theorem dX6_say_55 : decode cX6_say 55 = .ok (.iload_n 2, 1) := by decide +kernel
theorem dX6_say_56 : decode cX6_say 56 = .ok (.iaload, 1) := by decide +kernel
theorem dX6_say_57 : decode cX6_say 57 = .ok (.istore 4, 2) := by decide +kernel
theorem dX6_say_59 : decode cX6_say 59 = .ok (.aload_n 0, 1) := by decide +kernel
theorem dX6_say_60 : decode cX6_say 60 = .ok (.getfield 30, 3) := by decide +kernel
theorem dX6_say_63 : decode cX6_say 63 = .ok (.getfield 121, 3) := by decide +kernel
theorem dX6_say_66 : decode cX6_say 66 = .ok (.iload_n 1, 1) := by decide +kernel
theorem dX6_say_67 : decode cX6_say 67 = .ok (.aaload, 1) := by decide +kernel
theorem dX6_say_68 : decode cX6_say 68 = .ok (.iload_n 2, 1) := by decide +kernel
theorem dX6_say_69 : decode cX6_say 69 = .ok (.iload_n 3, 1) := by decide +kernel
theorem dX6_say_70 : decode cX6_say 70 = .ok (.iastore, 1) := by decide +kernel
theorem dX6_say_71 : decode cX6_say 71 = .ok (.aload_n 0, 1) := by decide +kernel
theorem dX6_say_72 : decode cX6_say 72 = .ok (.invokevirtual 85, 3) := by decide +kernel
theorem dX6_say_75 : decode cX6_say 75 = .ok (.iload 4, 2) := by decide +kernel
theorem dX6_say_77 : decode cX6_say 77 = .ok (.ireturn, 1) := by decide +kernel
theorem dX6_swap_0 : decode cX6_swap 0 = .ok (.aload_n 0, 1) := by decide +kernel
theorem dX6_swap_1 : decode cX6_swap 1 = .ok (.iload_n 1, 1) := by decide +kernel
theorem dX6_swap_2 : decode cX6_swap 2 = .ok (.invokevirtual 102, 3) := by decide +kernel
theorem dX6_swap_5 : decode cX6_swap 5 = .ok (.ifCond .eq 11, 3) := by decide +kernel
theorem dX6_swap_8 : decode cX6_swap 8 = .ok (.aload_n 0, 1) := by decide +kernel
theorem dX6_swap_9 : decode cX6_swap 9 = .ok (.iload_n 2, 1) := by decide +kernel
theorem dX6_swap_10 : decode cX6_swap 10 = .ok (.invokevirtual 102, 3) := by decide +kernel
theorem dX6_swap_13 : decode cX6_swap 13 = .ok (.ifCond .ne 5, 3) := by decide +kernel
theorem dX6_swap_16 : decode cX6_swap 16 = .ok (.iconst (-1), 1) := by decide +kernel
theorem dX6_swap_17 : decode cX6_swap 17 = .ok (.ireturn, 1) := by decide +kernel
theorem dX6_swap_18 : decode cX6_swap 18 = .ok (.aload_n 0, 1) := by decide +kernel
theorem dX6_swap_19 : decode cX6_swap 19 = .ok (.getfield 30, 3) := by decide +kernel
theorem dX6_swap_22 : decode cX6_swap 22 = .ok (.iload_n 1, 1) := by decide +kernel
theorem dX6_swap_23 : decode cX6_swap 23 = .ok (.invokevirtual 114, 3) := by decide +kernel
theorem dX6_swap_26 : decode cX6_swap 26 = .ok (.istore_n 3, 1) := by decide +kernel
theorem dX6_swap_27 : decode cX6_swap 27 = .ok (.aload_n 0, 1) := by decide +kernel
theorem dX6_swap_28 : decode cX6_swap 28 = .ok (.getfield 30, 3) := by decide +kernel
theorem dX6_swap_31 : decode cX6_swap 31 = .ok (.iload_n 2, 1) := by decide +kernel
theorem dX6_swap_32 : decode cX6_swap 32 = .ok (.invokevirtual 114, 3) := by decide +kernel
theorem dX6_swap_35 : decode cX6_swap 35 = .ok (.istore 4, 2) := by decide +kernel
theorem dX6_swap_37 : decode cX6_swap 37 = .ok (.aload_n 0, 1) := by decide +kernel
theorem dX6_swap_38 : decode cX6_swap 38 = .ok (.getfield 30, 3) := by decide +kernel
theorem dX6_swap_41 : decode cX6_swap 41 = .ok (.getfield 132, 3) := by decide +kernel
theorem dX6_swap_44 : decode cX6_swap 44 = .ok (.iload_n 3, 1) := by decide +kernel
theorem dX6_swap_45 : decode cX6_swap 45 = .ok (.iload_n 2, 1) := by decide +kernel
theorem dX6_swap_46 : decode cX6_swap 46 = .ok (.iastore, 1) := by decide +kernel
theorem dX6_swap_47 : decode cX6_swap 47 = .ok (.aload_n 0, 1) := by decide +kernel
theorem dX6_swap_48 : decode cX6_swap 48 = .ok (.getfield 30, 3) := by decide +kernel
theorem dX6_swap_51 : decode cX6_swap 51 = .ok (.getfield 132, 3) := by decide +kernel
theorem dX6_swap_54 : decode cX6_swap 54 = .ok (.iload 4, 2) := by decide +kernel
theorem dX6_swap_56 : decode cX6_swap 56 = .ok (.iload_n 1, 1) := by decide +kernel
theorem dX6_swap_57 : decode cX6_swap 57 = .ok (.iastore, 1) := by decide +kernel
theorem dX6_swap_58 : decode cX6_swap 58 = .ok (.aload_n 0, 1) := by decide +kernel
theorem dX6_swap_59 : decode cX6_swap 59 = .ok (.invokevirtual 85, 3) := by decide +kernel
theorem dX6_swap_62 : decode cX6_swap 62 = .ok (.iconst 1, 1) := by decide +kernel
theorem dX6_swap_63 : decode cX6_swap 63 = .ok (.ireturn, 1) := by decide +kernel
theorem dX6_step_0 : decode cX6_step 0 = .ok (.iload_n 1, 1) := by decide +kernel
theorem dX6_step_1 : decode cX6_step 1 = .ok (.iconst 1, 1) := by decide +kernel
theorem dX6_step_2 : decode cX6_step 2 = .ok (.if_icmp .lt 16, 3) := by decide +kernel
theorem dX6_step_5 : decode cX6_step 5 = .ok (.iload_n 1, 1) := by decide +kernel
theorem dX6_step_6 : decode cX6_step 6 = .ok (.aload_n 0, 1) := by decide +kernel
theorem dX6_step_7 : decode cX6_step 7 = .ok (.getfield 20, 3) := by decide +kernel
theorem dX6_step_10 : decode cX6_step 10 = .ok (.getfield 88, 3) := by decide +kernel
theorem dX6_step_13 : decode cX6_step 13 = .ok (.iconst 1, 1) := by decide +kernel
theorem dX6_step_14 : decode cX6_step 14 = .ok (.isub, 1) := by decide +kernel
theorem dX6_step_15 : decode cX6_step 15 = .ok (.if_icmp .le 6, 3) := by decide +kernel
theorem dX6_step_18 : decode cX6_step 18 = .ok (.bipush (-2), 2) := by decide +kernel
theorem dX6_step_20 : decode cX6_step 20 = .ok (.ireturn, 1) := by decide +kernel
theorem dX6_step_21 : decode cX6_step 21 = .ok (.aload_n 0, 1) := by decide +kernel
theorem dX6_step_22 : decode cX6_step 22 = .ok (.getfield 30, 3) := by decide +kernel
theorem dX6_step_25 : decode cX6_step 25 = .ok (.getfield 135, 3) := by decide +kernel
theorem dX6_step_28 : decode cX6_step 28 = .ok (.istore_n 2, 1) := by decide +kernel
theorem dX6_step_29 : decode cX6_step 29 = .ok (.aload_n 0, 1) := by decide +kernel
theorem dX6_step_30 : decode cX6_step 30 = .ok (.getfield 30, 3) := by decide +kernel
theorem dX6_step_33 : decode cX6_step 33 = .ok (.iload_n 1, 1) := by decide +kernel
theorem dX6_step_34 : decode cX6_step 34 = .ok (.putfield 135, 3) := by decide +kernel
theorem dX6_step_37 : decode cX6_step 37 = .ok (.aload_n 0, 1) := by decide +kernel
theorem dX6_step_38 : decode cX6_step 38 = .ok (.invokevirtual 85, 3) := by decide +kernel
theorem dX6_step_41 : decode cX6_step 41 = .ok (.iload_n 2, 1) := by decide +kernel
theorem dX6_step_42 : decode cX6_step 42 = .ok (.ireturn, 1) := by decide +kernel
theorem dX6_courses_0 : decode cX6_courses 0 = .ok (.iload_n 1, 1) := by decide +kernel
theorem dX6_courses_1 : decode cX6_courses 1 = .ok (.iconst 1, 1) := by decide +kernel
theorem dX6_courses_2 : decode cX6_courses 2 = .ok (.if_icmp .lt 9, 3) := by decide +kernel
theorem dX6_courses_5 : decode cX6_courses 5 = .ok (.iload_n 1, 1) := by decide +kernel
theorem dX6_courses_6 : decode cX6_courses 6 = .ok (.bipush 8, 2) := by decide +kernel
theorem dX6_courses_8 : decode cX6_courses 8 = .ok (.if_icmp .le 6, 3) := by decide +kernel
theorem dX6_courses_11 : decode cX6_courses 11 = .ok (.bipush (-2), 2) := by decide +kernel
theorem dX6_courses_13 : decode cX6_courses 13 = .ok (.ireturn, 1) := by decide +kernel
theorem dX6_courses_14 : decode cX6_courses 14 = .ok (.aload_n 0, 1) := by decide +kernel
theorem dX6_courses_15 : decode cX6_courses 15 = .ok (.invokevirtual 138, 3) := by decide +kernel
theorem dX6_courses_18 : decode cX6_courses 18 = .ok (.ifCond .ne 6, 3) := by decide +kernel
theorem dX6_courses_21 : decode cX6_courses 21 = .ok (.bipush (-3), 2) := by decide +kernel
theorem dX6_courses_23 : decode cX6_courses 23 = .ok (.ireturn, 1) := by decide +kernel
theorem dX6_courses_24 : decode cX6_courses 24 = .ok (.aload_n 0, 1) := by decide +kernel
theorem dX6_courses_25 : decode cX6_courses 25 = .ok (.getfield 30, 3) := by decide +kernel
theorem dX6_courses_28 : decode cX6_courses 28 = .ok (.getfield 142, 3) := by decide +kernel
theorem dX6_courses_31 : decode cX6_courses 31 = .ok (.istore_n 2, 1) := by decide +kernel
theorem dX6_courses_32 : decode cX6_courses 32 = .ok (.aload_n 0, 1) := by decide +kernel
theorem dX6_courses_33 : decode cX6_courses 33 = .ok (.getfield 30, 3) := by decide +kernel
theorem dX6_courses_36 : decode cX6_courses 36 = .ok (.iload_n 1, 1) := by decide +kernel
theorem dX6_courses_37 : decode cX6_courses 37 = .ok (.putfield 142, 3) := by decide +kernel
theorem dX6_courses_40 : decode cX6_courses 40 = .ok (.aload_n 0, 1) := by decide +kernel
theorem dX6_courses_41 : decode cX6_courses 41 = .ok (.invokevirtual 85, 3) := by decide +kernel
theorem dX6_courses_44 : decode cX6_courses 44 = .ok (.iload_n 2, 1) := by decide +kernel
theorem dX6_courses_45 : decode cX6_courses 45 = .ok (.ireturn, 1) := by decide +kernel
theorem dX6_dine_0 : decode cX6_dine 0 = .ok (.aload_n 0, 1) := by decide +kernel
theorem dX6_dine_1 : decode cX6_dine 1 = .ok (.invokevirtual 138, 3) := by decide +kernel
theorem dX6_dine_4 : decode cX6_dine 4 = .ok (.ifCond .ne 6, 3) := by decide +kernel
theorem dX6_dine_7 : decode cX6_dine 7 = .ok (.bipush (-3), 2) := by decide +kernel
theorem dX6_dine_9 : decode cX6_dine 9 = .ok (.ireturn, 1) := by decide +kernel
theorem dX6_dine_10 : decode cX6_dine 10 = .ok (.aload_n 0, 1) := by decide +kernel
theorem dX6_dine_11 : decode cX6_dine 11 = .ok (.getfield 30, 3) := by decide +kernel
theorem dX6_dine_14 : decode cX6_dine 14 = .ok (.invokevirtual 145, 3) := by decide +kernel
theorem dX6_dine_17 : decode cX6_dine 17 = .ok (.aload_n 0, 1) := by decide +kernel
theorem dX6_dine_18 : decode cX6_dine 18 = .ok (.dup, 1) := by decide +kernel
theorem dX6_dine_19 : decode cX6_dine 19 = .ok (.getfield 81, 3) := by decide +kernel
theorem dX6_dine_22 : decode cX6_dine 22 = .ok (.iconst 1, 1) := by decide +kernel
theorem dX6_dine_23 : decode cX6_dine 23 = .ok (.iadd, 1) := by decide +kernel
theorem dX6_dine_24 : decode cX6_dine 24 = .ok (.putfield 81, 3) := by decide +kernel
theorem dX6_dine_27 : decode cX6_dine 27 = .ok (.aload_n 0, 1) := by decide +kernel
theorem dX6_dine_28 : decode cX6_dine 28 = .ok (.getfield 30, 3) := by decide +kernel
theorem dX6_dine_31 : decode cX6_dine 31 = .ok (.invokevirtual 148, 3) := by decide +kernel
theorem dX6_dine_34 : decode cX6_dine 34 = .ok (.ireturn, 1) := by decide +kernel
theorem dX6_forget_0 : decode cX6_forget 0 = .ok (.iconst 0, 1) := by decide +kernel
theorem dX6_forget_1 : decode cX6_forget 1 = .ok (.istore_n 1, 1) := by decide +kernel
theorem dX6_forget_2 : decode cX6_forget 2 = .ok (.iconst 0, 1) := by decide +kernel
theorem dX6_forget_3 : decode cX6_forget 3 = .ok (.istore_n 2, 1) := by decide +kernel
theorem dX6_forget_4 : decode cX6_forget 4 = .ok (.iload_n 2, 1) := by decide +kernel
theorem dX6_forget_5 : decode cX6_forget 5 = .ok (.aload_n 0, 1) := by decide +kernel
theorem dX6_forget_6 : decode cX6_forget 6 = .ok (.getfield 20, 3) := by decide +kernel
theorem dX6_forget_9 : decode cX6_forget 9 = .ok (.getfield 88, 3) := by decide +kernel
theorem dX6_forget_12 : decode cX6_forget 12 = .ok (.if_icmp .ge 26, 3) := by decide +kernel
theorem dX6_forget_15 : decode cX6_forget 15 = .ok (.aload_n 0, 1) := by decide +kernel
theorem dX6_forget_16 : decode cX6_forget 16 = .ok (.getfield 30, 3) := by decide +kernel
theorem dX6_forget_19 : decode cX6_forget 19 = .ok (.getfield 118, 3) := by decide +kernel
theorem dX6_forget_22 : decode cX6_forget 22 = .ok (.iload_n 2, 1) := by decide +kernel
theorem dX6_forget_23 : decode cX6_forget 23 = .ok (.iaload, 1) := by decide +kernel
theorem dX6_forget_24 : decode cX6_forget 24 = .ok (.bipush (-8), 2) := by decide +kernel
theorem dX6_forget_26 : decode cX6_forget 26 = .ok (.if_icmp .eq 6, 3) := by decide +kernel
theorem dX6_forget_29 : decode cX6_forget 29 = .ok (.iinc 1 1, 3) := by decide +kernel
theorem dX6_forget_32 : decode cX6_forget 32 = .ok (.iinc 2 1, 3) := by decide +kernel
theorem dX6_forget_35 : decode cX6_forget 35 = .ok (.goto (-31), 3) := by decide +kernel
theorem dX6_forget_38 : decode cX6_forget 38 = .ok (.aload_n 0, 1) := by decide +kernel
theorem dX6_forget_39 : decode cX6_forget 39 = .ok (.getfield 30, 3) := by decide +kernel
theorem dX6_forget_42 : decode cX6_forget 42 = .ok (.invokevirtual 151, 3) := by decide +kernel
theorem dX6_forget_45 : decode cX6_forget 45 = .ok (.iload_n 1, 1) := by decide +kernel
theorem dX6_forget_46 : decode cX6_forget 46 = .ok (.ireturn, 1) := by decide +kernel
theorem dX6_gets_0 : decode cX6_gets 0 = .ok (.aload_n 0, 1) := by decide +kernel
theorem dX6_gets_1 : decode cX6_gets 1 = .ok (.iload_n 1, 1) := by decide +kernel
theorem dX6_gets_2 : decode cX6_gets 2 = .ok (.invokevirtual 102, 3) := by decide +kernel
theorem dX6_gets_5 : decode cX6_gets 5 = .ok (.ifCond .eq 18, 3) := by decide +kernel
theorem dX6_gets_8 : decode cX6_gets 8 = .ok (.iload_n 2, 1) := by decide +kernel
theorem dX6_gets_9 : decode cX6_gets 9 = .ok (.ifCond .lt 14, 3) := by decide +kernel
theorem dX6_gets_12 : decode cX6_gets 12 = .ok (.iload_n 2, 1) := by decide +kernel
theorem dX6_gets_13 : decode cX6_gets 13 = .ok (.aload_n 0, 1) := by decide +kernel
theorem dX6_gets_14 : decode cX6_gets 14 = .ok (.getfield 30, 3) := by decide +kernel
theorem dX6_gets_17 : decode cX6_gets 17 = .ok (.getfield 142, 3) := by decide +kernel
theorem dX6_gets_20 : decode cX6_gets 20 = .ok (.if_icmp .lt 5, 3) := by decide +kernel
theorem dX6_gets_23 : decode cX6_gets 23 = .ok (.iconst (-1), 1) := by decide +kernel
theorem dX6_gets_24 : decode cX6_gets 24 = .ok (.ireturn, 1) := by decide +kernel
theorem dX6_gets_25 : decode cX6_gets 25 = .ok (.aload_n 0, 1) := by decide +kernel
theorem dX6_gets_26 : decode cX6_gets 26 = .ok (.invokevirtual 154, 3) := by decide +kernel
theorem dX6_gets_29 : decode cX6_gets 29 = .ok (.aload_n 0, 1) := by decide +kernel
theorem dX6_gets_30 : decode cX6_gets 30 = .ok (.getfield 34, 3) := by decide +kernel
theorem dX6_gets_33 : decode cX6_gets 33 = .ok (.getfield 157, 3) := by decide +kernel
theorem dX6_gets_36 : decode cX6_gets 36 = .ok (.iload_n 2, 1) := by decide +kernel
theorem dX6_gets_37 : decode cX6_gets 37 = .ok (.aaload, 1) := by decide +kernel
theorem dX6_gets_38 : decode cX6_gets 38 = .ok (.iload_n 1, 1) := by decide +kernel
theorem dX6_gets_39 : decode cX6_gets 39 = .ok (.iaload, 1) := by decide +kernel
theorem dX6_gets_40 : decode cX6_gets 40 = .ok (.ireturn, 1) := by decide +kernel
theorem dX6_glad_0 : decode cX6_glad 0 = .ok (.aload_n 0, 1) := by decide +kernel
theorem dX6_glad_1 : decode cX6_glad 1 = .ok (.iload_n 1, 1) := by decide +kernel
theorem dX6_glad_2 : decode cX6_glad 2 = .ok (.invokevirtual 102, 3) := by decide +kernel
theorem dX6_glad_5 : decode cX6_glad 5 = .ok (.ifCond .ne 5, 3) := by decide +kernel
theorem dX6_glad_8 : decode cX6_glad 8 = .ok (.iconst (-1), 1) := by decide +kernel
theorem dX6_glad_9 : decode cX6_glad 9 = .ok (.ireturn, 1) := by decide +kernel
theorem dX6_glad_10 : decode cX6_glad 10 = .ok (.aload_n 0, 1) := by decide +kernel
theorem dX6_glad_11 : decode cX6_glad 11 = .ok (.invokevirtual 154, 3) := by decide +kernel
theorem dX6_glad_14 : decode cX6_glad 14 = .ok (.aload_n 0, 1) := by decide +kernel
theorem dX6_glad_15 : decode cX6_glad 15 = .ok (.getfield 34, 3) := by decide +kernel
theorem dX6_glad_18 : decode cX6_glad 18 = .ok (.getfield 160, 3) := by decide +kernel
theorem dX6_glad_21 : decode cX6_glad 21 = .ok (.iload_n 1, 1) := by decide +kernel
theorem dX6_glad_22 : decode cX6_glad 22 = .ok (.iaload, 1) := by decide +kernel
theorem dX6_glad_23 : decode cX6_glad 23 = .ok (.ireturn, 1) := by decide +kernel
theorem dX6_pays_0 : decode cX6_pays 0 = .ok (.aload_n 0, 1) := by decide +kernel
theorem dX6_pays_1 : decode cX6_pays 1 = .ok (.iload_n 1, 1) := by decide +kernel
theorem dX6_pays_2 : decode cX6_pays 2 = .ok (.invokevirtual 102, 3) := by decide +kernel
theorem dX6_pays_5 : decode cX6_pays 5 = .ok (.ifCond .eq 10, 3) := by decide +kernel
theorem dX6_pays_8 : decode cX6_pays 8 = .ok (.iload_n 3, 1) := by decide +kernel
theorem dX6_pays_9 : decode cX6_pays 9 = .ok (.invokestatic 163, 3) := by decide +kernel
theorem dX6_pays_12 : decode cX6_pays 12 = .ok (.ifCond .ne 7, 3) := by decide +kernel
theorem dX6_pays_15 : decode cX6_pays 15 = .ok (.ldc2_w 166, 3) := by decide +kernel
theorem dX6_pays_18 : decode cX6_pays 18 = .ok (.lreturn, 1) := by decide +kernel
theorem dX6_pays_19 : decode cX6_pays 19 = .ok (.aload_n 0, 1) := by decide +kernel
theorem dX6_pays_20 : decode cX6_pays 20 = .ok (.invokevirtual 154, 3) := by decide +kernel
theorem dX6_pays_23 : decode cX6_pays 23 = .ok (.iload_n 2, 1) := by decide +kernel
theorem dX6_pays_24 : decode cX6_pays 24 = .ok (.ifCond .eq 24, 3) := by decide +kernel
theorem dX6_pays_27 : decode cX6_pays 27 = .ok (.aload_n 0, 1) := by decide +kernel
theorem dX6_pays_28 : decode cX6_pays 28 = .ok (.getfield 34, 3) := by decide +kernel
theorem dX6_pays_31 : decode cX6_pays 31 = .ok (.invokevirtual 168, 3) := by decide +kernel
theorem dX6_pays_34 : decode cX6_pays 34 = .ok (.aload_n 0, 1) := by decide +kernel
theorem dX6_pays_35 : decode cX6_pays 35 = .ok (.getfield 20, 3) := by decide +kernel
theorem dX6_pays_38 : decode cX6_pays 38 = .ok (.getfield 88, 3) := by decide +kernel
theorem dX6_pays_41 : decode cX6_pays 41 = .ok (.iload_n 3, 1) := by decide +kernel
theorem dX6_pays_42 : decode cX6_pays 42 = .ok (.invokestatic 171, 3) := by decide +kernel
theorem dX6_pays_45 : decode cX6_pays 45 = .ok (.goto 17, 3) := by decide +kernel
theorem dX6_pays_48 : decode cX6_pays 48 = .ok (.aload_n 0, 1) := by decide +kernel
theorem dX6_pays_49 : decode cX6_pays 49 = .ok (.getfield 34, 3) := by decide +kernel
theorem dX6_pays_52 : decode cX6_pays 52 = .ok (.getfield 175, 3) := by decide +kernel
theorem dX6_pays_55 : decode cX6_pays 55 = .ok (.iload_n 1, 1) := by decide +kernel
theorem dX6_pays_56 : decode cX6_pays 56 = .ok (.iaload, 1) := by decide +kernel
theorem dX6_pays_57 : decode cX6_pays 57 = .ok (.iconst 1, 1) := by decide +kernel
theorem dX6_pays_58 : decode cX6_pays 58 = .ok (.iload_n 3, 1) := by decide +kernel
theorem dX6_pays_59 : decode cX6_pays 59 = .ok (.invokestatic 171, 3) := by decide +kernel
theorem dX6_pays_62 : decode cX6_pays 62 = .ok (.lreturn, 1) := by decide +kernel
theorem dX6_judge_0 : decode cX6_judge 0 = .ok (.aload_n 0, 1) := by decide +kernel
theorem dX6_judge_1 : decode cX6_judge 1 = .ok (.iload_n 1, 1) := by decide +kernel
theorem dX6_judge_2 : decode cX6_judge 2 = .ok (.iload_n 2, 1) := by decide +kernel
theorem dX6_judge_3 : decode cX6_judge 3 = .ok (.iload_n 3, 1) := by decide +kernel
theorem dX6_judge_4 : decode cX6_judge 4 = .ok (.iload 4, 2) := by decide +kernel
theorem dX6_judge_6 : decode cX6_judge 6 = .ok (.invokevirtual 65, 3) := by decide +kernel
theorem dX6_judge_9 : decode cX6_judge 9 = .ok (.istore 5, 2) := by decide +kernel
theorem dX6_judge_11 : decode cX6_judge 11 = .ok (.iload 5, 2) := by decide +kernel
theorem dX6_judge_13 : decode cX6_judge 13 = .ok (.ifCond .eq 6, 3) := by decide +kernel
theorem dX6_judge_16 : decode cX6_judge 16 = .ok (.iload 5, 2) := by decide +kernel
theorem dX6_judge_18 : decode cX6_judge 18 = .ok (.ireturn, 1) := by decide +kernel
theorem dX6_judge_19 : decode cX6_judge 19 = .ok (.aload_n 0, 1) := by decide +kernel
theorem dX6_judge_20 : decode cX6_judge 20 = .ok (.invokevirtual 138, 3) := by decide +kernel
theorem dX6_judge_23 : decode cX6_judge 23 = .ok (.ifCond .ne 6, 3) := by decide +kernel
theorem dX6_judge_26 : decode cX6_judge 26 = .ok (.bipush (-3), 2) := by decide +kernel
theorem dX6_judge_28 : decode cX6_judge 28 = .ok (.ireturn, 1) := by decide +kernel
theorem dX6_judge_29 : decode cX6_judge 29 = .ok (.iload 4, 2) := by decide +kernel
theorem dX6_judge_31 : decode cX6_judge 31 = .ok (.aload_n 0, 1) := by decide +kernel
theorem dX6_judge_32 : decode cX6_judge 32 = .ok (.getfield 30, 3) := by decide +kernel
theorem dX6_judge_35 : decode cX6_judge 35 = .ok (.getfield 142, 3) := by decide +kernel
theorem dX6_judge_38 : decode cX6_judge 38 = .ok (.aload_n 0, 1) := by decide +kernel
theorem dX6_judge_39 : decode cX6_judge 39 = .ok (.getfield 20, 3) := by decide +kernel
theorem dX6_judge_42 : decode cX6_judge 42 = .ok (.getfield 88, 3) := by decide +kernel
theorem dX6_judge_45 : decode cX6_judge 45 = .ok (.imul, 1) := by decide +kernel
theorem dX6_judge_46 : decode cX6_judge 46 = .ok (.if_icmp .le 6, 3) := by decide +kernel
theorem dX6_judge_49 : decode cX6_judge 49 = .ok (.bipush (-2), 2) := by decide +kernel
theorem dX6_judge_51 : decode cX6_judge 51 = .ok (.ireturn, 1) := by decide +kernel
theorem dX6_judge_52 : decode cX6_judge 52 = .ok (.aload_n 0, 1) := by decide +kernel
theorem dX6_judge_53 : decode cX6_judge 53 = .ok (.getfield 13, 3) := by decide +kernel
theorem dX6_judge_56 : decode cX6_judge 56 = .ok (.iload_n 1, 1) := by decide +kernel
theorem dX6_judge_57 : decode cX6_judge 57 = .ok (.aaload, 1) := by decide +kernel
theorem dX6_judge_58 : decode cX6_judge 58 = .ok (.getfield 178, 3) := by decide +kernel
theorem dX6_judge_61 : decode cX6_judge 61 = .ok (.astore 6, 2) := by decide +kernel
theorem dX6_judge_63 : decode cX6_judge 63 = .ok (.iload_n 3, 1) := by decide +kernel
theorem dX6_judge_64 : decode cX6_judge 64 = .ok (.istore 7, 2) := by decide +kernel
theorem dX6_judge_66 : decode cX6_judge 66 = .ok (.iload 7, 2) := by decide +kernel
theorem dX6_judge_68 : decode cX6_judge 68 = .ok (.iload_n 3, 1) := by decide +kernel
theorem dX6_judge_69 : decode cX6_judge 69 = .ok (.iload 4, 2) := by decide +kernel
theorem dX6_judge_71 : decode cX6_judge 71 = .ok (.iadd, 1) := by decide +kernel
theorem dX6_judge_72 : decode cX6_judge 72 = .ok (.if_icmp .ge 33, 3) := by decide +kernel
theorem dX6_judge_75 : decode cX6_judge 75 = .ok (.aload 6, 2) := by decide +kernel
theorem dX6_judge_77 : decode cX6_judge 77 = .ok (.iload 7, 2) := by decide +kernel
theorem dX6_judge_79 : decode cX6_judge 79 = .ok (.iaload, 1) := by decide +kernel
theorem dX6_judge_80 : decode cX6_judge 80 = .ok (.bipush (-9), 2) := by decide +kernel
theorem dX6_judge_82 : decode cX6_judge 82 = .ok (.if_icmp .eq 17, 3) := by decide +kernel
theorem dX6_judge_85 : decode cX6_judge 85 = .ok (.aload_n 0, 1) := by decide +kernel
theorem dX6_judge_86 : decode cX6_judge 86 = .ok (.aload 6, 2) := by decide +kernel
theorem dX6_judge_88 : decode cX6_judge 88 = .ok (.iload 7, 2) := by decide +kernel
theorem dX6_judge_90 : decode cX6_judge 90 = .ok (.iaload, 1) := by decide +kernel
theorem dX6_judge_91 : decode cX6_judge 91 = .ok (.invokevirtual 91, 3) := by decide +kernel
theorem dX6_judge_94 : decode cX6_judge 94 = .ok (.ifCond .ne 5, 3) := by decide +kernel
theorem dX6_judge_97 : decode cX6_judge 97 = .ok (.iconst (-1), 1) := by decide +kernel
theorem dX6_judge_98 : decode cX6_judge 98 = .ok (.ireturn, 1) := by decide +kernel
theorem dX6_judge_99 : decode cX6_judge 99 = .ok (.iinc 7 1, 3) := by decide +kernel
theorem dX6_judge_102 : decode cX6_judge 102 = .ok (.goto (-36), 3) := by decide +kernel
theorem dX6_judge_105 : decode cX6_judge 105 = .ok (.aload_n 0, 1) := by decide +kernel
theorem dX6_judge_106 : decode cX6_judge 106 = .ok (.aload 6, 2) := by decide +kernel
theorem dX6_judge_108 : decode cX6_judge 108 = .ok (.iload_n 3, 1) := by decide +kernel
theorem dX6_judge_109 : decode cX6_judge 109 = .ok (.iload 4, 2) := by decide +kernel
theorem dX6_judge_111 : decode cX6_judge 111 = .ok (.invokevirtual 181, 3) := by decide +kernel
theorem dX6_judge_114 : decode cX6_judge 114 = .ok (.ireturn, 1) := by decide +kernel
theorem dX6_sheet_0 : decode cX6_sheet 0 = .ok (.aload_n 0, 1) := by decide +kernel
theorem dX6_sheet_1 : decode cX6_sheet 1 = .ok (.iconst 0, 1) := by decide +kernel
theorem dX6_sheet_2 : decode cX6_sheet 2 = .ok (.putfield 246, 3) := by decide +kernel
theorem dX6_sheet_5 : decode cX6_sheet 5 = .ok (.iload_n 1, 1) := by decide +kernel
theorem dX6_sheet_6 : decode cX6_sheet 6 = .ok (.invokestatic 249, 3) := by decide +kernel
theorem dX6_sheet_9 : decode cX6_sheet 9 = .ok (.ifCond .ne 5, 3) := by decide +kernel
theorem dX6_sheet_12 : decode cX6_sheet 12 = .ok (.iconst (-1), 1) := by decide +kernel
theorem dX6_sheet_13 : decode cX6_sheet 13 = .ok (.ireturn, 1) := by decide +kernel
theorem dX6_sheet_14 : decode cX6_sheet 14 = .ok (.iload_n 2, 1) := by decide +kernel
theorem dX6_sheet_15 : decode cX6_sheet 15 = .ok (.invokestatic 252, 3) := by decide +kernel
theorem dX6_sheet_18 : decode cX6_sheet 18 = .ok (.ifCond .eq 9, 3) := by decide +kernel
theorem dX6_sheet_21 : decode cX6_sheet 21 = .ok (.iload_n 3, 1) := by decide +kernel
theorem dX6_sheet_22 : decode cX6_sheet 22 = .ok (.bipush 100, 2) := by decide +kernel
theorem dX6_sheet_24 : decode cX6_sheet 24 = .ok (.if_icmp .le 6, 3) := by decide +kernel
theorem dX6_sheet_27 : decode cX6_sheet 27 = .ok (.bipush (-2), 2) := by decide +kernel
theorem dX6_sheet_29 : decode cX6_sheet 29 = .ok (.ireturn, 1) := by decide +kernel
theorem dX6_sheet_30 : decode cX6_sheet 30 = .ok (.iload_n 3, 1) := by decide +kernel
theorem dX6_sheet_31 : decode cX6_sheet 31 = .ok (.ifCond .ge 9, 3) := by decide +kernel
theorem dX6_sheet_34 : decode cX6_sheet 34 = .ok (.aload_n 0, 1) := by decide +kernel
theorem dX6_sheet_35 : decode cX6_sheet 35 = .ok (.iconst 4, 1) := by decide +kernel
theorem dX6_sheet_36 : decode cX6_sheet 36 = .ok (.invokevirtual 255, 3) := by decide +kernel
theorem dX6_sheet_39 : decode cX6_sheet 39 = .ok (.ireturn, 1) := by decide +kernel
theorem dX6_sheet_40 : decode cX6_sheet 40 = .ok (.aload_n 0, 1) := by decide +kernel
theorem dX6_sheet_41 : decode cX6_sheet 41 = .ok (.getfield 13, 3) := by decide +kernel
theorem dX6_sheet_44 : decode cX6_sheet 44 = .ok (.iload_n 1, 1) := by decide +kernel
theorem dX6_sheet_45 : decode cX6_sheet 45 = .ok (.aaload, 1) := by decide +kernel
theorem dX6_sheet_46 : decode cX6_sheet 46 = .ok (.iload_n 2, 1) := by decide +kernel
theorem dX6_sheet_47 : decode cX6_sheet 47 = .ok (.iload_n 3, 1) := by decide +kernel
theorem dX6_sheet_48 : decode cX6_sheet 48 = .ok (.invokevirtual 258, 3) := by decide +kernel
theorem dX6_sheet_51 : decode cX6_sheet 51 = .ok (.iconst 1, 1) := by decide +kernel
theorem dX6_sheet_52 : decode cX6_sheet 52 = .ok (.ireturn, 1) := by decide +kernel
theorem dX6_put_0 : decode cX6_put 0 = .ok (.aload_n 0, 1) := by decide +kernel
theorem dX6_put_1 : decode cX6_put 1 = .ok (.iconst 0, 1) := by decide +kernel
theorem dX6_put_2 : decode cX6_put 2 = .ok (.putfield 246, 3) := by decide +kernel
theorem dX6_put_5 : decode cX6_put 5 = .ok (.iload_n 1, 1) := by decide +kernel
theorem dX6_put_6 : decode cX6_put 6 = .ok (.invokestatic 249, 3) := by decide +kernel
theorem dX6_put_9 : decode cX6_put 9 = .ok (.ifCond .ne 5, 3) := by decide +kernel
theorem dX6_put_12 : decode cX6_put 12 = .ok (.iconst (-1), 1) := by decide +kernel
theorem dX6_put_13 : decode cX6_put 13 = .ok (.ireturn, 1) := by decide +kernel
theorem dX6_put_14 : decode cX6_put 14 = .ok (.aload_n 0, 1) := by decide +kernel
theorem dX6_put_15 : decode cX6_put 15 = .ok (.getfield 13, 3) := by decide +kernel
theorem dX6_put_18 : decode cX6_put 18 = .ok (.iload_n 1, 1) := by decide +kernel
theorem dX6_put_19 : decode cX6_put 19 = .ok (.aaload, 1) := by decide +kernel
theorem dX6_put_20 : decode cX6_put 20 = .ok (.getfield 261, 3) := by decide +kernel
theorem dX6_put_23 : decode cX6_put 23 = .ok (.ifCond .ne 9, 3) := by decide +kernel
theorem dX6_put_26 : decode cX6_put 26 = .ok (.aload_n 0, 1) := by decide +kernel
theorem dX6_put_27 : decode cX6_put 27 = .ok (.iconst 1, 1) := by decide +kernel
theorem dX6_put_28 : decode cX6_put 28 = .ok (.invokevirtual 255, 3) := by decide +kernel
theorem dX6_put_31 : decode cX6_put 31 = .ok (.ireturn, 1) := by decide +kernel
theorem dX6_put_32 : decode cX6_put 32 = .ok (.aload_n 0, 1) := by decide +kernel
theorem dX6_put_33 : decode cX6_put 33 = .ok (.getfield 13, 3) := by decide +kernel
theorem dX6_put_36 : decode cX6_put 36 = .ok (.iload_n 1, 1) := by decide +kernel
theorem dX6_put_37 : decode cX6_put 37 = .ok (.aaload, 1) := by decide +kernel
theorem dX6_put_38 : decode cX6_put 38 = .ok (.iload_n 2, 1) := by decide +kernel
theorem dX6_put_39 : decode cX6_put 39 = .ok (.iconst 1, 1) := by decide +kernel
theorem dX6_put_40 : decode cX6_put 40 = .ok (.invokevirtual 264, 3) := by decide +kernel
theorem dX6_put_43 : decode cX6_put 43 = .ok (.ifCond .ne 9, 3) := by decide +kernel
theorem dX6_put_46 : decode cX6_put 46 = .ok (.aload_n 0, 1) := by decide +kernel
theorem dX6_put_47 : decode cX6_put 47 = .ok (.iconst 3, 1) := by decide +kernel
theorem dX6_put_48 : decode cX6_put 48 = .ok (.invokevirtual 255, 3) := by decide +kernel
theorem dX6_put_51 : decode cX6_put 51 = .ok (.ireturn, 1) := by decide +kernel
theorem dX6_put_52 : decode cX6_put 52 = .ok (.aload_n 0, 1) := by decide +kernel
theorem dX6_put_53 : decode cX6_put 53 = .ok (.getfield 13, 3) := by decide +kernel
theorem dX6_put_56 : decode cX6_put 56 = .ok (.iload_n 1, 1) := by decide +kernel
theorem dX6_put_57 : decode cX6_put 57 = .ok (.aaload, 1) := by decide +kernel
theorem dX6_put_58 : decode cX6_put 58 = .ok (.iload_n 2, 1) := by decide +kernel
theorem dX6_put_59 : decode cX6_put 59 = .ok (.iload_n 3, 1) := by decide +kernel
theorem dX6_put_60 : decode cX6_put 60 = .ok (.invokevirtual 267, 3) := by decide +kernel
theorem dX6_put_63 : decode cX6_put 63 = .ok (.iconst 1, 1) := by decide +kernel
theorem dX6_put_64 : decode cX6_put 64 = .ok (.ireturn, 1) := by decide +kernel
theorem dX6_many_0 : decode cX6_many 0 = .ok (.iload_n 1, 1) := by decide +kernel
theorem dX6_many_1 : decode cX6_many 1 = .ok (.tableswitch 72 0 4 #[35, 43, 51, 59, 67], 35) := by decide +kernel
theorem dX6_many_36 : decode cX6_many 36 = .ok (.aload_n 0, 1) := by decide +kernel
theorem dX6_many_37 : decode cX6_many 37 = .ok (.getfield 20, 3) := by decide +kernel
theorem dX6_many_40 : decode cX6_many 40 = .ok (.getfield 88, 3) := by decide +kernel
theorem dX6_many_43 : decode cX6_many 43 = .ok (.ireturn, 1) := by decide +kernel
theorem dX6_many_44 : decode cX6_many 44 = .ok (.aload_n 0, 1) := by decide +kernel
theorem dX6_many_45 : decode cX6_many 45 = .ok (.getfield 20, 3) := by decide +kernel
theorem dX6_many_48 : decode cX6_many 48 = .ok (.getfield 235, 3) := by decide +kernel
theorem dX6_many_51 : decode cX6_many 51 = .ok (.ireturn, 1) := by decide +kernel
theorem dX6_many_52 : decode cX6_many 52 = .ok (.aload_n 0, 1) := by decide +kernel
theorem dX6_many_53 : decode cX6_many 53 = .ok (.getfield 30, 3) := by decide +kernel
theorem dX6_many_56 : decode cX6_many 56 = .ok (.getfield 135, 3) := by decide +kernel
theorem dX6_many_59 : decode cX6_many 59 = .ok (.ireturn, 1) := by decide +kernel
theorem dX6_many_60 : decode cX6_many 60 = .ok (.aload_n 0, 1) := by decide +kernel
theorem dX6_many_61 : decode cX6_many 61 = .ok (.getfield 30, 3) := by decide +kernel
theorem dX6_many_64 : decode cX6_many 64 = .ok (.getfield 142, 3) := by decide +kernel
theorem dX6_many_67 : decode cX6_many 67 = .ok (.ireturn, 1) := by decide +kernel
theorem dX6_many_68 : decode cX6_many 68 = .ok (.aload_n 0, 1) := by decide +kernel
theorem dX6_many_69 : decode cX6_many 69 = .ok (.getfield 81, 3) := by decide +kernel
theorem dX6_many_72 : decode cX6_many 72 = .ok (.ireturn, 1) := by decide +kernel
theorem dX6_many_73 : decode cX6_many 73 = .ok (.bipush (-2), 2) := by decide +kernel
theorem dX6_many_75 : decode cX6_many 75 = .ok (.ireturn, 1) := by decide +kernel
theorem dX6_isTable_0 : decode cX6_isTable 0 = .ok (.aload_n 0, 1) := by decide +kernel
theorem dX6_isTable_1 : decode cX6_isTable 1 = .ok (.getfield 20, 3) := by decide +kernel
theorem dX6_isTable_4 : decode cX6_isTable 4 = .ok (.getfield 88, 3) := by decide +kernel
theorem dX6_isTable_7 : decode cX6_isTable 7 = .ok (.ifCond .le 7, 3) := by decide +kernel
theorem dX6_isTable_10 : decode cX6_isTable 10 = .ok (.iconst 1, 1) := by decide +kernel
theorem dX6_isTable_11 : decode cX6_isTable 11 = .ok (.goto 4, 3) := by decide +kernel
theorem dX6_isTable_14 : decode cX6_isTable 14 = .ok (.iconst 0, 1) := by decide +kernel
theorem dX6_isTable_15 : decode cX6_isTable 15 = .ok (.ireturn, 1) := by decide +kernel
theorem dX6_isGuest_0 : decode cX6_isGuest 0 = .ok (.iload_n 1, 1) := by decide +kernel
theorem dX6_isGuest_1 : decode cX6_isGuest 1 = .ok (.ifCond .lt 18, 3) := by decide +kernel
theorem dX6_isGuest_4 : decode cX6_isGuest 4 = .ok (.iload_n 1, 1) := by decide +kernel
theorem dX6_isGuest_5 : decode cX6_isGuest 5 = .ok (.aload_n 0, 1) := by decide +kernel
theorem dX6_isGuest_6 : decode cX6_isGuest 6 = .ok (.getfield 20, 3) := by decide +kernel
theorem dX6_isGuest_9 : decode cX6_isGuest 9 = .ok (.getfield 88, 3) := by decide +kernel
theorem dX6_isGuest_12 : decode cX6_isGuest 12 = .ok (.if_icmp .ge 7, 3) := by decide +kernel
theorem dX6_isGuest_15 : decode cX6_isGuest 15 = .ok (.iconst 1, 1) := by decide +kernel
theorem dX6_isGuest_16 : decode cX6_isGuest 16 = .ok (.goto 4, 3) := by decide +kernel
theorem dX6_isGuest_19 : decode cX6_isGuest 19 = .ok (.iconst 0, 1) := by decide +kernel
theorem dX6_isGuest_20 : decode cX6_isGuest 20 = .ok (.ireturn, 1) := by decide +kernel
theorem dX6_isDish_0 : decode cX6_isDish 0 = .ok (.iload_n 1, 1) := by decide +kernel
theorem dX6_isDish_1 : decode cX6_isDish 1 = .ok (.ifCond .lt 18, 3) := by decide +kernel
theorem dX6_isDish_4 : decode cX6_isDish 4 = .ok (.iload_n 1, 1) := by decide +kernel
theorem dX6_isDish_5 : decode cX6_isDish 5 = .ok (.aload_n 0, 1) := by decide +kernel
theorem dX6_isDish_6 : decode cX6_isDish 6 = .ok (.getfield 20, 3) := by decide +kernel
theorem dX6_isDish_9 : decode cX6_isDish 9 = .ok (.getfield 235, 3) := by decide +kernel
theorem dX6_isDish_12 : decode cX6_isDish 12 = .ok (.if_icmp .ge 7, 3) := by decide +kernel
theorem dX6_isDish_15 : decode cX6_isDish 15 = .ok (.iconst 1, 1) := by decide +kernel
theorem dX6_isDish_16 : decode cX6_isDish 16 = .ok (.goto 4, 3) := by decide +kernel
theorem dX6_isDish_19 : decode cX6_isDish 19 = .ok (.iconst 0, 1) := by decide +kernel
theorem dX6_isDish_20 : decode cX6_isDish 20 = .ok (.ireturn, 1) := by decide +kernel
theorem dX6_isSheet_0 : decode cX6_isSheet 0 = .ok (.iload_n 0, 1) := by decide +kernel
theorem dX6_isSheet_1 : decode cX6_isSheet 1 = .ok (.ifCond .lt 12, 3) := by decide +kernel
theorem dX6_isSheet_4 : decode cX6_isSheet 4 = .ok (.iload_n 0, 1) := by decide +kernel
theorem dX6_isSheet_5 : decode cX6_isSheet 5 = .ok (.iconst 4, 1) := by decide +kernel
theorem dX6_isSheet_6 : decode cX6_isSheet 6 = .ok (.if_icmp .ge 7, 3) := by decide +kernel
theorem dX6_isSheet_9 : decode cX6_isSheet 9 = .ok (.iconst 1, 1) := by decide +kernel
theorem dX6_isSheet_10 : decode cX6_isSheet 10 = .ok (.goto 4, 3) := by decide +kernel
theorem dX6_isSheet_13 : decode cX6_isSheet 13 = .ok (.iconst 0, 1) := by decide +kernel
theorem dX6_isSheet_14 : decode cX6_isSheet 14 = .ok (.ireturn, 1) := by decide +kernel
theorem dX6_isSort_0 : decode cX6_isSort 0 = .ok (.iload_n 0, 1) := by decide +kernel
theorem dX6_isSort_1 : decode cX6_isSort 1 = .ok (.ifCond .lt 12, 3) := by decide +kernel
theorem dX6_isSort_4 : decode cX6_isSort 4 = .ok (.iload_n 0, 1) := by decide +kernel
theorem dX6_isSort_5 : decode cX6_isSort 5 = .ok (.iconst 2, 1) := by decide +kernel
theorem dX6_isSort_6 : decode cX6_isSort 6 = .ok (.if_icmp .gt 7, 3) := by decide +kernel
theorem dX6_isSort_9 : decode cX6_isSort 9 = .ok (.iconst 1, 1) := by decide +kernel
theorem dX6_isSort_10 : decode cX6_isSort 10 = .ok (.goto 4, 3) := by decide +kernel
theorem dX6_isSort_13 : decode cX6_isSort 13 = .ok (.iconst 0, 1) := by decide +kernel
theorem dX6_isSort_14 : decode cX6_isSort 14 = .ok (.ireturn, 1) := by decide +kernel
theorem dX6_isOneOfTwo_0 : decode cX6_isOneOfTwo 0 = .ok (.iload_n 0, 1) := by decide +kernel
theorem dX6_isOneOfTwo_1 : decode cX6_isOneOfTwo 1 = .ok (.ifCond .eq 8, 3) := by decide +kernel
theorem dX6_isOneOfTwo_4 : decode cX6_isOneOfTwo 4 = .ok (.iload_n 0, 1) := by decide +kernel
theorem dX6_isOneOfTwo_5 : decode cX6_isOneOfTwo 5 = .ok (.iconst 1, 1) := by decide +kernel
theorem dX6_isOneOfTwo_6 : decode cX6_isOneOfTwo 6 = .ok (.if_icmp .ne 7, 3) := by decide +kernel
theorem dX6_isOneOfTwo_9 : decode cX6_isOneOfTwo 9 = .ok (.iconst 1, 1) := by decide +kernel
theorem dX6_isOneOfTwo_10 : decode cX6_isOneOfTwo 10 = .ok (.goto 4, 3) := by decide +kernel
theorem dX6_isOneOfTwo_13 : decode cX6_isOneOfTwo 13 = .ok (.iconst 0, 1) := by decide +kernel
theorem dX6_isOneOfTwo_14 : decode cX6_isOneOfTwo 14 = .ok (.ireturn, 1) := by decide +kernel
theorem dX6_faulty_0 : decode cX6_faulty 0 = .ok (.aload_n 0, 1) := by decide +kernel
theorem dX6_faulty_1 : decode cX6_faulty 1 = .ok (.iload_n 1, 1) := by decide +kernel
theorem dX6_faulty_2 : decode cX6_faulty 2 = .ok (.putfield 246, 3) := by decide +kernel
theorem dX6_faulty_5 : decode cX6_faulty 5 = .ok (.bipush (-10), 2) := by decide +kernel
theorem dX6_faulty_7 : decode cX6_faulty 7 = .ok (.iload_n 1, 1) := by decide +kernel
theorem dX6_faulty_8 : decode cX6_faulty 8 = .ok (.isub, 1) := by decide +kernel
theorem dX6_faulty_9 : decode cX6_faulty 9 = .ok (.ireturn, 1) := by decide +kernel
theorem dX6_refusalOfRow_0 : decode cX6_refusalOfRow 0 = .ok (.aload_n 0, 1) := by decide +kernel
theorem dX6_refusalOfRow_1 : decode cX6_refusalOfRow 1 = .ok (.iconst 0, 1) := by decide +kernel
theorem dX6_refusalOfRow_2 : decode cX6_refusalOfRow 2 = .ok (.putfield 246, 3) := by decide +kernel
theorem dX6_refusalOfRow_5 : decode cX6_refusalOfRow 5 = .ok (.iload_n 1, 1) := by decide +kernel
theorem dX6_refusalOfRow_6 : decode cX6_refusalOfRow 6 = .ok (.invokestatic 249, 3) := by decide +kernel
theorem dX6_refusalOfRow_9 : decode cX6_refusalOfRow 9 = .ok (.ifCond .ne 5, 3) := by decide +kernel
theorem dX6_refusalOfRow_12 : decode cX6_refusalOfRow 12 = .ok (.iconst (-1), 1) := by decide +kernel
theorem dX6_refusalOfRow_13 : decode cX6_refusalOfRow 13 = .ok (.ireturn, 1) := by decide +kernel
theorem dX6_refusalOfRow_14 : decode cX6_refusalOfRow 14 = .ok (.iload_n 2, 1) := by decide +kernel
theorem dX6_refusalOfRow_15 : decode cX6_refusalOfRow 15 = .ok (.invokestatic 252, 3) := by decide +kernel
theorem dX6_refusalOfRow_18 : decode cX6_refusalOfRow 18 = .ok (.ifCond .ne 6, 3) := by decide +kernel
theorem dX6_refusalOfRow_21 : decode cX6_refusalOfRow 21 = .ok (.bipush (-2), 2) := by decide +kernel
theorem dX6_refusalOfRow_23 : decode cX6_refusalOfRow 23 = .ok (.ireturn, 1) := by decide +kernel
theorem dX6_refusalOfRow_24 : decode cX6_refusalOfRow 24 = .ok (.aload_n 0, 1) := by decide +kernel
theorem dX6_refusalOfRow_25 : decode cX6_refusalOfRow 25 = .ok (.getfield 13, 3) := by decide +kernel
theorem dX6_refusalOfRow_28 : decode cX6_refusalOfRow 28 = .ok (.iload_n 1, 1) := by decide +kernel
theorem dX6_refusalOfRow_29 : decode cX6_refusalOfRow 29 = .ok (.aaload, 1) := by decide +kernel
theorem dX6_refusalOfRow_30 : decode cX6_refusalOfRow 30 = .ok (.getfield 261, 3) := by decide +kernel
theorem dX6_refusalOfRow_33 : decode cX6_refusalOfRow 33 = .ok (.ifCond .ne 9, 3) := by decide +kernel
theorem dX6_refusalOfRow_36 : decode cX6_refusalOfRow 36 = .ok (.aload_n 0, 1) := by decide +kernel
theorem dX6_refusalOfRow_37 : decode cX6_refusalOfRow 37 = .ok (.iconst 1, 1) := by decide +kernel
theorem dX6_refusalOfRow_38 : decode cX6_refusalOfRow 38 = .ok (.invokevirtual 255, 3) := by decide +kernel
theorem dX6_refusalOfRow_41 : decode cX6_refusalOfRow 41 = .ok (.ireturn, 1) := by decide +kernel
theorem dX6_refusalOfRow_42 : decode cX6_refusalOfRow 42 = .ok (.aload_n 0, 1) := by decide +kernel
theorem dX6_refusalOfRow_43 : decode cX6_refusalOfRow 43 = .ok (.getfield 13, 3) := by decide +kernel
theorem dX6_refusalOfRow_46 : decode cX6_refusalOfRow 46 = .ok (.iload_n 1, 1) := by decide +kernel
theorem dX6_refusalOfRow_47 : decode cX6_refusalOfRow 47 = .ok (.aaload, 1) := by decide +kernel
theorem dX6_refusalOfRow_48 : decode cX6_refusalOfRow 48 = .ok (.getfield 270, 3) := by decide +kernel
theorem dX6_refusalOfRow_51 : decode cX6_refusalOfRow 51 = .ok (.iload_n 2, 1) := by decide +kernel
theorem dX6_refusalOfRow_52 : decode cX6_refusalOfRow 52 = .ok (.if_icmp .eq 9, 3) := by decide +kernel
theorem dX6_refusalOfRow_55 : decode cX6_refusalOfRow 55 = .ok (.aload_n 0, 1) := by decide +kernel
theorem dX6_refusalOfRow_56 : decode cX6_refusalOfRow 56 = .ok (.iconst 2, 1) := by decide +kernel
theorem dX6_refusalOfRow_57 : decode cX6_refusalOfRow 57 = .ok (.invokevirtual 255, 3) := by decide +kernel
theorem dX6_refusalOfRow_60 : decode cX6_refusalOfRow 60 = .ok (.ireturn, 1) := by decide +kernel
theorem dX6_refusalOfRow_61 : decode cX6_refusalOfRow 61 = .ok (.iload 4, 2) := by decide +kernel
theorem dX6_refusalOfRow_63 : decode cX6_refusalOfRow 63 = .ok (.ifCond .ge 9, 3) := by decide +kernel
theorem dX6_refusalOfRow_66 : decode cX6_refusalOfRow 66 = .ok (.aload_n 0, 1) := by decide +kernel
theorem dX6_refusalOfRow_67 : decode cX6_refusalOfRow 67 = .ok (.iconst 4, 1) := by decide +kernel
theorem dX6_refusalOfRow_68 : decode cX6_refusalOfRow 68 = .ok (.invokevirtual 255, 3) := by decide +kernel
theorem dX6_refusalOfRow_71 : decode cX6_refusalOfRow 71 = .ok (.ireturn, 1) := by decide +kernel
theorem dX6_refusalOfRow_72 : decode cX6_refusalOfRow 72 = .ok (.aload_n 0, 1) := by decide +kernel
theorem dX6_refusalOfRow_73 : decode cX6_refusalOfRow 73 = .ok (.getfield 13, 3) := by decide +kernel
theorem dX6_refusalOfRow_76 : decode cX6_refusalOfRow 76 = .ok (.iload_n 1, 1) := by decide +kernel
theorem dX6_refusalOfRow_77 : decode cX6_refusalOfRow 77 = .ok (.aaload, 1) := by decide +kernel
theorem dX6_refusalOfRow_78 : decode cX6_refusalOfRow 78 = .ok (.iload_n 3, 1) := by decide +kernel
theorem dX6_refusalOfRow_79 : decode cX6_refusalOfRow 79 = .ok (.iload 4, 2) := by decide +kernel
theorem dX6_refusalOfRow_81 : decode cX6_refusalOfRow 81 = .ok (.invokevirtual 264, 3) := by decide +kernel
theorem dX6_refusalOfRow_84 : decode cX6_refusalOfRow 84 = .ok (.ifCond .eq 7, 3) := by decide +kernel
theorem dX6_refusalOfRow_87 : decode cX6_refusalOfRow 87 = .ok (.iconst 0, 1) := by decide +kernel
theorem dX6_refusalOfRow_88 : decode cX6_refusalOfRow 88 = .ok (.goto 8, 3) := by decide +kernel
theorem dX6_refusalOfRow_91 : decode cX6_refusalOfRow 91 = .ok (.aload_n 0, 1) := by decide +kernel
theorem dX6_refusalOfRow_92 : decode cX6_refusalOfRow 92 = .ok (.iconst 3, 1) := by decide +kernel
theorem dX6_refusalOfRow_93 : decode cX6_refusalOfRow 93 = .ok (.invokevirtual 255, 3) := by decide +kernel
theorem dX6_refusalOfRow_96 : decode cX6_refusalOfRow 96 = .ok (.ireturn, 1) := by decide +kernel
theorem dX6_unsettle_0 : decode cX6_unsettle 0 = .ok (.aload_n 0, 1) := by decide +kernel
theorem dX6_unsettle_1 : decode cX6_unsettle 1 = .ok (.getfield 53, 3) := by decide +kernel
theorem dX6_unsettle_4 : decode cX6_unsettle 4 = .ok (.iconst 0, 1) := by decide +kernel
theorem dX6_unsettle_5 : decode cX6_unsettle 5 = .ok (.putfield 185, 3) := by decide +kernel
theorem dX6_unsettle_8 : decode cX6_unsettle 8 = .ok (.aload_n 0, 1) := by decide +kernel
theorem dX6_unsettle_9 : decode cX6_unsettle 9 = .ok (.getfield 60, 3) := by decide +kernel
theorem dX6_unsettle_12 : decode cX6_unsettle 12 = .ok (.iconst 0, 1) := by decide +kernel
theorem dX6_unsettle_13 : decode cX6_unsettle 13 = .ok (.putfield 197, 3) := by decide +kernel
theorem dX6_unsettle_16 : decode cX6_unsettle 16 = .ok (.return_, 1) := by decide +kernel
theorem dX6_tryEvening_0 : decode cX6_tryEvening 0 = .ok (.aload_n 0, 1) := by decide +kernel
theorem dX6_tryEvening_1 : decode cX6_tryEvening 1 = .ok (.getfield 34, 3) := by decide +kernel
theorem dX6_tryEvening_4 : decode cX6_tryEvening 4 = .ok (.aload_n 0, 1) := by decide +kernel
theorem dX6_tryEvening_5 : decode cX6_tryEvening 5 = .ok (.getfield 30, 3) := by decide +kernel
theorem dX6_tryEvening_8 : decode cX6_tryEvening 8 = .ok (.invokevirtual 198, 3) := by decide +kernel
theorem dX6_tryEvening_11 : decode cX6_tryEvening 11 = .ok (.aload_n 0, 1) := by decide +kernel
theorem dX6_tryEvening_12 : decode cX6_tryEvening 12 = .ok (.getfield 34, 3) := by decide +kernel
theorem dX6_tryEvening_15 : decode cX6_tryEvening 15 = .ok (.invokevirtual 145, 3) := by decide +kernel
theorem dX6_tryEvening_18 : decode cX6_tryEvening 18 = .ok (.return_, 1) := by decide +kernel
theorem dX6_firstThatCannotBe_0 : decode cX6_firstThatCannotBe 0 = .ok (.aload_n 0, 1) := by decide +kernel
theorem dX6_firstThatCannotBe_1 : decode cX6_firstThatCannotBe 1 = .ok (.getfield 34, 3) := by decide +kernel
theorem dX6_firstThatCannotBe_4 : decode cX6_firstThatCannotBe 4 = .ok (.aload_n 0, 1) := by decide +kernel
theorem dX6_firstThatCannotBe_5 : decode cX6_firstThatCannotBe 5 = .ok (.getfield 30, 3) := by decide +kernel
theorem dX6_firstThatCannotBe_8 : decode cX6_firstThatCannotBe 8 = .ok (.invokevirtual 198, 3) := by decide +kernel
theorem dX6_firstThatCannotBe_11 : decode cX6_firstThatCannotBe 11 = .ok (.aload_n 0, 1) := by decide +kernel
theorem dX6_firstThatCannotBe_12 : decode cX6_firstThatCannotBe 12 = .ok (.getfield 34, 3) := by decide +kernel
theorem dX6_firstThatCannotBe_15 : decode cX6_firstThatCannotBe 15 = .ok (.invokevirtual 297, 3) := by decide +kernel
theorem dX6_firstThatCannotBe_18 : decode cX6_firstThatCannotBe 18 = .ok (.iconst 0, 1) := by decide +kernel
theorem dX6_firstThatCannotBe_19 : decode cX6_firstThatCannotBe 19 = .ok (.istore 4, 2) := by decide +kernel
theorem dX6_firstThatCannotBe_21 : decode cX6_firstThatCannotBe 21 = .ok (.iload 4, 2) := by decide +kernel
theorem dX6_firstThatCannotBe_23 : decode cX6_firstThatCannotBe 23 = .ok (.iload_n 3, 1) := by decide +kernel
theorem dX6_firstThatCannotBe_24 : decode cX6_firstThatCannotBe 24 = .ok (.if_icmp .ge 96, 3) := by decide +kernel
theorem dX6_firstThatCannotBe_27 : decode cX6_firstThatCannotBe 27 = .ok (.aload_n 1, 1) := by decide +kernel
theorem dX6_firstThatCannotBe_28 : decode cX6_firstThatCannotBe 28 = .ok (.iload_n 2, 1) := by decide +kernel
theorem dX6_firstThatCannotBe_29 : decode cX6_firstThatCannotBe 29 = .ok (.iload 4, 2) := by decide +kernel
theorem dX6_firstThatCannotBe_31 : decode cX6_firstThatCannotBe 31 = .ok (.iadd, 1) := by decide +kernel
theorem dX6_firstThatCannotBe_32 : decode cX6_firstThatCannotBe 32 = .ok (.iaload, 1) := by decide +kernel
theorem dX6_firstThatCannotBe_33 : decode cX6_firstThatCannotBe 33 = .ok (.istore 5, 2) := by decide +kernel
theorem dX6_firstThatCannotBe_35 : decode cX6_firstThatCannotBe 35 = .ok (.aload_n 0, 1) := by decide +kernel
theorem dX6_firstThatCannotBe_36 : decode cX6_firstThatCannotBe 36 = .ok (.getfield 34, 3) := by decide +kernel
theorem dX6_firstThatCannotBe_39 : decode cX6_firstThatCannotBe 39 = .ok (.iload 4, 2) := by decide +kernel
theorem dX6_firstThatCannotBe_41 : decode cX6_firstThatCannotBe 41 = .ok (.aload_n 0, 1) := by decide +kernel
theorem dX6_firstThatCannotBe_42 : decode cX6_firstThatCannotBe 42 = .ok (.getfield 20, 3) := by decide +kernel
theorem dX6_firstThatCannotBe_45 : decode cX6_firstThatCannotBe 45 = .ok (.getfield 88, 3) := by decide +kernel
theorem dX6_firstThatCannotBe_48 : decode cX6_firstThatCannotBe 48 = .ok (.irem, 1) := by decide +kernel
theorem dX6_firstThatCannotBe_49 : decode cX6_firstThatCannotBe 49 = .ok (.invokevirtual 300, 3) := by decide +kernel
theorem dX6_firstThatCannotBe_52 : decode cX6_firstThatCannotBe 52 = .ok (.istore 6, 2) := by decide +kernel
theorem dX6_firstThatCannotBe_54 : decode cX6_firstThatCannotBe 54 = .ok (.iload 5, 2) := by decide +kernel
theorem dX6_firstThatCannotBe_56 : decode cX6_firstThatCannotBe 56 = .ok (.bipush (-9), 2) := by decide +kernel
theorem dX6_firstThatCannotBe_58 : decode cX6_firstThatCannotBe 58 = .ok (.if_icmp .ne 18, 3) := by decide +kernel
theorem dX6_firstThatCannotBe_61 : decode cX6_firstThatCannotBe 61 = .ok (.aload_n 0, 1) := by decide +kernel
theorem dX6_firstThatCannotBe_62 : decode cX6_firstThatCannotBe 62 = .ok (.getfield 34, 3) := by decide +kernel
theorem dX6_firstThatCannotBe_65 : decode cX6_firstThatCannotBe 65 = .ok (.iload 6, 2) := by decide +kernel
theorem dX6_firstThatCannotBe_67 : decode cX6_firstThatCannotBe 67 = .ok (.invokevirtual 303, 3) := by decide +kernel
theorem dX6_firstThatCannotBe_70 : decode cX6_firstThatCannotBe 70 = .ok (.ifCond .eq 23, 3) := by decide +kernel
theorem dX6_firstThatCannotBe_73 : decode cX6_firstThatCannotBe 73 = .ok (.goto 17, 3) := by decide +kernel
theorem dX6_firstThatCannotBe_76 : decode cX6_firstThatCannotBe 76 = .ok (.aload_n 0, 1) := by decide +kernel
theorem dX6_firstThatCannotBe_77 : decode cX6_firstThatCannotBe 77 = .ok (.getfield 34, 3) := by decide +kernel
theorem dX6_firstThatCannotBe_80 : decode cX6_firstThatCannotBe 80 = .ok (.iload 6, 2) := by decide +kernel
theorem dX6_firstThatCannotBe_82 : decode cX6_firstThatCannotBe 82 = .ok (.iload 5, 2) := by decide +kernel
theorem dX6_firstThatCannotBe_84 : decode cX6_firstThatCannotBe 84 = .ok (.invokevirtual 306, 3) := by decide +kernel
theorem dX6_firstThatCannotBe_87 : decode cX6_firstThatCannotBe 87 = .ok (.ifCond .ne 6, 3) := by decide +kernel
theorem dX6_firstThatCannotBe_90 : decode cX6_firstThatCannotBe 90 = .ok (.iload 4, 2) := by decide +kernel
theorem dX6_firstThatCannotBe_92 : decode cX6_firstThatCannotBe 92 = .ok (.ireturn, 1) := by decide +kernel
theorem dX6_firstThatCannotBe_93 : decode cX6_firstThatCannotBe 93 = .ok (.iload 5, 2) := by decide +kernel
theorem dX6_firstThatCannotBe_95 : decode cX6_firstThatCannotBe 95 = .ok (.bipush (-9), 2) := by decide +kernel
theorem dX6_firstThatCannotBe_97 : decode cX6_firstThatCannotBe 97 = .ok (.if_icmp .eq 17, 3) := by decide +kernel
theorem dX6_firstThatCannotBe_100 : decode cX6_firstThatCannotBe 100 = .ok (.aload_n 0, 1) := by decide +kernel
theorem dX6_firstThatCannotBe_101 : decode cX6_firstThatCannotBe 101 = .ok (.getfield 34, 3) := by decide +kernel
theorem dX6_firstThatCannotBe_104 : decode cX6_firstThatCannotBe 104 = .ok (.getfield 309, 3) := by decide +kernel
theorem dX6_firstThatCannotBe_107 : decode cX6_firstThatCannotBe 107 = .ok (.iload 5, 2) := by decide +kernel
theorem dX6_firstThatCannotBe_109 : decode cX6_firstThatCannotBe 109 = .ok (.dup2, 1) := by decide +kernel
theorem dX6_firstThatCannotBe_110 : decode cX6_firstThatCannotBe 110 = .ok (.iaload, 1) := by decide +kernel
theorem dX6_firstThatCannotBe_111 : decode cX6_firstThatCannotBe 111 = .ok (.iconst 1, 1) := by decide +kernel
theorem dX6_firstThatCannotBe_112 : decode cX6_firstThatCannotBe 112 = .ok (.isub, 1) := by decide +kernel
theorem dX6_firstThatCannotBe_113 : decode cX6_firstThatCannotBe 113 = .ok (.iastore, 1) := by decide +kernel
theorem dX6_firstThatCannotBe_114 : decode cX6_firstThatCannotBe 114 = .ok (.iinc 4 1, 3) := by decide +kernel
theorem dX6_firstThatCannotBe_117 : decode cX6_firstThatCannotBe 117 = .ok (.goto (-96), 3) := by decide +kernel
theorem dX6_firstThatCannotBe_120 : decode cX6_firstThatCannotBe 120 = .ok (.bipush (-9), 2) := by decide +kernel
theorem dX6_firstThatCannotBe_122 : decode cX6_firstThatCannotBe 122 = .ok (.ireturn, 1) := by decide +kernel
theorem dX6_share_0 : decode cX6_share 0 = .ok (.iconst 1, 1) := by decide +kernel
theorem dX6_share_1 : decode cX6_share 1 = .ok (.istore_n 3, 1) := by decide +kernel
theorem dX6_share_2 : decode cX6_share 2 = .ok (.iload_n 1, 1) := by decide +kernel
theorem dX6_share_3 : decode cX6_share 3 = .ok (.istore 4, 2) := by decide +kernel
theorem dX6_share_5 : decode cX6_share 5 = .ok (.iload 4, 2) := by decide +kernel
theorem dX6_share_7 : decode cX6_share 7 = .ok (.iconst 1, 1) := by decide +kernel
theorem dX6_share_8 : decode cX6_share 8 = .ok (.if_icmp .le 31, 3) := by decide +kernel
theorem dX6_share_11 : decode cX6_share 11 = .ok (.iload_n 3, 1) := by decide +kernel
theorem dX6_share_12 : decode cX6_share 12 = .ok (.iconst 1, 1) := by decide +kernel
theorem dX6_share_13 : decode cX6_share 13 = .ok (.if_icmp .ne 26, 3) := by decide +kernel
theorem dX6_share_16 : decode cX6_share 16 = .ok (.iload_n 0, 1) := by decide +kernel
theorem dX6_share_17 : decode cX6_share 17 = .ok (.iload 4, 2) := by decide +kernel
theorem dX6_share_19 : decode cX6_share 19 = .ok (.irem, 1) := by decide +kernel
theorem dX6_share_20 : decode cX6_share 20 = .ok (.ifCond .ne 13, 3) := by decide +kernel
theorem dX6_share_23 : decode cX6_share 23 = .ok (.iload_n 1, 1) := by decide +kernel
theorem dX6_share_24 : decode cX6_share 24 = .ok (.iload 4, 2) := by decide +kernel
theorem dX6_share_26 : decode cX6_share 26 = .ok (.irem, 1) := by decide +kernel
theorem dX6_share_27 : decode cX6_share 27 = .ok (.ifCond .ne 6, 3) := by decide +kernel
theorem dX6_share_30 : decode cX6_share 30 = .ok (.iload 4, 2) := by decide +kernel
theorem dX6_share_32 : decode cX6_share 32 = .ok (.istore_n 3, 1) := by decide +kernel
theorem dX6_share_33 : decode cX6_share 33 = .ok (.iinc 4 (-1), 3) := by decide +kernel
theorem dX6_share_36 : decode cX6_share 36 = .ok (.goto (-31), 3) := by decide +kernel
theorem dX6_share_39 : decode cX6_share 39 = .ok (.iload_n 2, 1) := by decide +kernel
theorem dX6_share_40 : decode cX6_share 40 = .ok (.ifCond .ne 10, 3) := by decide +kernel
theorem dX6_share_43 : decode cX6_share 43 = .ok (.iload_n 0, 1) := by decide +kernel
theorem dX6_share_44 : decode cX6_share 44 = .ok (.iload_n 3, 1) := by decide +kernel
theorem dX6_share_45 : decode cX6_share 45 = .ok (.idiv, 1) := by decide +kernel
theorem dX6_share_46 : decode cX6_share 46 = .ok (.i2l, 1) := by decide +kernel
theorem dX6_share_47 : decode cX6_share 47 = .ok (.goto 7, 3) := by decide +kernel
theorem dX6_share_50 : decode cX6_share 50 = .ok (.iload_n 1, 1) := by decide +kernel
theorem dX6_share_51 : decode cX6_share 51 = .ok (.iload_n 3, 1) := by decide +kernel
theorem dX6_share_52 : decode cX6_share 52 = .ok (.idiv, 1) := by decide +kernel
theorem dX6_share_53 : decode cX6_share 53 = .ok (.i2l, 1) := by decide +kernel
theorem dX6_share_54 : decode cX6_share 54 = .ok (.lreturn, 1) := by decide +kernel
