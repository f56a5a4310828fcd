theorem dX6_init_0 : decode cX6_init 0 = .ok (.aload_n 0, 1) := by decide +kernel
theorem dX6_init_1 : decode cX6_init 1 = .ok (.invokespecial 3, 3) := by decide +kernel
theorem dX6_init_4 : decode cX6_init 4 = .ok (.aload_n 0, 1) := by decide +kernel
theorem dX6_init_5 : decode cX6_init 5 = .ok (.iconst 4, 1) := by decide +kernel
theorem dX6_init_6 : decode cX6_init 6 = .ok (.anewarray 11, 3) := by decide +kernel
theorem dX6_init_9 : decode cX6_init 9 = .ok (.putfield 13, 3) := by decide +kernel
theorem dX6_init_12 : decode cX6_init 12 = .ok (.aload_n 0, 1) := by decide +kernel
theorem dX6_init_13 : decode cX6_init 13 = .ok (.new 17, 3) := by decide +kernel
theorem dX6_init_16 : decode cX6_init 16 = .ok (.dup, 1) := by decide +kernel
theorem dX6_init_17 : decode cX6_init 17 = .ok (.invokespecial 19, 3) := by decide +kernel
theorem dX6_init_20 : decode cX6_init 20 = .ok (.putfield 20, 3) := by decide +kernel
theorem dX6_init_23 : decode cX6_init 23 = .ok (.aload_n 0, 1) := by decide +kernel
theorem dX6_init_24 : decode cX6_init 24 = .ok (.new 17, 3) := by decide +kernel
theorem dX6_init_27 : decode cX6_init 27 = .ok (.dup, 1) := by decide +kernel
theorem dX6_init_28 : decode cX6_init 28 = .ok (.invokespecial 19, 3) := by decide +kernel
theorem dX6_init_31 : decode cX6_init 31 = .ok (.putfield 24, 3) := by decide +kernel
theorem dX6_init_34 : decode cX6_init 34 = .ok (.aload_n 0, 1) := by decide +kernel
theorem dX6_init_35 : decode cX6_init 35 = .ok (.new 27, 3) := by decide +kernel
theorem dX6_init_38 : decode cX6_init 38 = .ok (.dup, 1) := by decide +kernel
theorem dX6_init_39 : decode cX6_init 39 = .ok (.invokespecial 29, 3) := by decide +kernel
theorem dX6_init_42 : decode cX6_init 42 = .ok (.putfield 30, 3) := by decide +kernel
theorem dX6_init_45 : decode cX6_init 45 = .ok (.aload_n 0, 1) := by decide +kernel
theorem dX6_init_46 : decode cX6_init 46 = .ok (.new 27, 3) := by decide +kernel
theorem dX6_init_49 : decode cX6_init 49 = .ok (.dup, 1) := by decide +kernel
theorem dX6_init_50 : decode cX6_init 50 = .ok (.invokespecial 29, 3) := by decide +kernel
theorem dX6_init_53 : decode cX6_init 53 = .ok (.putfield 34, 3) := by decide +kernel
theorem dX6_init_56 : decode cX6_init 56 = .ok (.aload_n 0, 1) := by decide +kernel
theorem dX6_init_57 : decode cX6_init 57 = .ok (.new 27, 3) := by decide +kernel
theorem dX6_init_60 : decode cX6_init 60 = .ok (.dup, 1) := by decide +kernel
theorem dX6_init_61 : decode cX6_init 61 = .ok (.invokespecial 29, 3) := by decide +kernel
theorem dX6_init_64 : decode cX6_init 64 = .ok (.putfield 37, 3) := by decide +kernel
theorem dX6_init_67 : decode cX6_init 67 = .ok (.aload_n 0, 1) := by decide +kernel
theorem dX6_init_68 : decode cX6_init 68 = .ok (.new 40, 3) := by decide +kernel
theorem dX6_init_71 : decode cX6_init 71 = .ok (.dup, 1) := by decide +kernel
theorem dX6_init_72 : decode cX6_init 72 = .ok (.invokespecial 42, 3) := by decide +kernel
theorem dX6_init_75 : decode cX6_init 75 = .ok (.putfield 43, 3) := by decide +kernel
theorem dX6_init_78 : decode cX6_init 78 = .ok (.aload_n 0, 1) := by decide +kernel
theorem dX6_init_79 : decode cX6_init 79 = .ok (.new 40, 3) := by decide +kernel
theorem dX6_init_82 : decode cX6_init 82 = .ok (.dup, 1) := by decide +kernel
theorem dX6_init_83 : decode cX6_init 83 = .ok (.invokespecial 42, 3) := by decide +kernel
theorem dX6_init_86 : decode cX6_init 86 = .ok (.putfield 47, 3) := by decide +kernel
theorem dX6_init_89 : decode cX6_init 89 = .ok (.aload_n 0, 1) := by decide +kernel
theorem dX6_init_90 : decode cX6_init 90 = .ok (.new 50, 3) := by decide +kernel
theorem dX6_init_93 : decode cX6_init 93 = .ok (.dup, 1) := by decide +kernel
theorem dX6_init_94 : decode cX6_init 94 = .ok (.invokespecial 52, 3) := by decide +kernel
theorem dX6_init_97 : decode cX6_init 97 = .ok (.putfield 53, 3) := by decide +kernel
theorem dX6_init_100 : decode cX6_init 100 = .ok (.aload_n 0, 1) := by decide +kernel
theorem dX6_init_101 : decode cX6_init 101 = .ok (.new 57, 3) := by decide +kernel
theorem dX6_init_104 : decode cX6_init 104 = .ok (.dup, 1) := by decide +kernel
theorem dX6_init_105 : decode cX6_init 105 = .ok (.invokespecial 59, 3) := by decide +kernel
theorem dX6_init_108 : decode cX6_init 108 = .ok (.putfield 60, 3) := by decide +kernel
theorem dX6_init_111 : decode cX6_init 111 = .ok (.iconst 0, 1) := by decide +kernel
theorem dX6_init_112 : decode cX6_init 112 = .ok (.istore_n 1, 1) := by decide +kernel
theorem dX6_init_113 : decode cX6_init 113 = .ok (.iload_n 1, 1) := by decide +kernel
theorem dX6_init_114 : decode cX6_init 114 = .ok (.iconst 4, 1) := by decide +kernel
theorem dX6_init_115 : decode cX6_init 115 = .ok (.if_icmp .ge 22, 3) := by decide +kernel
theorem dX6_init_118 : decode cX6_init 118 = .ok (.aload_n 0, 1) := by decide +kernel
theorem dX6_init_119 : decode cX6_init 119 = .ok (.getfield 13, 3) := by decide +kernel
theorem dX6_init_122 : decode cX6_init 122 = .ok (.iload_n 1, 1) := by decide +kernel
theorem dX6_init_123 : decode cX6_init 123 = .ok (.new 11, 3) := by decide +kernel
theorem dX6_init_126 : decode cX6_init 126 = .ok (.dup, 1) := by decide +kernel
theorem dX6_init_127 : decode cX6_init 127 = .ok (.invokespecial 64, 3) := by decide +kernel
theorem dX6_init_130 : decode cX6_init 130 = .ok (.aastore, 1) := by decide +kernel
theorem dX6_init_131 : decode cX6_init 131 = .ok (.iinc 1 1, 3) := by decide +kernel
theorem dX6_init_134 : decode cX6_init 134 = .ok (.goto (-21), 3) := by decide +kernel
theorem dX6_init_137 : decode cX6_init 137 = .ok (.return_, 1) := by decide +kernel
theorem dX6_table_0 : decode cX6_table 0 = .ok (.aload_n 0, 1) := by decide +kernel
theorem dX6_table_1 : decode cX6_table 1 = .ok (.iload_n 1, 1) := by decide +kernel
theorem dX6_table_2 : decode cX6_table 2 = .ok (.iload_n 2, 1) := by decide +kernel
theorem dX6_table_3 : decode cX6_table 3 = .ok (.iload_n 3, 1) := by decide +kernel
theorem dX6_table_4 : decode cX6_table 4 = .ok (.iload 4, 2) := by decide +kernel
theorem dX6_table_6 : decode cX6_table 6 = .ok (.invokevirtual 65, 3) := by decide +kernel
theorem dX6_table_9 : decode cX6_table 9 = .ok (.istore 5, 2) := by decide +kernel
theorem dX6_table_11 : decode cX6_table 11 = .ok (.iload 5, 2) := by decide +kernel
theorem dX6_table_13 : decode cX6_table 13 = .ok (.ifCond .eq 6, 3) := by decide +kernel
theorem dX6_table_16 : decode cX6_table 16 = .ok (.iload 5, 2) := by decide +kernel
theorem dX6_table_18 : decode cX6_table 18 = .ok (.ireturn, 1) := by decide +kernel
theorem dX6_table_19 : decode cX6_table 19 = .ok (.aload_n 0, 1) := by decide +kernel
theorem dX6_table_20 : decode cX6_table 20 = .ok (.getfield 24, 3) := by decide +kernel
theorem dX6_table_23 : decode cX6_table 23 = .ok (.aload_n 0, 1) := by decide +kernel
theorem dX6_table_24 : decode cX6_table 24 = .ok (.getfield 13, 3) := by decide +kernel
theorem dX6_table_27 : decode cX6_table 27 = .ok (.iload_n 1, 1) := by decide +kernel
theorem dX6_table_28 : decode cX6_table 28 = .ok (.aaload, 1) := by decide +kernel
theorem dX6_table_29 : decode cX6_table 29 = .ok (.iload_n 3, 1) := by decide +kernel
theorem dX6_table_30 : decode cX6_table 30 = .ok (.iload 4, 2) := by decide +kernel
theorem dX6_table_32 : decode cX6_table 32 = .ok (.invokevirtual 69, 3) := by decide +kernel
theorem dX6_table_35 : decode cX6_table 35 = .ok (.ifCond .ne 14, 3) := by decide +kernel
theorem dX6_table_38 : decode cX6_table 38 = .ok (.bipush (-100), 2) := by decide +kernel
theorem dX6_table_40 : decode cX6_table 40 = .ok (.aload_n 0, 1) := by decide +kernel
theorem dX6_table_41 : decode cX6_table 41 = .ok (.getfield 24, 3) := by decide +kernel
theorem dX6_table_44 : decode cX6_table 44 = .ok (.invokevirtual 73, 3) := by decide +kernel
theorem dX6_table_47 : decode cX6_table 47 = .ok (.isub, 1) := by decide +kernel
theorem dX6_table_48 : decode cX6_table 48 = .ok (.ireturn, 1) := by decide +kernel
theorem dX6_table_49 : decode cX6_table 49 = .ok (.aload_n 0, 1) := by decide +kernel
theorem dX6_table_50 : decode cX6_table 50 = .ok (.getfield 20, 3) := by decide +kernel
theorem dX6_table_53 : decode cX6_table 53 = .ok (.astore 6, 2) := by decide +kernel
theorem dX6_table_55 : decode cX6_table 55 = .ok (.aload_n 0, 1) := by decide +kernel
theorem dX6_table_56 : decode cX6_table 56 = .ok (.aload_n 0, 1) := by decide +kernel
theorem dX6_table_57 : decode cX6_table 57 = .ok (.getfield 24, 3) := by decide +kernel
theorem dX6_table_60 : decode cX6_table 60 = .ok (.putfield 20, 3) := by decide +kernel
theorem dX6_table_63 : decode cX6_table 63 = .ok (.aload_n 0, 1) := by decide +kernel
theorem dX6_table_64 : decode cX6_table 64 = .ok (.aload 6, 2) := by decide +kernel
theorem dX6_table_66 : decode cX6_table 66 = .ok (.putfield 24, 3) := by decide +kernel
theorem dX6_table_69 : decode cX6_table 69 = .ok (.aload_n 0, 1) := by decide +kernel
theorem dX6_table_70 : decode cX6_table 70 = .ok (.getfield 30, 3) := by decide +kernel
theorem dX6_table_73 : decode cX6_table 73 = .ok (.aload_n 0, 1) := by decide +kernel
theorem dX6_table_74 : decode cX6_table 74 = .ok (.getfield 20, 3) := by decide +kernel
theorem dX6_table_77 : decode cX6_table 77 = .ok (.invokevirtual 77, 3) := by decide +kernel
theorem dX6_table_80 : decode cX6_table 80 = .ok (.aload_n 0, 1) := by decide +kernel
theorem dX6_table_81 : decode cX6_table 81 = .ok (.iconst 0, 1) := by decide +kernel
theorem dX6_table_82 : decode cX6_table 82 = .ok (.putfield 81, 3) := by decide +kernel
theorem dX6_table_85 : decode cX6_table 85 = .ok (.aload_n 0, 1) := by decide +kernel
theorem dX6_table_86 : decode cX6_table 86 = .ok (.invokevirtual 85, 3) := by decide +kernel
theorem dX6_table_89 : decode cX6_table 89 = .ok (.aload_n 0, 1) := by decide +kernel
theorem dX6_table_90 : decode cX6_table 90 = .ok (.getfield 20, 3) := by decide +kernel
theorem dX6_table_93 : decode cX6_table 93 = .ok (.getfield 88, 3) := by decide +kernel
theorem dX6_table_96 : decode cX6_table 96 = .ok (.ireturn, 1) := by decide +kernel
theorem dX6_ofDish_0 : decode cX6_ofDish 0 = .ok (.aload_n 0, 1) := by decide +kernel
theorem dX6_ofDish_1 : decode cX6_ofDish 1 = .ok (.iload_n 1, 1) := by decide +kernel
theorem dX6_ofDish_2 : decode cX6_ofDish 2 = .ok (.invokevirtual 91, 3) := by decide +kernel
theorem dX6_ofDish_5 : decode cX6_ofDish 5 = .ok (.ifCond .ne 5, 3) := by decide +kernel
theorem dX6_ofDish_8 : decode cX6_ofDish 8 = .ok (.iconst (-1), 1) := by decide +kernel
theorem dX6_ofDish_9 : decode cX6_ofDish 9 = .ok (.ireturn, 1) := by decide +kernel
theorem dX6_ofDish_10 : decode cX6_ofDish 10 = .ok (.iload_n 2, 1) := by decide +kernel
theorem dX6_ofDish_11 : decode cX6_ofDish 11 = .ok (.lookupswitch 45 #[(0, 25), (1, 35)], 25) := by decide +kernel
theorem dX6_ofDish_36 : decode cX6_ofDish 36 = .ok (.aload_n 0, 1) := by decide +kernel
theorem dX6_ofDish_37 : decode cX6_ofDish 37 = .ok (.getfield 20, 3) := by decide +kernel
theorem dX6_ofDish_40 : decode cX6_ofDish 40 = .ok (.getfield 95, 3) := by decide +kernel
theorem dX6_ofDish_43 : decode cX6_ofDish 43 = .ok (.iload_n 1, 1) := by decide +kernel
theorem dX6_ofDish_44 : decode cX6_ofDish 44 = .ok (.iaload, 1) := by decide +kernel
theorem dX6_ofDish_45 : decode cX6_ofDish 45 = .ok (.ireturn, 1) := by decide +kernel
theorem dX6_ofDish_46 : decode cX6_ofDish 46 = .ok (.aload_n 0, 1) := by decide +kernel
theorem dX6_ofDish_47 : decode cX6_ofDish 47 = .ok (.getfield 20, 3) := by decide +kernel
theorem dX6_ofDish_50 : decode cX6_ofDish 50 = .ok (.getfield 99, 3) := by decide +kernel
theorem dX6_ofDish_53 : decode cX6_ofDish 53 = .ok (.iload_n 1, 1) := by decide +kernel
theorem dX6_ofDish_54 : decode cX6_ofDish 54 = .ok (.iaload, 1) := by decide +kernel
theorem dX6_ofDish_55 : decode cX6_ofDish 55 = .ok (.ireturn, 1) := by decide +kernel
theorem dX6_ofDish_56 : decode cX6_ofDish 56 = .ok (.bipush (-2), 2) := by decide +kernel
theorem dX6_ofDish_58 : decode cX6_ofDish 58 = .ok (.ireturn, 1) := by decide +kernel
theorem dX6_ofGuest_0 : decode cX6_ofGuest 0 = .ok (.aload_n 0, 1) := by decide +kernel
theorem dX6_ofGuest_1 : decode cX6_ofGuest 1 = .ok (.iload_n 1, 1) := by decide +kernel
theorem dX6_ofGuest_2 : decode cX6_ofGuest 2 = .ok (.invokevirtual 102, 3) := by decide +kernel
theorem dX6_ofGuest_5 : decode cX6_ofGuest 5 = .ok (.ifCond .ne 5, 3) := by decide +kernel
theorem dX6_ofGuest_8 : decode cX6_ofGuest 8 = .ok (.iconst (-1), 1) := by decide +kernel
theorem dX6_ofGuest_9 : decode cX6_ofGuest 9 = .ok (.ireturn, 1) := by decide +kernel
theorem dX6_ofGuest_10 : decode cX6_ofGuest 10 = .ok (.iload_n 2, 1) := by decide +kernel
theorem dX6_ofGuest_11 : decode cX6_ofGuest 11 = .ok (.tableswitch 82 0 4 #[33, 43, 53, 63, 72], 33) := by decide +kernel
theorem dX6_ofGuest_44 : decode cX6_ofGuest 44 = .ok (.aload_n 0, 1) := by decide +kernel
theorem dX6_ofGuest_45 : decode cX6_ofGuest 45 = .ok (.getfield 20, 3) := by decide +kernel
theorem dX6_ofGuest_48 : decode cX6_ofGuest 48 = .ok (.getfield 105, 3) := by decide +kernel
theorem dX6_ofGuest_51 : decode cX6_ofGuest 51 = .ok (.iload_n 1, 1) := by decide +kernel
theorem dX6_ofGuest_52 : decode cX6_ofGuest 52 = .ok (.iaload, 1) := by decide +kernel
theorem dX6_ofGuest_53 : decode cX6_ofGuest 53 = .ok (.ireturn, 1) := by decide +kernel
theorem dX6_ofGuest_54 : decode cX6_ofGuest 54 = .ok (.aload_n 0, 1) := by decide +kernel
theorem dX6_ofGuest_55 : decode cX6_ofGuest 55 = .ok (.getfield 20, 3) := by decide +kernel
theorem dX6_ofGuest_58 : decode cX6_ofGuest 58 = .ok (.getfield 108, 3) := by decide +kernel
theorem dX6_ofGuest_61 : decode cX6_ofGuest 61 = .ok (.iload_n 1, 1) := by decide +kernel
theorem dX6_ofGuest_62 : decode cX6_ofGuest 62 = .ok (.iaload, 1) := by decide +kernel
theorem dX6_ofGuest_63 : decode cX6_ofGuest 63 = .ok (.ireturn, 1) := by decide +kernel
theorem dX6_ofGuest_64 : decode cX6_ofGuest 64 = .ok (.aload_n 0, 1) := by decide +kernel
theorem dX6_ofGuest_65 : decode cX6_ofGuest 65 = .ok (.getfield 20, 3) := by decide +kernel
theorem dX6_ofGuest_68 : decode cX6_ofGuest 68 = .ok (.getfield 111, 3) := by decide +kernel
theorem dX6_ofGuest_71 : decode cX6_ofGuest 71 = .ok (.iload_n 1, 1) := by decide +kernel
theorem dX6_ofGuest_72 : decode cX6_ofGuest 72 = .ok (.iaload, 1) := by decide +kernel
theorem dX6_ofGuest_73 : decode cX6_ofGuest 73 = .ok (.ireturn, 1) := by decide +kernel
theorem dX6_ofGuest_74 : decode cX6_ofGuest 74 = .ok (.aload_n 0, 1) := by decide +kernel
theorem dX6_ofGuest_75 : decode cX6_ofGuest 75 = .ok (.getfield 30, 3) := by decide +kernel
theorem dX6_ofGuest_78 : decode cX6_ofGuest 78 = .ok (.iload_n 1, 1) := by decide +kernel
theorem dX6_ofGuest_79 : decode cX6_ofGuest 79 = .ok (.invokevirtual 114, 3) := by decide +kernel
theorem dX6_ofGuest_82 : decode cX6_ofGuest 82 = .ok (.ireturn, 1) := by decide +kernel
theorem dX6_ofGuest_83 : decode cX6_ofGuest 83 = .ok (.aload_n 0, 1) := by decide +kernel
theorem dX6_ofGuest_84 : decode cX6_ofGuest 84 = .ok (.getfield 30, 3) := by decide +kernel
theorem dX6_ofGuest_87 : decode cX6_ofGuest 87 = .ok (.getfield 118, 3) := by decide +kernel
theorem dX6_ofGuest_90 : decode cX6_ofGuest 90 = .ok (.iload_n 1, 1) := by decide +kernel
theorem dX6_ofGuest_91 : decode cX6_ofGuest 91 = .ok (.iaload, 1) := by decide +kernel
theorem dX6_ofGuest_92 : decode cX6_ofGuest 92 = .ok (.ireturn, 1) := by decide +kernel
theorem dX6_ofGuest_93 : decode cX6_ofGuest 93 = .ok (.bipush (-2), 2) := by decide +kernel
theorem dX6_ofGuest_95 : decode cX6_ofGuest 95 = .ok (.ireturn, 1) := by decide +kernel
theorem dX6_worth_0 : decode cX6_worth 0 = .ok (.aload_n 0, 1) := by decide +kernel
theorem dX6_worth_1 : decode cX6_worth 1 = .ok (.iload_n 1, 1) := by decide +kernel
theorem dX6_worth_2 : decode cX6_worth 2 = .ok (.invokevirtual 102, 3) := by decide +kernel
theorem dX6_worth_5 : decode cX6_worth 5 = .ok (.ifCond .eq 11, 3) := by decide +kernel
theorem dX6_worth_8 : decode cX6_worth 8 = .ok (.aload_n 0, 1) := by decide +kernel
theorem dX6_worth_9 : decode cX6_worth 9 = .ok (.iload_n 2, 1) := by decide +kernel
theorem dX6_worth_10 : decode cX6_worth 10 = .ok (.invokevirtual 91, 3) := by decide +kernel
theorem dX6_worth_13 : decode cX6_worth 13 = .ok (.ifCond .ne 6, 3) := by decide +kernel
theorem dX6_worth_16 : decode cX6_worth 16 = .ok (.bipush (-5), 2) := by decide +kernel
theorem dX6_worth_18 : decode cX6_worth 18 = .ok (.ireturn, 1) := by decide +kernel
theorem dX6_worth_19 : decode cX6_worth 19 = .ok (.iload_n 3, 1) := by decide +kernel
theorem dX6_worth_20 : decode cX6_worth 20 = .ok (.ifCond .eq 17, 3) := by decide +kernel
theorem dX6_worth_23 : decode cX6_worth 23 = .ok (.aload_n 0, 1) := by decide +kernel
theorem dX6_worth_24 : decode cX6_worth 24 = .ok (.getfield 30, 3) := by decide +kernel
theorem dX6_worth_27 : decode cX6_worth 27 = .ok (.getfield 121, 3) := by decide +kernel
theorem dX6_worth_30 : decode cX6_worth 30 = .ok (.iload_n 1, 1) := by decide +kernel
theorem dX6_worth_31 : decode cX6_worth 31 = .ok (.aaload, 1) := by decide +kernel
theorem dX6_worth_32 : decode cX6_worth 32 = .ok (.iload_n 2, 1) := by decide +kernel
theorem dX6_worth_33 : decode cX6_worth 33 = .ok (.iaload, 1) := by decide +kernel
theorem dX6_worth_34 : decode cX6_worth 34 = .ok (.goto 14, 3) := by decide +kernel
theorem dX6_worth_37 : decode cX6_worth 37 = .ok (.aload_n 0, 1) := by decide +kernel
theorem dX6_worth_38 : decode cX6_worth 38 = .ok (.getfield 20, 3) := by decide +kernel
theorem dX6_worth_41 : decode cX6_worth 41 = .ok (.getfield 125, 3) := by decide +kernel
theorem dX6_worth_44 : decode cX6_worth 44 = .ok (.iload_n 1, 1) := by decide +kernel
theorem dX6_worth_45 : decode cX6_worth 45 = .ok (.aaload, 1) := by decide +kernel
theorem dX6_worth_46 : decode cX6_worth 46 = .ok (.iload_n 2, 1) := by decide +kernel
theorem dX6_worth_47 : decode cX6_worth 47 = .ok (.iaload, 1) := by decide +kernel
theorem dX6_worth_48 : decode cX6_worth 48 = .ok (.ireturn, 1) := by decide +kernel
theorem dX6_say_0 : decode cX6_say 0 = .ok (.aload_n 0, 1) := by decide +kernel
theorem dX6_say_1 : decode cX6_say 1 = .ok (.iload_n 1, 1) := by decide +kernel
theorem dX6_say_2 : decode cX6_say 2 = .ok (.invokevirtual 102, 3) := by decide +kernel
theorem dX6_say_5 : decode cX6_say 5 = .ok (.ifCond .eq 11, 3) := by decide +kernel
theorem dX6_say_8 : decode cX6_say 8 = .ok (.aload_n 0, 1) := by decide +kernel
theorem dX6_say_9 : decode cX6_say 9 = .ok (.iload_n 2, 1) := by decide +kernel
theorem dX6_say_10 : decode cX6_say 10 = .ok (.invokevirtual 91, 3) := by decide +kernel
theorem dX6_say_13 : decode cX6_say 13 = .ok (.ifCond .ne 5, 3) := by decide +kernel
theorem dX6_say_16 : decode cX6_say 16 = .ok (.iconst (-1), 1) := by decide +kernel
theorem dX6_say_17 : decode cX6_say 17 = .ok (.ireturn, 1) := by decide +kernel
theorem dX6_say_18 : decode cX6_say 18 = .ok (.iload_n 3, 1) := by decide +kernel
theorem dX6_say_19 : decode cX6_say 19 = .ok (.ifCond .lt 9, 3) := by decide +kernel
theorem dX6_say_22 : decode cX6_say 22 = .ok (.iload_n 3, 1) := by decide +kernel
theorem dX6_say_23 : decode cX6_say 23 = .ok (.bipush 9, 2) := by decide +kernel
theorem dX6_say_25 : decode cX6_say 25 = .ok (.if_icmp .le 6, 3) := by decide +kernel
theorem dX6_say_28 : decode cX6_say 28 = .ok (.bipush (-2), 2) := by decide +kernel
theorem dX6_say_30 : decode cX6_say 30 = .ok (.ireturn, 1) := by decide +kernel
theorem dX6_say_31 : decode cX6_say 31 = .ok (.aload_n 0, 1) := by decide +kernel
theorem dX6_say_32 : decode cX6_say 32 = .ok (.getfield 20, 3) := by decide +kernel
theorem dX6_say_35 : decode cX6_say 35 = .ok (.iload_n 1, 1) := by decide +kernel
theorem dX6_say_36 : decode cX6_say 36 = .ok (.iload_n 2, 1) := by decide +kernel
theorem dX6_say_37 : decode cX6_say 37 = .ok (.invokevirtual 128, 3) := by decide +kernel
theorem dX6_say_40 : decode cX6_say 40 = .ok (.ifCond .ne 6, 3) := by decide +kernel
theorem dX6_say_43 : decode cX6_say 43 = .ok (.bipush (-3), 2) := by decide +kernel
theorem dX6_say_45 : decode cX6_say 45 = .ok (.ireturn, 1) := by decide +kernel
theorem dX6_say_46 : decode cX6_say 46 = .ok (.aload_n 0, 1) := by decide +kernel
theorem dX6_say_47 : decode cX6_say 47 = .ok (.getfield 30, 3) := by decide +kernel
theorem dX6_say_50 : decode cX6_say 50 = .ok (.getfield 121, 3) := by decide +kernel
theorem dX6_say_53 : decode cX6_say 53 = .ok (.iload_n 1, 1) := by decide +kernel
theorem dX6_say_54 : decode cX6_say 54 = .ok (.aaload, 1) := by decide +kernel
theorem dX6_say_55 : decode cX6_say 55 = .ok (.iload_n 2, 1) := by decide +kernel
theorem dX6_say_56 : decode cX6_say 56 = .ok (.iaload, 1) := by decide +kernel
theorem dX6_say_57 : decode cX6_say 57 = .ok (.istore 4, 2) := by decide +kernel
theorem dX6_say_59 : decode cX6_say 59 = .ok (.aload_n 0, 1) := by decide +kernel
theorem dX6_say_60 : decode cX6_say 60 = .ok (.getfield 30, 3) := by decide +kernel
theorem dX6_say_63 : decode cX6_say 63 = .ok (.getfield 121, 3) := by decide +kernel
theorem dX6_say_66 : decode cX6_say 66 = .ok (.iload_n 1, 1) := by decide +kernel
theorem dX6_say_67 : decode cX6_say 67 = .ok (.aaload, 1) := by decide +kernel
theorem dX6_say_68 : decode cX6_say 68 = .ok (.iload_n 2, 1) := by decide +kernel
theorem dX6_say_69 : decode cX6_say 69 = .ok (.iload_n 3, 1) := by decide +kernel
theorem dX6_say_70 : decode cX6_say 70 = .ok (.iastore, 1) := by decide +kernel
theorem dX6_say_71 : decode cX6_say 71 = .ok (.aload_n 0, 1) := by decide +kernel
theorem dX6_say_72 : decode cX6_say 72 = .ok (.invokevirtual 85, 3) := by decide +kernel
theorem dX6_say_75 : decode cX6_say 75 = .ok (.iload 4, 2) := by decide +kernel
theorem dX6_say_77 : decode cX6_say 77 = .ok (.ireturn, 1) := by decide +kernel
theorem dX6_swap_0 : decode cX6_swap 0 = .ok (.aload_n 0, 1) := by decide +kernel
theorem dX6_swap_1 : decode cX6_swap 1 = .ok (.iload_n 1, 1) := by decide +kernel
theorem dX6_swap_2 : decode cX6_swap 2 = .ok (.invokevirtual 102, 3) := by decide +kernel
theorem dX6_swap_5 : decode cX6_swap 5 = .ok (.ifCond .eq 11, 3) := by decide +kernel
theorem dX6_swap_8 : decode cX6_swap 8 = .ok (.aload_n 0, 1) := by decide +kernel
theorem dX6_swap_9 : decode cX6_swap 9 = .ok (.iload_n 2, 1) := by decide +kernel
theorem dX6_swap_10 : decode cX6_swap 10 = .ok (.invokevirtual 102, 3) := by decide +kernel
theorem dX6_swap_13 : decode cX6_swap 13 = .ok (.ifCond .ne 5, 3) := by decide +kernel
theorem dX6_swap_16 : decode cX6_swap 16 = .ok (.iconst (-1), 1) := by decide +kernel
theorem dX6_swap_17 : decode cX6_swap 17 = .ok (.ireturn, 1) := by decide +kernel
theorem dX6_swap_18 : decode cX6_swap 18 = .ok (.aload_n 0, 1) := by decide +kernel
theorem dX6_swap_19 : decode cX6_swap 19 = .ok (.getfield 30, 3) := by decide +kernel
theorem dX6_swap_22 : decode cX6_swap 22 = .ok (.iload_n 1, 1) := by decide +kernel
theorem dX6_swap_23 : decode cX6_swap 23 = .ok (.invokevirtual 114, 3) := by decide +kernel
theorem dX6_swap_26 : decode cX6_swap 26 = .ok (.istore_n 3, 1) := by decide +kernel
theorem dX6_swap_27 : decode cX6_swap 27 = .ok (.aload_n 0, 1) := by decide +kernel
theorem dX6_swap_28 : decode cX6_swap 28 = .ok (.getfield 30, 3) := by decide +kernel
theorem dX6_swap_31 : decode cX6_swap 31 = .ok (.iload_n 2, 1) := by decide +kernel
theorem dX6_swap_32 : decode cX6_swap 32 = .ok (.invokevirtual 114, 3) := by decide +kernel
theorem dX6_swap_35 : decode cX6_swap 35 = .ok (.istore 4, 2) := by decide +kernel
theorem dX6_swap_37 : decode cX6_swap 37 = .ok (.aload_n 0, 1) := by decide +kernel
theorem dX6_swap_38 : decode cX6_swap 38 = .ok (.getfield 30, 3) := by decide +kernel
theorem dX6_swap_41 : decode cX6_swap 41 = .ok (.getfield 132, 3) := by decide +kernel
theorem dX6_swap_44 : decode cX6_swap 44 = .ok (.iload_n 3, 1) := by decide +kernel
theorem dX6_swap_45 : decode cX6_swap 45 = .ok (.iload_n 2, 1) := by decide +kernel
theorem dX6_swap_46 : decode cX6_swap 46 = .ok (.iastore, 1) := by decide +kernel
theorem dX6_swap_47 : decode cX6_swap 47 = .ok (.aload_n 0, 1) := by decide +kernel
theorem dX6_swap_48 : decode cX6_swap 48 = .ok (.getfield 30, 3) := by decide +kernel
theorem dX6_swap_51 : decode cX6_swap 51 = .ok (.getfield 132, 3) := by decide +kernel
theorem dX6_swap_54 : decode cX6_swap 54 = .ok (.iload 4, 2) := by decide +kernel
theorem dX6_swap_56 : decode cX6_swap 56 = .ok (.iload_n 1, 1) := by decide +kernel
theorem dX6_swap_57 : decode cX6_swap 57 = .ok (.iastore, 1) := by decide +kernel
theorem dX6_swap_58 : decode cX6_swap 58 = .ok (.aload_n 0, 1) := by decide +kernel
theorem dX6_swap_59 : decode cX6_swap 59 = .ok (.invokevirtual 85, 3) := by decide +kernel
theorem dX6_swap_62 : decode cX6_swap 62 = .ok (.iconst 1, 1) := by decide +kernel
theorem dX6_swap_63 : decode cX6_swap 63 = .ok (.ireturn, 1) := by decide +kernel
theorem dX6_step_0 : decode cX6_step 0 = .ok (.iload_n 1, 1) := by decide +kernel
theorem dX6_step_1 : decode cX6_step 1 = .ok (.iconst 1, 1) := by decide +kernel
theorem dX6_step_2 : decode cX6_step 2 = .ok (.if_icmp .lt 16, 3) := by decide +kernel
theorem dX6_step_5 : decode cX6_step 5 = .ok (.iload_n 1, 1) := by decide +kernel
theorem dX6_step_6 : decode cX6_step 6 = .ok (.aload_n 0, 1) := by decide +kernel
theorem dX6_step_7 : decode cX6_step 7 = .ok (.getfield 20, 3) := by decide +kernel
theorem dX6_step_10 : decode cX6_step 10 = .ok (.getfield 88, 3) := by decide +kernel
theorem dX6_step_13 : decode cX6_step 13 = .ok (.iconst 1, 1) := by decide +kernel
theorem dX6_step_14 : decode cX6_step 14 = .ok (.isub, 1) := by decide +kernel
theorem dX6_step_15 : decode cX6_step 15 = .ok (.if_icmp .le 6, 3) := by decide +kernel
theorem dX6_step_18 : decode cX6_step 18 = .ok (.bipush (-2), 2) := by decide +kernel
theorem dX6_step_20 : decode cX6_step 20 = .ok (.ireturn, 1) := by decide +kernel
theorem dX6_step_21 : decode cX6_step 21 = .ok (.aload_n 0, 1) := by decide +kernel
theorem dX6_step_22 : decode cX6_step 22 = .ok (.getfield 30, 3) := by decide +kernel
theorem dX6_step_25 : decode cX6_step 25 = .ok (.getfield 135, 3) := by decide +kernel
theorem dX6_step_28 : decode cX6_step 28 = .ok (.istore_n 2, 1) := by decide +kernel
theorem dX6_step_29 : decode cX6_step 29 = .ok (.aload_n 0, 1) := by decide +kernel
theorem dX6_step_30 : decode cX6_step 30 = .ok (.getfield 30, 3) := by decide +kernel
theorem dX6_step_33 : decode cX6_step 33 = .ok (.iload_n 1, 1) := by decide +kernel
theorem dX6_step_34 : decode cX6_step 34 = .ok (.putfield 135, 3) := by decide +kernel
theorem dX6_step_37 : decode cX6_step 37 = .ok (.aload_n 0, 1) := by decide +kernel
theorem dX6_step_38 : decode cX6_step 38 = .ok (.invokevirtual 85, 3) := by decide +kernel
theorem dX6_step_41 : decode cX6_step 41 = .ok (.iload_n 2, 1) := by decide +kernel
theorem dX6_step_42 : decode cX6_step 42 = .ok (.ireturn, 1) := by decide +kernel
theorem dX6_courses_0 : decode cX6_courses 0 = .ok (.iload_n 1, 1) := by decide +kernel
theorem dX6_courses_1 : decode cX6_courses 1 = .ok (.iconst 1, 1) := by decide +kernel
theorem dX6_courses_2 : decode cX6_courses 2 = .ok (.if_icmp .lt 9, 3) := by decide +kernel
theorem dX6_courses_5 : decode cX6_courses 5 = .ok (.iload_n 1, 1) := by decide +kernel
theorem dX6_courses_6 : decode cX6_courses 6 = .ok (.bipush 8, 2) := by decide +kernel
theorem dX6_courses_8 : decode cX6_courses 8 = .ok (.if_icmp .le 6, 3) := by decide +kernel
theorem dX6_courses_11 : decode cX6_courses 11 = .ok (.bipush (-2), 2) := by decide +kernel
theorem dX6_courses_13 : decode cX6_courses 13 = .ok (.ireturn, 1) := by decide +kernel
theorem dX6_courses_14 : decode cX6_courses 14 = .ok (.aload_n 0, 1) := by decide +kernel
theorem dX6_courses_15 : decode cX6_courses 15 = .ok (.invokevirtual 138, 3) := by decide +kernel
theorem dX6_courses_18 : decode cX6_courses 18 = .ok (.ifCond .ne 6, 3) := by decide +kernel
theorem dX6_courses_21 : decode cX6_courses 21 = .ok (.bipush (-3), 2) := by decide +kernel
theorem dX6_courses_23 : decode cX6_courses 23 = .ok (.ireturn, 1) := by decide +kernel
theorem dX6_courses_24 : decode cX6_courses 24 = .ok (.aload_n 0, 1) := by decide +kernel
theorem dX6_courses_25 : decode cX6_courses 25 = .ok (.getfield 30, 3) := by decide +kernel
theorem dX6_courses_28 : decode cX6_courses 28 = .ok (.getfield 142, 3) := by decide +kernel
theorem dX6_courses_31 : decode cX6_courses 31 = .ok (.istore_n 2, 1) := by decide +kernel
theorem dX6_courses_32 : decode cX6_courses 32 = .ok (.aload_n 0, 1) := by decide +kernel
theorem dX6_courses_33 : decode cX6_courses 33 = .ok (.getfield 30, 3) := by decide +kernel
theorem dX6_courses_36 : decode cX6_courses 36 = .ok (.iload_n 1, 1) := by decide +kernel
theorem dX6_courses_37 : decode cX6_courses 37 = .ok (.putfield 142, 3) := by decide +kernel
theorem dX6_courses_40 : decode cX6_courses 40 = .ok (.aload_n 0, 1) := by decide +kernel
theorem dX6_courses_41 : decode cX6_courses 41 = .ok (.invokevirtual 85, 3) := by decide +kernel
theorem dX6_courses_44 : decode cX6_courses 44 = .ok (.iload_n 2, 1) := by decide +kernel
theorem dX6_courses_45 : decode cX6_courses 45 = .ok (.ireturn, 1) := by decide +kernel
theorem dX6_dine_0 : decode cX6_dine 0 = .ok (.aload_n 0, 1) := by decide +kernel
theorem dX6_dine_1 : decode cX6_dine 1 = .ok (.invokevirtual 138, 3) := by decide +kernel
theorem dX6_dine_4 : decode cX6_dine 4 = .ok (.ifCond .ne 6, 3) := by decide +kernel
theorem dX6_dine_7 : decode cX6_dine 7 = .ok (.bipush (-3), 2) := by decide +kernel
theorem dX6_dine_9 : decode cX6_dine 9 = .ok (.ireturn, 1) := by decide +kernel
theorem dX6_dine_10 : decode cX6_dine 10 = .ok (.aload_n 0, 1) := by decide +kernel
theorem dX6_dine_11 : decode cX6_dine 11 = .ok (.getfield 30, 3) := by decide +kernel
theorem dX6_dine_14 : decode cX6_dine 14 = .ok (.invokevirtual 145, 3) := by decide +kernel
theorem dX6_dine_17 : decode cX6_dine 17 = .ok (.aload_n 0, 1) := by decide +kernel
theorem dX6_dine_18 : decode cX6_dine 18 = .ok (.dup, 1) := by decide +kernel
theorem dX6_dine_19 : decode cX6_dine 19 = .ok (.getfield 81, 3) := by decide +kernel
theorem dX6_dine_22 : decode cX6_dine 22 = .ok (.iconst 1, 1) := by decide +kernel
theorem dX6_dine_23 : decode cX6_dine 23 = .ok (.iadd, 1) := by decide +kernel
theorem dX6_dine_24 : decode cX6_dine 24 = .ok (.putfield 81, 3) := by decide +kernel
theorem dX6_dine_27 : decode cX6_dine 27 = .ok (.aload_n 0, 1) := by decide +kernel
theorem dX6_dine_28 : decode cX6_dine 28 = .ok (.getfield 30, 3) := by decide +kernel
theorem dX6_dine_31 : decode cX6_dine 31 = .ok (.invokevirtual 148, 3) := by decide +kernel
theorem dX6_dine_34 : decode cX6_dine 34 = .ok (.ireturn, 1) := by decide +kernel
theorem dX6_forget_0 : decode cX6_forget 0 = .ok (.iconst 0, 1) := by decide +kernel
theorem dX6_forget_1 : decode cX6_forget 1 = .ok (.istore_n 1, 1) := by decide +kernel
theorem dX6_forget_2 : decode cX6_forget 2 = .ok (.iconst 0, 1) := by decide +kernel
theorem dX6_forget_3 : decode cX6_forget 3 = .ok (.istore_n 2, 1) := by decide +kernel
theorem dX6_forget_4 : decode cX6_forget 4 = .ok (.iload_n 2, 1) := by decide +kernel
theorem dX6_forget_5 : decode cX6_forget 5 = .ok (.aload_n 0, 1) := by decide +kernel
theorem dX6_forget_6 : decode cX6_forget 6 = .ok (.getfield 20, 3) := by decide +kernel
theorem dX6_forget_9 : decode cX6_forget 9 = .ok (.getfield 88, 3) := by decide +kernel
theorem dX6_forget_12 : decode cX6_forget 12 = .ok (.if_icmp .ge 26, 3) := by decide +kernel
theorem dX6_forget_15 : decode cX6_forget 15 = .ok (.aload_n 0, 1) := by decide +kernel
theorem dX6_forget_16 : decode cX6_forget 16 = .ok (.getfield 30, 3) := by decide +kernel
theorem dX6_forget_19 : decode cX6_forget 19 = .ok (.getfield 118, 3) := by decide +kernel
theorem dX6_forget_22 : decode cX6_forget 22 = .ok (.iload_n 2, 1) := by decide +kernel
theorem dX6_forget_23 : decode cX6_forget 23 = .ok (.iaload, 1) := by decide +kernel
theorem dX6_forget_24 : decode cX6_forget 24 = .ok (.bipush (-8), 2) := by decide +kernel
theorem dX6_forget_26 : decode cX6_forget 26 = .ok (.if_icmp .eq 6, 3) := by decide +kernel
theorem dX6_forget_29 : decode cX6_forget 29 = .ok (.iinc 1 1, 3) := by decide +kernel
theorem dX6_forget_32 : decode cX6_forget 32 = .ok (.iinc 2 1, 3) := by decide +kernel
theorem dX6_forget_35 : decode cX6_forget 35 = .ok (.goto (-31), 3) := by decide +kernel
theorem dX6_forget_38 : decode cX6_forget 38 = .ok (.aload_n 0, 1) := by decide +kernel
theorem dX6_forget_39 : decode cX6_forget 39 = .ok (.getfield 30, 3) := by decide +kernel
theorem dX6_forget_42 : decode cX6_forget 42 = .ok (.invokevirtual 151, 3) := by decide +kernel
theorem dX6_forget_45 : decode cX6_forget 45 = .ok (.iload_n 1, 1) := by decide +kernel
theorem dX6_forget_46 : decode cX6_forget 46 = .ok (.ireturn, 1) := by decide +kernel
theorem dX6_gets_0 : decode cX6_gets 0 = .ok (.aload_n 0, 1) := by decide +kernel
theorem dX6_gets_1 : decode cX6_gets 1 = .ok (.iload_n 1, 1) := by decide +kernel
theorem dX6_gets_2 : decode cX6_gets 2 = .ok (.invokevirtual 102, 3) := by decide +kernel
theorem dX6_gets_5 : decode cX6_gets 5 = .ok (.ifCond .eq 18, 3) := by decide +kernel
theorem dX6_gets_8 : decode cX6_gets 8 = .ok (.iload_n 2, 1) := by decide +kernel
theorem dX6_gets_9 : decode cX6_gets 9 = .ok (.ifCond .lt 14, 3) := by decide +kernel
theorem dX6_gets_12 : decode cX6_gets 12 = .ok (.iload_n 2, 1) := by decide +kernel
theorem dX6_gets_13 : decode cX6_gets 13 = .ok (.aload_n 0, 1) := by decide +kernel
theorem dX6_gets_14 : decode cX6_gets 14 = .ok (.getfield 30, 3) := by decide +kernel
theorem dX6_gets_17 : decode cX6_gets 17 = .ok (.getfield 142, 3) := by decide +kernel
theorem dX6_gets_20 : decode cX6_gets 20 = .ok (.if_icmp .lt 5, 3) := by decide +kernel
theorem dX6_gets_23 : decode cX6_gets 23 = .ok (.iconst (-1), 1) := by decide +kernel
theorem dX6_gets_24 : decode cX6_gets 24 = .ok (.ireturn, 1) := by decide +kernel
theorem dX6_gets_25 : decode cX6_gets 25 = .ok (.aload_n 0, 1) := by decide +kernel
theorem dX6_gets_26 : decode cX6_gets 26 = .ok (.invokevirtual 154, 3) := by decide +kernel
theorem dX6_gets_29 : decode cX6_gets 29 = .ok (.aload_n 0, 1) := by decide +kernel
theorem dX6_gets_30 : decode cX6_gets 30 = .ok (.getfield 34, 3) := by decide +kernel
theorem dX6_gets_33 : decode cX6_gets 33 = .ok (.getfield 157, 3) := by decide +kernel
theorem dX6_gets_36 : decode cX6_gets 36 = .ok (.iload_n 2, 1) := by decide +kernel
theorem dX6_gets_37 : decode cX6_gets 37 = .ok (.aaload, 1) := by decide +kernel
theorem dX6_gets_38 : decode cX6_gets 38 = .ok (.iload_n 1, 1) := by decide +kernel
theorem dX6_gets_39 : decode cX6_gets 39 = .ok (.iaload, 1) := by decide +kernel
theorem dX6_gets_40 : decode cX6_gets 40 = .ok (.ireturn, 1) := by decide +kernel
theorem dX6_glad_0 : decode cX6_glad 0 = .ok (.aload_n 0, 1) := by decide +kernel
theorem dX6_glad_1 : decode cX6_glad 1 = .ok (.iload_n 1, 1) := by decide +kernel
theorem dX6_glad_2 : decode cX6_glad 2 = .ok (.invokevirtual 102, 3) := by decide +kernel
theorem dX6_glad_5 : decode cX6_glad 5 = .ok (.ifCond .ne 5, 3) := by decide +kernel
theorem dX6_glad_8 : decode cX6_glad 8 = .ok (.iconst (-1), 1) := by decide +kernel
theorem dX6_glad_9 : decode cX6_glad 9 = .ok (.ireturn, 1) := by decide +kernel
theorem dX6_glad_10 : decode cX6_glad 10 = .ok (.aload_n 0, 1) := by decide +kernel
theorem dX6_glad_11 : decode cX6_glad 11 = .ok (.invokevirtual 154, 3) := by decide +kernel
theorem dX6_glad_14 : decode cX6_glad 14 = .ok (.aload_n 0, 1) := by decide +kernel
theorem dX6_glad_15 : decode cX6_glad 15 = .ok (.getfield 34, 3) := by decide +kernel
theorem dX6_glad_18 : decode cX6_glad 18 = .ok (.getfield 160, 3) := by decide +kernel
theorem dX6_glad_21 : decode cX6_glad 21 = .ok (.iload_n 1, 1) := by decide +kernel
theorem dX6_glad_22 : decode cX6_glad 22 = .ok (.iaload, 1) := by decide +kernel
theorem dX6_glad_23 : decode cX6_glad 23 = .ok (.ireturn, 1) := by decide +kernel
theorem dX6_pays_0 : decode cX6_pays 0 = .ok (.aload_n 0, 1) := by decide +kernel
theorem dX6_pays_1 : decode cX6_pays 1 = .ok (.iload_n 1, 1) := by decide +kernel
theorem dX6_pays_2 : decode cX6_pays 2 = .ok (.invokevirtual 102, 3) := by decide +kernel
theorem dX6_pays_5 : decode cX6_pays 5 = .ok (.ifCond .eq 10, 3) := by decide +kernel
theorem dX6_pays_8 : decode cX6_pays 8 = .ok (.iload_n 3, 1) := by decide +kernel
theorem dX6_pays_9 : decode cX6_pays 9 = .ok (.invokestatic 163, 3) := by decide +kernel
theorem dX6_pays_12 : decode cX6_pays 12 = .ok (.ifCond .ne 7, 3) := by decide +kernel
theorem dX6_pays_15 : decode cX6_pays 15 = .ok (.ldc2_w 166, 3) := by decide +kernel
theorem dX6_pays_18 : decode cX6_pays 18 = .ok (.lreturn, 1) := by decide +kernel
theorem dX6_pays_19 : decode cX6_pays 19 = .ok (.aload_n 0, 1) := by decide +kernel
theorem dX6_pays_20 : decode cX6_pays 20 = .ok (.invokevirtual 154, 3) := by decide +kernel
theorem dX6_pays_23 : decode cX6_pays 23 = .ok (.iload_n 2, 1) := by decide +kernel
theorem dX6_pays_24 : decode cX6_pays 24 = .ok (.ifCond .eq 24, 3) := by decide +kernel
theorem dX6_pays_27 : decode cX6_pays 27 = .ok (.aload_n 0, 1) := by decide +kernel
theorem dX6_pays_28 : decode cX6_pays 28 = .ok (.getfield 34, 3) := by decide +kernel
theorem dX6_pays_31 : decode cX6_pays 31 = .ok (.invokevirtual 168, 3) := by decide +kernel
theorem dX6_pays_34 : decode cX6_pays 34 = .ok (.aload_n 0, 1) := by decide +kernel
theorem dX6_pays_35 : decode cX6_pays 35 = .ok (.getfield 20, 3) := by decide +kernel
theorem dX6_pays_38 : decode cX6_pays 38 = .ok (.getfield 88, 3) := by decide +kernel
theorem dX6_pays_41 : decode cX6_pays 41 = .ok (.iload_n 3, 1) := by decide +kernel
theorem dX6_pays_42 : decode cX6_pays 42 = .ok (.invokestatic 171, 3) := by decide +kernel
theorem dX6_pays_45 : decode cX6_pays 45 = .ok (.goto 17, 3) := by decide +kernel
theorem dX6_pays_48 : decode cX6_pays 48 = .ok (.aload_n 0, 1) := by decide +kernel
theorem dX6_pays_49 : decode cX6_pays 49 = .ok (.getfield 34, 3) := by decide +kernel
theorem dX6_pays_52 : decode cX6_pays 52 = .ok (.getfield 175, 3) := by decide +kernel
theorem dX6_pays_55 : decode cX6_pays 55 = .ok (.iload_n 1, 1) := by decide +kernel
theorem dX6_pays_56 : decode cX6_pays 56 = .ok (.iaload, 1) := by decide +kernel
theorem dX6_pays_57 : decode cX6_pays 57 = .ok (.iconst 1, 1) := by decide +kernel
theorem dX6_pays_58 : decode cX6_pays 58 = .ok (.iload_n 3, 1) := by decide +kernel
theorem dX6_pays_59 : decode cX6_pays 59 = .ok (.invokestatic 171, 3) := by decide +kernel
theorem dX6_pays_62 : decode cX6_pays 62 = .ok (.lreturn, 1) := by decide +kernel
theorem dX6_judge_0 : decode cX6_judge 0 = .ok (.aload_n 0, 1) := by decide +kernel
theorem dX6_judge_1 : decode cX6_judge 1 = .ok (.iload_n 1, 1) := by decide +kernel
theorem dX6_judge_2 : decode cX6_judge 2 = .ok (.iload_n 2, 1) := by decide +kernel
theorem dX6_judge_3 : decode cX6_judge 3 = .ok (.iload_n 3, 1) := by decide +kernel
theorem dX6_judge_4 : decode cX6_judge 4 = .ok (.iload 4, 2) := by decide +kernel
theorem dX6_judge_6 : decode cX6_judge 6 = .ok (.invokevirtual 65, 3) := by decide +kernel
theorem dX6_judge_9 : decode cX6_judge 9 = .ok (.istore 5, 2) := by decide +kernel
theorem dX6_judge_11 : decode cX6_judge 11 = .ok (.iload 5, 2) := by decide +kernel
theorem dX6_judge_13 : decode cX6_judge 13 = .ok (.ifCond .eq 6, 3) := by decide +kernel
theorem dX6_judge_16 : decode cX6_judge 16 = .ok (.iload 5, 2) := by decide +kernel
theorem dX6_judge_18 : decode cX6_judge 18 = .ok (.ireturn, 1) := by decide +kernel
theorem dX6_judge_19 : decode cX6_judge 19 = .ok (.aload_n 0, 1) := by decide +kernel
theorem dX6_judge_20 : decode cX6_judge 20 = .ok (.invokevirtual 138, 3) := by decide +kernel
theorem dX6_judge_23 : decode cX6_judge 23 = .ok (.ifCond .ne 6, 3) := by decide +kernel
theorem dX6_judge_26 : decode cX6_judge 26 = .ok (.bipush (-3), 2) := by decide +kernel
theorem dX6_judge_28 : decode cX6_judge 28 = .ok (.ireturn, 1) := by decide +kernel
theorem dX6_judge_29 : decode cX6_judge 29 = .ok (.iload 4, 2) := by decide +kernel
theorem dX6_judge_31 : decode cX6_judge 31 = .ok (.aload_n 0, 1) := by decide +kernel
theorem dX6_judge_32 : decode cX6_judge 32 = .ok (.getfield 30, 3) := by decide +kernel
theorem dX6_judge_35 : decode cX6_judge 35 = .ok (.getfield 142, 3) := by decide +kernel
theorem dX6_judge_38 : decode cX6_judge 38 = .ok (.aload_n 0, 1) := by decide +kernel
theorem dX6_judge_39 : decode cX6_judge 39 = .ok (.getfield 20, 3) := by decide +kernel
theorem dX6_judge_42 : decode cX6_judge 42 = .ok (.getfield 88, 3) := by decide +kernel
theorem dX6_judge_45 : decode cX6_judge 45 = .ok (.imul, 1) := by decide +kernel
theorem dX6_judge_46 : decode cX6_judge 46 = .ok (.if_icmp .le 6, 3) := by decide +kernel
theorem dX6_judge_49 : decode cX6_judge 49 = .ok (.bipush (-2), 2) := by decide +kernel
theorem dX6_judge_51 : decode cX6_judge 51 = .ok (.ireturn, 1) := by decide +kernel
theorem dX6_judge_52 : decode cX6_judge 52 = .ok (.aload_n 0, 1) := by decide +kernel
theorem dX6_judge_53 : decode cX6_judge 53 = .ok (.getfield 13, 3) := by decide +kernel
theorem dX6_judge_56 : decode cX6_judge 56 = .ok (.iload_n 1, 1) := by decide +kernel
theorem dX6_judge_57 : decode cX6_judge 57 = .ok (.aaload, 1) := by decide +kernel
theorem dX6_judge_58 : decode cX6_judge 58 = .ok (.getfield 178, 3) := by decide +kernel
theorem dX6_judge_61 : decode cX6_judge 61 = .ok (.astore 6, 2) := by decide +kernel
theorem dX6_judge_63 : decode cX6_judge 63 = .ok (.iload_n 3, 1) := by decide +kernel
theorem dX6_judge_64 : decode cX6_judge 64 = .ok (.istore 7, 2) := by decide +kernel
theorem dX6_judge_66 : decode cX6_judge 66 = .ok (.iload 7, 2) := by decide +kernel
theorem dX6_judge_68 : decode cX6_judge 68 = .ok (.iload_n 3, 1) := by decide +kernel
theorem dX6_judge_69 : decode cX6_judge 69 = .ok (.iload 4, 2) := by decide +kernel
theorem dX6_judge_71 : decode cX6_judge 71 = .ok (.iadd, 1) := by decide +kernel
theorem dX6_judge_72 : decode cX6_judge 72 = .ok (.if_icmp .ge 33, 3) := by decide +kernel
theorem dX6_judge_75 : decode cX6_judge 75 = .ok (.aload 6, 2) := by decide +kernel
theorem dX6_judge_77 : decode cX6_judge 77 = .ok (.iload 7, 2) := by decide +kernel
theorem dX6_judge_79 : decode cX6_judge 79 = .ok (.iaload, 1) := by decide +kernel
theorem dX6_judge_80 : decode cX6_judge 80 = .ok (.bipush (-9), 2) := by decide +kernel
theorem dX6_judge_82 : decode cX6_judge 82 = .ok (.if_icmp .eq 17, 3) := by decide +kernel
theorem dX6_judge_85 : decode cX6_judge 85 = .ok (.aload_n 0, 1) := by decide +kernel
theorem dX6_judge_86 : decode cX6_judge 86 = .ok (.aload 6, 2) := by decide +kernel
theorem dX6_judge_88 : decode cX6_judge 88 = .ok (.iload 7, 2) := by decide +kernel
theorem dX6_judge_90 : decode cX6_judge 90 = .ok (.iaload, 1) := by decide +kernel
theorem dX6_judge_91 : decode cX6_judge 91 = .ok (.invokevirtual 91, 3) := by decide +kernel
theorem dX6_judge_94 : decode cX6_judge 94 = .ok (.ifCond .ne 5, 3) := by decide +kernel
theorem dX6_judge_97 : decode cX6_judge 97 = .ok (.iconst (-1), 1) := by decide +kernel
theorem dX6_judge_98 : decode cX6_judge 98 = .ok (.ireturn, 1) := by decide +kernel
theorem dX6_judge_99 : decode cX6_judge 99 = .ok (.iinc 7 1, 3) := by decide +kernel
theorem dX6_judge_102 : decode cX6_judge 102 = .ok (.goto (-36), 3) := by decide +kernel
theorem dX6_judge_105 : decode cX6_judge 105 = .ok (.aload_n 0, 1) := by decide +kernel
theorem dX6_judge_106 : decode cX6_judge 106 = .ok (.aload 6, 2) := by decide +kernel
theorem dX6_judge_108 : decode cX6_judge 108 = .ok (.iload_n 3, 1) := by decide +kernel
theorem dX6_judge_109 : decode cX6_judge 109 = .ok (.iload 4, 2) := by decide +kernel
theorem dX6_judge_111 : decode cX6_judge 111 = .ok (.invokevirtual 181, 3) := by decide +kernel
theorem dX6_judge_114 : decode cX6_judge 114 = .ok (.ireturn, 1) := by decide +kernel
theorem dX6_best_0 : decode cX6_best 0 = .ok (.iload_n 1, 1) := by decide +kernel
theorem dX6_best_1 : decode cX6_best 1 = .ok (.iconst (-1), 1) := by decide +kernel
theorem dX6_best_2 : decode cX6_best 2 = .ok (.if_icmp .lt 14, 3) := by decide +kernel
theorem dX6_best_5 : decode cX6_best 5 = .ok (.iload_n 1, 1) := by decide +kernel
theorem dX6_best_6 : decode cX6_best 6 = .ok (.aload_n 0, 1) := by decide +kernel
theorem dX6_best_7 : decode cX6_best 7 = .ok (.getfield 20, 3) := by decide +kernel
theorem dX6_best_10 : decode cX6_best 10 = .ok (.getfield 88, 3) := by decide +kernel
theorem dX6_best_13 : decode cX6_best 13 = .ok (.if_icmp .lt 5, 3) := by decide +kernel
theorem dX6_best_16 : decode cX6_best 16 = .ok (.iconst (-1), 1) := by decide +kernel
theorem dX6_best_17 : decode cX6_best 17 = .ok (.ireturn, 1) := by decide +kernel
theorem dX6_best_18 : decode cX6_best 18 = .ok (.aload_n 0, 1) := by decide +kernel
theorem dX6_best_19 : decode cX6_best 19 = .ok (.invokevirtual 138, 3) := by decide +kernel
theorem dX6_best_22 : decode cX6_best 22 = .ok (.ifCond .ne 6, 3) := by decide +kernel
theorem dX6_best_25 : decode cX6_best 25 = .ok (.bipush (-3), 2) := by decide +kernel
theorem dX6_best_27 : decode cX6_best 27 = .ok (.ireturn, 1) := by decide +kernel
theorem dX6_best_28 : decode cX6_best 28 = .ok (.aload_n 0, 1) := by decide +kernel
theorem dX6_best_29 : decode cX6_best 29 = .ok (.getfield 53, 3) := by decide +kernel
theorem dX6_best_32 : decode cX6_best 32 = .ok (.getfield 185, 3) := by decide +kernel
theorem dX6_best_35 : decode cX6_best 35 = .ok (.ifCond .ne 14, 3) := by decide +kernel
theorem dX6_best_38 : decode cX6_best 38 = .ok (.aload_n 0, 1) := by decide +kernel
theorem dX6_best_39 : decode cX6_best 39 = .ok (.getfield 53, 3) := by decide +kernel
theorem dX6_best_42 : decode cX6_best 42 = .ok (.aload_n 0, 1) := by decide +kernel
theorem dX6_best_43 : decode cX6_best 43 = .ok (.getfield 30, 3) := by decide +kernel
theorem dX6_best_46 : decode cX6_best 46 = .ok (.invokevirtual 189, 3) := by decide +kernel
theorem dX6_best_49 : decode cX6_best 49 = .ok (.iload_n 1, 1) := by decide +kernel
theorem dX6_best_50 : decode cX6_best 50 = .ok (.iconst (-1), 1) := by decide +kernel
theorem dX6_best_51 : decode cX6_best 51 = .ok (.if_icmp .ne 13, 3) := by decide +kernel
theorem dX6_best_54 : decode cX6_best 54 = .ok (.aload_n 0, 1) := by decide +kernel
theorem dX6_best_55 : decode cX6_best 55 = .ok (.getfield 53, 3) := by decide +kernel
theorem dX6_best_58 : decode cX6_best 58 = .ok (.invokevirtual 193, 3) := by decide +kernel
theorem dX6_best_61 : decode cX6_best 61 = .ok (.goto 11, 3) := by decide +kernel
theorem dX6_best_64 : decode cX6_best 64 = .ok (.aload_n 0, 1) := by decide +kernel
theorem dX6_best_65 : decode cX6_best 65 = .ok (.getfield 53, 3) := by decide +kernel
theorem dX6_best_68 : decode cX6_best 68 = .ok (.iload_n 1, 1) := by decide +kernel
theorem dX6_best_69 : decode cX6_best 69 = .ok (.invokevirtual 194, 3) := by decide +kernel
theorem dX6_best_72 : decode cX6_best 72 = .ok (.ireturn, 1) := by decide +kernel
theorem dX6_seats_0 : decode cX6_seats 0 = .ok (.iload_n 1, 1) := by decide +kernel
theorem dX6_seats_1 : decode cX6_seats 1 = .ok (.ifCond .lt 8, 3) := by decide +kernel
theorem dX6_seats_4 : decode cX6_seats 4 = .ok (.iload_n 1, 1) := by decide +kernel
theorem dX6_seats_5 : decode cX6_seats 5 = .ok (.iconst 2, 1) := by decide +kernel
theorem dX6_seats_6 : decode cX6_seats 6 = .ok (.if_icmp .lt 6, 3) := by decide +kernel
theorem dX6_seats_9 : decode cX6_seats 9 = .ok (.bipush (-2), 2) := by decide +kernel
theorem dX6_seats_11 : decode cX6_seats 11 = .ok (.ireturn, 1) := by decide +kernel
theorem dX6_seats_12 : decode cX6_seats 12 = .ok (.iload_n 2, 1) := by decide +kernel
theorem dX6_seats_13 : decode cX6_seats 13 = .ok (.iconst (-1), 1) := by decide +kernel
theorem dX6_seats_14 : decode cX6_seats 14 = .ok (.if_icmp .lt 14, 3) := by decide +kernel
theorem dX6_seats_17 : decode cX6_seats 17 = .ok (.iload_n 2, 1) := by decide +kernel
theorem dX6_seats_18 : decode cX6_seats 18 = .ok (.aload_n 0, 1) := by decide +kernel
theorem dX6_seats_19 : decode cX6_seats 19 = .ok (.getfield 20, 3) := by decide +kernel
theorem dX6_seats_22 : decode cX6_seats 22 = .ok (.getfield 88, 3) := by decide +kernel
theorem dX6_seats_25 : decode cX6_seats 25 = .ok (.if_icmp .lt 5, 3) := by decide +kernel
theorem dX6_seats_28 : decode cX6_seats 28 = .ok (.iconst (-1), 1) := by decide +kernel
theorem dX6_seats_29 : decode cX6_seats 29 = .ok (.ireturn, 1) := by decide +kernel
theorem dX6_seats_30 : decode cX6_seats 30 = .ok (.aload_n 0, 1) := by decide +kernel
theorem dX6_seats_31 : decode cX6_seats 31 = .ok (.invokevirtual 138, 3) := by decide +kernel
theorem dX6_seats_34 : decode cX6_seats 34 = .ok (.ifCond .ne 6, 3) := by decide +kernel
theorem dX6_seats_37 : decode cX6_seats 37 = .ok (.bipush (-3), 2) := by decide +kernel
theorem dX6_seats_39 : decode cX6_seats 39 = .ok (.ireturn, 1) := by decide +kernel
theorem dX6_seats_40 : decode cX6_seats 40 = .ok (.aload_n 0, 1) := by decide +kernel
theorem dX6_seats_41 : decode cX6_seats 41 = .ok (.getfield 60, 3) := by decide +kernel
theorem dX6_seats_44 : decode cX6_seats 44 = .ok (.getfield 197, 3) := by decide +kernel
theorem dX6_seats_47 : decode cX6_seats 47 = .ok (.ifCond .ne 25, 3) := by decide +kernel
theorem dX6_seats_50 : decode cX6_seats 50 = .ok (.aload_n 0, 1) := by decide +kernel
theorem dX6_seats_51 : decode cX6_seats 51 = .ok (.getfield 34, 3) := by decide +kernel
theorem dX6_seats_54 : decode cX6_seats 54 = .ok (.aload_n 0, 1) := by decide +kernel
theorem dX6_seats_55 : decode cX6_seats 55 = .ok (.getfield 30, 3) := by decide +kernel
theorem dX6_seats_58 : decode cX6_seats 58 = .ok (.invokevirtual 198, 3) := by decide +kernel
theorem dX6_seats_61 : decode cX6_seats 61 = .ok (.aload_n 0, 1) := by decide +kernel
theorem dX6_seats_62 : decode cX6_seats 62 = .ok (.getfield 60, 3) := by decide +kernel
theorem dX6_seats_65 : decode cX6_seats 65 = .ok (.aload_n 0, 1) := by decide +kernel
theorem dX6_seats_66 : decode cX6_seats 66 = .ok (.getfield 34, 3) := by decide +kernel
theorem dX6_seats_69 : decode cX6_seats 69 = .ok (.invokevirtual 201, 3) := by decide +kernel
theorem dX6_seats_72 : decode cX6_seats 72 = .ok (.iload_n 2, 1) := by decide +kernel
theorem dX6_seats_73 : decode cX6_seats 73 = .ok (.iconst (-1), 1) := by decide +kernel
theorem dX6_seats_74 : decode cX6_seats 74 = .ok (.if_icmp .ne 15, 3) := by decide +kernel
theorem dX6_seats_77 : decode cX6_seats 77 = .ok (.aload_n 0, 1) := by decide +kernel
theorem dX6_seats_78 : decode cX6_seats 78 = .ok (.getfield 60, 3) := by decide +kernel
theorem dX6_seats_81 : decode cX6_seats 81 = .ok (.getfield 202, 3) := by decide +kernel
theorem dX6_seats_84 : decode cX6_seats 84 = .ok (.iload_n 1, 1) := by decide +kernel
theorem dX6_seats_85 : decode cX6_seats 85 = .ok (.iaload, 1) := by decide +kernel
theorem dX6_seats_86 : decode cX6_seats 86 = .ok (.goto 14, 3) := by decide +kernel
theorem dX6_seats_89 : decode cX6_seats 89 = .ok (.aload_n 0, 1) := by decide +kernel
theorem dX6_seats_90 : decode cX6_seats 90 = .ok (.getfield 60, 3) := by decide +kernel
theorem dX6_seats_93 : decode cX6_seats 93 = .ok (.getfield 205, 3) := by decide +kernel
theorem dX6_seats_96 : decode cX6_seats 96 = .ok (.iload_n 1, 1) := by decide +kernel
theorem dX6_seats_97 : decode cX6_seats 97 = .ok (.aaload, 1) := by decide +kernel
theorem dX6_seats_98 : decode cX6_seats 98 = .ok (.iload_n 2, 1) := by decide +kernel
theorem dX6_seats_99 : decode cX6_seats 99 = .ok (.iaload, 1) := by decide +kernel
theorem dX6_seats_100 : decode cX6_seats 100 = .ok (.ireturn, 1) := by decide +kernel
theorem dX6_ever_0 : decode cX6_ever 0 = .ok (.iload_n 1, 1) := by decide +kernel
theorem dX6_ever_1 : decode cX6_ever 1 = .ok (.invokestatic 163, 3) := by decide +kernel
theorem dX6_ever_4 : decode cX6_ever 4 = .ok (.ifCond .ne 6, 3) := by decide +kernel
theorem dX6_ever_7 : decode cX6_ever 7 = .ok (.bipush (-2), 2) := by decide +kernel
theorem dX6_ever_9 : decode cX6_ever 9 = .ok (.ireturn, 1) := by decide +kernel
theorem dX6_ever_10 : decode cX6_ever 10 = .ok (.aload_n 0, 1) := by decide +kernel
theorem dX6_ever_11 : decode cX6_ever 11 = .ok (.invokevirtual 138, 3) := by decide +kernel
theorem dX6_ever_14 : decode cX6_ever 14 = .ok (.ifCond .ne 6, 3) := by decide +kernel
theorem dX6_ever_17 : decode cX6_ever 17 = .ok (.bipush (-3), 2) := by decide +kernel
theorem dX6_ever_19 : decode cX6_ever 19 = .ok (.ireturn, 1) := by decide +kernel
theorem dX6_ever_20 : decode cX6_ever 20 = .ok (.aload_n 0, 1) := by decide +kernel
theorem dX6_ever_21 : decode cX6_ever 21 = .ok (.invokevirtual 208, 3) := by decide +kernel
theorem dX6_ever_24 : decode cX6_ever 24 = .ok (.iload_n 1, 1) := by decide +kernel
theorem dX6_ever_25 : decode cX6_ever 25 = .ok (.ifCond .ne 13, 3) := by decide +kernel
theorem dX6_ever_28 : decode cX6_ever 28 = .ok (.aload_n 0, 1) := by decide +kernel
theorem dX6_ever_29 : decode cX6_ever 29 = .ok (.getfield 43, 3) := by decide +kernel
theorem dX6_ever_32 : decode cX6_ever 32 = .ok (.getfield 211, 3) := by decide +kernel
theorem dX6_ever_35 : decode cX6_ever 35 = .ok (.goto 10, 3) := by decide +kernel
theorem dX6_ever_38 : decode cX6_ever 38 = .ok (.aload_n 0, 1) := by decide +kernel
theorem dX6_ever_39 : decode cX6_ever 39 = .ok (.getfield 43, 3) := by decide +kernel
theorem dX6_ever_42 : decode cX6_ever 42 = .ok (.getfield 214, 3) := by decide +kernel
theorem dX6_ever_45 : decode cX6_ever 45 = .ok (.ireturn, 1) := by decide +kernel
theorem dX6_mean_0 : decode cX6_mean 0 = .ok (.aload_n 0, 1) := by decide +kernel
theorem dX6_mean_1 : decode cX6_mean 1 = .ok (.iload_n 1, 1) := by decide +kernel
theorem dX6_mean_2 : decode cX6_mean 2 = .ok (.invokevirtual 102, 3) := by decide +kernel
theorem dX6_mean_5 : decode cX6_mean 5 = .ok (.ifCond .eq 10, 3) := by decide +kernel
theorem dX6_mean_8 : decode cX6_mean 8 = .ok (.iload_n 2, 1) := by decide +kernel
theorem dX6_mean_9 : decode cX6_mean 9 = .ok (.invokestatic 163, 3) := by decide +kernel
theorem dX6_mean_12 : decode cX6_mean 12 = .ok (.ifCond .ne 7, 3) := by decide +kernel
theorem dX6_mean_15 : decode cX6_mean 15 = .ok (.ldc2_w 166, 3) := by decide +kernel
theorem dX6_mean_18 : decode cX6_mean 18 = .ok (.lreturn, 1) := by decide +kernel
theorem dX6_mean_19 : decode cX6_mean 19 = .ok (.aload_n 0, 1) := by decide +kernel
theorem dX6_mean_20 : decode cX6_mean 20 = .ok (.invokevirtual 208, 3) := by decide +kernel
theorem dX6_mean_23 : decode cX6_mean 23 = .ok (.aload_n 0, 1) := by decide +kernel
theorem dX6_mean_24 : decode cX6_mean 24 = .ok (.getfield 43, 3) := by decide +kernel
theorem dX6_mean_27 : decode cX6_mean 27 = .ok (.getfield 217, 3) := by decide +kernel
theorem dX6_mean_30 : decode cX6_mean 30 = .ok (.iload_n 1, 1) := by decide +kernel
theorem dX6_mean_31 : decode cX6_mean 31 = .ok (.iaload, 1) := by decide +kernel
theorem dX6_mean_32 : decode cX6_mean 32 = .ok (.aload_n 0, 1) := by decide +kernel
theorem dX6_mean_33 : decode cX6_mean 33 = .ok (.getfield 43, 3) := by decide +kernel
theorem dX6_mean_36 : decode cX6_mean 36 = .ok (.getfield 214, 3) := by decide +kernel
theorem dX6_mean_39 : decode cX6_mean 39 = .ok (.iload_n 2, 1) := by decide +kernel
theorem dX6_mean_40 : decode cX6_mean 40 = .ok (.invokestatic 171, 3) := by decide +kernel
theorem dX6_mean_43 : decode cX6_mean 43 = .ok (.lreturn, 1) := by decide +kernel
theorem dX6_leaves_0 : decode cX6_leaves 0 = .ok (.aload_n 0, 1) := by decide +kernel
theorem dX6_leaves_1 : decode cX6_leaves 1 = .ok (.invokevirtual 138, 3) := by decide +kernel
theorem dX6_leaves_4 : decode cX6_leaves 4 = .ok (.ifCond .ne 6, 3) := by decide +kernel
theorem dX6_leaves_7 : decode cX6_leaves 7 = .ok (.bipush (-3), 2) := by decide +kernel
theorem dX6_leaves_9 : decode cX6_leaves 9 = .ok (.ireturn, 1) := by decide +kernel
theorem dX6_leaves_10 : decode cX6_leaves 10 = .ok (.aload_n 0, 1) := by decide +kernel
theorem dX6_leaves_11 : decode cX6_leaves 11 = .ok (.invokevirtual 208, 3) := by decide +kernel
theorem dX6_leaves_14 : decode cX6_leaves 14 = .ok (.iconst 0, 1) := by decide +kernel
theorem dX6_leaves_15 : decode cX6_leaves 15 = .ok (.istore_n 1, 1) := by decide +kernel
theorem dX6_leaves_16 : decode cX6_leaves 16 = .ok (.iconst 0, 1) := by decide +kernel
theorem dX6_leaves_17 : decode cX6_leaves 17 = .ok (.istore_n 2, 1) := by decide +kernel
theorem dX6_leaves_18 : decode cX6_leaves 18 = .ok (.iload_n 2, 1) := by decide +kernel
theorem dX6_leaves_19 : decode cX6_leaves 19 = .ok (.aload_n 0, 1) := by decide +kernel
theorem dX6_leaves_20 : decode cX6_leaves 20 = .ok (.getfield 20, 3) := by decide +kernel
theorem dX6_leaves_23 : decode cX6_leaves 23 = .ok (.getfield 88, 3) := by decide +kernel
theorem dX6_leaves_26 : decode cX6_leaves 26 = .ok (.if_icmp .ge 85, 3) := by decide +kernel
theorem dX6_leaves_29 : decode cX6_leaves 29 = .ok (.iconst 0, 1) := by decide +kernel
theorem dX6_leaves_30 : decode cX6_leaves 30 = .ok (.istore_n 3, 1) := by decide +kernel
theorem dX6_leaves_31 : decode cX6_leaves 31 = .ok (.iload_n 3, 1) := by decide +kernel
theorem dX6_leaves_32 : decode cX6_leaves 32 = .ok (.iconst 2, 1) := by decide +kernel
theorem dX6_leaves_33 : decode cX6_leaves 33 = .ok (.if_icmp .gt 72, 3) := by decide +kernel
theorem dX6_leaves_36 : decode cX6_leaves 36 = .ok (.iload_n 3, 1) := by decide +kernel
theorem dX6_leaves_37 : decode cX6_leaves 37 = .ok (.aload_n 0, 1) := by decide +kernel
theorem dX6_leaves_38 : decode cX6_leaves 38 = .ok (.getfield 20, 3) := by decide +kernel
theorem dX6_leaves_41 : decode cX6_leaves 41 = .ok (.getfield 105, 3) := by decide +kernel
theorem dX6_leaves_44 : decode cX6_leaves 44 = .ok (.iload_n 2, 1) := by decide +kernel
theorem dX6_leaves_45 : decode cX6_leaves 45 = .ok (.iaload, 1) := by decide +kernel
theorem dX6_leaves_46 : decode cX6_leaves 46 = .ok (.if_icmp .eq 53, 3) := by decide +kernel
theorem dX6_leaves_49 : decode cX6_leaves 49 = .ok (.aload_n 0, 1) := by decide +kernel
theorem dX6_leaves_50 : decode cX6_leaves 50 = .ok (.getfield 34, 3) := by decide +kernel
theorem dX6_leaves_53 : decode cX6_leaves 53 = .ok (.aload_n 0, 1) := by decide +kernel
theorem dX6_leaves_54 : decode cX6_leaves 54 = .ok (.getfield 30, 3) := by decide +kernel
theorem dX6_leaves_57 : decode cX6_leaves 57 = .ok (.invokevirtual 198, 3) := by decide +kernel
theorem dX6_leaves_60 : decode cX6_leaves 60 = .ok (.aload_n 0, 1) := by decide +kernel
theorem dX6_leaves_61 : decode cX6_leaves 61 = .ok (.getfield 34, 3) := by decide +kernel
theorem dX6_leaves_64 : decode cX6_leaves 64 = .ok (.getfield 218, 3) := by decide +kernel
theorem dX6_leaves_67 : decode cX6_leaves 67 = .ok (.iload_n 2, 1) := by decide +kernel
theorem dX6_leaves_68 : decode cX6_leaves 68 = .ok (.iload_n 3, 1) := by decide +kernel
theorem dX6_leaves_69 : decode cX6_leaves 69 = .ok (.iastore, 1) := by decide +kernel
theorem dX6_leaves_70 : decode cX6_leaves 70 = .ok (.aload_n 0, 1) := by decide +kernel
theorem dX6_leaves_71 : decode cX6_leaves 71 = .ok (.getfield 47, 3) := by decide +kernel
theorem dX6_leaves_74 : decode cX6_leaves 74 = .ok (.aload_n 0, 1) := by decide +kernel
theorem dX6_leaves_75 : decode cX6_leaves 75 = .ok (.getfield 34, 3) := by decide +kernel
theorem dX6_leaves_78 : decode cX6_leaves 78 = .ok (.invokevirtual 219, 3) := by decide +kernel
theorem dX6_leaves_81 : decode cX6_leaves 81 = .ok (.iload_n 1, 1) := by decide +kernel
theorem dX6_leaves_82 : decode cX6_leaves 82 = .ok (.aload_n 0, 1) := by decide +kernel
theorem dX6_leaves_83 : decode cX6_leaves 83 = .ok (.iload_n 2, 1) := by decide +kernel
theorem dX6_leaves_84 : decode cX6_leaves 84 = .ok (.invokevirtual 222, 3) := by decide +kernel
theorem dX6_leaves_87 : decode cX6_leaves 87 = .ok (.ifCond .eq 9, 3) := by decide +kernel
theorem dX6_leaves_90 : decode cX6_leaves 90 = .ok (.iconst 1, 1) := by decide +kernel
theorem dX6_leaves_91 : decode cX6_leaves 91 = .ok (.iload_n 2, 1) := by decide +kernel
theorem dX6_leaves_92 : decode cX6_leaves 92 = .ok (.ishl, 1) := by decide +kernel
theorem dX6_leaves_93 : decode cX6_leaves 93 = .ok (.goto 4, 3) := by decide +kernel
theorem dX6_leaves_96 : decode cX6_leaves 96 = .ok (.iconst 0, 1) := by decide +kernel
theorem dX6_leaves_97 : decode cX6_leaves 97 = .ok (.ior, 1) := by decide +kernel
theorem dX6_leaves_98 : decode cX6_leaves 98 = .ok (.istore_n 1, 1) := by decide +kernel
theorem dX6_leaves_99 : decode cX6_leaves 99 = .ok (.iinc 3 1, 3) := by decide +kernel
theorem dX6_leaves_102 : decode cX6_leaves 102 = .ok (.goto (-71), 3) := by decide +kernel
theorem dX6_leaves_105 : decode cX6_leaves 105 = .ok (.iinc 2 1, 3) := by decide +kernel
theorem dX6_leaves_108 : decode cX6_leaves 108 = .ok (.goto (-90), 3) := by decide +kernel
theorem dX6_leaves_111 : decode cX6_leaves 111 = .ok (.iload_n 1, 1) := by decide +kernel
theorem dX6_leaves_112 : decode cX6_leaves 112 = .ok (.ireturn, 1) := by decide +kernel
theorem dX6_spite_0 : decode cX6_spite 0 = .ok (.aload_n 0, 1) := by decide +kernel
theorem dX6_spite_1 : decode cX6_spite 1 = .ok (.iload_n 1, 1) := by decide +kernel
theorem dX6_spite_2 : decode cX6_spite 2 = .ok (.invokevirtual 102, 3) := by decide +kernel
theorem dX6_spite_5 : decode cX6_spite 5 = .ok (.ifCond .ne 5, 3) := by decide +kernel
theorem dX6_spite_8 : decode cX6_spite 8 = .ok (.iconst (-1), 1) := by decide +kernel
theorem dX6_spite_9 : decode cX6_spite 9 = .ok (.ireturn, 1) := by decide +kernel
theorem dX6_spite_10 : decode cX6_spite 10 = .ok (.iload_n 2, 1) := by decide +kernel
theorem dX6_spite_11 : decode cX6_spite 11 = .ok (.invokestatic 163, 3) := by decide +kernel
theorem dX6_spite_14 : decode cX6_spite 14 = .ok (.ifCond .ne 6, 3) := by decide +kernel
theorem dX6_spite_17 : decode cX6_spite 17 = .ok (.bipush (-2), 2) := by decide +kernel
theorem dX6_spite_19 : decode cX6_spite 19 = .ok (.ireturn, 1) := by decide +kernel
theorem dX6_spite_20 : decode cX6_spite 20 = .ok (.aload_n 0, 1) := by decide +kernel
theorem dX6_spite_21 : decode cX6_spite 21 = .ok (.getfield 34, 3) := by decide +kernel
theorem dX6_spite_24 : decode cX6_spite 24 = .ok (.aload_n 0, 1) := by decide +kernel
theorem dX6_spite_25 : decode cX6_spite 25 = .ok (.getfield 30, 3) := by decide +kernel
theorem dX6_spite_28 : decode cX6_spite 28 = .ok (.invokevirtual 198, 3) := by decide +kernel
theorem dX6_spite_31 : decode cX6_spite 31 = .ok (.aload_n 0, 1) := by decide +kernel
theorem dX6_spite_32 : decode cX6_spite 32 = .ok (.getfield 37, 3) := by decide +kernel
theorem dX6_spite_35 : decode cX6_spite 35 = .ok (.aload_n 0, 1) := by decide +kernel
theorem dX6_spite_36 : decode cX6_spite 36 = .ok (.getfield 30, 3) := by decide +kernel
theorem dX6_spite_39 : decode cX6_spite 39 = .ok (.invokevirtual 198, 3) := by decide +kernel
theorem dX6_spite_42 : decode cX6_spite 42 = .ok (.aload_n 0, 1) := by decide +kernel
theorem dX6_spite_43 : decode cX6_spite 43 = .ok (.getfield 37, 3) := by decide +kernel
theorem dX6_spite_46 : decode cX6_spite 46 = .ok (.iload_n 1, 1) := by decide +kernel
theorem dX6_spite_47 : decode cX6_spite 47 = .ok (.putfield 225, 3) := by decide +kernel
theorem dX6_spite_50 : decode cX6_spite 50 = .ok (.bipush (-9), 2) := by decide +kernel
theorem dX6_spite_52 : decode cX6_spite 52 = .ok (.istore_n 3, 1) := by decide +kernel
theorem dX6_spite_53 : decode cX6_spite 53 = .ok (.iconst 0, 1) := by decide +kernel
theorem dX6_spite_54 : decode cX6_spite 54 = .ok (.istore 4, 2) := by decide +kernel
theorem dX6_spite_56 : decode cX6_spite 56 = .ok (.iload 4, 2) := by decide +kernel
theorem dX6_spite_58 : decode cX6_spite 58 = .ok (.sipush 200, 3) := by decide +kernel
theorem dX6_spite_61 : decode cX6_spite 61 = .ok (.if_icmp .ge 67, 3) := by decide +kernel
theorem dX6_spite_64 : decode cX6_spite 64 = .ok (.aload_n 0, 1) := by decide +kernel
theorem dX6_spite_65 : decode cX6_spite 65 = .ok (.getfield 34, 3) := by decide +kernel
theorem dX6_spite_68 : decode cX6_spite 68 = .ok (.invokevirtual 145, 3) := by decide +kernel
theorem dX6_spite_71 : decode cX6_spite 71 = .ok (.aload_n 0, 1) := by decide +kernel
theorem dX6_spite_72 : decode cX6_spite 72 = .ok (.getfield 37, 3) := by decide +kernel
theorem dX6_spite_75 : decode cX6_spite 75 = .ok (.invokevirtual 145, 3) := by decide +kernel
theorem dX6_spite_78 : decode cX6_spite 78 = .ok (.iload_n 3, 1) := by decide +kernel
theorem dX6_spite_79 : decode cX6_spite 79 = .ok (.bipush (-9), 2) := by decide +kernel
theorem dX6_spite_81 : decode cX6_spite 81 = .ok (.if_icmp .ne 11, 3) := by decide +kernel
theorem dX6_spite_84 : decode cX6_spite 84 = .ok (.aload_n 0, 1) := by decide +kernel
theorem dX6_spite_85 : decode cX6_spite 85 = .ok (.iload_n 1, 1) := by decide +kernel
theorem dX6_spite_86 : decode cX6_spite 86 = .ok (.iload 4, 2) := by decide +kernel
theorem dX6_spite_88 : decode cX6_spite 88 = .ok (.invokevirtual 228, 3) := by decide +kernel
theorem dX6_spite_91 : decode cX6_spite 91 = .ok (.istore_n 3, 1) := by decide +kernel
theorem dX6_spite_92 : decode cX6_spite 92 = .ok (.aload_n 0, 1) := by decide +kernel
theorem dX6_spite_93 : decode cX6_spite 93 = .ok (.getfield 34, 3) := by decide +kernel
theorem dX6_spite_96 : decode cX6_spite 96 = .ok (.invokevirtual 232, 3) := by decide +kernel
theorem dX6_spite_99 : decode cX6_spite 99 = .ok (.aload_n 0, 1) := by decide +kernel
theorem dX6_spite_100 : decode cX6_spite 100 = .ok (.getfield 37, 3) := by decide +kernel
theorem dX6_spite_103 : decode cX6_spite 103 = .ok (.invokevirtual 232, 3) := by decide +kernel
theorem dX6_spite_106 : decode cX6_spite 106 = .ok (.if_icmp .ne 16, 3) := by decide +kernel
theorem dX6_spite_109 : decode cX6_spite 109 = .ok (.iload_n 2, 1) := by decide +kernel
theorem dX6_spite_110 : decode cX6_spite 110 = .ok (.ifCond .ne 10, 3) := by decide +kernel
theorem dX6_spite_113 : decode cX6_spite 113 = .ok (.iload 4, 2) := by decide +kernel
theorem dX6_spite_115 : decode cX6_spite 115 = .ok (.iconst 1, 1) := by decide +kernel
theorem dX6_spite_116 : decode cX6_spite 116 = .ok (.iadd, 1) := by decide +kernel
theorem dX6_spite_117 : decode cX6_spite 117 = .ok (.goto 4, 3) := by decide +kernel
theorem dX6_spite_120 : decode cX6_spite 120 = .ok (.iload_n 3, 1) := by decide +kernel
theorem dX6_spite_121 : decode cX6_spite 121 = .ok (.ireturn, 1) := by decide +kernel
theorem dX6_spite_122 : decode cX6_spite 122 = .ok (.iinc 4 1, 3) := by decide +kernel
theorem dX6_spite_125 : decode cX6_spite 125 = .ok (.goto (-69), 3) := by decide +kernel
theorem dX6_spite_128 : decode cX6_spite 128 = .ok (.iload_n 2, 1) := by decide +kernel
theorem dX6_spite_129 : decode cX6_spite 129 = .ok (.ifCond .ne 8, 3) := by decide +kernel
theorem dX6_spite_132 : decode cX6_spite 132 = .ok (.bipush (-9), 2) := by decide +kernel
theorem dX6_spite_134 : decode cX6_spite 134 = .ok (.goto 4, 3) := by decide +kernel
theorem dX6_spite_137 : decode cX6_spite 137 = .ok (.iload_n 3, 1) := by decide +kernel
theorem dX6_spite_138 : decode cX6_spite 138 = .ok (.ireturn, 1) := by decide +kernel
theorem dX6_lies_0 : decode cX6_lies 0 = .ok (.aload_n 0, 1) := by decide +kernel
theorem dX6_lies_1 : decode cX6_lies 1 = .ok (.iload_n 1, 1) := by decide +kernel
theorem dX6_lies_2 : decode cX6_lies 2 = .ok (.invokevirtual 102, 3) := by decide +kernel
theorem dX6_lies_5 : decode cX6_lies 5 = .ok (.ifCond .ne 5, 3) := by decide +kernel
theorem dX6_lies_8 : decode cX6_lies 8 = .ok (.iconst (-1), 1) := by decide +kernel
theorem dX6_lies_9 : decode cX6_lies 9 = .ok (.ireturn, 1) := by decide +kernel
theorem dX6_lies_10 : decode cX6_lies 10 = .ok (.iload_n 2, 1) := by decide +kernel
theorem dX6_lies_11 : decode cX6_lies 11 = .ok (.invokestatic 163, 3) := by decide +kernel
theorem dX6_lies_14 : decode cX6_lies 14 = .ok (.ifCond .ne 6, 3) := by decide +kernel
theorem dX6_lies_17 : decode cX6_lies 17 = .ok (.bipush (-2), 2) := by decide +kernel
theorem dX6_lies_19 : decode cX6_lies 19 = .ok (.ireturn, 1) := by decide +kernel
theorem dX6_lies_20 : decode cX6_lies 20 = .ok (.aload_n 0, 1) := by decide +kernel
theorem dX6_lies_21 : decode cX6_lies 21 = .ok (.invokevirtual 154, 3) := by decide +kernel
theorem dX6_lies_24 : decode cX6_lies 24 = .ok (.aload_n 0, 1) := by decide +kernel
theorem dX6_lies_25 : decode cX6_lies 25 = .ok (.getfield 34, 3) := by decide +kernel
theorem dX6_lies_28 : decode cX6_lies 28 = .ok (.getfield 160, 3) := by decide +kernel
theorem dX6_lies_31 : decode cX6_lies 31 = .ok (.iload_n 1, 1) := by decide +kernel
theorem dX6_lies_32 : decode cX6_lies 32 = .ok (.iaload, 1) := by decide +kernel
theorem dX6_lies_33 : decode cX6_lies 33 = .ok (.istore_n 3, 1) := by decide +kernel
theorem dX6_lies_34 : decode cX6_lies 34 = .ok (.bipush (-9), 2) := by decide +kernel
theorem dX6_lies_36 : decode cX6_lies 36 = .ok (.istore 4, 2) := by decide +kernel
theorem dX6_lies_38 : decode cX6_lies 38 = .ok (.iconst 0, 1) := by decide +kernel
theorem dX6_lies_39 : decode cX6_lies 39 = .ok (.istore 5, 2) := by decide +kernel
theorem dX6_lies_41 : decode cX6_lies 41 = .ok (.iload 5, 2) := by decide +kernel
theorem dX6_lies_43 : decode cX6_lies 43 = .ok (.aload_n 0, 1) := by decide +kernel
theorem dX6_lies_44 : decode cX6_lies 44 = .ok (.getfield 20, 3) := by decide +kernel
theorem dX6_lies_47 : decode cX6_lies 47 = .ok (.getfield 235, 3) := by decide +kernel
theorem dX6_lies_50 : decode cX6_lies 50 = .ok (.if_icmp .ge 77, 3) := by decide +kernel
theorem dX6_lies_53 : decode cX6_lies 53 = .ok (.aload_n 0, 1) := by decide +kernel
theorem dX6_lies_54 : decode cX6_lies 54 = .ok (.getfield 20, 3) := by decide +kernel
theorem dX6_lies_57 : decode cX6_lies 57 = .ok (.iload_n 1, 1) := by decide +kernel
theorem dX6_lies_58 : decode cX6_lies 58 = .ok (.iload 5, 2) := by decide +kernel
theorem dX6_lies_60 : decode cX6_lies 60 = .ok (.invokevirtual 128, 3) := by decide +kernel
theorem dX6_lies_63 : decode cX6_lies 63 = .ok (.ifCond .eq 58, 3) := by decide +kernel
theorem dX6_lies_66 : decode cX6_lies 66 = .ok (.aload_n 0, 1) := by decide +kernel
theorem dX6_lies_67 : decode cX6_lies 67 = .ok (.getfield 34, 3) := by decide +kernel
theorem dX6_lies_70 : decode cX6_lies 70 = .ok (.aload_n 0, 1) := by decide +kernel
theorem dX6_lies_71 : decode cX6_lies 71 = .ok (.getfield 30, 3) := by decide +kernel
theorem dX6_lies_74 : decode cX6_lies 74 = .ok (.invokevirtual 198, 3) := by decide +kernel
theorem dX6_lies_77 : decode cX6_lies 77 = .ok (.aload_n 0, 1) := by decide +kernel
theorem dX6_lies_78 : decode cX6_lies 78 = .ok (.getfield 34, 3) := by decide +kernel
theorem dX6_lies_81 : decode cX6_lies 81 = .ok (.iload_n 1, 1) := by decide +kernel
theorem dX6_lies_82 : decode cX6_lies 82 = .ok (.iload 5, 2) := by decide +kernel
theorem dX6_lies_84 : decode cX6_lies 84 = .ok (.invokevirtual 238, 3) := by decide +kernel
theorem dX6_lies_87 : decode cX6_lies 87 = .ok (.aload_n 0, 1) := by decide +kernel
theorem dX6_lies_88 : decode cX6_lies 88 = .ok (.getfield 34, 3) := by decide +kernel
theorem dX6_lies_91 : decode cX6_lies 91 = .ok (.invokevirtual 145, 3) := by decide +kernel
theorem dX6_lies_94 : decode cX6_lies 94 = .ok (.aload_n 0, 1) := by decide +kernel
theorem dX6_lies_95 : decode cX6_lies 95 = .ok (.getfield 34, 3) := by decide +kernel
theorem dX6_lies_98 : decode cX6_lies 98 = .ok (.getfield 160, 3) := by decide +kernel
theorem dX6_lies_101 : decode cX6_lies 101 = .ok (.iload_n 1, 1) := by decide +kernel
theorem dX6_lies_102 : decode cX6_lies 102 = .ok (.iaload, 1) := by decide +kernel
theorem dX6_lies_103 : decode cX6_lies 103 = .ok (.iload_n 3, 1) := by decide +kernel
theorem dX6_lies_104 : decode cX6_lies 104 = .ok (.if_icmp .le 17, 3) := by decide +kernel
theorem dX6_lies_107 : decode cX6_lies 107 = .ok (.aload_n 0, 1) := by decide +kernel
theorem dX6_lies_108 : decode cX6_lies 108 = .ok (.getfield 34, 3) := by decide +kernel
theorem dX6_lies_111 : decode cX6_lies 111 = .ok (.getfield 160, 3) := by decide +kernel
theorem dX6_lies_114 : decode cX6_lies 114 = .ok (.iload_n 1, 1) := by decide +kernel
theorem dX6_lies_115 : decode cX6_lies 115 = .ok (.iaload, 1) := by decide +kernel
theorem dX6_lies_116 : decode cX6_lies 116 = .ok (.istore_n 3, 1) := by decide +kernel
theorem dX6_lies_117 : decode cX6_lies 117 = .ok (.iload 5, 2) := by decide +kernel
theorem dX6_lies_119 : decode cX6_lies 119 = .ok (.istore 4, 2) := by decide +kernel
theorem dX6_lies_121 : decode cX6_lies 121 = .ok (.iinc 5 1, 3) := by decide +kernel
theorem dX6_lies_124 : decode cX6_lies 124 = .ok (.goto (-83), 3) := by decide +kernel
theorem dX6_lies_127 : decode cX6_lies 127 = .ok (.iload_n 2, 1) := by decide +kernel
theorem dX6_lies_128 : decode cX6_lies 128 = .ok (.ifCond .ne 8, 3) := by decide +kernel
theorem dX6_lies_131 : decode cX6_lies 131 = .ok (.iload 4, 2) := by decide +kernel
theorem dX6_lies_133 : decode cX6_lies 133 = .ok (.goto 4, 3) := by decide +kernel
theorem dX6_lies_136 : decode cX6_lies 136 = .ok (.iload_n 3, 1) := by decide +kernel
theorem dX6_lies_137 : decode cX6_lies 137 = .ok (.ireturn, 1) := by decide +kernel
theorem dX6_chair_0 : decode cX6_chair 0 = .ok (.aload_n 0, 1) := by decide +kernel
theorem dX6_chair_1 : decode cX6_chair 1 = .ok (.iload_n 1, 1) := by decide +kernel
theorem dX6_chair_2 : decode cX6_chair 2 = .ok (.invokevirtual 102, 3) := by decide +kernel
theorem dX6_chair_5 : decode cX6_chair 5 = .ok (.ifCond .eq 33, 3) := by decide +kernel
theorem dX6_chair_8 : decode cX6_chair 8 = .ok (.aload_n 0, 1) := by decide +kernel
theorem dX6_chair_9 : decode cX6_chair 9 = .ok (.getfield 20, 3) := by decide +kernel
theorem dX6_chair_12 : decode cX6_chair 12 = .ok (.getfield 88, 3) := by decide +kernel
theorem dX6_chair_15 : decode cX6_chair 15 = .ok (.iconst 3, 1) := by decide +kernel
theorem dX6_chair_16 : decode cX6_chair 16 = .ok (.if_icmp .lt 22, 3) := by decide +kernel
theorem dX6_chair_19 : decode cX6_chair 19 = .ok (.aload_n 0, 1) := by decide +kernel
theorem dX6_chair_20 : decode cX6_chair 20 = .ok (.getfield 30, 3) := by decide +kernel
theorem dX6_chair_23 : decode cX6_chair 23 = .ok (.getfield 135, 3) := by decide +kernel
theorem dX6_chair_26 : decode cX6_chair 26 = .ok (.aload_n 0, 1) := by decide +kernel
theorem dX6_chair_27 : decode cX6_chair 27 = .ok (.getfield 20, 3) := by decide +kernel
theorem dX6_chair_30 : decode cX6_chair 30 = .ok (.getfield 88, 3) := by decide +kernel
theorem dX6_chair_33 : decode cX6_chair 33 = .ok (.iconst 1, 1) := by decide +kernel
theorem dX6_chair_34 : decode cX6_chair 34 = .ok (.isub, 1) := by decide +kernel
theorem dX6_chair_35 : decode cX6_chair 35 = .ok (.if_icmp .lt 7, 3) := by decide +kernel
theorem dX6_chair_38 : decode cX6_chair 38 = .ok (.ldc2_w 166, 3) := by decide +kernel
theorem dX6_chair_41 : decode cX6_chair 41 = .ok (.lreturn, 1) := by decide +kernel
theorem dX6_chair_42 : decode cX6_chair 42 = .ok (.aload_n 0, 1) := by decide +kernel
theorem dX6_chair_43 : decode cX6_chair 43 = .ok (.invokevirtual 154, 3) := by decide +kernel
theorem dX6_chair_46 : decode cX6_chair 46 = .ok (.aload_n 0, 1) := by decide +kernel
theorem dX6_chair_47 : decode cX6_chair 47 = .ok (.getfield 34, 3) := by decide +kernel
theorem dX6_chair_50 : decode cX6_chair 50 = .ok (.invokevirtual 148, 3) := by decide +kernel
theorem dX6_chair_53 : decode cX6_chair 53 = .ok (.aload_n 0, 1) := by decide +kernel
theorem dX6_chair_54 : decode cX6_chair 54 = .ok (.getfield 34, 3) := by decide +kernel
theorem dX6_chair_57 : decode cX6_chair 57 = .ok (.getfield 160, 3) := by decide +kernel
theorem dX6_chair_60 : decode cX6_chair 60 = .ok (.iload_n 1, 1) := by decide +kernel
theorem dX6_chair_61 : decode cX6_chair 61 = .ok (.iaload, 1) := by decide +kernel
theorem dX6_chair_62 : decode cX6_chair 62 = .ok (.isub, 1) := by decide +kernel
theorem dX6_chair_63 : decode cX6_chair 63 = .ok (.istore_n 2, 1) := by decide +kernel
theorem dX6_chair_64 : decode cX6_chair 64 = .ok (.aload_n 0, 1) := by decide +kernel
theorem dX6_chair_65 : decode cX6_chair 65 = .ok (.getfield 34, 3) := by decide +kernel
theorem dX6_chair_68 : decode cX6_chair 68 = .ok (.aload_n 0, 1) := by decide +kernel
theorem dX6_chair_69 : decode cX6_chair 69 = .ok (.getfield 30, 3) := by decide +kernel
theorem dX6_chair_72 : decode cX6_chair 72 = .ok (.invokevirtual 198, 3) := by decide +kernel
theorem dX6_chair_75 : decode cX6_chair 75 = .ok (.aload_n 0, 1) := by decide +kernel
theorem dX6_chair_76 : decode cX6_chair 76 = .ok (.getfield 34, 3) := by decide +kernel
theorem dX6_chair_79 : decode cX6_chair 79 = .ok (.iload_n 1, 1) := by decide +kernel
theorem dX6_chair_80 : decode cX6_chair 80 = .ok (.invokevirtual 242, 3) := by decide +kernel
theorem dX6_chair_83 : decode cX6_chair 83 = .ok (.aload_n 0, 1) := by decide +kernel
theorem dX6_chair_84 : decode cX6_chair 84 = .ok (.getfield 34, 3) := by decide +kernel
theorem dX6_chair_87 : decode cX6_chair 87 = .ok (.invokevirtual 145, 3) := by decide +kernel
theorem dX6_chair_90 : decode cX6_chair 90 = .ok (.aload_n 0, 1) := by decide +kernel
theorem dX6_chair_91 : decode cX6_chair 91 = .ok (.getfield 34, 3) := by decide +kernel
theorem dX6_chair_94 : decode cX6_chair 94 = .ok (.invokevirtual 148, 3) := by decide +kernel
theorem dX6_chair_97 : decode cX6_chair 97 = .ok (.iload_n 2, 1) := by decide +kernel
theorem dX6_chair_98 : decode cX6_chair 98 = .ok (.isub, 1) := by decide +kernel
theorem dX6_chair_99 : decode cX6_chair 99 = .ok (.i2l, 1) := by decide +kernel
theorem dX6_chair_100 : decode cX6_chair 100 = .ok (.lreturn, 1) := by decide +kernel
theorem dX6_law_0 : decode cX6_law 0 = .ok (.iload_n 1, 1) := by decide +kernel
theorem dX6_law_1 : decode cX6_law 1 = .ok (.invokestatic 163, 3) := by decide +kernel
theorem dX6_law_4 : decode cX6_law 4 = .ok (.ifCond .ne 6, 3) := by decide +kernel
theorem dX6_law_7 : decode cX6_law 7 = .ok (.bipush (-2), 2) := by decide +kernel
theorem dX6_law_9 : decode cX6_law 9 = .ok (.ireturn, 1) := by decide +kernel
theorem dX6_law_10 : decode cX6_law 10 = .ok (.aload_n 0, 1) := by decide +kernel
theorem dX6_law_11 : decode cX6_law 11 = .ok (.invokevirtual 138, 3) := by decide +kernel
theorem dX6_law_14 : decode cX6_law 14 = .ok (.ifCond .ne 6, 3) := by decide +kernel
theorem dX6_law_17 : decode cX6_law 17 = .ok (.bipush (-3), 2) := by decide +kernel
theorem dX6_law_19 : decode cX6_law 19 = .ok (.ireturn, 1) := by decide +kernel
theorem dX6_law_20 : decode cX6_law 20 = .ok (.iconst (-1), 1) := by decide +kernel
theorem dX6_law_21 : decode cX6_law 21 = .ok (.istore_n 2, 1) := by decide +kernel
theorem dX6_law_22 : decode cX6_law 22 = .ok (.iconst 0, 1) := by decide +kernel
theorem dX6_law_23 : decode cX6_law 23 = .ok (.istore_n 3, 1) := by decide +kernel
theorem dX6_law_24 : decode cX6_law 24 = .ok (.iconst 1, 1) := by decide +kernel
theorem dX6_law_25 : decode cX6_law 25 = .ok (.istore 4, 2) := by decide +kernel
theorem dX6_law_27 : decode cX6_law 27 = .ok (.iload 4, 2) := by decide +kernel
theorem dX6_law_29 : decode cX6_law 29 = .ok (.aload_n 0, 1) := by decide +kernel
theorem dX6_law_30 : decode cX6_law 30 = .ok (.getfield 20, 3) := by decide +kernel
theorem dX6_law_33 : decode cX6_law 33 = .ok (.getfield 88, 3) := by decide +kernel
theorem dX6_law_36 : decode cX6_law 36 = .ok (.if_icmp .ge 57, 3) := by decide +kernel
theorem dX6_law_39 : decode cX6_law 39 = .ok (.aload_n 0, 1) := by decide +kernel
theorem dX6_law_40 : decode cX6_law 40 = .ok (.getfield 34, 3) := by decide +kernel
theorem dX6_law_43 : decode cX6_law 43 = .ok (.aload_n 0, 1) := by decide +kernel
theorem dX6_law_44 : decode cX6_law 44 = .ok (.getfield 30, 3) := by decide +kernel
theorem dX6_law_47 : decode cX6_law 47 = .ok (.invokevirtual 198, 3) := by decide +kernel
theorem dX6_law_50 : decode cX6_law 50 = .ok (.aload_n 0, 1) := by decide +kernel
theorem dX6_law_51 : decode cX6_law 51 = .ok (.getfield 34, 3) := by decide +kernel
theorem dX6_law_54 : decode cX6_law 54 = .ok (.iload 4, 2) := by decide +kernel
theorem dX6_law_56 : decode cX6_law 56 = .ok (.putfield 135, 3) := by decide +kernel
theorem dX6_law_59 : decode cX6_law 59 = .ok (.aload_n 0, 1) := by decide +kernel
theorem dX6_law_60 : decode cX6_law 60 = .ok (.getfield 34, 3) := by decide +kernel
theorem dX6_law_63 : decode cX6_law 63 = .ok (.invokevirtual 145, 3) := by decide +kernel
theorem dX6_law_66 : decode cX6_law 66 = .ok (.aload_n 0, 1) := by decide +kernel
theorem dX6_law_67 : decode cX6_law 67 = .ok (.getfield 34, 3) := by decide +kernel
theorem dX6_law_70 : decode cX6_law 70 = .ok (.invokevirtual 148, 3) := by decide +kernel
theorem dX6_law_73 : decode cX6_law 73 = .ok (.istore 5, 2) := by decide +kernel
theorem dX6_law_75 : decode cX6_law 75 = .ok (.iload 5, 2) := by decide +kernel
theorem dX6_law_77 : decode cX6_law 77 = .ok (.iload_n 2, 1) := by decide +kernel
theorem dX6_law_78 : decode cX6_law 78 = .ok (.if_icmp .le 9, 3) := by decide +kernel
theorem dX6_law_81 : decode cX6_law 81 = .ok (.iload 5, 2) := by decide +kernel
theorem dX6_law_83 : decode cX6_law 83 = .ok (.istore_n 2, 1) := by decide +kernel
theorem dX6_law_84 : decode cX6_law 84 = .ok (.iload 4, 2) := by decide +kernel
theorem dX6_law_86 : decode cX6_law 86 = .ok (.istore_n 3, 1) := by decide +kernel
theorem dX6_law_87 : decode cX6_law 87 = .ok (.iinc 4 1, 3) := by decide +kernel
theorem dX6_law_90 : decode cX6_law 90 = .ok (.goto (-63), 3) := by decide +kernel
theorem dX6_law_93 : decode cX6_law 93 = .ok (.iload_n 1, 1) := by decide +kernel
theorem dX6_law_94 : decode cX6_law 94 = .ok (.ifCond .ne 7, 3) := by decide +kernel
theorem dX6_law_97 : decode cX6_law 97 = .ok (.iload_n 3, 1) := by decide +kernel
theorem dX6_law_98 : decode cX6_law 98 = .ok (.goto 4, 3) := by decide +kernel
theorem dX6_law_101 : decode cX6_law 101 = .ok (.iload_n 2, 1) := by decide +kernel
theorem dX6_law_102 : decode cX6_law 102 = .ok (.ireturn, 1) := by decide +kernel
theorem dX6_sheet_0 : decode cX6_sheet 0 = .ok (.aload_n 0, 1) := by decide +kernel
theorem dX6_sheet_1 : decode cX6_sheet 1 = .ok (.iconst 0, 1) := by decide +kernel
theorem dX6_sheet_2 : decode cX6_sheet 2 = .ok (.putfield 246, 3) := by decide +kernel
theorem dX6_sheet_5 : decode cX6_sheet 5 = .ok (.iload_n 1, 1) := by decide +kernel
theorem dX6_sheet_6 : decode cX6_sheet 6 = .ok (.invokestatic 249, 3) := by decide +kernel
theorem dX6_sheet_9 : decode cX6_sheet 9 = .ok (.ifCond .ne 5, 3) := by decide +kernel
theorem dX6_sheet_12 : decode cX6_sheet 12 = .ok (.iconst (-1), 1) := by decide +kernel
theorem dX6_sheet_13 : decode cX6_sheet 13 = .ok (.ireturn, 1) := by decide +kernel
theorem dX6_sheet_14 : decode cX6_sheet 14 = .ok (.iload_n 2, 1) := by decide +kernel
theorem dX6_sheet_15 : decode cX6_sheet 15 = .ok (.invokestatic 252, 3) := by decide +kernel
theorem dX6_sheet_18 : decode cX6_sheet 18 = .ok (.ifCond .eq 9, 3) := by decide +kernel
theorem dX6_sheet_21 : decode cX6_sheet 21 = .ok (.iload_n 3, 1) := by decide +kernel
theorem dX6_sheet_22 : decode cX6_sheet 22 = .ok (.bipush 100, 2) := by decide +kernel
theorem dX6_sheet_24 : decode cX6_sheet 24 = .ok (.if_icmp .le 6, 3) := by decide +kernel
theorem dX6_sheet_27 : decode cX6_sheet 27 = .ok (.bipush (-2), 2) := by decide +kernel
theorem dX6_sheet_29 : decode cX6_sheet 29 = .ok (.ireturn, 1) := by decide +kernel
theorem dX6_sheet_30 : decode cX6_sheet 30 = .ok (.iload_n 3, 1) := by decide +kernel
theorem dX6_sheet_31 : decode cX6_sheet 31 = .ok (.ifCond .ge 9, 3) := by decide +kernel
theorem dX6_sheet_34 : decode cX6_sheet 34 = .ok (.aload_n 0, 1) := by decide +kernel
theorem dX6_sheet_35 : decode cX6_sheet 35 = .ok (.iconst 4, 1) := by decide +kernel
theorem dX6_sheet_36 : decode cX6_sheet 36 = .ok (.invokevirtual 255, 3) := by decide +kernel
theorem dX6_sheet_39 : decode cX6_sheet 39 = .ok (.ireturn, 1) := by decide +kernel
theorem dX6_sheet_40 : decode cX6_sheet 40 = .ok (.aload_n 0, 1) := by decide +kernel
theorem dX6_sheet_41 : decode cX6_sheet 41 = .ok (.getfield 13, 3) := by decide +kernel
theorem dX6_sheet_44 : decode cX6_sheet 44 = .ok (.iload_n 1, 1) := by decide +kernel
theorem dX6_sheet_45 : decode cX6_sheet 45 = .ok (.aaload, 1) := by decide +kernel
theorem dX6_sheet_46 : decode cX6_sheet 46 = .ok (.iload_n 2, 1) := by decide +kernel
theorem dX6_sheet_47 : decode cX6_sheet 47 = .ok (.iload_n 3, 1) := by decide +kernel
theorem dX6_sheet_48 : decode cX6_sheet 48 = .ok (.invokevirtual 258, 3) := by decide +kernel
theorem dX6_sheet_51 : decode cX6_sheet 51 = .ok (.iconst 1, 1) := by decide +kernel
theorem dX6_sheet_52 : decode cX6_sheet 52 = .ok (.ireturn, 1) := by decide +kernel
theorem dX6_lose_0 : decode cX6_lose 0 = .ok (.iload_n 1, 1) := by decide +kernel
theorem dX6_lose_1 : decode cX6_lose 1 = .ok (.invokestatic 249, 3) := by decide +kernel
theorem dX6_lose_4 : decode cX6_lose 4 = .ok (.ifCond .ne 5, 3) := by decide +kernel
theorem dX6_lose_7 : decode cX6_lose 7 = .ok (.iconst (-1), 1) := by decide +kernel
theorem dX6_lose_8 : decode cX6_lose 8 = .ok (.ireturn, 1) := by decide +kernel
theorem dX6_lose_9 : decode cX6_lose 9 = .ok (.aload_n 0, 1) := by decide +kernel
theorem dX6_lose_10 : decode cX6_lose 10 = .ok (.getfield 13, 3) := by decide +kernel
theorem dX6_lose_13 : decode cX6_lose 13 = .ok (.iload_n 1, 1) := by decide +kernel
theorem dX6_lose_14 : decode cX6_lose 14 = .ok (.aaload, 1) := by decide +kernel
theorem dX6_lose_15 : decode cX6_lose 15 = .ok (.getfield 261, 3) := by decide +kernel
theorem dX6_lose_18 : decode cX6_lose 18 = .ok (.ifCond .ne 5, 3) := by decide +kernel
theorem dX6_lose_21 : decode cX6_lose 21 = .ok (.iconst 0, 1) := by decide +kernel
theorem dX6_lose_22 : decode cX6_lose 22 = .ok (.ireturn, 1) := by decide +kernel
theorem dX6_lose_23 : decode cX6_lose 23 = .ok (.aload_n 0, 1) := by decide +kernel
theorem dX6_lose_24 : decode cX6_lose 24 = .ok (.getfield 13, 3) := by decide +kernel
theorem dX6_lose_27 : decode cX6_lose 27 = .ok (.iload_n 1, 1) := by decide +kernel
theorem dX6_lose_28 : decode cX6_lose 28 = .ok (.aaload, 1) := by decide +kernel
theorem dX6_lose_29 : decode cX6_lose 29 = .ok (.iconst 0, 1) := by decide +kernel
theorem dX6_lose_30 : decode cX6_lose 30 = .ok (.putfield 261, 3) := by decide +kernel
theorem dX6_lose_33 : decode cX6_lose 33 = .ok (.iconst 1, 1) := by decide +kernel
theorem dX6_lose_34 : decode cX6_lose 34 = .ok (.ireturn, 1) := by decide +kernel
theorem dX6_put_0 : decode cX6_put 0 = .ok (.aload_n 0, 1) := by decide +kernel
theorem dX6_put_1 : decode cX6_put 1 = .ok (.iconst 0, 1) := by decide +kernel
theorem dX6_put_2 : decode cX6_put 2 = .ok (.putfield 246, 3) := by decide +kernel
theorem dX6_put_5 : decode cX6_put 5 = .ok (.iload_n 1, 1) := by decide +kernel
theorem dX6_put_6 : decode cX6_put 6 = .ok (.invokestatic 249, 3) := by decide +kernel
theorem dX6_put_9 : decode cX6_put 9 = .ok (.ifCond .ne 5, 3) := by decide +kernel
theorem dX6_put_12 : decode cX6_put 12 = .ok (.iconst (-1), 1) := by decide +kernel
theorem dX6_put_13 : decode cX6_put 13 = .ok (.ireturn, 1) := by decide +kernel
theorem dX6_put_14 : decode cX6_put 14 = .ok (.aload_n 0, 1) := by decide +kernel
theorem dX6_put_15 : decode cX6_put 15 = .ok (.getfield 13, 3) := by decide +kernel
theorem dX6_put_18 : decode cX6_put 18 = .ok (.iload_n 1, 1) := by decide +kernel
theorem dX6_put_19 : decode cX6_put 19 = .ok (.aaload, 1) := by decide +kernel
theorem dX6_put_20 : decode cX6_put 20 = .ok (.getfield 261, 3) := by decide +kernel
theorem dX6_put_23 : decode cX6_put 23 = .ok (.ifCond .ne 9, 3) := by decide +kernel
theorem dX6_put_26 : decode cX6_put 26 = .ok (.aload_n 0, 1) := by decide +kernel
theorem dX6_put_27 : decode cX6_put 27 = .ok (.iconst 1, 1) := by decide +kernel
theorem dX6_put_28 : decode cX6_put 28 = .ok (.invokevirtual 255, 3) := by decide +kernel
theorem dX6_put_31 : decode cX6_put 31 = .ok (.ireturn, 1) := by decide +kernel
theorem dX6_put_32 : decode cX6_put 32 = .ok (.aload_n 0, 1) := by decide +kernel
theorem dX6_put_33 : decode cX6_put 33 = .ok (.getfield 13, 3) := by decide +kernel
theorem dX6_put_36 : decode cX6_put 36 = .ok (.iload_n 1, 1) := by decide +kernel
theorem dX6_put_37 : decode cX6_put 37 = .ok (.aaload, 1) := by decide +kernel
theorem dX6_put_38 : decode cX6_put 38 = .ok (.iload_n 2, 1) := by decide +kernel
theorem dX6_put_39 : decode cX6_put 39 = .ok (.iconst 1, 1) := by decide +kernel
theorem dX6_put_40 : decode cX6_put 40 = .ok (.invokevirtual 264, 3) := by decide +kernel
theorem dX6_put_43 : decode cX6_put 43 = .ok (.ifCond .ne 9, 3) := by decide +kernel
theorem dX6_put_46 : decode cX6_put 46 = .ok (.aload_n 0, 1) := by decide +kernel
theorem dX6_put_47 : decode cX6_put 47 = .ok (.iconst 3, 1) := by decide +kernel
theorem dX6_put_48 : decode cX6_put 48 = .ok (.invokevirtual 255, 3) := by decide +kernel
theorem dX6_put_51 : decode cX6_put 51 = .ok (.ireturn, 1) := by decide +kernel
theorem dX6_put_52 : decode cX6_put 52 = .ok (.aload_n 0, 1) := by decide +kernel
theorem dX6_put_53 : decode cX6_put 53 = .ok (.getfield 13, 3) := by decide +kernel
theorem dX6_put_56 : decode cX6_put 56 = .ok (.iload_n 1, 1) := by decide +kernel
theorem dX6_put_57 : decode cX6_put 57 = .ok (.aaload, 1) := by decide +kernel
theorem dX6_put_58 : decode cX6_put 58 = .ok (.iload_n 2, 1) := by decide +kernel
theorem dX6_put_59 : decode cX6_put 59 = .ok (.iload_n 3, 1) := by decide +kernel
theorem dX6_put_60 : decode cX6_put 60 = .ok (.invokevirtual 267, 3) := by decide +kernel
theorem dX6_put_63 : decode cX6_put 63 = .ok (.iconst 1, 1) := by decide +kernel
theorem dX6_put_64 : decode cX6_put 64 = .ok (.ireturn, 1) := by decide +kernel
theorem dX6_cell_0 : decode cX6_cell 0 = .ok (.aload_n 0, 1) := by decide +kernel
theorem dX6_cell_1 : decode cX6_cell 1 = .ok (.iload_n 1, 1) := by decide +kernel
theorem dX6_cell_2 : decode cX6_cell 2 = .ok (.iload_n 3, 1) := by decide +kernel
theorem dX6_cell_3 : decode cX6_cell 3 = .ok (.iload_n 2, 1) := by decide +kernel
theorem dX6_cell_4 : decode cX6_cell 4 = .ok (.iconst 1, 1) := by decide +kernel
theorem dX6_cell_5 : decode cX6_cell 5 = .ok (.invokevirtual 65, 3) := by decide +kernel
theorem dX6_cell_8 : decode cX6_cell 8 = .ok (.istore 4, 2) := by decide +kernel
theorem dX6_cell_10 : decode cX6_cell 10 = .ok (.iload 4, 2) := by decide +kernel
theorem dX6_cell_12 : decode cX6_cell 12 = .ok (.ifCond .eq 9, 3) := by decide +kernel
theorem dX6_cell_15 : decode cX6_cell 15 = .ok (.ldc2_w 166, 3) := by decide +kernel
theorem dX6_cell_18 : decode cX6_cell 18 = .ok (.goto 15, 3) := by decide +kernel
theorem dX6_cell_21 : decode cX6_cell 21 = .ok (.aload_n 0, 1) := by decide +kernel
theorem dX6_cell_22 : decode cX6_cell 22 = .ok (.getfield 13, 3) := by decide +kernel
theorem dX6_cell_25 : decode cX6_cell 25 = .ok (.iload_n 1, 1) := by decide +kernel
theorem dX6_cell_26 : decode cX6_cell 26 = .ok (.aaload, 1) := by decide +kernel
theorem dX6_cell_27 : decode cX6_cell 27 = .ok (.getfield 178, 3) := by decide +kernel
theorem dX6_cell_30 : decode cX6_cell 30 = .ok (.iload_n 2, 1) := by decide +kernel
theorem dX6_cell_31 : decode cX6_cell 31 = .ok (.iaload, 1) := by decide +kernel
theorem dX6_cell_32 : decode cX6_cell 32 = .ok (.i2l, 1) := by decide +kernel
theorem dX6_cell_33 : decode cX6_cell 33 = .ok (.lreturn, 1) := by decide +kernel
theorem dX6_copy_0 : decode cX6_copy 0 = .ok (.aload_n 0, 1) := by decide +kernel
theorem dX6_copy_1 : decode cX6_copy 1 = .ok (.iconst 0, 1) := by decide +kernel
theorem dX6_copy_2 : decode cX6_copy 2 = .ok (.putfield 246, 3) := by decide +kernel
theorem dX6_copy_5 : decode cX6_copy 5 = .ok (.iload_n 1, 1) := by decide +kernel
theorem dX6_copy_6 : decode cX6_copy 6 = .ok (.invokestatic 249, 3) := by decide +kernel
theorem dX6_copy_9 : decode cX6_copy 9 = .ok (.ifCond .eq 10, 3) := by decide +kernel
theorem dX6_copy_12 : decode cX6_copy 12 = .ok (.iload_n 3, 1) := by decide +kernel
theorem dX6_copy_13 : decode cX6_copy 13 = .ok (.invokestatic 249, 3) := by decide +kernel
theorem dX6_copy_16 : decode cX6_copy 16 = .ok (.ifCond .ne 5, 3) := by decide +kernel
theorem dX6_copy_19 : decode cX6_copy 19 = .ok (.iconst (-1), 1) := by decide +kernel
theorem dX6_copy_20 : decode cX6_copy 20 = .ok (.ireturn, 1) := by decide +kernel
theorem dX6_copy_21 : decode cX6_copy 21 = .ok (.aload_n 0, 1) := by decide +kernel
theorem dX6_copy_22 : decode cX6_copy 22 = .ok (.getfield 13, 3) := by decide +kernel
theorem dX6_copy_25 : decode cX6_copy 25 = .ok (.iload_n 1, 1) := by decide +kernel
theorem dX6_copy_26 : decode cX6_copy 26 = .ok (.aaload, 1) := by decide +kernel
theorem dX6_copy_27 : decode cX6_copy 27 = .ok (.astore 6, 2) := by decide +kernel
theorem dX6_copy_29 : decode cX6_copy 29 = .ok (.aload_n 0, 1) := by decide +kernel
theorem dX6_copy_30 : decode cX6_copy 30 = .ok (.getfield 13, 3) := by decide +kernel
theorem dX6_copy_33 : decode cX6_copy 33 = .ok (.iload_n 3, 1) := by decide +kernel
theorem dX6_copy_34 : decode cX6_copy 34 = .ok (.aaload, 1) := by decide +kernel
theorem dX6_copy_35 : decode cX6_copy 35 = .ok (.astore 7, 2) := by decide +kernel
theorem dX6_copy_37 : decode cX6_copy 37 = .ok (.aload 6, 2) := by decide +kernel
theorem dX6_copy_39 : decode cX6_copy 39 = .ok (.getfield 261, 3) := by decide +kernel
theorem dX6_copy_42 : decode cX6_copy 42 = .ok (.ifCond .eq 11, 3) := by decide +kernel
theorem dX6_copy_45 : decode cX6_copy 45 = .ok (.aload 7, 2) := by decide +kernel
theorem dX6_copy_47 : decode cX6_copy 47 = .ok (.getfield 261, 3) := by decide +kernel
theorem dX6_copy_50 : decode cX6_copy 50 = .ok (.ifCond .ne 9, 3) := by decide +kernel
theorem dX6_copy_53 : decode cX6_copy 53 = .ok (.aload_n 0, 1) := by decide +kernel
theorem dX6_copy_54 : decode cX6_copy 54 = .ok (.iconst 1, 1) := by decide +kernel
theorem dX6_copy_55 : decode cX6_copy 55 = .ok (.invokevirtual 255, 3) := by decide +kernel
theorem dX6_copy_58 : decode cX6_copy 58 = .ok (.ireturn, 1) := by decide +kernel
theorem dX6_copy_59 : decode cX6_copy 59 = .ok (.aload 6, 2) := by decide +kernel
theorem dX6_copy_61 : decode cX6_copy 61 = .ok (.getfield 270, 3) := by decide +kernel
theorem dX6_copy_64 : decode cX6_copy 64 = .ok (.aload 7, 2) := by decide +kernel
theorem dX6_copy_66 : decode cX6_copy 66 = .ok (.getfield 270, 3) := by decide +kernel
theorem dX6_copy_69 : decode cX6_copy 69 = .ok (.if_icmp .eq 9, 3) := by decide +kernel
theorem dX6_copy_72 : decode cX6_copy 72 = .ok (.aload_n 0, 1) := by decide +kernel
theorem dX6_copy_73 : decode cX6_copy 73 = .ok (.iconst 2, 1) := by decide +kernel
theorem dX6_copy_74 : decode cX6_copy 74 = .ok (.invokevirtual 255, 3) := by decide +kernel
theorem dX6_copy_77 : decode cX6_copy 77 = .ok (.ireturn, 1) := by decide +kernel
theorem dX6_copy_78 : decode cX6_copy 78 = .ok (.aload 6, 2) := by decide +kernel
theorem dX6_copy_80 : decode cX6_copy 80 = .ok (.iload_n 2, 1) := by decide +kernel
theorem dX6_copy_81 : decode cX6_copy 81 = .ok (.iload 5, 2) := by decide +kernel
theorem dX6_copy_83 : decode cX6_copy 83 = .ok (.invokevirtual 264, 3) := by decide +kernel
theorem dX6_copy_86 : decode cX6_copy 86 = .ok (.ifCond .eq 15, 3) := by decide +kernel
theorem dX6_copy_89 : decode cX6_copy 89 = .ok (.aload 7, 2) := by decide +kernel
theorem dX6_copy_91 : decode cX6_copy 91 = .ok (.iload 4, 2) := by decide +kernel
theorem dX6_copy_93 : decode cX6_copy 93 = .ok (.iload 5, 2) := by decide +kernel
theorem dX6_copy_95 : decode cX6_copy 95 = .ok (.invokevirtual 264, 3) := by decide +kernel
theorem dX6_copy_98 : decode cX6_copy 98 = .ok (.ifCond .ne 9, 3) := by decide +kernel
theorem dX6_copy_101 : decode cX6_copy 101 = .ok (.aload_n 0, 1) := by decide +kernel
theorem dX6_copy_102 : decode cX6_copy 102 = .ok (.iconst 3, 1) := by decide +kernel
theorem dX6_copy_103 : decode cX6_copy 103 = .ok (.invokevirtual 255, 3) := by decide +kernel
theorem dX6_copy_106 : decode cX6_copy 106 = .ok (.ireturn, 1) := by decide +kernel
theorem dX6_copy_107 : decode cX6_copy 107 = .ok (.aload 6, 2) := by decide +kernel
theorem dX6_copy_109 : decode cX6_copy 109 = .ok (.getfield 178, 3) := by decide +kernel
theorem dX6_copy_112 : decode cX6_copy 112 = .ok (.iload_n 2, 1) := by decide +kernel
theorem dX6_copy_113 : decode cX6_copy 113 = .ok (.aload 7, 2) := by decide +kernel
theorem dX6_copy_115 : decode cX6_copy 115 = .ok (.getfield 178, 3) := by decide +kernel
theorem dX6_copy_118 : decode cX6_copy 118 = .ok (.iload 4, 2) := by decide +kernel
theorem dX6_copy_120 : decode cX6_copy 120 = .ok (.iload 5, 2) := by decide +kernel
theorem dX6_copy_122 : decode cX6_copy 122 = .ok (.invokestatic 273, 3) := by decide +kernel
theorem dX6_copy_125 : decode cX6_copy 125 = .ok (.iload 5, 2) := by decide +kernel
theorem dX6_copy_127 : decode cX6_copy 127 = .ok (.ireturn, 1) := by decide +kernel
theorem dX6_tell_0 : decode cX6_tell 0 = .ok (.aload_n 0, 1) := by decide +kernel
theorem dX6_tell_1 : decode cX6_tell 1 = .ok (.iload_n 1, 1) := by decide +kernel
theorem dX6_tell_2 : decode cX6_tell 2 = .ok (.invokevirtual 102, 3) := by decide +kernel
theorem dX6_tell_5 : decode cX6_tell 5 = .ok (.ifCond .ne 5, 3) := by decide +kernel
theorem dX6_tell_8 : decode cX6_tell 8 = .ok (.iconst (-1), 1) := by decide +kernel
theorem dX6_tell_9 : decode cX6_tell 9 = .ok (.ireturn, 1) := by decide +kernel
theorem dX6_tell_10 : decode cX6_tell 10 = .ok (.aload_n 0, 1) := by decide +kernel
theorem dX6_tell_11 : decode cX6_tell 11 = .ok (.getfield 20, 3) := by decide +kernel
theorem dX6_tell_14 : decode cX6_tell 14 = .ok (.getfield 105, 3) := by decide +kernel
theorem dX6_tell_17 : decode cX6_tell 17 = .ok (.iload_n 1, 1) := by decide +kernel
theorem dX6_tell_18 : decode cX6_tell 18 = .ok (.iaload, 1) := by decide +kernel
theorem dX6_tell_19 : decode cX6_tell 19 = .ok (.lookupswitch 37 #[(1, 31), (2, 25)], 25) := by decide +kernel
theorem dX6_tell_44 : decode cX6_tell 44 = .ok (.aload_n 0, 1) := by decide +kernel
theorem dX6_tell_45 : decode cX6_tell 45 = .ok (.iload_n 1, 1) := by decide +kernel
theorem dX6_tell_46 : decode cX6_tell 46 = .ok (.invokevirtual 279, 3) := by decide +kernel
theorem dX6_tell_49 : decode cX6_tell 49 = .ok (.ireturn, 1) := by decide +kernel
theorem dX6_tell_50 : decode cX6_tell 50 = .ok (.aload_n 0, 1) := by decide +kernel
theorem dX6_tell_51 : decode cX6_tell 51 = .ok (.iload_n 1, 1) := by decide +kernel
theorem dX6_tell_52 : decode cX6_tell 52 = .ok (.invokevirtual 282, 3) := by decide +kernel
theorem dX6_tell_55 : decode cX6_tell 55 = .ok (.ireturn, 1) := by decide +kernel
theorem dX6_tell_56 : decode cX6_tell 56 = .ok (.aload_n 0, 1) := by decide +kernel
theorem dX6_tell_57 : decode cX6_tell 57 = .ok (.iload_n 1, 1) := by decide +kernel
theorem dX6_tell_58 : decode cX6_tell 58 = .ok (.invokevirtual 285, 3) := by decide +kernel
theorem dX6_tell_61 : decode cX6_tell 61 = .ok (.ireturn, 1) := by decide +kernel
theorem dX6_greet_0 : decode cX6_greet 0 = .ok (.aload_n 0, 1) := by decide +kernel
theorem dX6_greet_1 : decode cX6_greet 1 = .ok (.iload_n 1, 1) := by decide +kernel
theorem dX6_greet_2 : decode cX6_greet 2 = .ok (.invokevirtual 102, 3) := by decide +kernel
theorem dX6_greet_5 : decode cX6_greet 5 = .ok (.ifCond .ne 5, 3) := by decide +kernel
theorem dX6_greet_8 : decode cX6_greet 8 = .ok (.iconst (-1), 1) := by decide +kernel
theorem dX6_greet_9 : decode cX6_greet 9 = .ok (.ireturn, 1) := by decide +kernel
theorem dX6_greet_10 : decode cX6_greet 10 = .ok (.aload_n 0, 1) := by decide +kernel
theorem dX6_greet_11 : decode cX6_greet 11 = .ok (.getfield 20, 3) := by decide +kernel
theorem dX6_greet_14 : decode cX6_greet 14 = .ok (.getfield 105, 3) := by decide +kernel
theorem dX6_greet_17 : decode cX6_greet 17 = .ok (.iload_n 1, 1) := by decide +kernel
theorem dX6_greet_18 : decode cX6_greet 18 = .ok (.iaload, 1) := by decide +kernel
theorem dX6_greet_19 : decode cX6_greet 19 = .ok (.iconst 2, 1) := by decide +kernel
theorem dX6_greet_20 : decode cX6_greet 20 = .ok (.if_icmp .ne 11, 3) := by decide +kernel
theorem dX6_greet_23 : decode cX6_greet 23 = .ok (.aload_n 0, 1) := by decide +kernel
theorem dX6_greet_24 : decode cX6_greet 24 = .ok (.iconst 5, 1) := by decide +kernel
theorem dX6_greet_25 : decode cX6_greet 25 = .ok (.invokevirtual 288, 3) := by decide +kernel
theorem dX6_greet_28 : decode cX6_greet 28 = .ok (.bipush 70, 2) := by decide +kernel
theorem dX6_greet_30 : decode cX6_greet 30 = .ok (.ireturn, 1) := by decide +kernel
theorem dX6_greet_31 : decode cX6_greet 31 = .ok (.aload_n 0, 1) := by decide +kernel
theorem dX6_greet_32 : decode cX6_greet 32 = .ok (.iconst 4, 1) := by decide +kernel
theorem dX6_greet_33 : decode cX6_greet 33 = .ok (.invokevirtual 288, 3) := by decide +kernel
theorem dX6_greet_36 : decode cX6_greet 36 = .ok (.iload_n 1, 1) := by decide +kernel
theorem dX6_greet_37 : decode cX6_greet 37 = .ok (.ireturn, 1) := by decide +kernel
theorem dX6_as_0 : decode cX6_as 0 = .ok (.aload_n 0, 1) := by decide +kernel
theorem dX6_as_1 : decode cX6_as 1 = .ok (.iconst 0, 1) := by decide +kernel
theorem dX6_as_2 : decode cX6_as 2 = .ok (.putfield 246, 3) := by decide +kernel
theorem dX6_as_5 : decode cX6_as 5 = .ok (.aload_n 0, 1) := by decide +kernel
theorem dX6_as_6 : decode cX6_as 6 = .ok (.iload_n 1, 1) := by decide +kernel
theorem dX6_as_7 : decode cX6_as 7 = .ok (.invokevirtual 102, 3) := by decide +kernel
theorem dX6_as_10 : decode cX6_as 10 = .ok (.ifCond .ne 5, 3) := by decide +kernel
theorem dX6_as_13 : decode cX6_as 13 = .ok (.iconst (-1), 1) := by decide +kernel
theorem dX6_as_14 : decode cX6_as 14 = .ok (.ireturn, 1) := by decide +kernel
theorem dX6_as_15 : decode cX6_as 15 = .ok (.iload_n 2, 1) := by decide +kernel
theorem dX6_as_16 : decode cX6_as 16 = .ok (.ifCond .lt 8, 3) := by decide +kernel
theorem dX6_as_19 : decode cX6_as 19 = .ok (.iload_n 2, 1) := by decide +kernel
theorem dX6_as_20 : decode cX6_as 20 = .ok (.iconst 2, 1) := by decide +kernel
theorem dX6_as_21 : decode cX6_as 21 = .ok (.if_icmp .le 6, 3) := by decide +kernel
theorem dX6_as_24 : decode cX6_as 24 = .ok (.bipush (-2), 2) := by decide +kernel
theorem dX6_as_26 : decode cX6_as 26 = .ok (.ireturn, 1) := by decide +kernel
theorem dX6_as_27 : decode cX6_as 27 = .ok (.iload_n 2, 1) := by decide +kernel
theorem dX6_as_28 : decode cX6_as 28 = .ok (.aload_n 0, 1) := by decide +kernel
theorem dX6_as_29 : decode cX6_as 29 = .ok (.getfield 20, 3) := by decide +kernel
theorem dX6_as_32 : decode cX6_as 32 = .ok (.getfield 105, 3) := by decide +kernel
theorem dX6_as_35 : decode cX6_as 35 = .ok (.iload_n 1, 1) := by decide +kernel
theorem dX6_as_36 : decode cX6_as 36 = .ok (.iaload, 1) := by decide +kernel
theorem dX6_as_37 : decode cX6_as 37 = .ok (.if_icmp .le 11, 3) := by decide +kernel
theorem dX6_as_40 : decode cX6_as 40 = .ok (.aload_n 0, 1) := by decide +kernel
theorem dX6_as_41 : decode cX6_as 41 = .ok (.iconst 2, 1) := by decide +kernel
theorem dX6_as_42 : decode cX6_as 42 = .ok (.invokevirtual 255, 3) := by decide +kernel
theorem dX6_as_45 : decode cX6_as 45 = .ok (.goto 4, 3) := by decide +kernel
theorem dX6_as_48 : decode cX6_as 48 = .ok (.iconst 1, 1) := by decide +kernel
theorem dX6_as_49 : decode cX6_as 49 = .ok (.ireturn, 1) := by decide +kernel
theorem dX6_trace_0 : decode cX6_trace 0 = .ok (.aload_n 0, 1) := by decide +kernel
theorem dX6_trace_1 : decode cX6_trace 1 = .ok (.getfield 291, 3) := by decide +kernel
theorem dX6_trace_4 : decode cX6_trace 4 = .ok (.ireturn, 1) := by decide +kernel
theorem dX6_fault_0 : decode cX6_fault 0 = .ok (.aload_n 0, 1) := by decide +kernel
theorem dX6_fault_1 : decode cX6_fault 1 = .ok (.getfield 246, 3) := by decide +kernel
theorem dX6_fault_4 : decode cX6_fault 4 = .ok (.ireturn, 1) := by decide +kernel
theorem dX6_many_0 : decode cX6_many 0 = .ok (.iload_n 1, 1) := by decide +kernel
theorem dX6_many_1 : decode cX6_many 1 = .ok (.tableswitch 72 0 4 #[35, 43, 51, 59, 67], 35) := by decide +kernel
theorem dX6_many_36 : decode cX6_many 36 = .ok (.aload_n 0, 1) := by decide +kernel
theorem dX6_many_37 : decode cX6_many 37 = .ok (.getfield 20, 3) := by decide +kernel
theorem dX6_many_40 : decode cX6_many 40 = .ok (.getfield 88, 3) := by decide +kernel
theorem dX6_many_43 : decode cX6_many 43 = .ok (.ireturn, 1) := by decide +kernel
theorem dX6_many_44 : decode cX6_many 44 = .ok (.aload_n 0, 1) := by decide +kernel
theorem dX6_many_45 : decode cX6_many 45 = .ok (.getfield 20, 3) := by decide +kernel
theorem dX6_many_48 : decode cX6_many 48 = .ok (.getfield 235, 3) := by decide +kernel
theorem dX6_many_51 : decode cX6_many 51 = .ok (.ireturn, 1) := by decide +kernel
theorem dX6_many_52 : decode cX6_many 52 = .ok (.aload_n 0, 1) := by decide +kernel
theorem dX6_many_53 : decode cX6_many 53 = .ok (.getfield 30, 3) := by decide +kernel
theorem dX6_many_56 : decode cX6_many 56 = .ok (.getfield 135, 3) := by decide +kernel
theorem dX6_many_59 : decode cX6_many 59 = .ok (.ireturn, 1) := by decide +kernel
theorem dX6_many_60 : decode cX6_many 60 = .ok (.aload_n 0, 1) := by decide +kernel
theorem dX6_many_61 : decode cX6_many 61 = .ok (.getfield 30, 3) := by decide +kernel
theorem dX6_many_64 : decode cX6_many 64 = .ok (.getfield 142, 3) := by decide +kernel
theorem dX6_many_67 : decode cX6_many 67 = .ok (.ireturn, 1) := by decide +kernel
theorem dX6_many_68 : decode cX6_many 68 = .ok (.aload_n 0, 1) := by decide +kernel
theorem dX6_many_69 : decode cX6_many 69 = .ok (.getfield 81, 3) := by decide +kernel
theorem dX6_many_72 : decode cX6_many 72 = .ok (.ireturn, 1) := by decide +kernel
theorem dX6_many_73 : decode cX6_many 73 = .ok (.bipush (-2), 2) := by decide +kernel
theorem dX6_many_75 : decode cX6_many 75 = .ok (.ireturn, 1) := by decide +kernel
theorem dX6_isTable_0 : decode cX6_isTable 0 = .ok (.aload_n 0, 1) := by decide +kernel
theorem dX6_isTable_1 : decode cX6_isTable 1 = .ok (.getfield 20, 3) := by decide +kernel
theorem dX6_isTable_4 : decode cX6_isTable 4 = .ok (.getfield 88, 3) := by decide +kernel
theorem dX6_isTable_7 : decode cX6_isTable 7 = .ok (.ifCond .le 7, 3) := by decide +kernel
theorem dX6_isTable_10 : decode cX6_isTable 10 = .ok (.iconst 1, 1) := by decide +kernel
theorem dX6_isTable_11 : decode cX6_isTable 11 = .ok (.goto 4, 3) := by decide +kernel
theorem dX6_isTable_14 : decode cX6_isTable 14 = .ok (.iconst 0, 1) := by decide +kernel
theorem dX6_isTable_15 : decode cX6_isTable 15 = .ok (.ireturn, 1) := by decide +kernel
theorem dX6_isGuest_0 : decode cX6_isGuest 0 = .ok (.iload_n 1, 1) := by decide +kernel
theorem dX6_isGuest_1 : decode cX6_isGuest 1 = .ok (.ifCond .lt 18, 3) := by decide +kernel
theorem dX6_isGuest_4 : decode cX6_isGuest 4 = .ok (.iload_n 1, 1) := by decide +kernel
theorem dX6_isGuest_5 : decode cX6_isGuest 5 = .ok (.aload_n 0, 1) := by decide +kernel
theorem dX6_isGuest_6 : decode cX6_isGuest 6 = .ok (.getfield 20, 3) := by decide +kernel
theorem dX6_isGuest_9 : decode cX6_isGuest 9 = .ok (.getfield 88, 3) := by decide +kernel
theorem dX6_isGuest_12 : decode cX6_isGuest 12 = .ok (.if_icmp .ge 7, 3) := by decide +kernel
theorem dX6_isGuest_15 : decode cX6_isGuest 15 = .ok (.iconst 1, 1) := by decide +kernel
theorem dX6_isGuest_16 : decode cX6_isGuest 16 = .ok (.goto 4, 3) := by decide +kernel
theorem dX6_isGuest_19 : decode cX6_isGuest 19 = .ok (.iconst 0, 1) := by decide +kernel
theorem dX6_isGuest_20 : decode cX6_isGuest 20 = .ok (.ireturn, 1) := by decide +kernel
theorem dX6_isDish_0 : decode cX6_isDish 0 = .ok (.iload_n 1, 1) := by decide +kernel
theorem dX6_isDish_1 : decode cX6_isDish 1 = .ok (.ifCond .lt 18, 3) := by decide +kernel
theorem dX6_isDish_4 : decode cX6_isDish 4 = .ok (.iload_n 1, 1) := by decide +kernel
theorem dX6_isDish_5 : decode cX6_isDish 5 = .ok (.aload_n 0, 1) := by decide +kernel
theorem dX6_isDish_6 : decode cX6_isDish 6 = .ok (.getfield 20, 3) := by decide +kernel
theorem dX6_isDish_9 : decode cX6_isDish 9 = .ok (.getfield 235, 3) := by decide +kernel
theorem dX6_isDish_12 : decode cX6_isDish 12 = .ok (.if_icmp .ge 7, 3) := by decide +kernel
theorem dX6_isDish_15 : decode cX6_isDish 15 = .ok (.iconst 1, 1) := by decide +kernel
theorem dX6_isDish_16 : decode cX6_isDish 16 = .ok (.goto 4, 3) := by decide +kernel
theorem dX6_isDish_19 : decode cX6_isDish 19 = .ok (.iconst 0, 1) := by decide +kernel
theorem dX6_isDish_20 : decode cX6_isDish 20 = .ok (.ireturn, 1) := by decide +kernel
theorem dX6_isSheet_0 : decode cX6_isSheet 0 = .ok (.iload_n 0, 1) := by decide +kernel
theorem dX6_isSheet_1 : decode cX6_isSheet 1 = .ok (.ifCond .lt 12, 3) := by decide +kernel
theorem dX6_isSheet_4 : decode cX6_isSheet 4 = .ok (.iload_n 0, 1) := by decide +kernel
theorem dX6_isSheet_5 : decode cX6_isSheet 5 = .ok (.iconst 4, 1) := by decide +kernel
theorem dX6_isSheet_6 : decode cX6_isSheet 6 = .ok (.if_icmp .ge 7, 3) := by decide +kernel
theorem dX6_isSheet_9 : decode cX6_isSheet 9 = .ok (.iconst 1, 1) := by decide +kernel
theorem dX6_isSheet_10 : decode cX6_isSheet 10 = .ok (.goto 4, 3) := by decide +kernel
theorem dX6_isSheet_13 : decode cX6_isSheet 13 = .ok (.iconst 0, 1) := by decide +kernel
theorem dX6_isSheet_14 : decode cX6_isSheet 14 = .ok (.ireturn, 1) := by decide +kernel
theorem dX6_isSort_0 : decode cX6_isSort 0 = .ok (.iload_n 0, 1) := by decide +kernel
theorem dX6_isSort_1 : decode cX6_isSort 1 = .ok (.ifCond .lt 12, 3) := by decide +kernel
theorem dX6_isSort_4 : decode cX6_isSort 4 = .ok (.iload_n 0, 1) := by decide +kernel
theorem dX6_isSort_5 : decode cX6_isSort 5 = .ok (.iconst 2, 1) := by decide +kernel
theorem dX6_isSort_6 : decode cX6_isSort 6 = .ok (.if_icmp .gt 7, 3) := by decide +kernel
theorem dX6_isSort_9 : decode cX6_isSort 9 = .ok (.iconst 1, 1) := by decide +kernel
theorem dX6_isSort_10 : decode cX6_isSort 10 = .ok (.goto 4, 3) := by decide +kernel
theorem dX6_isSort_13 : decode cX6_isSort 13 = .ok (.iconst 0, 1) := by decide +kernel
theorem dX6_isSort_14 : decode cX6_isSort 14 = .ok (.ireturn, 1) := by decide +kernel
theorem dX6_isOneOfTwo_0 : decode cX6_isOneOfTwo 0 = .ok (.iload_n 0, 1) := by decide +kernel
theorem dX6_isOneOfTwo_1 : decode cX6_isOneOfTwo 1 = .ok (.ifCond .eq 8, 3) := by decide +kernel
theorem dX6_isOneOfTwo_4 : decode cX6_isOneOfTwo 4 = .ok (.iload_n 0, 1) := by decide +kernel
theorem dX6_isOneOfTwo_5 : decode cX6_isOneOfTwo 5 = .ok (.iconst 1, 1) := by decide +kernel
theorem dX6_isOneOfTwo_6 : decode cX6_isOneOfTwo 6 = .ok (.if_icmp .ne 7, 3) := by decide +kernel
theorem dX6_isOneOfTwo_9 : decode cX6_isOneOfTwo 9 = .ok (.iconst 1, 1) := by decide +kernel
theorem dX6_isOneOfTwo_10 : decode cX6_isOneOfTwo 10 = .ok (.goto 4, 3) := by decide +kernel
theorem dX6_isOneOfTwo_13 : decode cX6_isOneOfTwo 13 = .ok (.iconst 0, 1) := by decide +kernel
theorem dX6_isOneOfTwo_14 : decode cX6_isOneOfTwo 14 = .ok (.ireturn, 1) := by decide +kernel
theorem dX6_faulty_0 : decode cX6_faulty 0 = .ok (.aload_n 0, 1) := by decide +kernel
theorem dX6_faulty_1 : decode cX6_faulty 1 = .ok (.iload_n 1, 1) := by decide +kernel
theorem dX6_faulty_2 : decode cX6_faulty 2 = .ok (.putfield 246, 3) := by decide +kernel
theorem dX6_faulty_5 : decode cX6_faulty 5 = .ok (.bipush (-10), 2) := by decide +kernel
theorem dX6_faulty_7 : decode cX6_faulty 7 = .ok (.iload_n 1, 1) := by decide +kernel
theorem dX6_faulty_8 : decode cX6_faulty 8 = .ok (.isub, 1) := by decide +kernel
theorem dX6_faulty_9 : decode cX6_faulty 9 = .ok (.ireturn, 1) := by decide +kernel
theorem dX6_refusalOfRow_0 : decode cX6_refusalOfRow 0 = .ok (.aload_n 0, 1) := by decide +kernel
theorem dX6_refusalOfRow_1 : decode cX6_refusalOfRow 1 = .ok (.iconst 0, 1) := by decide +kernel
theorem dX6_refusalOfRow_2 : decode cX6_refusalOfRow 2 = .ok (.putfield 246, 3) := by decide +kernel
theorem dX6_refusalOfRow_5 : decode cX6_refusalOfRow 5 = .ok (.iload_n 1, 1) := by decide +kernel
theorem dX6_refusalOfRow_6 : decode cX6_refusalOfRow 6 = .ok (.invokestatic 249, 3) := by decide +kernel
theorem dX6_refusalOfRow_9 : decode cX6_refusalOfRow 9 = .ok (.ifCond .ne 5, 3) := by decide +kernel
theorem dX6_refusalOfRow_12 : decode cX6_refusalOfRow 12 = .ok (.iconst (-1), 1) := by decide +kernel
theorem dX6_refusalOfRow_13 : decode cX6_refusalOfRow 13 = .ok (.ireturn, 1) := by decide +kernel
theorem dX6_refusalOfRow_14 : decode cX6_refusalOfRow 14 = .ok (.iload_n 2, 1) := by decide +kernel
theorem dX6_refusalOfRow_15 : decode cX6_refusalOfRow 15 = .ok (.invokestatic 252, 3) := by decide +kernel
theorem dX6_refusalOfRow_18 : decode cX6_refusalOfRow 18 = .ok (.ifCond .ne 6, 3) := by decide +kernel
theorem dX6_refusalOfRow_21 : decode cX6_refusalOfRow 21 = .ok (.bipush (-2), 2) := by decide +kernel
theorem dX6_refusalOfRow_23 : decode cX6_refusalOfRow 23 = .ok (.ireturn, 1) := by decide +kernel
theorem dX6_refusalOfRow_24 : decode cX6_refusalOfRow 24 = .ok (.aload_n 0, 1) := by decide +kernel
theorem dX6_refusalOfRow_25 : decode cX6_refusalOfRow 25 = .ok (.getfield 13, 3) := by decide +kernel
theorem dX6_refusalOfRow_28 : decode cX6_refusalOfRow 28 = .ok (.iload_n 1, 1) := by decide +kernel
theorem dX6_refusalOfRow_29 : decode cX6_refusalOfRow 29 = .ok (.aaload, 1) := by decide +kernel
theorem dX6_refusalOfRow_30 : decode cX6_refusalOfRow 30 = .ok (.getfield 261, 3) := by decide +kernel
theorem dX6_refusalOfRow_33 : decode cX6_refusalOfRow 33 = .ok (.ifCond .ne 9, 3) := by decide +kernel
theorem dX6_refusalOfRow_36 : decode cX6_refusalOfRow 36 = .ok (.aload_n 0, 1) := by decide +kernel
theorem dX6_refusalOfRow_37 : decode cX6_refusalOfRow 37 = .ok (.iconst 1, 1) := by decide +kernel
theorem dX6_refusalOfRow_38 : decode cX6_refusalOfRow 38 = .ok (.invokevirtual 255, 3) := by decide +kernel
theorem dX6_refusalOfRow_41 : decode cX6_refusalOfRow 41 = .ok (.ireturn, 1) := by decide +kernel
theorem dX6_refusalOfRow_42 : decode cX6_refusalOfRow 42 = .ok (.aload_n 0, 1) := by decide +kernel
theorem dX6_refusalOfRow_43 : decode cX6_refusalOfRow 43 = .ok (.getfield 13, 3) := by decide +kernel
theorem dX6_refusalOfRow_46 : decode cX6_refusalOfRow 46 = .ok (.iload_n 1, 1) := by decide +kernel
theorem dX6_refusalOfRow_47 : decode cX6_refusalOfRow 47 = .ok (.aaload, 1) := by decide +kernel
theorem dX6_refusalOfRow_48 : decode cX6_refusalOfRow 48 = .ok (.getfield 270, 3) := by decide +kernel
theorem dX6_refusalOfRow_51 : decode cX6_refusalOfRow 51 = .ok (.iload_n 2, 1) := by decide +kernel
theorem dX6_refusalOfRow_52 : decode cX6_refusalOfRow 52 = .ok (.if_icmp .eq 9, 3) := by decide +kernel
theorem dX6_refusalOfRow_55 : decode cX6_refusalOfRow 55 = .ok (.aload_n 0, 1) := by decide +kernel
theorem dX6_refusalOfRow_56 : decode cX6_refusalOfRow 56 = .ok (.iconst 2, 1) := by decide +kernel
theorem dX6_refusalOfRow_57 : decode cX6_refusalOfRow 57 = .ok (.invokevirtual 255, 3) := by decide +kernel
theorem dX6_refusalOfRow_60 : decode cX6_refusalOfRow 60 = .ok (.ireturn, 1) := by decide +kernel
theorem dX6_refusalOfRow_61 : decode cX6_refusalOfRow 61 = .ok (.iload 4, 2) := by decide +kernel
theorem dX6_refusalOfRow_63 : decode cX6_refusalOfRow 63 = .ok (.ifCond .ge 9, 3) := by decide +kernel
theorem dX6_refusalOfRow_66 : decode cX6_refusalOfRow 66 = .ok (.aload_n 0, 1) := by decide +kernel
theorem dX6_refusalOfRow_67 : decode cX6_refusalOfRow 67 = .ok (.iconst 4, 1) := by decide +kernel
theorem dX6_refusalOfRow_68 : decode cX6_refusalOfRow 68 = .ok (.invokevirtual 255, 3) := by decide +kernel
theorem dX6_refusalOfRow_71 : decode cX6_refusalOfRow 71 = .ok (.ireturn, 1) := by decide +kernel
theorem dX6_refusalOfRow_72 : decode cX6_refusalOfRow 72 = .ok (.aload_n 0, 1) := by decide +kernel
theorem dX6_refusalOfRow_73 : decode cX6_refusalOfRow 73 = .ok (.getfield 13, 3) := by decide +kernel
theorem dX6_refusalOfRow_76 : decode cX6_refusalOfRow 76 = .ok (.iload_n 1, 1) := by decide +kernel
theorem dX6_refusalOfRow_77 : decode cX6_refusalOfRow 77 = .ok (.aaload, 1) := by decide +kernel
theorem dX6_refusalOfRow_78 : decode cX6_refusalOfRow 78 = .ok (.iload_n 3, 1) := by decide +kernel
theorem dX6_refusalOfRow_79 : decode cX6_refusalOfRow 79 = .ok (.iload 4, 2) := by decide +kernel
theorem dX6_refusalOfRow_81 : decode cX6_refusalOfRow 81 = .ok (.invokevirtual 264, 3) := by decide +kernel
theorem dX6_refusalOfRow_84 : decode cX6_refusalOfRow 84 = .ok (.ifCond .eq 7, 3) := by decide +kernel
theorem dX6_refusalOfRow_87 : decode cX6_refusalOfRow 87 = .ok (.iconst 0, 1) := by decide +kernel
theorem dX6_refusalOfRow_88 : decode cX6_refusalOfRow 88 = .ok (.goto 8, 3) := by decide +kernel
theorem dX6_refusalOfRow_91 : decode cX6_refusalOfRow 91 = .ok (.aload_n 0, 1) := by decide +kernel
theorem dX6_refusalOfRow_92 : decode cX6_refusalOfRow 92 = .ok (.iconst 3, 1) := by decide +kernel
theorem dX6_refusalOfRow_93 : decode cX6_refusalOfRow 93 = .ok (.invokevirtual 255, 3) := by decide +kernel
theorem dX6_refusalOfRow_96 : decode cX6_refusalOfRow 96 = .ok (.ireturn, 1) := by decide +kernel
theorem dX6_unsettle_0 : decode cX6_unsettle 0 = .ok (.aload_n 0, 1) := by decide +kernel
theorem dX6_unsettle_1 : decode cX6_unsettle 1 = .ok (.getfield 53, 3) := by decide +kernel
theorem dX6_unsettle_4 : decode cX6_unsettle 4 = .ok (.iconst 0, 1) := by decide +kernel
theorem dX6_unsettle_5 : decode cX6_unsettle 5 = .ok (.putfield 185, 3) := by decide +kernel
theorem dX6_unsettle_8 : decode cX6_unsettle 8 = .ok (.aload_n 0, 1) := by decide +kernel
theorem dX6_unsettle_9 : decode cX6_unsettle 9 = .ok (.getfield 60, 3) := by decide +kernel
theorem dX6_unsettle_12 : decode cX6_unsettle 12 = .ok (.iconst 0, 1) := by decide +kernel
theorem dX6_unsettle_13 : decode cX6_unsettle 13 = .ok (.putfield 197, 3) := by decide +kernel
theorem dX6_unsettle_16 : decode cX6_unsettle 16 = .ok (.return_, 1) := by decide +kernel
theorem dX6_tryEvening_0 : decode cX6_tryEvening 0 = .ok (.aload_n 0, 1) := by decide +kernel
theorem dX6_tryEvening_1 : decode cX6_tryEvening 1 = .ok (.getfield 34, 3) := by decide +kernel
theorem dX6_tryEvening_4 : decode cX6_tryEvening 4 = .ok (.aload_n 0, 1) := by decide +kernel
theorem dX6_tryEvening_5 : decode cX6_tryEvening 5 = .ok (.getfield 30, 3) := by decide +kernel
theorem dX6_tryEvening_8 : decode cX6_tryEvening 8 = .ok (.invokevirtual 198, 3) := by decide +kernel
theorem dX6_tryEvening_11 : decode cX6_tryEvening 11 = .ok (.aload_n 0, 1) := by decide +kernel
theorem dX6_tryEvening_12 : decode cX6_tryEvening 12 = .ok (.getfield 34, 3) := by decide +kernel
theorem dX6_tryEvening_15 : decode cX6_tryEvening 15 = .ok (.invokevirtual 145, 3) := by decide +kernel
theorem dX6_tryEvening_18 : decode cX6_tryEvening 18 = .ok (.return_, 1) := by decide +kernel
theorem dX6_walkOn_0 : decode cX6_walkOn 0 = .ok (.aload_n 0, 1) := by decide +kernel
theorem dX6_walkOn_1 : decode cX6_walkOn 1 = .ok (.getfield 34, 3) := by decide +kernel
theorem dX6_walkOn_4 : decode cX6_walkOn 4 = .ok (.aload_n 0, 1) := by decide +kernel
theorem dX6_walkOn_5 : decode cX6_walkOn 5 = .ok (.getfield 30, 3) := by decide +kernel
theorem dX6_walkOn_8 : decode cX6_walkOn 8 = .ok (.invokevirtual 198, 3) := by decide +kernel
theorem dX6_walkOn_11 : decode cX6_walkOn 11 = .ok (.aload_n 0, 1) := by decide +kernel
theorem dX6_walkOn_12 : decode cX6_walkOn 12 = .ok (.getfield 43, 3) := by decide +kernel
theorem dX6_walkOn_15 : decode cX6_walkOn 15 = .ok (.aload_n 0, 1) := by decide +kernel
theorem dX6_walkOn_16 : decode cX6_walkOn 16 = .ok (.getfield 34, 3) := by decide +kernel
theorem dX6_walkOn_19 : decode cX6_walkOn 19 = .ok (.invokevirtual 219, 3) := by decide +kernel
theorem dX6_walkOn_22 : decode cX6_walkOn 22 = .ok (.return_, 1) := by decide +kernel
theorem dX6_isGladderOtherwise_0 : decode cX6_isGladderOtherwise 0 = .ok (.aload_n 0, 1) := by decide +kernel
theorem dX6_isGladderOtherwise_1 : decode cX6_isGladderOtherwise 1 = .ok (.getfield 47, 3) := by decide +kernel
theorem dX6_isGladderOtherwise_4 : decode cX6_isGladderOtherwise 4 = .ok (.getfield 217, 3) := by decide +kernel
theorem dX6_isGladderOtherwise_7 : decode cX6_isGladderOtherwise 7 = .ok (.iload_n 1, 1) := by decide +kernel
theorem dX6_isGladderOtherwise_8 : decode cX6_isGladderOtherwise 8 = .ok (.iaload, 1) := by decide +kernel
theorem dX6_isGladderOtherwise_9 : decode cX6_isGladderOtherwise 9 = .ok (.i2l, 1) := by decide +kernel
theorem dX6_isGladderOtherwise_10 : decode cX6_isGladderOtherwise 10 = .ok (.aload_n 0, 1) := by decide +kernel
theorem dX6_isGladderOtherwise_11 : decode cX6_isGladderOtherwise 11 = .ok (.getfield 43, 3) := by decide +kernel
theorem dX6_isGladderOtherwise_14 : decode cX6_isGladderOtherwise 14 = .ok (.getfield 214, 3) := by decide +kernel
theorem dX6_isGladderOtherwise_17 : decode cX6_isGladderOtherwise 17 = .ok (.i2l, 1) := by decide +kernel
theorem dX6_isGladderOtherwise_18 : decode cX6_isGladderOtherwise 18 = .ok (.lmul, 1) := by decide +kernel
theorem dX6_isGladderOtherwise_19 : decode cX6_isGladderOtherwise 19 = .ok (.aload_n 0, 1) := by decide +kernel
theorem dX6_isGladderOtherwise_20 : decode cX6_isGladderOtherwise 20 = .ok (.getfield 43, 3) := by decide +kernel
theorem dX6_isGladderOtherwise_23 : decode cX6_isGladderOtherwise 23 = .ok (.getfield 217, 3) := by decide +kernel
theorem dX6_isGladderOtherwise_26 : decode cX6_isGladderOtherwise 26 = .ok (.iload_n 1, 1) := by decide +kernel
theorem dX6_isGladderOtherwise_27 : decode cX6_isGladderOtherwise 27 = .ok (.iaload, 1) := by decide +kernel
theorem dX6_isGladderOtherwise_28 : decode cX6_isGladderOtherwise 28 = .ok (.i2l, 1) := by decide +kernel
theorem dX6_isGladderOtherwise_29 : decode cX6_isGladderOtherwise 29 = .ok (.aload_n 0, 1) := by decide +kernel
theorem dX6_isGladderOtherwise_30 : decode cX6_isGladderOtherwise 30 = .ok (.getfield 47, 3) := by decide +kernel
theorem dX6_isGladderOtherwise_33 : decode cX6_isGladderOtherwise 33 = .ok (.getfield 214, 3) := by decide +kernel
theorem dX6_isGladderOtherwise_36 : decode cX6_isGladderOtherwise 36 = .ok (.i2l, 1) := by decide +kernel
theorem dX6_isGladderOtherwise_37 : decode cX6_isGladderOtherwise 37 = .ok (.lmul, 1) := by decide +kernel
theorem dX6_isGladderOtherwise_38 : decode cX6_isGladderOtherwise 38 = .ok (.lcmp, 1) := by decide +kernel
theorem dX6_isGladderOtherwise_39 : decode cX6_isGladderOtherwise 39 = .ok (.ifCond .le 7, 3) := by decide +kernel
theorem dX6_isGladderOtherwise_42 : decode cX6_isGladderOtherwise 42 = .ok (.iconst 1, 1) := by decide +kernel
theorem dX6_isGladderOtherwise_43 : decode cX6_isGladderOtherwise 43 = .ok (.goto 4, 3) := by decide +kernel
theorem dX6_isGladderOtherwise_46 : decode cX6_isGladderOtherwise 46 = .ok (.iconst 0, 1) := by decide +kernel
theorem dX6_isGladderOtherwise_47 : decode cX6_isGladderOtherwise 47 = .ok (.ireturn, 1) := by decide +kernel
theorem dX6_firstWorse_0 : decode cX6_firstWorse 0 = .ok (.iconst 0, 1) := by decide +kernel
theorem dX6_firstWorse_1 : decode cX6_firstWorse 1 = .ok (.istore_n 3, 1) := by decide +kernel
theorem dX6_firstWorse_2 : decode cX6_firstWorse 2 = .ok (.iload_n 3, 1) := by decide +kernel
theorem dX6_firstWorse_3 : decode cX6_firstWorse 3 = .ok (.aload_n 0, 1) := by decide +kernel
theorem dX6_firstWorse_4 : decode cX6_firstWorse 4 = .ok (.getfield 30, 3) := by decide +kernel
theorem dX6_firstWorse_7 : decode cX6_firstWorse 7 = .ok (.getfield 142, 3) := by decide +kernel
theorem dX6_firstWorse_10 : decode cX6_firstWorse 10 = .ok (.if_icmp .ge 62, 3) := by decide +kernel
theorem dX6_firstWorse_13 : decode cX6_firstWorse 13 = .ok (.aload_n 0, 1) := by decide +kernel
theorem dX6_firstWorse_14 : decode cX6_firstWorse 14 = .ok (.getfield 20, 3) := by decide +kernel
theorem dX6_firstWorse_17 : decode cX6_firstWorse 17 = .ok (.iload_n 1, 1) := by decide +kernel
theorem dX6_firstWorse_18 : decode cX6_firstWorse 18 = .ok (.aload_n 0, 1) := by decide +kernel
theorem dX6_firstWorse_19 : decode cX6_firstWorse 19 = .ok (.getfield 37, 3) := by decide +kernel
theorem dX6_firstWorse_22 : decode cX6_firstWorse 22 = .ok (.getfield 157, 3) := by decide +kernel
theorem dX6_firstWorse_25 : decode cX6_firstWorse 25 = .ok (.iload_n 3, 1) := by decide +kernel
theorem dX6_firstWorse_26 : decode cX6_firstWorse 26 = .ok (.aaload, 1) := by decide +kernel
theorem dX6_firstWorse_27 : decode cX6_firstWorse 27 = .ok (.iload_n 1, 1) := by decide +kernel
theorem dX6_firstWorse_28 : decode cX6_firstWorse 28 = .ok (.iaload, 1) := by decide +kernel
theorem dX6_firstWorse_29 : decode cX6_firstWorse 29 = .ok (.invokevirtual 294, 3) := by decide +kernel
theorem dX6_firstWorse_32 : decode cX6_firstWorse 32 = .ok (.aload_n 0, 1) := by decide +kernel
theorem dX6_firstWorse_33 : decode cX6_firstWorse 33 = .ok (.getfield 20, 3) := by decide +kernel
theorem dX6_firstWorse_36 : decode cX6_firstWorse 36 = .ok (.iload_n 1, 1) := by decide +kernel
theorem dX6_firstWorse_37 : decode cX6_firstWorse 37 = .ok (.aload_n 0, 1) := by decide +kernel
theorem dX6_firstWorse_38 : decode cX6_firstWorse 38 = .ok (.getfield 34, 3) := by decide +kernel
theorem dX6_firstWorse_41 : decode cX6_firstWorse 41 = .ok (.getfield 157, 3) := by decide +kernel
theorem dX6_firstWorse_44 : decode cX6_firstWorse 44 = .ok (.iload_n 3, 1) := by decide +kernel
theorem dX6_firstWorse_45 : decode cX6_firstWorse 45 = .ok (.aaload, 1) := by decide +kernel
theorem dX6_firstWorse_46 : decode cX6_firstWorse 46 = .ok (.iload_n 1, 1) := by decide +kernel
theorem dX6_firstWorse_47 : decode cX6_firstWorse 47 = .ok (.iaload, 1) := by decide +kernel
theorem dX6_firstWorse_48 : decode cX6_firstWorse 48 = .ok (.invokevirtual 294, 3) := by decide +kernel
theorem dX6_firstWorse_51 : decode cX6_firstWorse 51 = .ok (.if_icmp .ge 15, 3) := by decide +kernel
theorem dX6_firstWorse_54 : decode cX6_firstWorse 54 = .ok (.iload_n 2, 1) := by decide +kernel
theorem dX6_firstWorse_55 : decode cX6_firstWorse 55 = .ok (.aload_n 0, 1) := by decide +kernel
theorem dX6_firstWorse_56 : decode cX6_firstWorse 56 = .ok (.getfield 30, 3) := by decide +kernel
theorem dX6_firstWorse_59 : decode cX6_firstWorse 59 = .ok (.getfield 142, 3) := by decide +kernel
theorem dX6_firstWorse_62 : decode cX6_firstWorse 62 = .ok (.imul, 1) := by decide +kernel
theorem dX6_firstWorse_63 : decode cX6_firstWorse 63 = .ok (.iload_n 3, 1) := by decide +kernel
theorem dX6_firstWorse_64 : decode cX6_firstWorse 64 = .ok (.iadd, 1) := by decide +kernel
theorem dX6_firstWorse_65 : decode cX6_firstWorse 65 = .ok (.ireturn, 1) := by decide +kernel
theorem dX6_firstWorse_66 : decode cX6_firstWorse 66 = .ok (.iinc 3 1, 3) := by decide +kernel
theorem dX6_firstWorse_69 : decode cX6_firstWorse 69 = .ok (.goto (-67), 3) := by decide +kernel
theorem dX6_firstWorse_72 : decode cX6_firstWorse 72 = .ok (.bipush (-9), 2) := by decide +kernel
theorem dX6_firstWorse_74 : decode cX6_firstWorse 74 = .ok (.ireturn, 1) := by decide +kernel
theorem dX6_firstThatCannotBe_0 : decode cX6_firstThatCannotBe 0 = .ok (.aload_n 0, 1) := by decide +kernel
theorem dX6_firstThatCannotBe_1 : decode cX6_firstThatCannotBe 1 = .ok (.getfield 34, 3) := by decide +kernel
theorem dX6_firstThatCannotBe_4 : decode cX6_firstThatCannotBe 4 = .ok (.aload_n 0, 1) := by decide +kernel
theorem dX6_firstThatCannotBe_5 : decode cX6_firstThatCannotBe 5 = .ok (.getfield 30, 3) := by decide +kernel
theorem dX6_firstThatCannotBe_8 : decode cX6_firstThatCannotBe 8 = .ok (.invokevirtual 198, 3) := by decide +kernel
theorem dX6_firstThatCannotBe_11 : decode cX6_firstThatCannotBe 11 = .ok (.aload_n 0, 1) := by decide +kernel
theorem dX6_firstThatCannotBe_12 : decode cX6_firstThatCannotBe 12 = .ok (.getfield 34, 3) := by decide +kernel
theorem dX6_firstThatCannotBe_15 : decode cX6_firstThatCannotBe 15 = .ok (.invokevirtual 297, 3) := by decide +kernel
theorem dX6_firstThatCannotBe_18 : decode cX6_firstThatCannotBe 18 = .ok (.iconst 0, 1) := by decide +kernel
theorem dX6_firstThatCannotBe_19 : decode cX6_firstThatCannotBe 19 = .ok (.istore 4, 2) := by decide +kernel
theorem dX6_firstThatCannotBe_21 : decode cX6_firstThatCannotBe 21 = .ok (.iload 4, 2) := by decide +kernel
theorem dX6_firstThatCannotBe_23 : decode cX6_firstThatCannotBe 23 = .ok (.iload_n 3, 1) := by decide +kernel
theorem dX6_firstThatCannotBe_24 : decode cX6_firstThatCannotBe 24 = .ok (.if_icmp .ge 96, 3) := by decide +kernel
theorem dX6_firstThatCannotBe_27 : decode cX6_firstThatCannotBe 27 = .ok (.aload_n 1, 1) := by decide +kernel
theorem dX6_firstThatCannotBe_28 : decode cX6_firstThatCannotBe 28 = .ok (.iload_n 2, 1) := by decide +kernel
theorem dX6_firstThatCannotBe_29 : decode cX6_firstThatCannotBe 29 = .ok (.iload 4, 2) := by decide +kernel
theorem dX6_firstThatCannotBe_31 : decode cX6_firstThatCannotBe 31 = .ok (.iadd, 1) := by decide +kernel
theorem dX6_firstThatCannotBe_32 : decode cX6_firstThatCannotBe 32 = .ok (.iaload, 1) := by decide +kernel
theorem dX6_firstThatCannotBe_33 : decode cX6_firstThatCannotBe 33 = .ok (.istore 5, 2) := by decide +kernel
theorem dX6_firstThatCannotBe_35 : decode cX6_firstThatCannotBe 35 = .ok (.aload_n 0, 1) := by decide +kernel
theorem dX6_firstThatCannotBe_36 : decode cX6_firstThatCannotBe 36 = .ok (.getfield 34, 3) := by decide +kernel
theorem dX6_firstThatCannotBe_39 : decode cX6_firstThatCannotBe 39 = .ok (.iload 4, 2) := by decide +kernel
theorem dX6_firstThatCannotBe_41 : decode cX6_firstThatCannotBe 41 = .ok (.aload_n 0, 1) := by decide +kernel
theorem dX6_firstThatCannotBe_42 : decode cX6_firstThatCannotBe 42 = .ok (.getfield 20, 3) := by decide +kernel
theorem dX6_firstThatCannotBe_45 : decode cX6_firstThatCannotBe 45 = .ok (.getfield 88, 3) := by decide +kernel
theorem dX6_firstThatCannotBe_48 : decode cX6_firstThatCannotBe 48 = .ok (.irem, 1) := by decide +kernel
theorem dX6_firstThatCannotBe_49 : decode cX6_firstThatCannotBe 49 = .ok (.invokevirtual 300, 3) := by decide +kernel
theorem dX6_firstThatCannotBe_52 : decode cX6_firstThatCannotBe 52 = .ok (.istore 6, 2) := by decide +kernel
theorem dX6_firstThatCannotBe_54 : decode cX6_firstThatCannotBe 54 = .ok (.iload 5, 2) := by decide +kernel
theorem dX6_firstThatCannotBe_56 : decode cX6_firstThatCannotBe 56 = .ok (.bipush (-9), 2) := by decide +kernel
theorem dX6_firstThatCannotBe_58 : decode cX6_firstThatCannotBe 58 = .ok (.if_icmp .ne 18, 3) := by decide +kernel
theorem dX6_firstThatCannotBe_61 : decode cX6_firstThatCannotBe 61 = .ok (.aload_n 0, 1) := by decide +kernel
theorem dX6_firstThatCannotBe_62 : decode cX6_firstThatCannotBe 62 = .ok (.getfield 34, 3) := by decide +kernel
theorem dX6_firstThatCannotBe_65 : decode cX6_firstThatCannotBe 65 = .ok (.iload 6, 2) := by decide +kernel
theorem dX6_firstThatCannotBe_67 : decode cX6_firstThatCannotBe 67 = .ok (.invokevirtual 303, 3) := by decide +kernel
theorem dX6_firstThatCannotBe_70 : decode cX6_firstThatCannotBe 70 = .ok (.ifCond .eq 23, 3) := by decide +kernel
theorem dX6_firstThatCannotBe_73 : decode cX6_firstThatCannotBe 73 = .ok (.goto 17, 3) := by decide +kernel
theorem dX6_firstThatCannotBe_76 : decode cX6_firstThatCannotBe 76 = .ok (.aload_n 0, 1) := by decide +kernel
theorem dX6_firstThatCannotBe_77 : decode cX6_firstThatCannotBe 77 = .ok (.getfield 34, 3) := by decide +kernel
theorem dX6_firstThatCannotBe_80 : decode cX6_firstThatCannotBe 80 = .ok (.iload 6, 2) := by decide +kernel
theorem dX6_firstThatCannotBe_82 : decode cX6_firstThatCannotBe 82 = .ok (.iload 5, 2) := by decide +kernel
theorem dX6_firstThatCannotBe_84 : decode cX6_firstThatCannotBe 84 = .ok (.invokevirtual 306, 3) := by decide +kernel
theorem dX6_firstThatCannotBe_87 : decode cX6_firstThatCannotBe 87 = .ok (.ifCond .ne 6, 3) := by decide +kernel
theorem dX6_firstThatCannotBe_90 : decode cX6_firstThatCannotBe 90 = .ok (.iload 4, 2) := by decide +kernel
theorem dX6_firstThatCannotBe_92 : decode cX6_firstThatCannotBe 92 = .ok (.ireturn, 1) := by decide +kernel
theorem dX6_firstThatCannotBe_93 : decode cX6_firstThatCannotBe 93 = .ok (.iload 5, 2) := by decide +kernel
theorem dX6_firstThatCannotBe_95 : decode cX6_firstThatCannotBe 95 = .ok (.bipush (-9), 2) := by decide +kernel
theorem dX6_firstThatCannotBe_97 : decode cX6_firstThatCannotBe 97 = .ok (.if_icmp .eq 17, 3) := by decide +kernel
theorem dX6_firstThatCannotBe_100 : decode cX6_firstThatCannotBe 100 = .ok (.aload_n 0, 1) := by decide +kernel
theorem dX6_firstThatCannotBe_101 : decode cX6_firstThatCannotBe 101 = .ok (.getfield 34, 3) := by decide +kernel
theorem dX6_firstThatCannotBe_104 : decode cX6_firstThatCannotBe 104 = .ok (.getfield 309, 3) := by decide +kernel
theorem dX6_firstThatCannotBe_107 : decode cX6_firstThatCannotBe 107 = .ok (.iload 5, 2) := by decide +kernel
theorem dX6_firstThatCannotBe_109 : decode cX6_firstThatCannotBe 109 = .ok (.dup2, 1) := by decide +kernel
theorem dX6_firstThatCannotBe_110 : decode cX6_firstThatCannotBe 110 = .ok (.iaload, 1) := by decide +kernel
theorem dX6_firstThatCannotBe_111 : decode cX6_firstThatCannotBe 111 = .ok (.iconst 1, 1) := by decide +kernel
theorem dX6_firstThatCannotBe_112 : decode cX6_firstThatCannotBe 112 = .ok (.isub, 1) := by decide +kernel
theorem dX6_firstThatCannotBe_113 : decode cX6_firstThatCannotBe 113 = .ok (.iastore, 1) := by decide +kernel
theorem dX6_firstThatCannotBe_114 : decode cX6_firstThatCannotBe 114 = .ok (.iinc 4 1, 3) := by decide +kernel
theorem dX6_firstThatCannotBe_117 : decode cX6_firstThatCannotBe 117 = .ok (.goto (-96), 3) := by decide +kernel
theorem dX6_firstThatCannotBe_120 : decode cX6_firstThatCannotBe 120 = .ok (.bipush (-9), 2) := by decide +kernel
theorem dX6_firstThatCannotBe_122 : decode cX6_firstThatCannotBe 122 = .ok (.ireturn, 1) := by decide +kernel
theorem dX6_share_0 : decode cX6_share 0 = .ok (.iconst 1, 1) := by decide +kernel
theorem dX6_share_1 : decode cX6_share 1 = .ok (.istore_n 3, 1) := by decide +kernel
theorem dX6_share_2 : decode cX6_share 2 = .ok (.iload_n 1, 1) := by decide +kernel
theorem dX6_share_3 : decode cX6_share 3 = .ok (.istore 4, 2) := by decide +kernel
theorem dX6_share_5 : decode cX6_share 5 = .ok (.iload 4, 2) := by decide +kernel
theorem dX6_share_7 : decode cX6_share 7 = .ok (.iconst 1, 1) := by decide +kernel
theorem dX6_share_8 : decode cX6_share 8 = .ok (.if_icmp .le 31, 3) := by decide +kernel
theorem dX6_share_11 : decode cX6_share 11 = .ok (.iload_n 3, 1) := by decide +kernel
theorem dX6_share_12 : decode cX6_share 12 = .ok (.iconst 1, 1) := by decide +kernel
theorem dX6_share_13 : decode cX6_share 13 = .ok (.if_icmp .ne 26, 3) := by decide +kernel
theorem dX6_share_16 : decode cX6_share 16 = .ok (.iload_n 0, 1) := by decide +kernel
theorem dX6_share_17 : decode cX6_share 17 = .ok (.iload 4, 2) := by decide +kernel
theorem dX6_share_19 : decode cX6_share 19 = .ok (.irem, 1) := by decide +kernel
theorem dX6_share_20 : decode cX6_share 20 = .ok (.ifCond .ne 13, 3) := by decide +kernel
theorem dX6_share_23 : decode cX6_share 23 = .ok (.iload_n 1, 1) := by decide +kernel
theorem dX6_share_24 : decode cX6_share 24 = .ok (.iload 4, 2) := by decide +kernel
theorem dX6_share_26 : decode cX6_share 26 = .ok (.irem, 1) := by decide +kernel
theorem dX6_share_27 : decode cX6_share 27 = .ok (.ifCond .ne 6, 3) := by decide +kernel
theorem dX6_share_30 : decode cX6_share 30 = .ok (.iload 4, 2) := by decide +kernel
theorem dX6_share_32 : decode cX6_share 32 = .ok (.istore_n 3, 1) := by decide +kernel
theorem dX6_share_33 : decode cX6_share 33 = .ok (.iinc 4 (-1), 3) := by decide +kernel
theorem dX6_share_36 : decode cX6_share 36 = .ok (.goto (-31), 3) := by decide +kernel
theorem dX6_share_39 : decode cX6_share 39 = .ok (.iload_n 2, 1) := by decide +kernel
theorem dX6_share_40 : decode cX6_share 40 = .ok (.ifCond .ne 10, 3) := by decide +kernel
theorem dX6_share_43 : decode cX6_share 43 = .ok (.iload_n 0, 1) := by decide +kernel
theorem dX6_share_44 : decode cX6_share 44 = .ok (.iload_n 3, 1) := by decide +kernel
theorem dX6_share_45 : decode cX6_share 45 = .ok (.idiv, 1) := by decide +kernel
theorem dX6_share_46 : decode cX6_share 46 = .ok (.i2l, 1) := by decide +kernel
theorem dX6_share_47 : decode cX6_share 47 = .ok (.goto 7, 3) := by decide +kernel
theorem dX6_share_50 : decode cX6_share 50 = .ok (.iload_n 1, 1) := by decide +kernel
theorem dX6_share_51 : decode cX6_share 51 = .ok (.iload_n 3, 1) := by decide +kernel
theorem dX6_share_52 : decode cX6_share 52 = .ok (.idiv, 1) := by decide +kernel
theorem dX6_share_53 : decode cX6_share 53 = .ok (.i2l, 1) := by decide +kernel
theorem dX6_share_54 : decode cX6_share 54 = .ok (.lreturn, 1) := by decide +kernel
theorem dX6_leaveNumber_0 : decode cX6_leaveNumber 0 = .ok (.aload_n 0, 1) := by decide +kernel
theorem dX6_leaveNumber_1 : decode cX6_leaveNumber 1 = .ok (.bipush 31, 2) := by decide +kernel
theorem dX6_leaveNumber_3 : decode cX6_leaveNumber 3 = .ok (.aload_n 0, 1) := by decide +kernel
theorem dX6_leaveNumber_4 : decode cX6_leaveNumber 4 = .ok (.getfield 291, 3) := by decide +kernel
theorem dX6_leaveNumber_7 : decode cX6_leaveNumber 7 = .ok (.imul, 1) := by decide +kernel
theorem dX6_leaveNumber_8 : decode cX6_leaveNumber 8 = .ok (.iload_n 1, 1) := by decide +kernel
theorem dX6_leaveNumber_9 : decode cX6_leaveNumber 9 = .ok (.iadd, 1) := by decide +kernel
theorem dX6_leaveNumber_10 : decode cX6_leaveNumber 10 = .ok (.putfield 291, 3) := by decide +kernel
theorem dX6_leaveNumber_13 : decode cX6_leaveNumber 13 = .ok (.return_, 1) := by decide +kernel
theorem dX6_kindTells_0 : decode cX6_kindTells 0 = .ok (.aload_n 0, 1) := by decide +kernel
theorem dX6_kindTells_1 : decode cX6_kindTells 1 = .ok (.iconst 1, 1) := by decide +kernel
theorem dX6_kindTells_2 : decode cX6_kindTells 2 = .ok (.invokevirtual 288, 3) := by decide +kernel
theorem dX6_kindTells_5 : decode cX6_kindTells 5 = .ok (.aload_n 0, 1) := by decide +kernel
theorem dX6_kindTells_6 : decode cX6_kindTells 6 = .ok (.getfield 20, 3) := by decide +kernel
theorem dX6_kindTells_9 : decode cX6_kindTells 9 = .ok (.getfield 108, 3) := by decide +kernel
theorem dX6_kindTells_12 : decode cX6_kindTells 12 = .ok (.iload_n 1, 1) := by decide +kernel
theorem dX6_kindTells_13 : decode cX6_kindTells 13 = .ok (.iaload, 1) := by decide +kernel
theorem dX6_kindTells_14 : decode cX6_kindTells 14 = .ok (.ireturn, 1) := by decide +kernel
theorem dX6_cheapTells_0 : decode cX6_cheapTells 0 = .ok (.aload_n 0, 1) := by decide +kernel
theorem dX6_cheapTells_1 : decode cX6_cheapTells 1 = .ok (.iconst 2, 1) := by decide +kernel
theorem dX6_cheapTells_2 : decode cX6_cheapTells 2 = .ok (.invokevirtual 288, 3) := by decide +kernel
theorem dX6_cheapTells_5 : decode cX6_cheapTells 5 = .ok (.aload_n 0, 1) := by decide +kernel
theorem dX6_cheapTells_6 : decode cX6_cheapTells 6 = .ok (.iload_n 1, 1) := by decide +kernel
theorem dX6_cheapTells_7 : decode cX6_cheapTells 7 = .ok (.invokevirtual 285, 3) := by decide +kernel
theorem dX6_cheapTells_10 : decode cX6_cheapTells 10 = .ok (.bipush 100, 2) := by decide +kernel
theorem dX6_cheapTells_12 : decode cX6_cheapTells 12 = .ok (.iadd, 1) := by decide +kernel
theorem dX6_cheapTells_13 : decode cX6_cheapTells 13 = .ok (.ireturn, 1) := by decide +kernel
theorem dX6_payerTells_0 : decode cX6_payerTells 0 = .ok (.aload_n 0, 1) := by decide +kernel
theorem dX6_payerTells_1 : decode cX6_payerTells 1 = .ok (.iconst 3, 1) := by decide +kernel
theorem dX6_payerTells_2 : decode cX6_payerTells 2 = .ok (.invokevirtual 288, 3) := by decide +kernel
theorem dX6_payerTells_5 : decode cX6_payerTells 5 = .ok (.aload_n 0, 1) := by decide +kernel
theorem dX6_payerTells_6 : decode cX6_payerTells 6 = .ok (.iload_n 1, 1) := by decide +kernel
theorem dX6_payerTells_7 : decode cX6_payerTells 7 = .ok (.invokevirtual 282, 3) := by decide +kernel
theorem dX6_payerTells_10 : decode cX6_payerTells 10 = .ok (.istore_n 2, 1) := by decide +kernel
theorem dX6_payerTells_11 : decode cX6_payerTells 11 = .ok (.iload_n 2, 1) := by decide +kernel
theorem dX6_payerTells_12 : decode cX6_payerTells 12 = .ok (.aload_n 0, 1) := by decide +kernel
theorem dX6_payerTells_13 : decode cX6_payerTells 13 = .ok (.iload_n 1, 1) := by decide +kernel
theorem dX6_payerTells_14 : decode cX6_payerTells 14 = .ok (.invokevirtual 285, 3) := by decide +kernel
theorem dX6_payerTells_17 : decode cX6_payerTells 17 = .ok (.iadd, 1) := by decide +kernel
theorem dX6_payerTells_18 : decode cX6_payerTells 18 = .ok (.ireturn, 1) := by decide +kernel
