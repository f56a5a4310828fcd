theorem dX0_init_0 : decode cX0_init 0 = .ok (.aload_n 0, 1) := by decide +kernel
theorem dX0_init_1 : decode cX0_init 1 = .ok (.invokespecial 3, 3) := by decide +kernel
theorem dX0_init_4 : decode cX0_init 4 = .ok (.aload_n 0, 1) := by decide +kernel
theorem dX0_init_5 : decode cX0_init 5 = .ok (.sipush 128, 3) := by decide +kernel
theorem dX0_init_8 : decode cX0_init 8 = .ok (.newarray .long, 2) := by decide +kernel
theorem dX0_init_10 : decode cX0_init 10 = .ok (.putfield 9, 3) := by decide +kernel
theorem dX0_init_13 : decode cX0_init 13 = .ok (.aload_n 0, 1) := by decide +kernel
theorem dX0_init_14 : decode cX0_init 14 = .ok (.bipush 7, 2) := by decide +kernel
theorem dX0_init_16 : decode cX0_init 16 = .ok (.newarray .long, 2) := by decide +kernel
theorem dX0_init_18 : decode cX0_init 18 = .ok (.putfield 15, 3) := by decide +kernel
theorem dX0_init_21 : decode cX0_init 21 = .ok (.aload_n 0, 1) := by decide +kernel
theorem dX0_init_22 : decode cX0_init 22 = .ok (.bipush 7, 2) := by decide +kernel
theorem dX0_init_24 : decode cX0_init 24 = .ok (.newarray .int, 2) := by decide +kernel
theorem dX0_init_26 : decode cX0_init 26 = .ok (.putfield 18, 3) := by decide +kernel
theorem dX0_init_29 : decode cX0_init 29 = .ok (.return_, 1) := by decide +kernel
theorem dX1_init_0 : decode cX1_init 0 = .ok (.aload_n 0, 1) := by decide +kernel
theorem dX1_init_1 : decode cX1_init 1 = .ok (.invokespecial 3, 3) := by decide +kernel
theorem dX1_init_4 : decode cX1_init 4 = .ok (.aload_n 0, 1) := by decide +kernel
theorem dX1_init_5 : decode cX1_init 5 = .ok (.bipush 7, 2) := by decide +kernel
theorem dX1_init_7 : decode cX1_init 7 = .ok (.newarray .int, 2) := by decide +kernel
theorem dX1_init_9 : decode cX1_init 9 = .ok (.putfield 9, 3) := by decide +kernel
theorem dX1_init_12 : decode cX1_init 12 = .ok (.aload_n 0, 1) := by decide +kernel
theorem dX1_init_13 : decode cX1_init 13 = .ok (.sipush 201, 3) := by decide +kernel
theorem dX1_init_16 : decode cX1_init 16 = .ok (.newarray .int, 2) := by decide +kernel
theorem dX1_init_18 : decode cX1_init 18 = .ok (.putfield 15, 3) := by decide +kernel
theorem dX1_init_21 : decode cX1_init 21 = .ok (.aload_n 0, 1) := by decide +kernel
theorem dX1_init_22 : decode cX1_init 22 = .ok (.iconst 1, 1) := by decide +kernel
theorem dX1_init_23 : decode cX1_init 23 = .ok (.putfield 18, 3) := by decide +kernel
theorem dX1_init_26 : decode cX1_init 26 = .ok (.return_, 1) := by decide +kernel
theorem dX2_init_0 : decode cX2_init 0 = .ok (.aload_n 0, 1) := by decide +kernel
theorem dX2_init_1 : decode cX2_init 1 = .ok (.invokespecial 3, 3) := by decide +kernel
theorem dX2_init_4 : decode cX2_init 4 = .ok (.aload_n 0, 1) := by decide +kernel
theorem dX2_init_5 : decode cX2_init 5 = .ok (.iconst 2, 1) := by decide +kernel
theorem dX2_init_6 : decode cX2_init 6 = .ok (.newarray .int, 2) := by decide +kernel
theorem dX2_init_8 : decode cX2_init 8 = .ok (.putfield 11, 3) := by decide +kernel
theorem dX2_init_11 : decode cX2_init 11 = .ok (.aload_n 0, 1) := by decide +kernel
theorem dX2_init_12 : decode cX2_init 12 = .ok (.iconst 2, 1) := by decide +kernel
theorem dX2_init_13 : decode cX2_init 13 = .ok (.bipush 7, 2) := by decide +kernel
theorem dX2_init_15 : decode cX2_init 15 = .ok (.multianewarray 15 2, 4) := by decide +kernel
theorem dX2_init_19 : decode cX2_init 19 = .ok (.putfield 17, 3) := by decide +kernel
theorem dX2_init_22 : decode cX2_init 22 = .ok (.return_, 1) := by decide +kernel
theorem dX3_init_0 : decode cX3_init 0 = .ok (.aload_n 0, 1) := by decide +kernel
theorem dX3_init_1 : decode cX3_init 1 = .ok (.invokespecial 3, 3) := by decide +kernel
theorem dX3_init_4 : decode cX3_init 4 = .ok (.aload_n 0, 1) := by decide +kernel
theorem dX3_init_5 : decode cX3_init 5 = .ok (.bipush 100, 2) := by decide +kernel
theorem dX3_init_7 : decode cX3_init 7 = .ok (.newarray .int, 2) := by decide +kernel
theorem dX3_init_9 : decode cX3_init 9 = .ok (.putfield 9, 3) := by decide +kernel
theorem dX3_init_12 : decode cX3_init 12 = .ok (.return_, 1) := by decide +kernel
theorem dX3_renew_0 : decode cX3_renew 0 = .ok (.aload_n 0, 1) := by decide +kernel
theorem dX3_renew_1 : decode cX3_renew 1 = .ok (.iconst 1, 1) := by decide +kernel
theorem dX3_renew_2 : decode cX3_renew 2 = .ok (.putfield 15, 3) := by decide +kernel
theorem dX3_renew_5 : decode cX3_renew 5 = .ok (.aload_n 0, 1) := by decide +kernel
theorem dX3_renew_6 : decode cX3_renew 6 = .ok (.iload_n 1, 1) := by decide +kernel
theorem dX3_renew_7 : decode cX3_renew 7 = .ok (.putfield 19, 3) := by decide +kernel
theorem dX3_renew_10 : decode cX3_renew 10 = .ok (.aload_n 0, 1) := by decide +kernel
theorem dX3_renew_11 : decode cX3_renew 11 = .ok (.iload_n 2, 1) := by decide +kernel
theorem dX3_renew_12 : decode cX3_renew 12 = .ok (.putfield 23, 3) := by decide +kernel
theorem dX3_renew_15 : decode cX3_renew 15 = .ok (.aload_n 0, 1) := by decide +kernel
theorem dX3_renew_16 : decode cX3_renew 16 = .ok (.getfield 9, 3) := by decide +kernel
theorem dX3_renew_19 : decode cX3_renew 19 = .ok (.iconst 0, 1) := by decide +kernel
theorem dX3_renew_20 : decode cX3_renew 20 = .ok (.invokestatic 26, 3) := by decide +kernel
theorem dX3_renew_23 : decode cX3_renew 23 = .ok (.return_, 1) := by decide +kernel
theorem dX3_holds_0 : decode cX3_holds 0 = .ok (.iload_n 1, 1) := by decide +kernel
theorem dX3_holds_1 : decode cX3_holds 1 = .ok (.ifCond .lt 29, 3) := by decide +kernel
theorem dX3_holds_4 : decode cX3_holds 4 = .ok (.iload_n 1, 1) := by decide +kernel
theorem dX3_holds_5 : decode cX3_holds 5 = .ok (.aload_n 0, 1) := by decide +kernel
theorem dX3_holds_6 : decode cX3_holds 6 = .ok (.getfield 23, 3) := by decide +kernel
theorem dX3_holds_9 : decode cX3_holds 9 = .ok (.if_icmp .gt 21, 3) := by decide +kernel
theorem dX3_holds_12 : decode cX3_holds 12 = .ok (.iload_n 2, 1) := by decide +kernel
theorem dX3_holds_13 : decode cX3_holds 13 = .ok (.ifCond .lt 17, 3) := by decide +kernel
theorem dX3_holds_16 : decode cX3_holds 16 = .ok (.iload_n 2, 1) := by decide +kernel
theorem dX3_holds_17 : decode cX3_holds 17 = .ok (.aload_n 0, 1) := by decide +kernel
theorem dX3_holds_18 : decode cX3_holds 18 = .ok (.getfield 23, 3) := by decide +kernel
theorem dX3_holds_21 : decode cX3_holds 21 = .ok (.iload_n 1, 1) := by decide +kernel
theorem dX3_holds_22 : decode cX3_holds 22 = .ok (.isub, 1) := by decide +kernel
theorem dX3_holds_23 : decode cX3_holds 23 = .ok (.if_icmp .gt 7, 3) := by decide +kernel
theorem dX3_holds_26 : decode cX3_holds 26 = .ok (.iconst 1, 1) := by decide +kernel
theorem dX3_holds_27 : decode cX3_holds 27 = .ok (.goto 4, 3) := by decide +kernel
theorem dX3_holds_30 : decode cX3_holds 30 = .ok (.iconst 0, 1) := by decide +kernel
theorem dX3_holds_31 : decode cX3_holds 31 = .ok (.ireturn, 1) := by decide +kernel
theorem dX3_write_0 : decode cX3_write 0 = .ok (.aload_n 0, 1) := by decide +kernel
theorem dX3_write_1 : decode cX3_write 1 = .ok (.getfield 19, 3) := by decide +kernel
theorem dX3_write_4 : decode cX3_write 4 = .ok (.lookupswitch 50 #[(0, 28), (1, 39)], 28) := by decide +kernel
theorem dX3_write_32 : decode cX3_write 32 = .ok (.aload_n 0, 1) := by decide +kernel
theorem dX3_write_33 : decode cX3_write 33 = .ok (.getfield 9, 3) := by decide +kernel
theorem dX3_write_36 : decode cX3_write 36 = .ok (.iload_n 1, 1) := by decide +kernel
theorem dX3_write_37 : decode cX3_write 37 = .ok (.iload_n 2, 1) := by decide +kernel
theorem dX3_write_38 : decode cX3_write 38 = .ok (.i2b, 1) := by decide +kernel
theorem dX3_write_39 : decode cX3_write 39 = .ok (.iastore, 1) := by decide +kernel
theorem dX3_write_40 : decode cX3_write 40 = .ok (.goto 21, 3) := by decide +kernel
theorem dX3_write_43 : decode cX3_write 43 = .ok (.aload_n 0, 1) := by decide +kernel
theorem dX3_write_44 : decode cX3_write 44 = .ok (.getfield 9, 3) := by decide +kernel
theorem dX3_write_47 : decode cX3_write 47 = .ok (.iload_n 1, 1) := by decide +kernel
theorem dX3_write_48 : decode cX3_write 48 = .ok (.iload_n 2, 1) := by decide +kernel
theorem dX3_write_49 : decode cX3_write 49 = .ok (.i2s, 1) := by decide +kernel
theorem dX3_write_50 : decode cX3_write 50 = .ok (.iastore, 1) := by decide +kernel
theorem dX3_write_51 : decode cX3_write 51 = .ok (.goto 10, 3) := by decide +kernel
theorem dX3_write_54 : decode cX3_write 54 = .ok (.aload_n 0, 1) := by decide +kernel
theorem dX3_write_55 : decode cX3_write 55 = .ok (.getfield 9, 3) := by decide +kernel
theorem dX3_write_58 : decode cX3_write 58 = .ok (.iload_n 1, 1) := by decide +kernel
theorem dX3_write_59 : decode cX3_write 59 = .ok (.iload_n 2, 1) := by decide +kernel
theorem dX3_write_60 : decode cX3_write 60 = .ok (.iastore, 1) := by decide +kernel
theorem dX3_write_61 : decode cX3_write 61 = .ok (.return_, 1) := by decide +kernel
theorem dX4_init_0 : decode cX4_init 0 = .ok (.aload_n 0, 1) := by decide +kernel
theorem dX4_init_1 : decode cX4_init 1 = .ok (.invokespecial 3, 3) := by decide +kernel
theorem dX4_init_4 : decode cX4_init 4 = .ok (.aload_n 0, 1) := by decide +kernel
theorem dX4_init_5 : decode cX4_init 5 = .ok (.new 9, 3) := by decide +kernel
theorem dX4_init_8 : decode cX4_init 8 = .ok (.dup, 1) := by decide +kernel
theorem dX4_init_9 : decode cX4_init 9 = .ok (.invokespecial 11, 3) := by decide +kernel
theorem dX4_init_12 : decode cX4_init 12 = .ok (.putfield 12, 3) := by decide +kernel
theorem dX4_init_15 : decode cX4_init 15 = .ok (.aload_n 0, 1) := by decide +kernel
theorem dX4_init_16 : decode cX4_init 16 = .ok (.bipush 7, 2) := by decide +kernel
theorem dX4_init_18 : decode cX4_init 18 = .ok (.newarray .int, 2) := by decide +kernel
theorem dX4_init_20 : decode cX4_init 20 = .ok (.putfield 18, 3) := by decide +kernel
theorem dX4_init_23 : decode cX4_init 23 = .ok (.aload_n 0, 1) := by decide +kernel
theorem dX4_init_24 : decode cX4_init 24 = .ok (.bipush 7, 2) := by decide +kernel
theorem dX4_init_26 : decode cX4_init 26 = .ok (.newarray .int, 2) := by decide +kernel
theorem dX4_init_28 : decode cX4_init 28 = .ok (.putfield 22, 3) := by decide +kernel
theorem dX4_init_31 : decode cX4_init 31 = .ok (.aload_n 0, 1) := by decide +kernel
theorem dX4_init_32 : decode cX4_init 32 = .ok (.bipush 7, 2) := by decide +kernel
theorem dX4_init_34 : decode cX4_init 34 = .ok (.newarray .int, 2) := by decide +kernel
theorem dX4_init_36 : decode cX4_init 36 = .ok (.putfield 25, 3) := by decide +kernel
theorem dX4_init_39 : decode cX4_init 39 = .ok (.aload_n 0, 1) := by decide +kernel
theorem dX4_init_40 : decode cX4_init 40 = .ok (.bipush 7, 2) := by decide +kernel
theorem dX4_init_42 : decode cX4_init 42 = .ok (.bipush 6, 2) := by decide +kernel
theorem dX4_init_44 : decode cX4_init 44 = .ok (.multianewarray 28 2, 4) := by decide +kernel
theorem dX4_init_48 : decode cX4_init 48 = .ok (.putfield 30, 3) := by decide +kernel
theorem dX4_init_51 : decode cX4_init 51 = .ok (.aload_n 0, 1) := by decide +kernel
theorem dX4_init_52 : decode cX4_init 52 = .ok (.iconst (-1), 1) := by decide +kernel
theorem dX4_init_53 : decode cX4_init 53 = .ok (.putfield 33, 3) := by decide +kernel
theorem dX4_init_56 : decode cX4_init 56 = .ok (.aload_n 0, 1) := by decide +kernel
theorem dX4_init_57 : decode cX4_init 57 = .ok (.bipush 6, 2) := by decide +kernel
theorem dX4_init_59 : decode cX4_init 59 = .ok (.newarray .int, 2) := by decide +kernel
theorem dX4_init_61 : decode cX4_init 61 = .ok (.putfield 37, 3) := by decide +kernel
theorem dX4_init_64 : decode cX4_init 64 = .ok (.aload_n 0, 1) := by decide +kernel
theorem dX4_init_65 : decode cX4_init 65 = .ok (.bipush 8, 2) := by decide +kernel
theorem dX4_init_67 : decode cX4_init 67 = .ok (.bipush 7, 2) := by decide +kernel
theorem dX4_init_69 : decode cX4_init 69 = .ok (.multianewarray 28 2, 4) := by decide +kernel
theorem dX4_init_73 : decode cX4_init 73 = .ok (.putfield 40, 3) := by decide +kernel
theorem dX4_init_76 : decode cX4_init 76 = .ok (.aload_n 0, 1) := by decide +kernel
theorem dX4_init_77 : decode cX4_init 77 = .ok (.bipush 7, 2) := by decide +kernel
theorem dX4_init_79 : decode cX4_init 79 = .ok (.newarray .int, 2) := by decide +kernel
theorem dX4_init_81 : decode cX4_init 81 = .ok (.putfield 43, 3) := by decide +kernel
theorem dX4_init_84 : decode cX4_init 84 = .ok (.aload_n 0, 1) := by decide +kernel
theorem dX4_init_85 : decode cX4_init 85 = .ok (.bipush 7, 2) := by decide +kernel
theorem dX4_init_87 : decode cX4_init 87 = .ok (.newarray .int, 2) := by decide +kernel
theorem dX4_init_89 : decode cX4_init 89 = .ok (.putfield 46, 3) := by decide +kernel
theorem dX4_init_92 : decode cX4_init 92 = .ok (.return_, 1) := by decide +kernel
theorem dX4_begin_0 : decode cX4_begin 0 = .ok (.aload_n 0, 1) := by decide +kernel
theorem dX4_begin_1 : decode cX4_begin 1 = .ok (.aload_n 1, 1) := by decide +kernel
theorem dX4_begin_2 : decode cX4_begin 2 = .ok (.putfield 12, 3) := by decide +kernel
theorem dX4_begin_5 : decode cX4_begin 5 = .ok (.aload_n 0, 1) := by decide +kernel
theorem dX4_begin_6 : decode cX4_begin 6 = .ok (.aload_n 1, 1) := by decide +kernel
theorem dX4_begin_7 : decode cX4_begin 7 = .ok (.getfield 49, 3) := by decide +kernel
theorem dX4_begin_10 : decode cX4_begin 10 = .ok (.putfield 52, 3) := by decide +kernel
theorem dX4_begin_13 : decode cX4_begin 13 = .ok (.aload_n 0, 1) := by decide +kernel
theorem dX4_begin_14 : decode cX4_begin 14 = .ok (.iconst 1, 1) := by decide +kernel
theorem dX4_begin_15 : decode cX4_begin 15 = .ok (.putfield 55, 3) := by decide +kernel
theorem dX4_begin_18 : decode cX4_begin 18 = .ok (.aload_n 0, 1) := by decide +kernel
theorem dX4_begin_19 : decode cX4_begin 19 = .ok (.iconst 1, 1) := by decide +kernel
theorem dX4_begin_20 : decode cX4_begin 20 = .ok (.putfield 58, 3) := by decide +kernel
theorem dX4_begin_23 : decode cX4_begin 23 = .ok (.aload_n 0, 1) := by decide +kernel
theorem dX4_begin_24 : decode cX4_begin 24 = .ok (.iconst (-1), 1) := by decide +kernel
theorem dX4_begin_25 : decode cX4_begin 25 = .ok (.putfield 33, 3) := by decide +kernel
theorem dX4_begin_28 : decode cX4_begin 28 = .ok (.iconst 0, 1) := by decide +kernel
theorem dX4_begin_29 : decode cX4_begin 29 = .ok (.istore_n 2, 1) := by decide +kernel
theorem dX4_begin_30 : decode cX4_begin 30 = .ok (.iload_n 2, 1) := by decide +kernel
theorem dX4_begin_31 : decode cX4_begin 31 = .ok (.aload_n 0, 1) := by decide +kernel
theorem dX4_begin_32 : decode cX4_begin 32 = .ok (.getfield 52, 3) := by decide +kernel
theorem dX4_begin_35 : decode cX4_begin 35 = .ok (.if_icmp .ge 47, 3) := by decide +kernel
theorem dX4_begin_38 : decode cX4_begin 38 = .ok (.aload_n 0, 1) := by decide +kernel
theorem dX4_begin_39 : decode cX4_begin 39 = .ok (.getfield 18, 3) := by decide +kernel
theorem dX4_begin_42 : decode cX4_begin 42 = .ok (.iload_n 2, 1) := by decide +kernel
theorem dX4_begin_43 : decode cX4_begin 43 = .ok (.iload_n 2, 1) := by decide +kernel
theorem dX4_begin_44 : decode cX4_begin 44 = .ok (.iastore, 1) := by decide +kernel
theorem dX4_begin_45 : decode cX4_begin 45 = .ok (.aload_n 0, 1) := by decide +kernel
theorem dX4_begin_46 : decode cX4_begin 46 = .ok (.getfield 22, 3) := by decide +kernel
theorem dX4_begin_49 : decode cX4_begin 49 = .ok (.iload_n 2, 1) := by decide +kernel
theorem dX4_begin_50 : decode cX4_begin 50 = .ok (.aload_n 1, 1) := by decide +kernel
theorem dX4_begin_51 : decode cX4_begin 51 = .ok (.getfield 61, 3) := by decide +kernel
theorem dX4_begin_54 : decode cX4_begin 54 = .ok (.iload_n 2, 1) := by decide +kernel
theorem dX4_begin_55 : decode cX4_begin 55 = .ok (.iaload, 1) := by decide +kernel
theorem dX4_begin_56 : decode cX4_begin 56 = .ok (.iastore, 1) := by decide +kernel
theorem dX4_begin_57 : decode cX4_begin 57 = .ok (.aload_n 1, 1) := by decide +kernel
theorem dX4_begin_58 : decode cX4_begin 58 = .ok (.getfield 62, 3) := by decide +kernel
theorem dX4_begin_61 : decode cX4_begin 61 = .ok (.iload_n 2, 1) := by decide +kernel
theorem dX4_begin_62 : decode cX4_begin 62 = .ok (.aaload, 1) := by decide +kernel
theorem dX4_begin_63 : decode cX4_begin 63 = .ok (.iconst 0, 1) := by decide +kernel
theorem dX4_begin_64 : decode cX4_begin 64 = .ok (.aload_n 0, 1) := by decide +kernel
theorem dX4_begin_65 : decode cX4_begin 65 = .ok (.getfield 30, 3) := by decide +kernel
theorem dX4_begin_68 : decode cX4_begin 68 = .ok (.iload_n 2, 1) := by decide +kernel
theorem dX4_begin_69 : decode cX4_begin 69 = .ok (.aaload, 1) := by decide +kernel
theorem dX4_begin_70 : decode cX4_begin 70 = .ok (.iconst 0, 1) := by decide +kernel
theorem dX4_begin_71 : decode cX4_begin 71 = .ok (.bipush 6, 2) := by decide +kernel
theorem dX4_begin_73 : decode cX4_begin 73 = .ok (.invokestatic 65, 3) := by decide +kernel
theorem dX4_begin_76 : decode cX4_begin 76 = .ok (.iinc 2 1, 3) := by decide +kernel
theorem dX4_begin_79 : decode cX4_begin 79 = .ok (.goto (-49), 3) := by decide +kernel
theorem dX4_begin_82 : decode cX4_begin 82 = .ok (.aload_n 0, 1) := by decide +kernel
theorem dX4_begin_83 : decode cX4_begin 83 = .ok (.invokevirtual 71, 3) := by decide +kernel
theorem dX4_begin_86 : decode cX4_begin 86 = .ok (.return_, 1) := by decide +kernel
theorem dX4_become_0 : decode cX4_become 0 = .ok (.aload_n 0, 1) := by decide +kernel
theorem dX4_become_1 : decode cX4_become 1 = .ok (.aload_n 1, 1) := by decide +kernel
theorem dX4_become_2 : decode cX4_become 2 = .ok (.getfield 12, 3) := by decide +kernel
theorem dX4_become_5 : decode cX4_become 5 = .ok (.putfield 12, 3) := by decide +kernel
theorem dX4_become_8 : decode cX4_become 8 = .ok (.aload_n 0, 1) := by decide +kernel
theorem dX4_become_9 : decode cX4_become 9 = .ok (.aload_n 1, 1) := by decide +kernel
theorem dX4_become_10 : decode cX4_become 10 = .ok (.getfield 52, 3) := by decide +kernel
theorem dX4_become_13 : decode cX4_become 13 = .ok (.putfield 52, 3) := by decide +kernel
theorem dX4_become_16 : decode cX4_become 16 = .ok (.aload_n 0, 1) := by decide +kernel
theorem dX4_become_17 : decode cX4_become 17 = .ok (.aload_n 1, 1) := by decide +kernel
theorem dX4_become_18 : decode cX4_become 18 = .ok (.getfield 55, 3) := by decide +kernel
theorem dX4_become_21 : decode cX4_become 21 = .ok (.putfield 55, 3) := by decide +kernel
theorem dX4_become_24 : decode cX4_become 24 = .ok (.aload_n 0, 1) := by decide +kernel
theorem dX4_become_25 : decode cX4_become 25 = .ok (.aload_n 1, 1) := by decide +kernel
theorem dX4_become_26 : decode cX4_become 26 = .ok (.getfield 58, 3) := by decide +kernel
theorem dX4_become_29 : decode cX4_become 29 = .ok (.putfield 58, 3) := by decide +kernel
theorem dX4_become_32 : decode cX4_become 32 = .ok (.aload_n 0, 1) := by decide +kernel
theorem dX4_become_33 : decode cX4_become 33 = .ok (.aload_n 1, 1) := by decide +kernel
theorem dX4_become_34 : decode cX4_become 34 = .ok (.getfield 33, 3) := by decide +kernel
theorem dX4_become_37 : decode cX4_become 37 = .ok (.putfield 33, 3) := by decide +kernel
theorem dX4_become_40 : decode cX4_become 40 = .ok (.aload_n 1, 1) := by decide +kernel
theorem dX4_become_41 : decode cX4_become 41 = .ok (.getfield 18, 3) := by decide +kernel
theorem dX4_become_44 : decode cX4_become 44 = .ok (.iconst 0, 1) := by decide +kernel
theorem dX4_become_45 : decode cX4_become 45 = .ok (.aload_n 0, 1) := by decide +kernel
theorem dX4_become_46 : decode cX4_become 46 = .ok (.getfield 18, 3) := by decide +kernel
theorem dX4_become_49 : decode cX4_become 49 = .ok (.iconst 0, 1) := by decide +kernel
theorem dX4_become_50 : decode cX4_become 50 = .ok (.bipush 7, 2) := by decide +kernel
theorem dX4_become_52 : decode cX4_become 52 = .ok (.invokestatic 65, 3) := by decide +kernel
theorem dX4_become_55 : decode cX4_become 55 = .ok (.aload_n 1, 1) := by decide +kernel
theorem dX4_become_56 : decode cX4_become 56 = .ok (.getfield 22, 3) := by decide +kernel
theorem dX4_become_59 : decode cX4_become 59 = .ok (.iconst 0, 1) := by decide +kernel
theorem dX4_become_60 : decode cX4_become 60 = .ok (.aload_n 0, 1) := by decide +kernel
theorem dX4_become_61 : decode cX4_become 61 = .ok (.getfield 22, 3) := by decide +kernel
theorem dX4_become_64 : decode cX4_become 64 = .ok (.iconst 0, 1) := by decide +kernel
theorem dX4_become_65 : decode cX4_become 65 = .ok (.bipush 7, 2) := by decide +kernel
theorem dX4_become_67 : decode cX4_become 67 = .ok (.invokestatic 65, 3) := by decide +kernel
theorem dX4_become_70 : decode cX4_become 70 = .ok (.aload_n 1, 1) := by decide +kernel
theorem dX4_become_71 : decode cX4_become 71 = .ok (.getfield 25, 3) := by decide +kernel
theorem dX4_become_74 : decode cX4_become 74 = .ok (.iconst 0, 1) := by decide +kernel
theorem dX4_become_75 : decode cX4_become 75 = .ok (.aload_n 0, 1) := by decide +kernel
theorem dX4_become_76 : decode cX4_become 76 = .ok (.getfield 25, 3) := by decide +kernel
theorem dX4_become_79 : decode cX4_become 79 = .ok (.iconst 0, 1) := by decide +kernel
theorem dX4_become_80 : decode cX4_become 80 = .ok (.bipush 7, 2) := by decide +kernel
theorem dX4_become_82 : decode cX4_become 82 = .ok (.invokestatic 65, 3) := by decide +kernel
theorem dX4_become_85 : decode cX4_become 85 = .ok (.iconst 0, 1) := by decide +kernel
theorem dX4_become_86 : decode cX4_become 86 = .ok (.istore_n 2, 1) := by decide +kernel
theorem dX4_become_87 : decode cX4_become 87 = .ok (.iload_n 2, 1) := by decide +kernel
theorem dX4_become_88 : decode cX4_become 88 = .ok (.aload_n 0, 1) := by decide +kernel
theorem dX4_become_89 : decode cX4_become 89 = .ok (.getfield 12, 3) := by decide +kernel
theorem dX4_become_92 : decode cX4_become 92 = .ok (.getfield 49, 3) := by decide +kernel
theorem dX4_become_95 : decode cX4_become 95 = .ok (.if_icmp .ge 28, 3) := by decide +kernel
theorem dX4_become_98 : decode cX4_become 98 = .ok (.aload_n 1, 1) := by decide +kernel
theorem dX4_become_99 : decode cX4_become 99 = .ok (.getfield 30, 3) := by decide +kernel
theorem dX4_become_102 : decode cX4_become 102 = .ok (.iload_n 2, 1) := by decide +kernel
theorem dX4_become_103 : decode cX4_become 103 = .ok (.aaload, 1) := by decide +kernel
theorem dX4_become_104 : decode cX4_become 104 = .ok (.iconst 0, 1) := by decide +kernel
theorem dX4_become_105 : decode cX4_become 105 = .ok (.aload_n 0, 1) := by decide +kernel
theorem dX4_become_106 : decode cX4_become 106 = .ok (.getfield 30, 3) := by decide +kernel
theorem dX4_become_109 : decode cX4_become 109 = .ok (.iload_n 2, 1) := by decide +kernel
theorem dX4_become_110 : decode cX4_become 110 = .ok (.aaload, 1) := by decide +kernel
theorem dX4_become_111 : decode cX4_become 111 = .ok (.iconst 0, 1) := by decide +kernel
theorem dX4_become_112 : decode cX4_become 112 = .ok (.bipush 6, 2) := by decide +kernel
theorem dX4_become_114 : decode cX4_become 114 = .ok (.invokestatic 65, 3) := by decide +kernel
theorem dX4_become_117 : decode cX4_become 117 = .ok (.iinc 2 1, 3) := by decide +kernel
theorem dX4_become_120 : decode cX4_become 120 = .ok (.goto (-33), 3) := by decide +kernel
theorem dX4_become_123 : decode cX4_become 123 = .ok (.return_, 1) := by decide +kernel
theorem dX4_clearMemory_0 : decode cX4_clearMemory 0 = .ok (.aload_n 0, 1) := by decide +kernel
theorem dX4_clearMemory_1 : decode cX4_clearMemory 1 = .ok (.getfield 25, 3) := by decide +kernel
theorem dX4_clearMemory_4 : decode cX4_clearMemory 4 = .ok (.bipush (-8), 2) := by decide +kernel
theorem dX4_clearMemory_6 : decode cX4_clearMemory 6 = .ok (.invokestatic 74, 3) := by decide +kernel
theorem dX4_clearMemory_9 : decode cX4_clearMemory 9 = .ok (.return_, 1) := by decide +kernel
theorem dX4_seatOf_0 : decode cX4_seatOf 0 = .ok (.iconst 0, 1) := by decide +kernel
theorem dX4_seatOf_1 : decode cX4_seatOf 1 = .ok (.istore_n 2, 1) := by decide +kernel
theorem dX4_seatOf_2 : decode cX4_seatOf 2 = .ok (.iconst 0, 1) := by decide +kernel
theorem dX4_seatOf_3 : decode cX4_seatOf 3 = .ok (.istore_n 3, 1) := by decide +kernel
theorem dX4_seatOf_4 : decode cX4_seatOf 4 = .ok (.iload_n 3, 1) := by decide +kernel
theorem dX4_seatOf_5 : decode cX4_seatOf 5 = .ok (.aload_n 0, 1) := by decide +kernel
theorem dX4_seatOf_6 : decode cX4_seatOf 6 = .ok (.getfield 52, 3) := by decide +kernel
theorem dX4_seatOf_9 : decode cX4_seatOf 9 = .ok (.if_icmp .ge 21, 3) := by decide +kernel
theorem dX4_seatOf_12 : decode cX4_seatOf 12 = .ok (.aload_n 0, 1) := by decide +kernel
theorem dX4_seatOf_13 : decode cX4_seatOf 13 = .ok (.getfield 18, 3) := by decide +kernel
theorem dX4_seatOf_16 : decode cX4_seatOf 16 = .ok (.iload_n 3, 1) := by decide +kernel
theorem dX4_seatOf_17 : decode cX4_seatOf 17 = .ok (.iaload, 1) := by decide +kernel
theorem dX4_seatOf_18 : decode cX4_seatOf 18 = .ok (.iload_n 1, 1) := by decide +kernel
theorem dX4_seatOf_19 : decode cX4_seatOf 19 = .ok (.if_icmp .ne 5, 3) := by decide +kernel
theorem dX4_seatOf_22 : decode cX4_seatOf 22 = .ok (.iload_n 3, 1) := by decide +kernel
theorem dX4_seatOf_23 : decode cX4_seatOf 23 = .ok (.istore_n 2, 1) := by decide +kernel
theorem dX4_seatOf_24 : decode cX4_seatOf 24 = .ok (.iinc 3 1, 3) := by decide +kernel
theorem dX4_seatOf_27 : decode cX4_seatOf 27 = .ok (.goto (-23), 3) := by decide +kernel
theorem dX4_seatOf_30 : decode cX4_seatOf 30 = .ok (.iload_n 2, 1) := by decide +kernel
theorem dX4_seatOf_31 : decode cX4_seatOf 31 = .ok (.ireturn, 1) := by decide +kernel
theorem dX4_askedFor_0 : decode cX4_askedFor 0 = .ok (.aload_n 0, 1) := by decide +kernel
theorem dX4_askedFor_1 : decode cX4_askedFor 1 = .ok (.getfield 52, 3) := by decide +kernel
theorem dX4_askedFor_4 : decode cX4_askedFor 4 = .ok (.ifCond .le 22, 3) := by decide +kernel
theorem dX4_askedFor_7 : decode cX4_askedFor 7 = .ok (.aload_n 0, 1) := by decide +kernel
theorem dX4_askedFor_8 : decode cX4_askedFor 8 = .ok (.getfield 18, 3) := by decide +kernel
theorem dX4_askedFor_11 : decode cX4_askedFor 11 = .ok (.iload_n 1, 1) := by decide +kernel
theorem dX4_askedFor_12 : decode cX4_askedFor 12 = .ok (.aload_n 0, 1) := by decide +kernel
theorem dX4_askedFor_13 : decode cX4_askedFor 13 = .ok (.getfield 55, 3) := by decide +kernel
theorem dX4_askedFor_16 : decode cX4_askedFor 16 = .ok (.iadd, 1) := by decide +kernel
theorem dX4_askedFor_17 : decode cX4_askedFor 17 = .ok (.aload_n 0, 1) := by decide +kernel
theorem dX4_askedFor_18 : decode cX4_askedFor 18 = .ok (.getfield 52, 3) := by decide +kernel
theorem dX4_askedFor_21 : decode cX4_askedFor 21 = .ok (.irem, 1) := by decide +kernel
theorem dX4_askedFor_22 : decode cX4_askedFor 22 = .ok (.iaload, 1) := by decide +kernel
theorem dX4_askedFor_23 : decode cX4_askedFor 23 = .ok (.goto 4, 3) := by decide +kernel
theorem dX4_askedFor_26 : decode cX4_askedFor 26 = .ok (.iconst 0, 1) := by decide +kernel
theorem dX4_askedFor_27 : decode cX4_askedFor 27 = .ok (.ireturn, 1) := by decide +kernel
theorem dX4_layOut_0 : decode cX4_layOut 0 = .ok (.aload_n 0, 1) := by decide +kernel
theorem dX4_layOut_1 : decode cX4_layOut 1 = .ok (.getfield 12, 3) := by decide +kernel
theorem dX4_layOut_4 : decode cX4_layOut 4 = .ok (.getfield 91, 3) := by decide +kernel
theorem dX4_layOut_7 : decode cX4_layOut 7 = .ok (.iconst 0, 1) := by decide +kernel
theorem dX4_layOut_8 : decode cX4_layOut 8 = .ok (.aload_n 0, 1) := by decide +kernel
theorem dX4_layOut_9 : decode cX4_layOut 9 = .ok (.getfield 37, 3) := by decide +kernel
theorem dX4_layOut_12 : decode cX4_layOut 12 = .ok (.iconst 0, 1) := by decide +kernel
theorem dX4_layOut_13 : decode cX4_layOut 13 = .ok (.bipush 6, 2) := by decide +kernel
theorem dX4_layOut_15 : decode cX4_layOut 15 = .ok (.invokestatic 65, 3) := by decide +kernel
theorem dX4_layOut_18 : decode cX4_layOut 18 = .ok (.return_, 1) := by decide +kernel
theorem dX4_isFor_0 : decode cX4_isFor 0 = .ok (.aload_n 0, 1) := by decide +kernel
theorem dX4_isFor_1 : decode cX4_isFor 1 = .ok (.getfield 37, 3) := by decide +kernel
theorem dX4_isFor_4 : decode cX4_isFor 4 = .ok (.iload_n 2, 1) := by decide +kernel
theorem dX4_isFor_5 : decode cX4_isFor 5 = .ok (.iaload, 1) := by decide +kernel
theorem dX4_isFor_6 : decode cX4_isFor 6 = .ok (.ifCond .le 19, 3) := by decide +kernel
theorem dX4_isFor_9 : decode cX4_isFor 9 = .ok (.aload_n 0, 1) := by decide +kernel
theorem dX4_isFor_10 : decode cX4_isFor 10 = .ok (.getfield 12, 3) := by decide +kernel
theorem dX4_isFor_13 : decode cX4_isFor 13 = .ok (.iload_n 1, 1) := by decide +kernel
theorem dX4_isFor_14 : decode cX4_isFor 14 = .ok (.iload_n 2, 1) := by decide +kernel
theorem dX4_isFor_15 : decode cX4_isFor 15 = .ok (.invokevirtual 83, 3) := by decide +kernel
theorem dX4_isFor_18 : decode cX4_isFor 18 = .ok (.ifCond .eq 7, 3) := by decide +kernel
theorem dX4_isFor_21 : decode cX4_isFor 21 = .ok (.iconst 1, 1) := by decide +kernel
theorem dX4_isFor_22 : decode cX4_isFor 22 = .ok (.goto 4, 3) := by decide +kernel
theorem dX4_isFor_25 : decode cX4_isFor 25 = .ok (.iconst 0, 1) := by decide +kernel
theorem dX4_isFor_26 : decode cX4_isFor 26 = .ok (.ireturn, 1) := by decide +kernel
theorem dX4_isAnyFor_0 : decode cX4_isAnyFor 0 = .ok (.iconst 0, 1) := by decide +kernel
theorem dX4_isAnyFor_1 : decode cX4_isAnyFor 1 = .ok (.istore_n 2, 1) := by decide +kernel
theorem dX4_isAnyFor_2 : decode cX4_isAnyFor 2 = .ok (.iconst 0, 1) := by decide +kernel
theorem dX4_isAnyFor_3 : decode cX4_isAnyFor 3 = .ok (.istore_n 3, 1) := by decide +kernel
theorem dX4_isAnyFor_4 : decode cX4_isAnyFor 4 = .ok (.iload_n 3, 1) := by decide +kernel
theorem dX4_isAnyFor_5 : decode cX4_isAnyFor 5 = .ok (.aload_n 0, 1) := by decide +kernel
theorem dX4_isAnyFor_6 : decode cX4_isAnyFor 6 = .ok (.getfield 12, 3) := by decide +kernel
theorem dX4_isAnyFor_9 : decode cX4_isAnyFor 9 = .ok (.getfield 80, 3) := by decide +kernel
theorem dX4_isAnyFor_12 : decode cX4_isAnyFor 12 = .ok (.if_icmp .ge 28, 3) := by decide +kernel
theorem dX4_isAnyFor_15 : decode cX4_isAnyFor 15 = .ok (.iload_n 2, 1) := by decide +kernel
theorem dX4_isAnyFor_16 : decode cX4_isAnyFor 16 = .ok (.ifCond .ne 12, 3) := by decide +kernel
theorem dX4_isAnyFor_19 : decode cX4_isAnyFor 19 = .ok (.aload_n 0, 1) := by decide +kernel
theorem dX4_isAnyFor_20 : decode cX4_isAnyFor 20 = .ok (.iload_n 1, 1) := by decide +kernel
theorem dX4_isAnyFor_21 : decode cX4_isAnyFor 21 = .ok (.iload_n 3, 1) := by decide +kernel
theorem dX4_isAnyFor_22 : decode cX4_isAnyFor 22 = .ok (.invokevirtual 94, 3) := by decide +kernel
theorem dX4_isAnyFor_25 : decode cX4_isAnyFor 25 = .ok (.ifCond .eq 7, 3) := by decide +kernel
theorem dX4_isAnyFor_28 : decode cX4_isAnyFor 28 = .ok (.iconst 1, 1) := by decide +kernel
theorem dX4_isAnyFor_29 : decode cX4_isAnyFor 29 = .ok (.goto 4, 3) := by decide +kernel
theorem dX4_isAnyFor_32 : decode cX4_isAnyFor 32 = .ok (.iconst 0, 1) := by decide +kernel
theorem dX4_isAnyFor_33 : decode cX4_isAnyFor 33 = .ok (.istore_n 2, 1) := by decide +kernel
theorem dX4_isAnyFor_34 : decode cX4_isAnyFor 34 = .ok (.iinc 3 1, 3) := by decide +kernel
theorem dX4_isAnyFor_37 : decode cX4_isAnyFor 37 = .ok (.goto (-33), 3) := by decide +kernel
theorem dX4_isAnyFor_40 : decode cX4_isAnyFor 40 = .ok (.iload_n 2, 1) := by decide +kernel
theorem dX4_isAnyFor_41 : decode cX4_isAnyFor 41 = .ok (.ireturn, 1) := by decide +kernel
theorem dX4_evening_0 : decode cX4_evening 0 = .ok (.aload_n 0, 1) := by decide +kernel
theorem dX4_evening_1 : decode cX4_evening 1 = .ok (.invokevirtual 97, 3) := by decide +kernel
theorem dX4_evening_4 : decode cX4_evening 4 = .ok (.aload_n 0, 1) := by decide +kernel
theorem dX4_evening_5 : decode cX4_evening 5 = .ok (.getfield 43, 3) := by decide +kernel
theorem dX4_evening_8 : decode cX4_evening 8 = .ok (.iconst 0, 1) := by decide +kernel
theorem dX4_evening_9 : decode cX4_evening 9 = .ok (.invokestatic 74, 3) := by decide +kernel
theorem dX4_evening_12 : decode cX4_evening 12 = .ok (.aload_n 0, 1) := by decide +kernel
theorem dX4_evening_13 : decode cX4_evening 13 = .ok (.getfield 46, 3) := by decide +kernel
theorem dX4_evening_16 : decode cX4_evening 16 = .ok (.iconst 0, 1) := by decide +kernel
theorem dX4_evening_17 : decode cX4_evening 17 = .ok (.invokestatic 74, 3) := by decide +kernel
theorem dX4_evening_20 : decode cX4_evening 20 = .ok (.iconst 0, 1) := by decide +kernel
theorem dX4_evening_21 : decode cX4_evening 21 = .ok (.istore_n 1, 1) := by decide +kernel
theorem dX4_evening_22 : decode cX4_evening 22 = .ok (.iload_n 1, 1) := by decide +kernel
theorem dX4_evening_23 : decode cX4_evening 23 = .ok (.aload_n 0, 1) := by decide +kernel
theorem dX4_evening_24 : decode cX4_evening 24 = .ok (.getfield 58, 3) := by decide +kernel
theorem dX4_evening_27 : decode cX4_evening 27 = .ok (.if_icmp .ge 46, 3) := by decide +kernel
theorem dX4_evening_30 : decode cX4_evening 30 = .ok (.iconst 0, 1) := by decide +kernel
theorem dX4_evening_31 : decode cX4_evening 31 = .ok (.istore_n 2, 1) := by decide +kernel
theorem dX4_evening_32 : decode cX4_evening 32 = .ok (.iload_n 2, 1) := by decide +kernel
theorem dX4_evening_33 : decode cX4_evening 33 = .ok (.aload_n 0, 1) := by decide +kernel
theorem dX4_evening_34 : decode cX4_evening 34 = .ok (.getfield 52, 3) := by decide +kernel
theorem dX4_evening_37 : decode cX4_evening 37 = .ok (.if_icmp .ge 25, 3) := by decide +kernel
theorem dX4_evening_40 : decode cX4_evening 40 = .ok (.aload_n 0, 1) := by decide +kernel
theorem dX4_evening_41 : decode cX4_evening 41 = .ok (.iload_n 1, 1) := by decide +kernel
theorem dX4_evening_42 : decode cX4_evening 42 = .ok (.aload_n 0, 1) := by decide +kernel
theorem dX4_evening_43 : decode cX4_evening 43 = .ok (.getfield 18, 3) := by decide +kernel
theorem dX4_evening_46 : decode cX4_evening 46 = .ok (.iload_n 2, 1) := by decide +kernel
theorem dX4_evening_47 : decode cX4_evening 47 = .ok (.iaload, 1) := by decide +kernel
theorem dX4_evening_48 : decode cX4_evening 48 = .ok (.aload_n 0, 1) := by decide +kernel
theorem dX4_evening_49 : decode cX4_evening 49 = .ok (.iload_n 2, 1) := by decide +kernel
theorem dX4_evening_50 : decode cX4_evening 50 = .ok (.invokevirtual 100, 3) := by decide +kernel
theorem dX4_evening_53 : decode cX4_evening 53 = .ok (.invokevirtual 103, 3) := by decide +kernel
theorem dX4_evening_56 : decode cX4_evening 56 = .ok (.iinc 2 1, 3) := by decide +kernel
theorem dX4_evening_59 : decode cX4_evening 59 = .ok (.goto (-27), 3) := by decide +kernel
theorem dX4_evening_62 : decode cX4_evening 62 = .ok (.aload_n 0, 1) := by decide +kernel
theorem dX4_evening_63 : decode cX4_evening 63 = .ok (.iconst (-1), 1) := by decide +kernel
theorem dX4_evening_64 : decode cX4_evening 64 = .ok (.putfield 33, 3) := by decide +kernel
theorem dX4_evening_67 : decode cX4_evening 67 = .ok (.iinc 1 1, 3) := by decide +kernel
theorem dX4_evening_70 : decode cX4_evening 70 = .ok (.goto (-48), 3) := by decide +kernel
theorem dX4_evening_73 : decode cX4_evening 73 = .ok (.return_, 1) := by decide +kernel
theorem dX4_ask_0 : decode cX4_ask 0 = .ok (.aload_n 0, 1) := by decide +kernel
theorem dX4_ask_1 : decode cX4_ask 1 = .ok (.aload_n 0, 1) := by decide +kernel
theorem dX4_ask_2 : decode cX4_ask 2 = .ok (.iload_n 2, 1) := by decide +kernel
theorem dX4_ask_3 : decode cX4_ask 3 = .ok (.invokevirtual 107, 3) := by decide +kernel
theorem dX4_ask_6 : decode cX4_ask 6 = .ok (.iload_n 3, 1) := by decide +kernel
theorem dX4_ask_7 : decode cX4_ask 7 = .ok (.invokevirtual 110, 3) := by decide +kernel
theorem dX4_ask_10 : decode cX4_ask 10 = .ok (.istore 4, 2) := by decide +kernel
theorem dX4_ask_12 : decode cX4_ask 12 = .ok (.aload_n 0, 1) := by decide +kernel
theorem dX4_ask_13 : decode cX4_ask 13 = .ok (.getfield 40, 3) := by decide +kernel
theorem dX4_ask_16 : decode cX4_ask 16 = .ok (.iload_n 1, 1) := by decide +kernel
theorem dX4_ask_17 : decode cX4_ask 17 = .ok (.aaload, 1) := by decide +kernel
theorem dX4_ask_18 : decode cX4_ask 18 = .ok (.iload_n 3, 1) := by decide +kernel
theorem dX4_ask_19 : decode cX4_ask 19 = .ok (.iload 4, 2) := by decide +kernel
theorem dX4_ask_21 : decode cX4_ask 21 = .ok (.iastore, 1) := by decide +kernel
theorem dX4_ask_22 : decode cX4_ask 22 = .ok (.aload_n 0, 1) := by decide +kernel
theorem dX4_ask_23 : decode cX4_ask 23 = .ok (.getfield 25, 3) := by decide +kernel
theorem dX4_ask_26 : decode cX4_ask 26 = .ok (.iload_n 3, 1) := by decide +kernel
theorem dX4_ask_27 : decode cX4_ask 27 = .ok (.iload 4, 2) := by decide +kernel
theorem dX4_ask_29 : decode cX4_ask 29 = .ok (.iastore, 1) := by decide +kernel
theorem dX4_ask_30 : decode cX4_ask 30 = .ok (.iload 4, 2) := by decide +kernel
theorem dX4_ask_32 : decode cX4_ask 32 = .ok (.ifCond .lt 82, 3) := by decide +kernel
theorem dX4_ask_35 : decode cX4_ask 35 = .ok (.aload_n 0, 1) := by decide +kernel
theorem dX4_ask_36 : decode cX4_ask 36 = .ok (.getfield 12, 3) := by decide +kernel
theorem dX4_ask_39 : decode cX4_ask 39 = .ok (.getfield 62, 3) := by decide +kernel
theorem dX4_ask_42 : decode cX4_ask 42 = .ok (.iload_n 3, 1) := by decide +kernel
theorem dX4_ask_43 : decode cX4_ask 43 = .ok (.aaload, 1) := by decide +kernel
theorem dX4_ask_44 : decode cX4_ask 44 = .ok (.iload 4, 2) := by decide +kernel
theorem dX4_ask_46 : decode cX4_ask 46 = .ok (.iaload, 1) := by decide +kernel
theorem dX4_ask_47 : decode cX4_ask 47 = .ok (.istore 5, 2) := by decide +kernel
theorem dX4_ask_49 : decode cX4_ask 49 = .ok (.aload_n 0, 1) := by decide +kernel
theorem dX4_ask_50 : decode cX4_ask 50 = .ok (.getfield 37, 3) := by decide +kernel
theorem dX4_ask_53 : decode cX4_ask 53 = .ok (.iload 4, 2) := by decide +kernel
theorem dX4_ask_55 : decode cX4_ask 55 = .ok (.dup2, 1) := by decide +kernel
theorem dX4_ask_56 : decode cX4_ask 56 = .ok (.iaload, 1) := by decide +kernel
theorem dX4_ask_57 : decode cX4_ask 57 = .ok (.iconst 1, 1) := by decide +kernel
theorem dX4_ask_58 : decode cX4_ask 58 = .ok (.isub, 1) := by decide +kernel
theorem dX4_ask_59 : decode cX4_ask 59 = .ok (.iastore, 1) := by decide +kernel
theorem dX4_ask_60 : decode cX4_ask 60 = .ok (.aload_n 0, 1) := by decide +kernel
theorem dX4_ask_61 : decode cX4_ask 61 = .ok (.getfield 43, 3) := by decide +kernel
theorem dX4_ask_64 : decode cX4_ask 64 = .ok (.iload_n 3, 1) := by decide +kernel
theorem dX4_ask_65 : decode cX4_ask 65 = .ok (.dup2, 1) := by decide +kernel
theorem dX4_ask_66 : decode cX4_ask 66 = .ok (.iaload, 1) := by decide +kernel
theorem dX4_ask_67 : decode cX4_ask 67 = .ok (.bipush 10, 2) := by decide +kernel
theorem dX4_ask_69 : decode cX4_ask 69 = .ok (.iload 5, 2) := by decide +kernel
theorem dX4_ask_71 : decode cX4_ask 71 = .ok (.imul, 1) := by decide +kernel
theorem dX4_ask_72 : decode cX4_ask 72 = .ok (.iadd, 1) := by decide +kernel
theorem dX4_ask_73 : decode cX4_ask 73 = .ok (.iastore, 1) := by decide +kernel
theorem dX4_ask_74 : decode cX4_ask 74 = .ok (.aload_n 0, 1) := by decide +kernel
theorem dX4_ask_75 : decode cX4_ask 75 = .ok (.getfield 43, 3) := by decide +kernel
theorem dX4_ask_78 : decode cX4_ask 78 = .ok (.iload_n 2, 1) := by decide +kernel
theorem dX4_ask_79 : decode cX4_ask 79 = .ok (.dup2, 1) := by decide +kernel
theorem dX4_ask_80 : decode cX4_ask 80 = .ok (.iaload, 1) := by decide +kernel
theorem dX4_ask_81 : decode cX4_ask 81 = .ok (.aload_n 0, 1) := by decide +kernel
theorem dX4_ask_82 : decode cX4_ask 82 = .ok (.getfield 12, 3) := by decide +kernel
theorem dX4_ask_85 : decode cX4_ask 85 = .ok (.getfield 114, 3) := by decide +kernel
theorem dX4_ask_88 : decode cX4_ask 88 = .ok (.iload_n 2, 1) := by decide +kernel
theorem dX4_ask_89 : decode cX4_ask 89 = .ok (.iaload, 1) := by decide +kernel
theorem dX4_ask_90 : decode cX4_ask 90 = .ok (.iload 5, 2) := by decide +kernel
theorem dX4_ask_92 : decode cX4_ask 92 = .ok (.imul, 1) := by decide +kernel
theorem dX4_ask_93 : decode cX4_ask 93 = .ok (.iadd, 1) := by decide +kernel
theorem dX4_ask_94 : decode cX4_ask 94 = .ok (.iastore, 1) := by decide +kernel
theorem dX4_ask_95 : decode cX4_ask 95 = .ok (.aload_n 0, 1) := by decide +kernel
theorem dX4_ask_96 : decode cX4_ask 96 = .ok (.getfield 46, 3) := by decide +kernel
theorem dX4_ask_99 : decode cX4_ask 99 = .ok (.iload_n 2, 1) := by decide +kernel
theorem dX4_ask_100 : decode cX4_ask 100 = .ok (.dup2, 1) := by decide +kernel
theorem dX4_ask_101 : decode cX4_ask 101 = .ok (.iaload, 1) := by decide +kernel
theorem dX4_ask_102 : decode cX4_ask 102 = .ok (.aload_n 0, 1) := by decide +kernel
theorem dX4_ask_103 : decode cX4_ask 103 = .ok (.getfield 12, 3) := by decide +kernel
theorem dX4_ask_106 : decode cX4_ask 106 = .ok (.getfield 117, 3) := by decide +kernel
theorem dX4_ask_109 : decode cX4_ask 109 = .ok (.iload 4, 2) := by decide +kernel
theorem dX4_ask_111 : decode cX4_ask 111 = .ok (.iaload, 1) := by decide +kernel
theorem dX4_ask_112 : decode cX4_ask 112 = .ok (.iadd, 1) := by decide +kernel
theorem dX4_ask_113 : decode cX4_ask 113 = .ok (.iastore, 1) := by decide +kernel
theorem dX4_ask_114 : decode cX4_ask 114 = .ok (.return_, 1) := by decide +kernel
theorem dX4_mannerOf_0 : decode cX4_mannerOf 0 = .ok (.iload_n 1, 1) := by decide +kernel
theorem dX4_mannerOf_1 : decode cX4_mannerOf 1 = .ok (.aload_n 0, 1) := by decide +kernel
theorem dX4_mannerOf_2 : decode cX4_mannerOf 2 = .ok (.getfield 33, 3) := by decide +kernel
theorem dX4_mannerOf_5 : decode cX4_mannerOf 5 = .ok (.if_icmp .ne 5, 3) := by decide +kernel
theorem dX4_mannerOf_8 : decode cX4_mannerOf 8 = .ok (.iconst 2, 1) := by decide +kernel
theorem dX4_mannerOf_9 : decode cX4_mannerOf 9 = .ok (.ireturn, 1) := by decide +kernel
theorem dX4_mannerOf_10 : decode cX4_mannerOf 10 = .ok (.aload_n 0, 1) := by decide +kernel
theorem dX4_mannerOf_11 : decode cX4_mannerOf 11 = .ok (.getfield 22, 3) := by decide +kernel
theorem dX4_mannerOf_14 : decode cX4_mannerOf 14 = .ok (.iload_n 1, 1) := by decide +kernel
theorem dX4_mannerOf_15 : decode cX4_mannerOf 15 = .ok (.iaload, 1) := by decide +kernel
theorem dX4_mannerOf_16 : decode cX4_mannerOf 16 = .ok (.iconst 2, 1) := by decide +kernel
theorem dX4_mannerOf_17 : decode cX4_mannerOf 17 = .ok (.if_icmp .eq 10, 3) := by decide +kernel
theorem dX4_mannerOf_20 : decode cX4_mannerOf 20 = .ok (.aload_n 0, 1) := by decide +kernel
theorem dX4_mannerOf_21 : decode cX4_mannerOf 21 = .ok (.getfield 22, 3) := by decide +kernel
theorem dX4_mannerOf_24 : decode cX4_mannerOf 24 = .ok (.iload_n 1, 1) := by decide +kernel
theorem dX4_mannerOf_25 : decode cX4_mannerOf 25 = .ok (.iaload, 1) := by decide +kernel
theorem dX4_mannerOf_26 : decode cX4_mannerOf 26 = .ok (.ireturn, 1) := by decide +kernel
theorem dX4_mannerOf_27 : decode cX4_mannerOf 27 = .ok (.aload_n 0, 1) := by decide +kernel
theorem dX4_mannerOf_28 : decode cX4_mannerOf 28 = .ok (.getfield 25, 3) := by decide +kernel
theorem dX4_mannerOf_31 : decode cX4_mannerOf 31 = .ok (.iload_n 1, 1) := by decide +kernel
theorem dX4_mannerOf_32 : decode cX4_mannerOf 32 = .ok (.iaload, 1) := by decide +kernel
theorem dX4_mannerOf_33 : decode cX4_mannerOf 33 = .ok (.bipush (-8), 2) := by decide +kernel
theorem dX4_mannerOf_35 : decode cX4_mannerOf 35 = .ok (.if_icmp .eq 29, 3) := by decide +kernel
theorem dX4_mannerOf_38 : decode cX4_mannerOf 38 = .ok (.aload_n 0, 1) := by decide +kernel
theorem dX4_mannerOf_39 : decode cX4_mannerOf 39 = .ok (.getfield 12, 3) := by decide +kernel
theorem dX4_mannerOf_42 : decode cX4_mannerOf 42 = .ok (.iload_n 1, 1) := by decide +kernel
theorem dX4_mannerOf_43 : decode cX4_mannerOf 43 = .ok (.aload_n 0, 1) := by decide +kernel
theorem dX4_mannerOf_44 : decode cX4_mannerOf 44 = .ok (.getfield 25, 3) := by decide +kernel
theorem dX4_mannerOf_47 : decode cX4_mannerOf 47 = .ok (.iload_n 1, 1) := by decide +kernel
theorem dX4_mannerOf_48 : decode cX4_mannerOf 48 = .ok (.iaload, 1) := by decide +kernel
theorem dX4_mannerOf_49 : decode cX4_mannerOf 49 = .ok (.invokevirtual 120, 3) := by decide +kernel
theorem dX4_mannerOf_52 : decode cX4_mannerOf 52 = .ok (.aload_n 0, 1) := by decide +kernel
theorem dX4_mannerOf_53 : decode cX4_mannerOf 53 = .ok (.getfield 12, 3) := by decide +kernel
theorem dX4_mannerOf_56 : decode cX4_mannerOf 56 = .ok (.getfield 123, 3) := by decide +kernel
theorem dX4_mannerOf_59 : decode cX4_mannerOf 59 = .ok (.iload_n 1, 1) := by decide +kernel
theorem dX4_mannerOf_60 : decode cX4_mannerOf 60 = .ok (.iaload, 1) := by decide +kernel
theorem dX4_mannerOf_61 : decode cX4_mannerOf 61 = .ok (.if_icmp .lt 7, 3) := by decide +kernel
theorem dX4_mannerOf_64 : decode cX4_mannerOf 64 = .ok (.iconst 1, 1) := by decide +kernel
theorem dX4_mannerOf_65 : decode cX4_mannerOf 65 = .ok (.goto 4, 3) := by decide +kernel
theorem dX4_mannerOf_68 : decode cX4_mannerOf 68 = .ok (.iconst 0, 1) := by decide +kernel
theorem dX4_mannerOf_69 : decode cX4_mannerOf 69 = .ok (.istore_n 2, 1) := by decide +kernel
theorem dX4_mannerOf_70 : decode cX4_mannerOf 70 = .ok (.iload_n 2, 1) := by decide +kernel
theorem dX4_mannerOf_71 : decode cX4_mannerOf 71 = .ok (.ifCond .eq 7, 3) := by decide +kernel
theorem dX4_mannerOf_74 : decode cX4_mannerOf 74 = .ok (.iconst 0, 1) := by decide +kernel
theorem dX4_mannerOf_75 : decode cX4_mannerOf 75 = .ok (.goto 4, 3) := by decide +kernel
theorem dX4_mannerOf_78 : decode cX4_mannerOf 78 = .ok (.iconst 2, 1) := by decide +kernel
theorem dX4_mannerOf_79 : decode cX4_mannerOf 79 = .ok (.ireturn, 1) := by decide +kernel
theorem dX4_wish_0 : decode cX4_wish 0 = .ok (.iload_n 1, 1) := by decide +kernel
theorem dX4_wish_1 : decode cX4_wish 1 = .ok (.ifCond .ne 8, 3) := by decide +kernel
theorem dX4_wish_4 : decode cX4_wish 4 = .ok (.bipush (-10), 2) := by decide +kernel
theorem dX4_wish_6 : decode cX4_wish 6 = .ok (.goto 14, 3) := by decide +kernel
theorem dX4_wish_9 : decode cX4_wish 9 = .ok (.iload_n 1, 1) := by decide +kernel
theorem dX4_wish_10 : decode cX4_wish 10 = .ok (.iconst 1, 1) := by decide +kernel
theorem dX4_wish_11 : decode cX4_wish 11 = .ok (.if_icmp .ne 7, 3) := by decide +kernel
theorem dX4_wish_14 : decode cX4_wish 14 = .ok (.iconst (-1), 1) := by decide +kernel
theorem dX4_wish_15 : decode cX4_wish 15 = .ok (.goto 5, 3) := by decide +kernel
theorem dX4_wish_18 : decode cX4_wish 18 = .ok (.bipush 10, 2) := by decide +kernel
theorem dX4_wish_20 : decode cX4_wish 20 = .ok (.istore_n 3, 1) := by decide +kernel
theorem dX4_wish_21 : decode cX4_wish 21 = .ok (.iload_n 1, 1) := by decide +kernel
theorem dX4_wish_22 : decode cX4_wish 22 = .ok (.iconst 1, 1) := by decide +kernel
theorem dX4_wish_23 : decode cX4_wish 23 = .ok (.if_icmp .ne 8, 3) := by decide +kernel
theorem dX4_wish_26 : decode cX4_wish 26 = .ok (.bipush 10, 2) := by decide +kernel
theorem dX4_wish_28 : decode cX4_wish 28 = .ok (.goto 4, 3) := by decide +kernel
theorem dX4_wish_31 : decode cX4_wish 31 = .ok (.iconst 1, 1) := by decide +kernel
theorem dX4_wish_32 : decode cX4_wish 32 = .ok (.istore 4, 2) := by decide +kernel
theorem dX4_wish_34 : decode cX4_wish 34 = .ok (.aload_n 0, 1) := by decide +kernel
theorem dX4_wish_35 : decode cX4_wish 35 = .ok (.getfield 30, 3) := by decide +kernel
theorem dX4_wish_38 : decode cX4_wish 38 = .ok (.iload_n 2, 1) := by decide +kernel
theorem dX4_wish_39 : decode cX4_wish 39 = .ok (.aaload, 1) := by decide +kernel
theorem dX4_wish_40 : decode cX4_wish 40 = .ok (.astore 5, 2) := by decide +kernel
theorem dX4_wish_42 : decode cX4_wish 42 = .ok (.bipush (-9), 2) := by decide +kernel
theorem dX4_wish_44 : decode cX4_wish 44 = .ok (.istore 6, 2) := by decide +kernel
theorem dX4_wish_46 : decode cX4_wish 46 = .ok (.iconst 0, 1) := by decide +kernel
theorem dX4_wish_47 : decode cX4_wish 47 = .ok (.istore 7, 2) := by decide +kernel
theorem dX4_wish_49 : decode cX4_wish 49 = .ok (.iconst 0, 1) := by decide +kernel
theorem dX4_wish_50 : decode cX4_wish 50 = .ok (.istore 8, 2) := by decide +kernel
theorem dX4_wish_52 : decode cX4_wish 52 = .ok (.iload 8, 2) := by decide +kernel
theorem dX4_wish_54 : decode cX4_wish 54 = .ok (.aload_n 0, 1) := by decide +kernel
theorem dX4_wish_55 : decode cX4_wish 55 = .ok (.getfield 12, 3) := by decide +kernel
theorem dX4_wish_58 : decode cX4_wish 58 = .ok (.getfield 80, 3) := by decide +kernel
theorem dX4_wish_61 : decode cX4_wish 61 = .ok (.if_icmp .ge 73, 3) := by decide +kernel
theorem dX4_wish_64 : decode cX4_wish 64 = .ok (.aload_n 0, 1) := by decide +kernel
theorem dX4_wish_65 : decode cX4_wish 65 = .ok (.getfield 37, 3) := by decide +kernel
theorem dX4_wish_68 : decode cX4_wish 68 = .ok (.iload 8, 2) := by decide +kernel
theorem dX4_wish_70 : decode cX4_wish 70 = .ok (.iaload, 1) := by decide +kernel
theorem dX4_wish_71 : decode cX4_wish 71 = .ok (.ifCond .le 57, 3) := by decide +kernel
theorem dX4_wish_74 : decode cX4_wish 74 = .ok (.aload 5, 2) := by decide +kernel
theorem dX4_wish_76 : decode cX4_wish 76 = .ok (.iload 8, 2) := by decide +kernel
theorem dX4_wish_78 : decode cX4_wish 78 = .ok (.iaload, 1) := by decide +kernel
theorem dX4_wish_79 : decode cX4_wish 79 = .ok (.iconst (-1), 1) := by decide +kernel
theorem dX4_wish_80 : decode cX4_wish 80 = .ok (.if_icmp .eq 48, 3) := by decide +kernel
theorem dX4_wish_83 : decode cX4_wish 83 = .ok (.iload_n 3, 1) := by decide +kernel
theorem dX4_wish_84 : decode cX4_wish 84 = .ok (.aload 5, 2) := by decide +kernel
theorem dX4_wish_86 : decode cX4_wish 86 = .ok (.iload 8, 2) := by decide +kernel
theorem dX4_wish_88 : decode cX4_wish 88 = .ok (.iaload, 1) := by decide +kernel
theorem dX4_wish_89 : decode cX4_wish 89 = .ok (.imul, 1) := by decide +kernel
theorem dX4_wish_90 : decode cX4_wish 90 = .ok (.iload 4, 2) := by decide +kernel
theorem dX4_wish_92 : decode cX4_wish 92 = .ok (.aload_n 0, 1) := by decide +kernel
theorem dX4_wish_93 : decode cX4_wish 93 = .ok (.getfield 12, 3) := by decide +kernel
theorem dX4_wish_96 : decode cX4_wish 96 = .ok (.getfield 117, 3) := by decide +kernel
theorem dX4_wish_99 : decode cX4_wish 99 = .ok (.iload 8, 2) := by decide +kernel
theorem dX4_wish_101 : decode cX4_wish 101 = .ok (.iaload, 1) := by decide +kernel
theorem dX4_wish_102 : decode cX4_wish 102 = .ok (.imul, 1) := by decide +kernel
theorem dX4_wish_103 : decode cX4_wish 103 = .ok (.iadd, 1) := by decide +kernel
theorem dX4_wish_104 : decode cX4_wish 104 = .ok (.istore 9, 2) := by decide +kernel
theorem dX4_wish_106 : decode cX4_wish 106 = .ok (.iload 6, 2) := by decide +kernel
theorem dX4_wish_108 : decode cX4_wish 108 = .ok (.bipush (-9), 2) := by decide +kernel
theorem dX4_wish_110 : decode cX4_wish 110 = .ok (.if_icmp .eq 10, 3) := by decide +kernel
theorem dX4_wish_113 : decode cX4_wish 113 = .ok (.iload 9, 2) := by decide +kernel
theorem dX4_wish_115 : decode cX4_wish 115 = .ok (.iload 7, 2) := by decide +kernel
theorem dX4_wish_117 : decode cX4_wish 117 = .ok (.if_icmp .ge 11, 3) := by decide +kernel
theorem dX4_wish_120 : decode cX4_wish 120 = .ok (.iload 8, 2) := by decide +kernel
theorem dX4_wish_122 : decode cX4_wish 122 = .ok (.istore 6, 2) := by decide +kernel
theorem dX4_wish_124 : decode cX4_wish 124 = .ok (.iload 9, 2) := by decide +kernel
theorem dX4_wish_126 : decode cX4_wish 126 = .ok (.istore 7, 2) := by decide +kernel
theorem dX4_wish_128 : decode cX4_wish 128 = .ok (.iinc 8 1, 3) := by decide +kernel
theorem dX4_wish_131 : decode cX4_wish 131 = .ok (.goto (-79), 3) := by decide +kernel
theorem dX4_wish_134 : decode cX4_wish 134 = .ok (.iload 6, 2) := by decide +kernel
theorem dX4_wish_136 : decode cX4_wish 136 = .ok (.ireturn, 1) := by decide +kernel
theorem dX4_gladInAll_0 : decode cX4_gladInAll 0 = .ok (.aload_n 0, 1) := by decide +kernel
theorem dX4_gladInAll_1 : decode cX4_gladInAll 1 = .ok (.aload_n 0, 1) := by decide +kernel
theorem dX4_gladInAll_2 : decode cX4_gladInAll 2 = .ok (.getfield 43, 3) := by decide +kernel
theorem dX4_gladInAll_5 : decode cX4_gladInAll 5 = .ok (.invokevirtual 126, 3) := by decide +kernel
theorem dX4_gladInAll_8 : decode cX4_gladInAll 8 = .ok (.ireturn, 1) := by decide +kernel
theorem dX4_paidInAll_0 : decode cX4_paidInAll 0 = .ok (.aload_n 0, 1) := by decide +kernel
theorem dX4_paidInAll_1 : decode cX4_paidInAll 1 = .ok (.aload_n 0, 1) := by decide +kernel
theorem dX4_paidInAll_2 : decode cX4_paidInAll 2 = .ok (.getfield 46, 3) := by decide +kernel
theorem dX4_paidInAll_5 : decode cX4_paidInAll 5 = .ok (.invokevirtual 126, 3) := by decide +kernel
theorem dX4_paidInAll_8 : decode cX4_paidInAll 8 = .ok (.ireturn, 1) := by decide +kernel
theorem dX4_sum_0 : decode cX4_sum 0 = .ok (.iconst 0, 1) := by decide +kernel
theorem dX4_sum_1 : decode cX4_sum 1 = .ok (.istore_n 2, 1) := by decide +kernel
theorem dX4_sum_2 : decode cX4_sum 2 = .ok (.iconst 0, 1) := by decide +kernel
theorem dX4_sum_3 : decode cX4_sum 3 = .ok (.istore_n 3, 1) := by decide +kernel
theorem dX4_sum_4 : decode cX4_sum 4 = .ok (.iload_n 3, 1) := by decide +kernel
theorem dX4_sum_5 : decode cX4_sum 5 = .ok (.aload_n 0, 1) := by decide +kernel
theorem dX4_sum_6 : decode cX4_sum 6 = .ok (.getfield 12, 3) := by decide +kernel
theorem dX4_sum_9 : decode cX4_sum 9 = .ok (.getfield 49, 3) := by decide +kernel
theorem dX4_sum_12 : decode cX4_sum 12 = .ok (.if_icmp .ge 15, 3) := by decide +kernel
theorem dX4_sum_15 : decode cX4_sum 15 = .ok (.iload_n 2, 1) := by decide +kernel
theorem dX4_sum_16 : decode cX4_sum 16 = .ok (.aload_n 1, 1) := by decide +kernel
theorem dX4_sum_17 : decode cX4_sum 17 = .ok (.iload_n 3, 1) := by decide +kernel
theorem dX4_sum_18 : decode cX4_sum 18 = .ok (.iaload, 1) := by decide +kernel
theorem dX4_sum_19 : decode cX4_sum 19 = .ok (.iadd, 1) := by decide +kernel
theorem dX4_sum_20 : decode cX4_sum 20 = .ok (.istore_n 2, 1) := by decide +kernel
theorem dX4_sum_21 : decode cX4_sum 21 = .ok (.iinc 3 1, 3) := by decide +kernel
theorem dX4_sum_24 : decode cX4_sum 24 = .ok (.goto (-20), 3) := by decide +kernel
theorem dX4_sum_27 : decode cX4_sum 27 = .ok (.iload_n 2, 1) := by decide +kernel
theorem dX4_sum_28 : decode cX4_sum 28 = .ok (.ireturn, 1) := by decide +kernel
theorem dX5_init_0 : decode cX5_init 0 = .ok (.aload_n 0, 1) := by decide +kernel
theorem dX5_init_1 : decode cX5_init 1 = .ok (.invokespecial 3, 3) := by decide +kernel
theorem dX5_init_4 : decode cX5_init 4 = .ok (.aload_n 0, 1) := by decide +kernel
theorem dX5_init_5 : decode cX5_init 5 = .ok (.bipush 6, 2) := by decide +kernel
theorem dX5_init_7 : decode cX5_init 7 = .ok (.newarray .int, 2) := by decide +kernel
theorem dX5_init_9 : decode cX5_init 9 = .ok (.putfield 9, 3) := by decide +kernel
theorem dX5_init_12 : decode cX5_init 12 = .ok (.aload_n 0, 1) := by decide +kernel
theorem dX5_init_13 : decode cX5_init 13 = .ok (.bipush 6, 2) := by decide +kernel
theorem dX5_init_15 : decode cX5_init 15 = .ok (.newarray .int, 2) := by decide +kernel
theorem dX5_init_17 : decode cX5_init 17 = .ok (.putfield 15, 3) := by decide +kernel
theorem dX5_init_20 : decode cX5_init 20 = .ok (.aload_n 0, 1) := by decide +kernel
theorem dX5_init_21 : decode cX5_init 21 = .ok (.bipush 7, 2) := by decide +kernel
theorem dX5_init_23 : decode cX5_init 23 = .ok (.newarray .int, 2) := by decide +kernel
theorem dX5_init_25 : decode cX5_init 25 = .ok (.putfield 18, 3) := by decide +kernel
theorem dX5_init_28 : decode cX5_init 28 = .ok (.aload_n 0, 1) := by decide +kernel
theorem dX5_init_29 : decode cX5_init 29 = .ok (.bipush 7, 2) := by decide +kernel
theorem dX5_init_31 : decode cX5_init 31 = .ok (.newarray .int, 2) := by decide +kernel
theorem dX5_init_33 : decode cX5_init 33 = .ok (.putfield 21, 3) := by decide +kernel
theorem dX5_init_36 : decode cX5_init 36 = .ok (.aload_n 0, 1) := by decide +kernel
theorem dX5_init_37 : decode cX5_init 37 = .ok (.bipush 7, 2) := by decide +kernel
theorem dX5_init_39 : decode cX5_init 39 = .ok (.newarray .int, 2) := by decide +kernel
theorem dX5_init_41 : decode cX5_init 41 = .ok (.putfield 24, 3) := by decide +kernel
theorem dX5_init_44 : decode cX5_init 44 = .ok (.aload_n 0, 1) := by decide +kernel
theorem dX5_init_45 : decode cX5_init 45 = .ok (.bipush 7, 2) := by decide +kernel
theorem dX5_init_47 : decode cX5_init 47 = .ok (.bipush 6, 2) := by decide +kernel
theorem dX5_init_49 : decode cX5_init 49 = .ok (.multianewarray 27 2, 4) := by decide +kernel
theorem dX5_init_53 : decode cX5_init 53 = .ok (.putfield 29, 3) := by decide +kernel
theorem dX5_init_56 : decode cX5_init 56 = .ok (.return_, 1) := by decide +kernel
theorem dX5_isRead_0 : decode cX5_isRead 0 = .ok (.aload_n 0, 1) := by decide +kernel
theorem dX5_isRead_1 : decode cX5_isRead 1 = .ok (.iload_n 2, 1) := by decide +kernel
theorem dX5_isRead_2 : decode cX5_isRead 2 = .ok (.putfield 32, 3) := by decide +kernel
theorem dX5_isRead_5 : decode cX5_isRead 5 = .ok (.aload_n 0, 1) := by decide +kernel
theorem dX5_isRead_6 : decode cX5_isRead 6 = .ok (.iload_n 2, 1) := by decide +kernel
theorem dX5_isRead_7 : decode cX5_isRead 7 = .ok (.iload_n 3, 1) := by decide +kernel
theorem dX5_isRead_8 : decode cX5_isRead 8 = .ok (.iadd, 1) := by decide +kernel
theorem dX5_isRead_9 : decode cX5_isRead 9 = .ok (.putfield 36, 3) := by decide +kernel
theorem dX5_isRead_12 : decode cX5_isRead 12 = .ok (.aload_n 0, 1) := by decide +kernel
theorem dX5_isRead_13 : decode cX5_isRead 13 = .ok (.iload_n 2, 1) := by decide +kernel
theorem dX5_isRead_14 : decode cX5_isRead 14 = .ok (.putfield 39, 3) := by decide +kernel
theorem dX5_isRead_17 : decode cX5_isRead 17 = .ok (.aload_n 0, 1) := by decide +kernel
theorem dX5_isRead_18 : decode cX5_isRead 18 = .ok (.iconst 0, 1) := by decide +kernel
theorem dX5_isRead_19 : decode cX5_isRead 19 = .ok (.putfield 42, 3) := by decide +kernel
theorem dX5_isRead_22 : decode cX5_isRead 22 = .ok (.aload_n 0, 1) := by decide +kernel
theorem dX5_isRead_23 : decode cX5_isRead 23 = .ok (.aload_n 1, 1) := by decide +kernel
theorem dX5_isRead_24 : decode cX5_isRead 24 = .ok (.bipush 100, 2) := by decide +kernel
theorem dX5_isRead_26 : decode cX5_isRead 26 = .ok (.invokevirtual 45, 3) := by decide +kernel
theorem dX5_isRead_29 : decode cX5_isRead 29 = .ok (.ifCond .eq 23, 3) := by decide +kernel
theorem dX5_isRead_32 : decode cX5_isRead 32 = .ok (.aload_n 0, 1) := by decide +kernel
theorem dX5_isRead_33 : decode cX5_isRead 33 = .ok (.aload_n 1, 1) := by decide +kernel
theorem dX5_isRead_34 : decode cX5_isRead 34 = .ok (.invokevirtual 49, 3) := by decide +kernel
theorem dX5_isRead_37 : decode cX5_isRead 37 = .ok (.ifCond .eq 15, 3) := by decide +kernel
theorem dX5_isRead_40 : decode cX5_isRead 40 = .ok (.aload_n 0, 1) := by decide +kernel
theorem dX5_isRead_41 : decode cX5_isRead 41 = .ok (.aload_n 1, 1) := by decide +kernel
theorem dX5_isRead_42 : decode cX5_isRead 42 = .ok (.invokevirtual 53, 3) := by decide +kernel
theorem dX5_isRead_45 : decode cX5_isRead 45 = .ok (.ifCond .eq 7, 3) := by decide +kernel
theorem dX5_isRead_48 : decode cX5_isRead 48 = .ok (.iconst 1, 1) := by decide +kernel
theorem dX5_isRead_49 : decode cX5_isRead 49 = .ok (.goto 4, 3) := by decide +kernel
theorem dX5_isRead_52 : decode cX5_isRead 52 = .ok (.iconst 0, 1) := by decide +kernel
theorem dX5_isRead_53 : decode cX5_isRead 53 = .ok (.ireturn, 1) := by decide +kernel
theorem dX5_place_0 : decode cX5_place 0 = .ok (.aload_n 0, 1) := by decide +kernel
theorem dX5_place_1 : decode cX5_place 1 = .ok (.getfield 39, 3) := by decide +kernel
theorem dX5_place_4 : decode cX5_place 4 = .ok (.aload_n 0, 1) := by decide +kernel
theorem dX5_place_5 : decode cX5_place 5 = .ok (.getfield 32, 3) := by decide +kernel
theorem dX5_place_8 : decode cX5_place 8 = .ok (.isub, 1) := by decide +kernel
theorem dX5_place_9 : decode cX5_place 9 = .ok (.ireturn, 1) := by decide +kernel
theorem dX5_mayHave_0 : decode cX5_mayHave 0 = .ok (.aload_n 0, 1) := by decide +kernel
theorem dX5_mayHave_1 : decode cX5_mayHave 1 = .ok (.getfield 29, 3) := by decide +kernel
theorem dX5_mayHave_4 : decode cX5_mayHave 4 = .ok (.iload_n 1, 1) := by decide +kernel
theorem dX5_mayHave_5 : decode cX5_mayHave 5 = .ok (.aaload, 1) := by decide +kernel
theorem dX5_mayHave_6 : decode cX5_mayHave 6 = .ok (.iload_n 2, 1) := by decide +kernel
theorem dX5_mayHave_7 : decode cX5_mayHave 7 = .ok (.iaload, 1) := by decide +kernel
theorem dX5_mayHave_8 : decode cX5_mayHave 8 = .ok (.iconst (-1), 1) := by decide +kernel
theorem dX5_mayHave_9 : decode cX5_mayHave 9 = .ok (.if_icmp .eq 7, 3) := by decide +kernel
theorem dX5_mayHave_12 : decode cX5_mayHave 12 = .ok (.iconst 1, 1) := by decide +kernel
theorem dX5_mayHave_13 : decode cX5_mayHave 13 = .ok (.goto 4, 3) := by decide +kernel
theorem dX5_mayHave_16 : decode cX5_mayHave 16 = .ok (.iconst 0, 1) := by decide +kernel
theorem dX5_mayHave_17 : decode cX5_mayHave 17 = .ok (.ireturn, 1) := by decide +kernel
theorem dX5_truly_0 : decode cX5_truly 0 = .ok (.iload_n 2, 1) := by decide +kernel
theorem dX5_truly_1 : decode cX5_truly 1 = .ok (.ifCond .ge 7, 3) := by decide +kernel
theorem dX5_truly_4 : decode cX5_truly 4 = .ok (.iconst 0, 1) := by decide +kernel
theorem dX5_truly_5 : decode cX5_truly 5 = .ok (.goto 11, 3) := by decide +kernel
theorem dX5_truly_8 : decode cX5_truly 8 = .ok (.aload_n 0, 1) := by decide +kernel
theorem dX5_truly_9 : decode cX5_truly 9 = .ok (.getfield 29, 3) := by decide +kernel
theorem dX5_truly_12 : decode cX5_truly 12 = .ok (.iload_n 1, 1) := by decide +kernel
theorem dX5_truly_13 : decode cX5_truly 13 = .ok (.aaload, 1) := by decide +kernel
theorem dX5_truly_14 : decode cX5_truly 14 = .ok (.iload_n 2, 1) := by decide +kernel
theorem dX5_truly_15 : decode cX5_truly 15 = .ok (.iaload, 1) := by decide +kernel
theorem dX5_truly_16 : decode cX5_truly 16 = .ok (.ireturn, 1) := by decide +kernel
theorem dX5_areDishesRead_0 : decode cX5_areDishesRead 0 = .ok (.aload_n 0, 1) := by decide +kernel
theorem dX5_areDishesRead_1 : decode cX5_areDishesRead 1 = .ok (.aload_n 0, 1) := by decide +kernel
theorem dX5_areDishesRead_2 : decode cX5_areDishesRead 2 = .ok (.aload_n 1, 1) := by decide +kernel
theorem dX5_areDishesRead_3 : decode cX5_areDishesRead 3 = .ok (.iconst 2, 1) := by decide +kernel
theorem dX5_areDishesRead_4 : decode cX5_areDishesRead 4 = .ok (.bipush 6, 2) := by decide +kernel
theorem dX5_areDishesRead_6 : decode cX5_areDishesRead 6 = .ok (.invokevirtual 56, 3) := by decide +kernel
theorem dX5_areDishesRead_9 : decode cX5_areDishesRead 9 = .ok (.putfield 60, 3) := by decide +kernel
theorem dX5_areDishesRead_12 : decode cX5_areDishesRead 12 = .ok (.iconst 0, 1) := by decide +kernel
theorem dX5_areDishesRead_13 : decode cX5_areDishesRead 13 = .ok (.istore_n 2, 1) := by decide +kernel
theorem dX5_areDishesRead_14 : decode cX5_areDishesRead 14 = .ok (.iload_n 2, 1) := by decide +kernel
theorem dX5_areDishesRead_15 : decode cX5_areDishesRead 15 = .ok (.aload_n 0, 1) := by decide +kernel
theorem dX5_areDishesRead_16 : decode cX5_areDishesRead 16 = .ok (.getfield 60, 3) := by decide +kernel
theorem dX5_areDishesRead_19 : decode cX5_areDishesRead 19 = .ok (.if_icmp .ge 59, 3) := by decide +kernel
theorem dX5_areDishesRead_22 : decode cX5_areDishesRead 22 = .ok (.aload_n 0, 1) := by decide +kernel
theorem dX5_areDishesRead_23 : decode cX5_areDishesRead 23 = .ok (.getfield 9, 3) := by decide +kernel
theorem dX5_areDishesRead_26 : decode cX5_areDishesRead 26 = .ok (.iload_n 2, 1) := by decide +kernel
theorem dX5_areDishesRead_27 : decode cX5_areDishesRead 27 = .ok (.aload_n 0, 1) := by decide +kernel
theorem dX5_areDishesRead_28 : decode cX5_areDishesRead 28 = .ok (.aload_n 1, 1) := by decide +kernel
theorem dX5_areDishesRead_29 : decode cX5_areDishesRead 29 = .ok (.iconst 1, 1) := by decide +kernel
theorem dX5_areDishesRead_30 : decode cX5_areDishesRead 30 = .ok (.bipush 9, 2) := by decide +kernel
theorem dX5_areDishesRead_32 : decode cX5_areDishesRead 32 = .ok (.invokevirtual 56, 3) := by decide +kernel
theorem dX5_areDishesRead_35 : decode cX5_areDishesRead 35 = .ok (.iastore, 1) := by decide +kernel
theorem dX5_areDishesRead_36 : decode cX5_areDishesRead 36 = .ok (.aload_n 0, 1) := by decide +kernel
theorem dX5_areDishesRead_37 : decode cX5_areDishesRead 37 = .ok (.getfield 9, 3) := by decide +kernel
theorem dX5_areDishesRead_40 : decode cX5_areDishesRead 40 = .ok (.iload_n 2, 1) := by decide +kernel
theorem dX5_areDishesRead_41 : decode cX5_areDishesRead 41 = .ok (.iaload, 1) := by decide +kernel
theorem dX5_areDishesRead_42 : decode cX5_areDishesRead 42 = .ok (.ifCond .ge 5, 3) := by decide +kernel
theorem dX5_areDishesRead_45 : decode cX5_areDishesRead 45 = .ok (.iconst 0, 1) := by decide +kernel
theorem dX5_areDishesRead_46 : decode cX5_areDishesRead 46 = .ok (.ireturn, 1) := by decide +kernel
theorem dX5_areDishesRead_47 : decode cX5_areDishesRead 47 = .ok (.aload_n 0, 1) := by decide +kernel
theorem dX5_areDishesRead_48 : decode cX5_areDishesRead 48 = .ok (.getfield 15, 3) := by decide +kernel
theorem dX5_areDishesRead_51 : decode cX5_areDishesRead 51 = .ok (.iload_n 2, 1) := by decide +kernel
theorem dX5_areDishesRead_52 : decode cX5_areDishesRead 52 = .ok (.aload_n 0, 1) := by decide +kernel
theorem dX5_areDishesRead_53 : decode cX5_areDishesRead 53 = .ok (.aload_n 1, 1) := by decide +kernel
theorem dX5_areDishesRead_54 : decode cX5_areDishesRead 54 = .ok (.iconst 0, 1) := by decide +kernel
theorem dX5_areDishesRead_55 : decode cX5_areDishesRead 55 = .ok (.bipush 9, 2) := by decide +kernel
theorem dX5_areDishesRead_57 : decode cX5_areDishesRead 57 = .ok (.invokevirtual 56, 3) := by decide +kernel
theorem dX5_areDishesRead_60 : decode cX5_areDishesRead 60 = .ok (.iastore, 1) := by decide +kernel
theorem dX5_areDishesRead_61 : decode cX5_areDishesRead 61 = .ok (.aload_n 0, 1) := by decide +kernel
theorem dX5_areDishesRead_62 : decode cX5_areDishesRead 62 = .ok (.getfield 15, 3) := by decide +kernel
theorem dX5_areDishesRead_65 : decode cX5_areDishesRead 65 = .ok (.iload_n 2, 1) := by decide +kernel
theorem dX5_areDishesRead_66 : decode cX5_areDishesRead 66 = .ok (.iaload, 1) := by decide +kernel
theorem dX5_areDishesRead_67 : decode cX5_areDishesRead 67 = .ok (.ifCond .ge 5, 3) := by decide +kernel
theorem dX5_areDishesRead_70 : decode cX5_areDishesRead 70 = .ok (.iconst 0, 1) := by decide +kernel
theorem dX5_areDishesRead_71 : decode cX5_areDishesRead 71 = .ok (.ireturn, 1) := by decide +kernel
theorem dX5_areDishesRead_72 : decode cX5_areDishesRead 72 = .ok (.iinc 2 1, 3) := by decide +kernel
theorem dX5_areDishesRead_75 : decode cX5_areDishesRead 75 = .ok (.goto (-61), 3) := by decide +kernel
theorem dX5_areDishesRead_78 : decode cX5_areDishesRead 78 = .ok (.aload_n 0, 1) := by decide +kernel
theorem dX5_areDishesRead_79 : decode cX5_areDishesRead 79 = .ok (.getfield 60, 3) := by decide +kernel
theorem dX5_areDishesRead_82 : decode cX5_areDishesRead 82 = .ok (.ifCond .le 7, 3) := by decide +kernel
theorem dX5_areDishesRead_85 : decode cX5_areDishesRead 85 = .ok (.iconst 1, 1) := by decide +kernel
theorem dX5_areDishesRead_86 : decode cX5_areDishesRead 86 = .ok (.goto 4, 3) := by decide +kernel
theorem dX5_areDishesRead_89 : decode cX5_areDishesRead 89 = .ok (.iconst 0, 1) := by decide +kernel
theorem dX5_areDishesRead_90 : decode cX5_areDishesRead 90 = .ok (.ireturn, 1) := by decide +kernel
theorem dX5_areGuestsRead_0 : decode cX5_areGuestsRead 0 = .ok (.iconst 0, 1) := by decide +kernel
theorem dX5_areGuestsRead_1 : decode cX5_areGuestsRead 1 = .ok (.istore_n 2, 1) := by decide +kernel
theorem dX5_areGuestsRead_2 : decode cX5_areGuestsRead 2 = .ok (.iload_n 2, 1) := by decide +kernel
theorem dX5_areGuestsRead_3 : decode cX5_areGuestsRead 3 = .ok (.bipush 7, 2) := by decide +kernel
theorem dX5_areGuestsRead_5 : decode cX5_areGuestsRead 5 = .ok (.if_icmp .ge 38, 3) := by decide +kernel
theorem dX5_areGuestsRead_8 : decode cX5_areGuestsRead 8 = .ok (.aload_n 0, 1) := by decide +kernel
theorem dX5_areGuestsRead_9 : decode cX5_areGuestsRead 9 = .ok (.getfield 39, 3) := by decide +kernel
theorem dX5_areGuestsRead_12 : decode cX5_areGuestsRead 12 = .ok (.aload_n 0, 1) := by decide +kernel
theorem dX5_areGuestsRead_13 : decode cX5_areGuestsRead 13 = .ok (.getfield 36, 3) := by decide +kernel
theorem dX5_areGuestsRead_16 : decode cX5_areGuestsRead 16 = .ok (.if_icmp .ge 27, 3) := by decide +kernel
theorem dX5_areGuestsRead_19 : decode cX5_areGuestsRead 19 = .ok (.aload_n 0, 1) := by decide +kernel
theorem dX5_areGuestsRead_20 : decode cX5_areGuestsRead 20 = .ok (.aload_n 1, 1) := by decide +kernel
theorem dX5_areGuestsRead_21 : decode cX5_areGuestsRead 21 = .ok (.iload_n 2, 1) := by decide +kernel
theorem dX5_areGuestsRead_22 : decode cX5_areGuestsRead 22 = .ok (.invokevirtual 63, 3) := by decide +kernel
theorem dX5_areGuestsRead_25 : decode cX5_areGuestsRead 25 = .ok (.ifCond .ne 5, 3) := by decide +kernel
theorem dX5_areGuestsRead_28 : decode cX5_areGuestsRead 28 = .ok (.iconst 0, 1) := by decide +kernel
theorem dX5_areGuestsRead_29 : decode cX5_areGuestsRead 29 = .ok (.ireturn, 1) := by decide +kernel
theorem dX5_areGuestsRead_30 : decode cX5_areGuestsRead 30 = .ok (.aload_n 0, 1) := by decide +kernel
theorem dX5_areGuestsRead_31 : decode cX5_areGuestsRead 31 = .ok (.iload_n 2, 1) := by decide +kernel
theorem dX5_areGuestsRead_32 : decode cX5_areGuestsRead 32 = .ok (.iconst 1, 1) := by decide +kernel
theorem dX5_areGuestsRead_33 : decode cX5_areGuestsRead 33 = .ok (.iadd, 1) := by decide +kernel
theorem dX5_areGuestsRead_34 : decode cX5_areGuestsRead 34 = .ok (.putfield 42, 3) := by decide +kernel
theorem dX5_areGuestsRead_37 : decode cX5_areGuestsRead 37 = .ok (.iinc 2 1, 3) := by decide +kernel
theorem dX5_areGuestsRead_40 : decode cX5_areGuestsRead 40 = .ok (.goto (-38), 3) := by decide +kernel
theorem dX5_areGuestsRead_43 : decode cX5_areGuestsRead 43 = .ok (.aload_n 0, 1) := by decide +kernel
theorem dX5_areGuestsRead_44 : decode cX5_areGuestsRead 44 = .ok (.getfield 42, 3) := by decide +kernel
theorem dX5_areGuestsRead_47 : decode cX5_areGuestsRead 47 = .ok (.iconst 2, 1) := by decide +kernel
theorem dX5_areGuestsRead_48 : decode cX5_areGuestsRead 48 = .ok (.if_icmp .lt 18, 3) := by decide +kernel
theorem dX5_areGuestsRead_51 : decode cX5_areGuestsRead 51 = .ok (.aload_n 0, 1) := by decide +kernel
theorem dX5_areGuestsRead_52 : decode cX5_areGuestsRead 52 = .ok (.getfield 39, 3) := by decide +kernel
theorem dX5_areGuestsRead_55 : decode cX5_areGuestsRead 55 = .ok (.aload_n 0, 1) := by decide +kernel
theorem dX5_areGuestsRead_56 : decode cX5_areGuestsRead 56 = .ok (.getfield 36, 3) := by decide +kernel
theorem dX5_areGuestsRead_59 : decode cX5_areGuestsRead 59 = .ok (.if_icmp .ne 7, 3) := by decide +kernel
theorem dX5_areGuestsRead_62 : decode cX5_areGuestsRead 62 = .ok (.iconst 1, 1) := by decide +kernel
theorem dX5_areGuestsRead_63 : decode cX5_areGuestsRead 63 = .ok (.goto 4, 3) := by decide +kernel
theorem dX5_areGuestsRead_66 : decode cX5_areGuestsRead 66 = .ok (.iconst 0, 1) := by decide +kernel
theorem dX5_areGuestsRead_67 : decode cX5_areGuestsRead 67 = .ok (.ireturn, 1) := by decide +kernel
theorem dX5_isGuestRead_0 : decode cX5_isGuestRead 0 = .ok (.aload_n 0, 1) := by decide +kernel
theorem dX5_isGuestRead_1 : decode cX5_isGuestRead 1 = .ok (.aload_n 1, 1) := by decide +kernel
theorem dX5_isGuestRead_2 : decode cX5_isGuestRead 2 = .ok (.bipush 59, 2) := by decide +kernel
theorem dX5_isGuestRead_4 : decode cX5_isGuestRead 4 = .ok (.invokevirtual 45, 3) := by decide +kernel
theorem dX5_isGuestRead_7 : decode cX5_isGuestRead 7 = .ok (.ifCond .ne 5, 3) := by decide +kernel
theorem dX5_isGuestRead_10 : decode cX5_isGuestRead 10 = .ok (.iconst 0, 1) := by decide +kernel
theorem dX5_isGuestRead_11 : decode cX5_isGuestRead 11 = .ok (.ireturn, 1) := by decide +kernel
theorem dX5_isGuestRead_12 : decode cX5_isGuestRead 12 = .ok (.aload_n 0, 1) := by decide +kernel
theorem dX5_isGuestRead_13 : decode cX5_isGuestRead 13 = .ok (.getfield 18, 3) := by decide +kernel
theorem dX5_isGuestRead_16 : decode cX5_isGuestRead 16 = .ok (.iload_n 2, 1) := by decide +kernel
theorem dX5_isGuestRead_17 : decode cX5_isGuestRead 17 = .ok (.aload_n 0, 1) := by decide +kernel
theorem dX5_isGuestRead_18 : decode cX5_isGuestRead 18 = .ok (.aload_n 1, 1) := by decide +kernel
theorem dX5_isGuestRead_19 : decode cX5_isGuestRead 19 = .ok (.invokevirtual 67, 3) := by decide +kernel
theorem dX5_isGuestRead_22 : decode cX5_isGuestRead 22 = .ok (.iastore, 1) := by decide +kernel
theorem dX5_isGuestRead_23 : decode cX5_isGuestRead 23 = .ok (.aload_n 0, 1) := by decide +kernel
theorem dX5_isGuestRead_24 : decode cX5_isGuestRead 24 = .ok (.getfield 18, 3) := by decide +kernel
theorem dX5_isGuestRead_27 : decode cX5_isGuestRead 27 = .ok (.iload_n 2, 1) := by decide +kernel
theorem dX5_isGuestRead_28 : decode cX5_isGuestRead 28 = .ok (.iaload, 1) := by decide +kernel
theorem dX5_isGuestRead_29 : decode cX5_isGuestRead 29 = .ok (.ifCond .ge 5, 3) := by decide +kernel
theorem dX5_isGuestRead_32 : decode cX5_isGuestRead 32 = .ok (.iconst 0, 1) := by decide +kernel
theorem dX5_isGuestRead_33 : decode cX5_isGuestRead 33 = .ok (.ireturn, 1) := by decide +kernel
theorem dX5_isGuestRead_34 : decode cX5_isGuestRead 34 = .ok (.aload_n 0, 1) := by decide +kernel
theorem dX5_isGuestRead_35 : decode cX5_isGuestRead 35 = .ok (.getfield 21, 3) := by decide +kernel
theorem dX5_isGuestRead_38 : decode cX5_isGuestRead 38 = .ok (.iload_n 2, 1) := by decide +kernel
theorem dX5_isGuestRead_39 : decode cX5_isGuestRead 39 = .ok (.aload_n 0, 1) := by decide +kernel
theorem dX5_isGuestRead_40 : decode cX5_isGuestRead 40 = .ok (.aload_n 1, 1) := by decide +kernel
theorem dX5_isGuestRead_41 : decode cX5_isGuestRead 41 = .ok (.iconst 0, 1) := by decide +kernel
theorem dX5_isGuestRead_42 : decode cX5_isGuestRead 42 = .ok (.bipush 9, 2) := by decide +kernel
theorem dX5_isGuestRead_44 : decode cX5_isGuestRead 44 = .ok (.invokevirtual 56, 3) := by decide +kernel
theorem dX5_isGuestRead_47 : decode cX5_isGuestRead 47 = .ok (.iastore, 1) := by decide +kernel
theorem dX5_isGuestRead_48 : decode cX5_isGuestRead 48 = .ok (.aload_n 0, 1) := by decide +kernel
theorem dX5_isGuestRead_49 : decode cX5_isGuestRead 49 = .ok (.getfield 21, 3) := by decide +kernel
theorem dX5_isGuestRead_52 : decode cX5_isGuestRead 52 = .ok (.iload_n 2, 1) := by decide +kernel
theorem dX5_isGuestRead_53 : decode cX5_isGuestRead 53 = .ok (.iaload, 1) := by decide +kernel
theorem dX5_isGuestRead_54 : decode cX5_isGuestRead 54 = .ok (.ifCond .ge 5, 3) := by decide +kernel
theorem dX5_isGuestRead_57 : decode cX5_isGuestRead 57 = .ok (.iconst 0, 1) := by decide +kernel
theorem dX5_isGuestRead_58 : decode cX5_isGuestRead 58 = .ok (.ireturn, 1) := by decide +kernel
theorem dX5_isGuestRead_59 : decode cX5_isGuestRead 59 = .ok (.aload_n 0, 1) := by decide +kernel
theorem dX5_isGuestRead_60 : decode cX5_isGuestRead 60 = .ok (.getfield 24, 3) := by decide +kernel
theorem dX5_isGuestRead_63 : decode cX5_isGuestRead 63 = .ok (.iload_n 2, 1) := by decide +kernel
theorem dX5_isGuestRead_64 : decode cX5_isGuestRead 64 = .ok (.aload_n 0, 1) := by decide +kernel
theorem dX5_isGuestRead_65 : decode cX5_isGuestRead 65 = .ok (.getfield 18, 3) := by decide +kernel
theorem dX5_isGuestRead_68 : decode cX5_isGuestRead 68 = .ok (.iload_n 2, 1) := by decide +kernel
theorem dX5_isGuestRead_69 : decode cX5_isGuestRead 69 = .ok (.iaload, 1) := by decide +kernel
theorem dX5_isGuestRead_70 : decode cX5_isGuestRead 70 = .ok (.iconst 2, 1) := by decide +kernel
theorem dX5_isGuestRead_71 : decode cX5_isGuestRead 71 = .ok (.if_icmp .ne 14, 3) := by decide +kernel
theorem dX5_isGuestRead_74 : decode cX5_isGuestRead 74 = .ok (.aload_n 0, 1) := by decide +kernel
theorem dX5_isGuestRead_75 : decode cX5_isGuestRead 75 = .ok (.aload_n 1, 1) := by decide +kernel
theorem dX5_isGuestRead_76 : decode cX5_isGuestRead 76 = .ok (.iconst 0, 1) := by decide +kernel
theorem dX5_isGuestRead_77 : decode cX5_isGuestRead 77 = .ok (.bipush 9, 2) := by decide +kernel
theorem dX5_isGuestRead_79 : decode cX5_isGuestRead 79 = .ok (.invokevirtual 56, 3) := by decide +kernel
theorem dX5_isGuestRead_82 : decode cX5_isGuestRead 82 = .ok (.goto 4, 3) := by decide +kernel
theorem dX5_isGuestRead_85 : decode cX5_isGuestRead 85 = .ok (.iconst 0, 1) := by decide +kernel
theorem dX5_isGuestRead_86 : decode cX5_isGuestRead 86 = .ok (.iastore, 1) := by decide +kernel
theorem dX5_isGuestRead_87 : decode cX5_isGuestRead 87 = .ok (.aload_n 0, 1) := by decide +kernel
theorem dX5_isGuestRead_88 : decode cX5_isGuestRead 88 = .ok (.getfield 24, 3) := by decide +kernel
theorem dX5_isGuestRead_91 : decode cX5_isGuestRead 91 = .ok (.iload_n 2, 1) := by decide +kernel
theorem dX5_isGuestRead_92 : decode cX5_isGuestRead 92 = .ok (.iaload, 1) := by decide +kernel
theorem dX5_isGuestRead_93 : decode cX5_isGuestRead 93 = .ok (.ifCond .lt 16, 3) := by decide +kernel
theorem dX5_isGuestRead_96 : decode cX5_isGuestRead 96 = .ok (.aload_n 0, 1) := by decide +kernel
theorem dX5_isGuestRead_97 : decode cX5_isGuestRead 97 = .ok (.aload_n 1, 1) := by decide +kernel
theorem dX5_isGuestRead_98 : decode cX5_isGuestRead 98 = .ok (.iload_n 2, 1) := by decide +kernel
theorem dX5_isGuestRead_99 : decode cX5_isGuestRead 99 = .ok (.invokevirtual 71, 3) := by decide +kernel
theorem dX5_isGuestRead_102 : decode cX5_isGuestRead 102 = .ok (.ifCond .eq 7, 3) := by decide +kernel
theorem dX5_isGuestRead_105 : decode cX5_isGuestRead 105 = .ok (.iconst 1, 1) := by decide +kernel
theorem dX5_isGuestRead_106 : decode cX5_isGuestRead 106 = .ok (.goto 4, 3) := by decide +kernel
theorem dX5_isGuestRead_109 : decode cX5_isGuestRead 109 = .ok (.iconst 0, 1) := by decide +kernel
theorem dX5_isGuestRead_110 : decode cX5_isGuestRead 110 = .ok (.ireturn, 1) := by decide +kernel
theorem dX5_kindOfLetter_0 : decode cX5_kindOfLetter 0 = .ok (.aload_n 0, 1) := by decide +kernel
theorem dX5_kindOfLetter_1 : decode cX5_kindOfLetter 1 = .ok (.aload_n 1, 1) := by decide +kernel
theorem dX5_kindOfLetter_2 : decode cX5_kindOfLetter 2 = .ok (.bipush 107, 2) := by decide +kernel
theorem dX5_kindOfLetter_4 : decode cX5_kindOfLetter 4 = .ok (.invokevirtual 45, 3) := by decide +kernel
theorem dX5_kindOfLetter_7 : decode cX5_kindOfLetter 7 = .ok (.ifCond .eq 5, 3) := by decide +kernel
theorem dX5_kindOfLetter_10 : decode cX5_kindOfLetter 10 = .ok (.iconst 0, 1) := by decide +kernel
theorem dX5_kindOfLetter_11 : decode cX5_kindOfLetter 11 = .ok (.ireturn, 1) := by decide +kernel
theorem dX5_kindOfLetter_12 : decode cX5_kindOfLetter 12 = .ok (.aload_n 0, 1) := by decide +kernel
theorem dX5_kindOfLetter_13 : decode cX5_kindOfLetter 13 = .ok (.aload_n 1, 1) := by decide +kernel
theorem dX5_kindOfLetter_14 : decode cX5_kindOfLetter 14 = .ok (.bipush 99, 2) := by decide +kernel
theorem dX5_kindOfLetter_16 : decode cX5_kindOfLetter 16 = .ok (.invokevirtual 45, 3) := by decide +kernel
theorem dX5_kindOfLetter_19 : decode cX5_kindOfLetter 19 = .ok (.ifCond .eq 5, 3) := by decide +kernel
theorem dX5_kindOfLetter_22 : decode cX5_kindOfLetter 22 = .ok (.iconst 1, 1) := by decide +kernel
theorem dX5_kindOfLetter_23 : decode cX5_kindOfLetter 23 = .ok (.ireturn, 1) := by decide +kernel
theorem dX5_kindOfLetter_24 : decode cX5_kindOfLetter 24 = .ok (.aload_n 0, 1) := by decide +kernel
theorem dX5_kindOfLetter_25 : decode cX5_kindOfLetter 25 = .ok (.aload_n 1, 1) := by decide +kernel
theorem dX5_kindOfLetter_26 : decode cX5_kindOfLetter 26 = .ok (.bipush 112, 2) := by decide +kernel
theorem dX5_kindOfLetter_28 : decode cX5_kindOfLetter 28 = .ok (.invokevirtual 45, 3) := by decide +kernel
theorem dX5_kindOfLetter_31 : decode cX5_kindOfLetter 31 = .ok (.ifCond .eq 7, 3) := by decide +kernel
theorem dX5_kindOfLetter_34 : decode cX5_kindOfLetter 34 = .ok (.iconst 2, 1) := by decide +kernel
theorem dX5_kindOfLetter_35 : decode cX5_kindOfLetter 35 = .ok (.goto 4, 3) := by decide +kernel
theorem dX5_kindOfLetter_38 : decode cX5_kindOfLetter 38 = .ok (.iconst (-1), 1) := by decide +kernel
theorem dX5_kindOfLetter_39 : decode cX5_kindOfLetter 39 = .ok (.ireturn, 1) := by decide +kernel
theorem dX5_isWorthRead_0 : decode cX5_isWorthRead 0 = .ok (.iconst 0, 1) := by decide +kernel
theorem dX5_isWorthRead_1 : decode cX5_isWorthRead 1 = .ok (.istore_n 3, 1) := by decide +kernel
theorem dX5_isWorthRead_2 : decode cX5_isWorthRead 2 = .ok (.iconst 0, 1) := by decide +kernel
theorem dX5_isWorthRead_3 : decode cX5_isWorthRead 3 = .ok (.istore 4, 2) := by decide +kernel
theorem dX5_isWorthRead_5 : decode cX5_isWorthRead 5 = .ok (.iload 4, 2) := by decide +kernel
theorem dX5_isWorthRead_7 : decode cX5_isWorthRead 7 = .ok (.aload_n 0, 1) := by decide +kernel
theorem dX5_isWorthRead_8 : decode cX5_isWorthRead 8 = .ok (.getfield 60, 3) := by decide +kernel
theorem dX5_isWorthRead_11 : decode cX5_isWorthRead 11 = .ok (.if_icmp .ge 80, 3) := by decide +kernel
theorem dX5_isWorthRead_14 : decode cX5_isWorthRead 14 = .ok (.aload_n 0, 1) := by decide +kernel
theorem dX5_isWorthRead_15 : decode cX5_isWorthRead 15 = .ok (.getfield 29, 3) := by decide +kernel
theorem dX5_isWorthRead_18 : decode cX5_isWorthRead 18 = .ok (.iload_n 2, 1) := by decide +kernel
theorem dX5_isWorthRead_19 : decode cX5_isWorthRead 19 = .ok (.aaload, 1) := by decide +kernel
theorem dX5_isWorthRead_20 : decode cX5_isWorthRead 20 = .ok (.iload 4, 2) := by decide +kernel
theorem dX5_isWorthRead_22 : decode cX5_isWorthRead 22 = .ok (.aload_n 0, 1) := by decide +kernel
theorem dX5_isWorthRead_23 : decode cX5_isWorthRead 23 = .ok (.aload_n 1, 1) := by decide +kernel
theorem dX5_isWorthRead_24 : decode cX5_isWorthRead 24 = .ok (.iconst 0, 1) := by decide +kernel
theorem dX5_isWorthRead_25 : decode cX5_isWorthRead 25 = .ok (.bipush 9, 2) := by decide +kernel
theorem dX5_isWorthRead_27 : decode cX5_isWorthRead 27 = .ok (.invokevirtual 56, 3) := by decide +kernel
theorem dX5_isWorthRead_30 : decode cX5_isWorthRead 30 = .ok (.iastore, 1) := by decide +kernel
theorem dX5_isWorthRead_31 : decode cX5_isWorthRead 31 = .ok (.aload_n 0, 1) := by decide +kernel
theorem dX5_isWorthRead_32 : decode cX5_isWorthRead 32 = .ok (.getfield 29, 3) := by decide +kernel
theorem dX5_isWorthRead_35 : decode cX5_isWorthRead 35 = .ok (.iload_n 2, 1) := by decide +kernel
theorem dX5_isWorthRead_36 : decode cX5_isWorthRead 36 = .ok (.aaload, 1) := by decide +kernel
theorem dX5_isWorthRead_37 : decode cX5_isWorthRead 37 = .ok (.iload 4, 2) := by decide +kernel
theorem dX5_isWorthRead_39 : decode cX5_isWorthRead 39 = .ok (.iaload, 1) := by decide +kernel
theorem dX5_isWorthRead_40 : decode cX5_isWorthRead 40 = .ok (.ifCond .lt 8, 3) := by decide +kernel
theorem dX5_isWorthRead_43 : decode cX5_isWorthRead 43 = .ok (.iconst 1, 1) := by decide +kernel
theorem dX5_isWorthRead_44 : decode cX5_isWorthRead 44 = .ok (.istore_n 3, 1) := by decide +kernel
theorem dX5_isWorthRead_45 : decode cX5_isWorthRead 45 = .ok (.goto 40, 3) := by decide +kernel
theorem dX5_isWorthRead_48 : decode cX5_isWorthRead 48 = .ok (.iload 4, 2) := by decide +kernel
theorem dX5_isWorthRead_50 : decode cX5_isWorthRead 50 = .ok (.aload_n 0, 1) := by decide +kernel
theorem dX5_isWorthRead_51 : decode cX5_isWorthRead 51 = .ok (.getfield 60, 3) := by decide +kernel
theorem dX5_isWorthRead_54 : decode cX5_isWorthRead 54 = .ok (.iconst 1, 1) := by decide +kernel
theorem dX5_isWorthRead_55 : decode cX5_isWorthRead 55 = .ok (.isub, 1) := by decide +kernel
theorem dX5_isWorthRead_56 : decode cX5_isWorthRead 56 = .ok (.if_icmp .ne 7, 3) := by decide +kernel
theorem dX5_isWorthRead_59 : decode cX5_isWorthRead 59 = .ok (.iload_n 3, 1) := by decide +kernel
theorem dX5_isWorthRead_60 : decode cX5_isWorthRead 60 = .ok (.ifCond .eq 13, 3) := by decide +kernel
theorem dX5_isWorthRead_63 : decode cX5_isWorthRead 63 = .ok (.aload_n 0, 1) := by decide +kernel
theorem dX5_isWorthRead_64 : decode cX5_isWorthRead 64 = .ok (.aload_n 1, 1) := by decide +kernel
theorem dX5_isWorthRead_65 : decode cX5_isWorthRead 65 = .ok (.bipush 120, 2) := by decide +kernel
theorem dX5_isWorthRead_67 : decode cX5_isWorthRead 67 = .ok (.invokevirtual 45, 3) := by decide +kernel
theorem dX5_isWorthRead_70 : decode cX5_isWorthRead 70 = .ok (.ifCond .ne 5, 3) := by decide +kernel
theorem dX5_isWorthRead_73 : decode cX5_isWorthRead 73 = .ok (.iconst 0, 1) := by decide +kernel
theorem dX5_isWorthRead_74 : decode cX5_isWorthRead 74 = .ok (.ireturn, 1) := by decide +kernel
theorem dX5_isWorthRead_75 : decode cX5_isWorthRead 75 = .ok (.aload_n 0, 1) := by decide +kernel
theorem dX5_isWorthRead_76 : decode cX5_isWorthRead 76 = .ok (.getfield 29, 3) := by decide +kernel
theorem dX5_isWorthRead_79 : decode cX5_isWorthRead 79 = .ok (.iload_n 2, 1) := by decide +kernel
theorem dX5_isWorthRead_80 : decode cX5_isWorthRead 80 = .ok (.aaload, 1) := by decide +kernel
theorem dX5_isWorthRead_81 : decode cX5_isWorthRead 81 = .ok (.iload 4, 2) := by decide +kernel
theorem dX5_isWorthRead_83 : decode cX5_isWorthRead 83 = .ok (.iconst (-1), 1) := by decide +kernel
theorem dX5_isWorthRead_84 : decode cX5_isWorthRead 84 = .ok (.iastore, 1) := by decide +kernel
theorem dX5_isWorthRead_85 : decode cX5_isWorthRead 85 = .ok (.iinc 4 1, 3) := by decide +kernel
theorem dX5_isWorthRead_88 : decode cX5_isWorthRead 88 = .ok (.goto (-83), 3) := by decide +kernel
theorem dX5_isWorthRead_91 : decode cX5_isWorthRead 91 = .ok (.iconst 1, 1) := by decide +kernel
theorem dX5_isWorthRead_92 : decode cX5_isWorthRead 92 = .ok (.ireturn, 1) := by decide +kernel
theorem dX5_isSign_0 : decode cX5_isSign 0 = .ok (.aload_n 0, 1) := by decide +kernel
theorem dX5_isSign_1 : decode cX5_isSign 1 = .ok (.getfield 39, 3) := by decide +kernel
theorem dX5_isSign_4 : decode cX5_isSign 4 = .ok (.aload_n 0, 1) := by decide +kernel
theorem dX5_isSign_5 : decode cX5_isSign 5 = .ok (.getfield 36, 3) := by decide +kernel
theorem dX5_isSign_8 : decode cX5_isSign 8 = .ok (.if_icmp .ge 16, 3) := by decide +kernel
theorem dX5_isSign_11 : decode cX5_isSign 11 = .ok (.aload_n 1, 1) := by decide +kernel
theorem dX5_isSign_12 : decode cX5_isSign 12 = .ok (.getfield 74, 3) := by decide +kernel
theorem dX5_isSign_15 : decode cX5_isSign 15 = .ok (.aload_n 0, 1) := by decide +kernel
theorem dX5_isSign_16 : decode cX5_isSign 16 = .ok (.getfield 39, 3) := by decide +kernel
theorem dX5_isSign_19 : decode cX5_isSign 19 = .ok (.iaload, 1) := by decide +kernel
theorem dX5_isSign_20 : decode cX5_isSign 20 = .ok (.iload_n 2, 1) := by decide +kernel
theorem dX5_isSign_21 : decode cX5_isSign 21 = .ok (.if_icmp .eq 5, 3) := by decide +kernel
theorem dX5_isSign_24 : decode cX5_isSign 24 = .ok (.iconst 0, 1) := by decide +kernel
theorem dX5_isSign_25 : decode cX5_isSign 25 = .ok (.ireturn, 1) := by decide +kernel
theorem dX5_isSign_26 : decode cX5_isSign 26 = .ok (.aload_n 0, 1) := by decide +kernel
theorem dX5_isSign_27 : decode cX5_isSign 27 = .ok (.dup, 1) := by decide +kernel
theorem dX5_isSign_28 : decode cX5_isSign 28 = .ok (.getfield 39, 3) := by decide +kernel
theorem dX5_isSign_31 : decode cX5_isSign 31 = .ok (.iconst 1, 1) := by decide +kernel
theorem dX5_isSign_32 : decode cX5_isSign 32 = .ok (.iadd, 1) := by decide +kernel
theorem dX5_isSign_33 : decode cX5_isSign 33 = .ok (.putfield 39, 3) := by decide +kernel
theorem dX5_isSign_36 : decode cX5_isSign 36 = .ok (.iconst 1, 1) := by decide +kernel
theorem dX5_isSign_37 : decode cX5_isSign 37 = .ok (.ireturn, 1) := by decide +kernel
theorem dX5_digit_0 : decode cX5_digit 0 = .ok (.aload_n 0, 1) := by decide +kernel
theorem dX5_digit_1 : decode cX5_digit 1 = .ok (.getfield 39, 3) := by decide +kernel
theorem dX5_digit_4 : decode cX5_digit 4 = .ok (.aload_n 0, 1) := by decide +kernel
theorem dX5_digit_5 : decode cX5_digit 5 = .ok (.getfield 36, 3) := by decide +kernel
theorem dX5_digit_8 : decode cX5_digit 8 = .ok (.if_icmp .ge 35, 3) := by decide +kernel
theorem dX5_digit_11 : decode cX5_digit 11 = .ok (.aload_n 1, 1) := by decide +kernel
theorem dX5_digit_12 : decode cX5_digit 12 = .ok (.getfield 74, 3) := by decide +kernel
theorem dX5_digit_15 : decode cX5_digit 15 = .ok (.aload_n 0, 1) := by decide +kernel
theorem dX5_digit_16 : decode cX5_digit 16 = .ok (.getfield 39, 3) := by decide +kernel
theorem dX5_digit_19 : decode cX5_digit 19 = .ok (.iaload, 1) := by decide +kernel
theorem dX5_digit_20 : decode cX5_digit 20 = .ok (.bipush 48, 2) := by decide +kernel
theorem dX5_digit_22 : decode cX5_digit 22 = .ok (.iload_n 2, 1) := by decide +kernel
theorem dX5_digit_23 : decode cX5_digit 23 = .ok (.iadd, 1) := by decide +kernel
theorem dX5_digit_24 : decode cX5_digit 24 = .ok (.if_icmp .lt 19, 3) := by decide +kernel
theorem dX5_digit_27 : decode cX5_digit 27 = .ok (.aload_n 1, 1) := by decide +kernel
theorem dX5_digit_28 : decode cX5_digit 28 = .ok (.getfield 74, 3) := by decide +kernel
theorem dX5_digit_31 : decode cX5_digit 31 = .ok (.aload_n 0, 1) := by decide +kernel
theorem dX5_digit_32 : decode cX5_digit 32 = .ok (.getfield 39, 3) := by decide +kernel
theorem dX5_digit_35 : decode cX5_digit 35 = .ok (.iaload, 1) := by decide +kernel
theorem dX5_digit_36 : decode cX5_digit 36 = .ok (.bipush 48, 2) := by decide +kernel
theorem dX5_digit_38 : decode cX5_digit 38 = .ok (.iload_n 3, 1) := by decide +kernel
theorem dX5_digit_39 : decode cX5_digit 39 = .ok (.iadd, 1) := by decide +kernel
theorem dX5_digit_40 : decode cX5_digit 40 = .ok (.if_icmp .le 5, 3) := by decide +kernel
theorem dX5_digit_43 : decode cX5_digit 43 = .ok (.iconst (-1), 1) := by decide +kernel
theorem dX5_digit_44 : decode cX5_digit 44 = .ok (.ireturn, 1) := by decide +kernel
theorem dX5_digit_45 : decode cX5_digit 45 = .ok (.aload_n 1, 1) := by decide +kernel
theorem dX5_digit_46 : decode cX5_digit 46 = .ok (.getfield 74, 3) := by decide +kernel
theorem dX5_digit_49 : decode cX5_digit 49 = .ok (.aload_n 0, 1) := by decide +kernel
theorem dX5_digit_50 : decode cX5_digit 50 = .ok (.dup, 1) := by decide +kernel
theorem dX5_digit_51 : decode cX5_digit 51 = .ok (.getfield 39, 3) := by decide +kernel
theorem dX5_digit_54 : decode cX5_digit 54 = .ok (.dup_x1, 1) := by decide +kernel
theorem dX5_digit_55 : decode cX5_digit 55 = .ok (.iconst 1, 1) := by decide +kernel
theorem dX5_digit_56 : decode cX5_digit 56 = .ok (.iadd, 1) := by decide +kernel
theorem dX5_digit_57 : decode cX5_digit 57 = .ok (.putfield 39, 3) := by decide +kernel
theorem dX5_digit_60 : decode cX5_digit 60 = .ok (.iaload, 1) := by decide +kernel
theorem dX5_digit_61 : decode cX5_digit 61 = .ok (.bipush 48, 2) := by decide +kernel
theorem dX5_digit_63 : decode cX5_digit 63 = .ok (.isub, 1) := by decide +kernel
theorem dX5_digit_64 : decode cX5_digit 64 = .ok (.ireturn, 1) := by decide +kernel
theorem dJ7_fill_53178_0 : decode cJ7_fill_53178 0 = .ok (.iconst 0, 1) := by decide +kernel
theorem dJ7_fill_53178_1 : decode cJ7_fill_53178 1 = .ok (.istore_n 2, 1) := by decide +kernel
theorem dJ7_fill_53178_2 : decode cJ7_fill_53178 2 = .ok (.aload_n 0, 1) := by decide +kernel
theorem dJ7_fill_53178_3 : decode cJ7_fill_53178 3 = .ok (.arraylength, 1) := by decide +kernel
theorem dJ7_fill_53178_4 : decode cJ7_fill_53178 4 = .ok (.istore_n 3, 1) := by decide +kernel
theorem dJ7_fill_53178_5 : decode cJ7_fill_53178 5 = .ok (.iload_n 2, 1) := by decide +kernel
theorem dJ7_fill_53178_6 : decode cJ7_fill_53178 6 = .ok (.iload_n 3, 1) := by decide +kernel
theorem dJ7_fill_53178_7 : decode cJ7_fill_53178 7 = .ok (.if_icmp .ge 13, 3) := by decide +kernel
theorem dJ7_fill_53178_10 : decode cJ7_fill_53178 10 = .ok (.aload_n 0, 1) := by decide +kernel
theorem dJ7_fill_53178_11 : decode cJ7_fill_53178 11 = .ok (.iload_n 2, 1) := by decide +kernel
theorem dJ7_fill_53178_12 : decode cJ7_fill_53178 12 = .ok (.iload_n 1, 1) := by decide +kernel
theorem dJ7_fill_53178_13 : decode cJ7_fill_53178 13 = .ok (.iastore, 1) := by decide +kernel
theorem dJ7_fill_53178_14 : decode cJ7_fill_53178 14 = .ok (.iinc 2 1, 3) := by decide +kernel
theorem dJ7_fill_53178_17 : decode cJ7_fill_53178 17 = .ok (.goto (-12), 3) := by decide +kernel
theorem dJ7_fill_53178_20 : decode cJ7_fill_53178 20 = .ok (.return_, 1) := by decide +kernel
