/-! the instructions -/
theorem dX0_init_0 : decode cX0_init 0 = .ok (.aload_n 0, 1) := by decide +kernel
theorem dX0_init_1 : decode cX0_init 1 = .ok (.invokespecial 3, 3) := by decide +kernel
theorem dX0_init_4 : decode cX0_init 4 = .ok (.aload_n 0, 1) := by decide +kernel
theorem dX0_init_5 : decode cX0_init 5 = .ok (.iconst 4, 1) := by decide +kernel
theorem dX0_init_6 : decode cX0_init 6 = .ok (.anewarray 9, 3) := by decide +kernel
theorem dX0_init_9 : decode cX0_init 9 = .ok (.dup, 1) := by decide +kernel
theorem dX0_init_10 : decode cX0_init 10 = .ok (.iconst 0, 1) := by decide +kernel
theorem dX0_init_11 : decode cX0_init 11 = .ok (.new 9, 3) := by decide +kernel
theorem dX0_init_14 : decode cX0_init 14 = .ok (.dup, 1) := by decide +kernel
theorem dX0_init_15 : decode cX0_init 15 = .ok (.invokespecial 11, 3) := by decide +kernel
theorem dX0_init_18 : decode cX0_init 18 = .ok (.aastore, 1) := by decide +kernel
theorem dX0_init_19 : decode cX0_init 19 = .ok (.dup, 1) := by decide +kernel
theorem dX0_init_20 : decode cX0_init 20 = .ok (.iconst 1, 1) := by decide +kernel
theorem dX0_init_21 : decode cX0_init 21 = .ok (.new 9, 3) := by decide +kernel
theorem dX0_init_24 : decode cX0_init 24 = .ok (.dup, 1) := by decide +kernel
theorem dX0_init_25 : decode cX0_init 25 = .ok (.invokespecial 11, 3) := by decide +kernel
theorem dX0_init_28 : decode cX0_init 28 = .ok (.aastore, 1) := by decide +kernel
theorem dX0_init_29 : decode cX0_init 29 = .ok (.dup, 1) := by decide +kernel
theorem dX0_init_30 : decode cX0_init 30 = .ok (.iconst 2, 1) := by decide +kernel
theorem dX0_init_31 : decode cX0_init 31 = .ok (.new 9, 3) := by decide +kernel
theorem dX0_init_34 : decode cX0_init 34 = .ok (.dup, 1) := by decide +kernel
theorem dX0_init_35 : decode cX0_init 35 = .ok (.invokespecial 11, 3) := by decide +kernel
theorem dX0_init_38 : decode cX0_init 38 = .ok (.aastore, 1) := by decide +kernel
theorem dX0_init_39 : decode cX0_init 39 = .ok (.dup, 1) := by decide +kernel
theorem dX0_init_40 : decode cX0_init 40 = .ok (.iconst 3, 1) := by decide +kernel
theorem dX0_init_41 : decode cX0_init 41 = .ok (.new 9, 3) := by decide +kernel
theorem dX0_init_44 : decode cX0_init 44 = .ok (.dup, 1) := by decide +kernel
theorem dX0_init_45 : decode cX0_init 45 = .ok (.invokespecial 11, 3) := by decide +kernel
theorem dX0_init_48 : decode cX0_init 48 = .ok (.aastore, 1) := by decide +kernel
theorem dX0_init_49 : decode cX0_init 49 = .ok (.putfield 12, 3) := by decide +kernel
theorem dX0_init_52 : decode cX0_init 52 = .ok (.return_, 1) := by decide +kernel
theorem dX0_keep_0 : decode cX0_keep 0 = .ok (.aload_n 0, 1) := by decide +kernel
theorem dX0_keep_1 : decode cX0_keep 1 = .ok (.getfield 12, 3) := by decide +kernel
theorem dX0_keep_4 : decode cX0_keep 4 = .ok (.aload_n 0, 1) := by decide +kernel
theorem dX0_keep_5 : decode cX0_keep 5 = .ok (.aload_n 0, 1) := by decide +kernel
theorem dX0_keep_6 : decode cX0_keep 6 = .ok (.getfield 18, 3) := by decide +kernel
theorem dX0_keep_9 : decode cX0_keep 9 = .ok (.invokevirtual 22, 3) := by decide +kernel
theorem dX0_keep_12 : decode cX0_keep 12 = .ok (.aaload, 1) := by decide +kernel
theorem dX0_keep_13 : decode cX0_keep 13 = .ok (.aload_n 1, 1) := by decide +kernel
theorem dX0_keep_14 : decode cX0_keep 14 = .ok (.invokevirtual 26, 3) := by decide +kernel
theorem dX0_keep_17 : decode cX0_keep 17 = .ok (.aload_n 0, 1) := by decide +kernel
theorem dX0_keep_18 : decode cX0_keep 18 = .ok (.getfield 18, 3) := by decide +kernel
theorem dX0_keep_21 : decode cX0_keep 21 = .ok (.iconst 4, 1) := by decide +kernel
theorem dX0_keep_22 : decode cX0_keep 22 = .ok (.if_icmp .ge 16, 3) := by decide +kernel
theorem dX0_keep_25 : decode cX0_keep 25 = .ok (.aload_n 0, 1) := by decide +kernel
theorem dX0_keep_26 : decode cX0_keep 26 = .ok (.dup, 1) := by decide +kernel
theorem dX0_keep_27 : decode cX0_keep 27 = .ok (.getfield 18, 3) := by decide +kernel
theorem dX0_keep_30 : decode cX0_keep 30 = .ok (.iconst 1, 1) := by decide +kernel
theorem dX0_keep_31 : decode cX0_keep 31 = .ok (.iadd, 1) := by decide +kernel
theorem dX0_keep_32 : decode cX0_keep 32 = .ok (.putfield 18, 3) := by decide +kernel
theorem dX0_keep_35 : decode cX0_keep 35 = .ok (.goto 12, 3) := by decide +kernel
theorem dX0_keep_38 : decode cX0_keep 38 = .ok (.aload_n 0, 1) := by decide +kernel
theorem dX0_keep_39 : decode cX0_keep 39 = .ok (.aload_n 0, 1) := by decide +kernel
theorem dX0_keep_40 : decode cX0_keep 40 = .ok (.iconst 1, 1) := by decide +kernel
theorem dX0_keep_41 : decode cX0_keep 41 = .ok (.invokevirtual 22, 3) := by decide +kernel
theorem dX0_keep_44 : decode cX0_keep 44 = .ok (.putfield 30, 3) := by decide +kernel
theorem dX0_keep_47 : decode cX0_keep 47 = .ok (.return_, 1) := by decide +kernel
theorem dX0_giveBack_0 : decode cX0_giveBack 0 = .ok (.aload_n 0, 1) := by decide +kernel
theorem dX0_giveBack_1 : decode cX0_giveBack 1 = .ok (.getfield 18, 3) := by decide +kernel
theorem dX0_giveBack_4 : decode cX0_giveBack 4 = .ok (.ifCond .le 30, 3) := by decide +kernel
theorem dX0_giveBack_7 : decode cX0_giveBack 7 = .ok (.aload_n 0, 1) := by decide +kernel
theorem dX0_giveBack_8 : decode cX0_giveBack 8 = .ok (.dup, 1) := by decide +kernel
theorem dX0_giveBack_9 : decode cX0_giveBack 9 = .ok (.getfield 18, 3) := by decide +kernel
theorem dX0_giveBack_12 : decode cX0_giveBack 12 = .ok (.iconst 1, 1) := by decide +kernel
theorem dX0_giveBack_13 : decode cX0_giveBack 13 = .ok (.isub, 1) := by decide +kernel
theorem dX0_giveBack_14 : decode cX0_giveBack 14 = .ok (.putfield 18, 3) := by decide +kernel
theorem dX0_giveBack_17 : decode cX0_giveBack 17 = .ok (.aload_n 1, 1) := by decide +kernel
theorem dX0_giveBack_18 : decode cX0_giveBack 18 = .ok (.aload_n 0, 1) := by decide +kernel
theorem dX0_giveBack_19 : decode cX0_giveBack 19 = .ok (.getfield 12, 3) := by decide +kernel
theorem dX0_giveBack_22 : decode cX0_giveBack 22 = .ok (.aload_n 0, 1) := by decide +kernel
theorem dX0_giveBack_23 : decode cX0_giveBack 23 = .ok (.aload_n 0, 1) := by decide +kernel
theorem dX0_giveBack_24 : decode cX0_giveBack 24 = .ok (.getfield 18, 3) := by decide +kernel
theorem dX0_giveBack_27 : decode cX0_giveBack 27 = .ok (.invokevirtual 22, 3) := by decide +kernel
theorem dX0_giveBack_30 : decode cX0_giveBack 30 = .ok (.aaload, 1) := by decide +kernel
theorem dX0_giveBack_31 : decode cX0_giveBack 31 = .ok (.invokevirtual 26, 3) := by decide +kernel
theorem dX0_giveBack_34 : decode cX0_giveBack 34 = .ok (.return_, 1) := by decide +kernel
theorem dX0_rowOf_0 : decode cX0_rowOf 0 = .ok (.aload_n 0, 1) := by decide +kernel
theorem dX0_rowOf_1 : decode cX0_rowOf 1 = .ok (.getfield 30, 3) := by decide +kernel
theorem dX0_rowOf_4 : decode cX0_rowOf 4 = .ok (.iload_n 1, 1) := by decide +kernel
theorem dX0_rowOf_5 : decode cX0_rowOf 5 = .ok (.iadd, 1) := by decide +kernel
theorem dX0_rowOf_6 : decode cX0_rowOf 6 = .ok (.iconst 4, 1) := by decide +kernel
theorem dX0_rowOf_7 : decode cX0_rowOf 7 = .ok (.invokestatic 33, 3) := by decide +kernel
theorem dX0_rowOf_10 : decode cX0_rowOf 10 = .ok (.ireturn, 1) := by decide +kernel
theorem dX1_init_0 : decode cX1_init 0 = .ok (.aload_n 0, 1) := by decide +kernel
theorem dX1_init_1 : decode cX1_init 1 = .ok (.invokespecial 3, 3) := by decide +kernel
theorem dX1_init_4 : decode cX1_init 4 = .ok (.aload_n 0, 1) := by decide +kernel
theorem dX1_init_5 : decode cX1_init 5 = .ok (.ldc 9, 2) := by decide +kernel
theorem dX1_init_7 : decode cX1_init 7 = .ok (.putfield 10, 3) := by decide +kernel
theorem dX1_init_10 : decode cX1_init 10 = .ok (.aload_n 0, 1) := by decide +kernel
theorem dX1_init_11 : decode cX1_init 11 = .ok (.iconst 3, 1) := by decide +kernel
theorem dX1_init_12 : decode cX1_init 12 = .ok (.newarray .int, 2) := by decide +kernel
theorem dX1_init_14 : decode cX1_init 14 = .ok (.dup, 1) := by decide +kernel
theorem dX1_init_15 : decode cX1_init 15 = .ok (.iconst 0, 1) := by decide +kernel
theorem dX1_init_16 : decode cX1_init 16 = .ok (.bipush 120, 2) := by decide +kernel
theorem dX1_init_18 : decode cX1_init 18 = .ok (.iastore, 1) := by decide +kernel
theorem dX1_init_19 : decode cX1_init 19 = .ok (.dup, 1) := by decide +kernel
theorem dX1_init_20 : decode cX1_init 20 = .ok (.iconst 1, 1) := by decide +kernel
theorem dX1_init_21 : decode cX1_init 21 = .ok (.bipush 40, 2) := by decide +kernel
theorem dX1_init_23 : decode cX1_init 23 = .ok (.iastore, 1) := by decide +kernel
theorem dX1_init_24 : decode cX1_init 24 = .ok (.dup, 1) := by decide +kernel
theorem dX1_init_25 : decode cX1_init 25 = .ok (.iconst 2, 1) := by decide +kernel
theorem dX1_init_26 : decode cX1_init 26 = .ok (.sipush 1500, 3) := by decide +kernel
theorem dX1_init_29 : decode cX1_init 29 = .ok (.iastore, 1) := by decide +kernel
theorem dX1_init_30 : decode cX1_init 30 = .ok (.putfield 16, 3) := by decide +kernel
theorem dX1_init_33 : decode cX1_init 33 = .ok (.aload_n 0, 1) := by decide +kernel
theorem dX1_init_34 : decode cX1_init 34 = .ok (.bipush 7, 2) := by decide +kernel
theorem dX1_init_36 : decode cX1_init 36 = .ok (.newarray .int, 2) := by decide +kernel
theorem dX1_init_38 : decode cX1_init 38 = .ok (.putfield 20, 3) := by decide +kernel
theorem dX1_init_41 : decode cX1_init 41 = .ok (.aload_n 0, 1) := by decide +kernel
theorem dX1_init_42 : decode cX1_init 42 = .ok (.bipush 60, 2) := by decide +kernel
theorem dX1_init_44 : decode cX1_init 44 = .ok (.newarray .int, 2) := by decide +kernel
theorem dX1_init_46 : decode cX1_init 46 = .ok (.putfield 23, 3) := by decide +kernel
theorem dX1_init_49 : decode cX1_init 49 = .ok (.return_, 1) := by decide +kernel
theorem dX1_copyFrom_0 : decode cX1_copyFrom 0 = .ok (.aload_n 0, 1) := by decide +kernel
theorem dX1_copyFrom_1 : decode cX1_copyFrom 1 = .ok (.aload_n 1, 1) := by decide +kernel
theorem dX1_copyFrom_2 : decode cX1_copyFrom 2 = .ok (.getfield 26, 3) := by decide +kernel
theorem dX1_copyFrom_5 : decode cX1_copyFrom 5 = .ok (.putfield 26, 3) := by decide +kernel
theorem dX1_copyFrom_8 : decode cX1_copyFrom 8 = .ok (.aload_n 0, 1) := by decide +kernel
theorem dX1_copyFrom_9 : decode cX1_copyFrom 9 = .ok (.aload_n 1, 1) := by decide +kernel
theorem dX1_copyFrom_10 : decode cX1_copyFrom 10 = .ok (.getfield 10, 3) := by decide +kernel
theorem dX1_copyFrom_13 : decode cX1_copyFrom 13 = .ok (.putfield 10, 3) := by decide +kernel
theorem dX1_copyFrom_16 : decode cX1_copyFrom 16 = .ok (.aload_n 0, 1) := by decide +kernel
theorem dX1_copyFrom_17 : decode cX1_copyFrom 17 = .ok (.aload_n 1, 1) := by decide +kernel
theorem dX1_copyFrom_18 : decode cX1_copyFrom 18 = .ok (.getfield 29, 3) := by decide +kernel
theorem dX1_copyFrom_21 : decode cX1_copyFrom 21 = .ok (.putfield 29, 3) := by decide +kernel
theorem dX1_copyFrom_24 : decode cX1_copyFrom 24 = .ok (.aload_n 0, 1) := by decide +kernel
theorem dX1_copyFrom_25 : decode cX1_copyFrom 25 = .ok (.aload_n 1, 1) := by decide +kernel
theorem dX1_copyFrom_26 : decode cX1_copyFrom 26 = .ok (.getfield 32, 3) := by decide +kernel
theorem dX1_copyFrom_29 : decode cX1_copyFrom 29 = .ok (.putfield 32, 3) := by decide +kernel
theorem dX1_copyFrom_32 : decode cX1_copyFrom 32 = .ok (.aload_n 0, 1) := by decide +kernel
theorem dX1_copyFrom_33 : decode cX1_copyFrom 33 = .ok (.aload_n 1, 1) := by decide +kernel
theorem dX1_copyFrom_34 : decode cX1_copyFrom 34 = .ok (.getfield 35, 3) := by decide +kernel
theorem dX1_copyFrom_37 : decode cX1_copyFrom 37 = .ok (.putfield 35, 3) := by decide +kernel
theorem dX1_copyFrom_40 : decode cX1_copyFrom 40 = .ok (.aload_n 0, 1) := by decide +kernel
theorem dX1_copyFrom_41 : decode cX1_copyFrom 41 = .ok (.aload_n 1, 1) := by decide +kernel
theorem dX1_copyFrom_42 : decode cX1_copyFrom 42 = .ok (.getfield 38, 3) := by decide +kernel
theorem dX1_copyFrom_45 : decode cX1_copyFrom 45 = .ok (.putfield 38, 3) := by decide +kernel
theorem dX1_copyFrom_48 : decode cX1_copyFrom 48 = .ok (.aload_n 0, 1) := by decide +kernel
theorem dX1_copyFrom_49 : decode cX1_copyFrom 49 = .ok (.aload_n 1, 1) := by decide +kernel
theorem dX1_copyFrom_50 : decode cX1_copyFrom 50 = .ok (.getfield 41, 3) := by decide +kernel
theorem dX1_copyFrom_53 : decode cX1_copyFrom 53 = .ok (.putfield 41, 3) := by decide +kernel
theorem dX1_copyFrom_56 : decode cX1_copyFrom 56 = .ok (.aload_n 0, 1) := by decide +kernel
theorem dX1_copyFrom_57 : decode cX1_copyFrom 57 = .ok (.aload_n 1, 1) := by decide +kernel
theorem dX1_copyFrom_58 : decode cX1_copyFrom 58 = .ok (.getfield 44, 3) := by decide +kernel
theorem dX1_copyFrom_61 : decode cX1_copyFrom 61 = .ok (.putfield 44, 3) := by decide +kernel
theorem dX1_copyFrom_64 : decode cX1_copyFrom 64 = .ok (.aload_n 1, 1) := by decide +kernel
theorem dX1_copyFrom_65 : decode cX1_copyFrom 65 = .ok (.getfield 16, 3) := by decide +kernel
theorem dX1_copyFrom_68 : decode cX1_copyFrom 68 = .ok (.iconst 0, 1) := by decide +kernel
theorem dX1_copyFrom_69 : decode cX1_copyFrom 69 = .ok (.aload_n 0, 1) := by decide +kernel
theorem dX1_copyFrom_70 : decode cX1_copyFrom 70 = .ok (.getfield 16, 3) := by decide +kernel
theorem dX1_copyFrom_73 : decode cX1_copyFrom 73 = .ok (.iconst 0, 1) := by decide +kernel
theorem dX1_copyFrom_74 : decode cX1_copyFrom 74 = .ok (.iconst 3, 1) := by decide +kernel
theorem dX1_copyFrom_75 : decode cX1_copyFrom 75 = .ok (.invokestatic 47, 3) := by decide +kernel
theorem dX1_copyFrom_78 : decode cX1_copyFrom 78 = .ok (.aload_n 1, 1) := by decide +kernel
theorem dX1_copyFrom_79 : decode cX1_copyFrom 79 = .ok (.getfield 20, 3) := by decide +kernel
theorem dX1_copyFrom_82 : decode cX1_copyFrom 82 = .ok (.iconst 0, 1) := by decide +kernel
theorem dX1_copyFrom_83 : decode cX1_copyFrom 83 = .ok (.aload_n 0, 1) := by decide +kernel
theorem dX1_copyFrom_84 : decode cX1_copyFrom 84 = .ok (.getfield 20, 3) := by decide +kernel
theorem dX1_copyFrom_87 : decode cX1_copyFrom 87 = .ok (.iconst 0, 1) := by decide +kernel
theorem dX1_copyFrom_88 : decode cX1_copyFrom 88 = .ok (.bipush 7, 2) := by decide +kernel
theorem dX1_copyFrom_90 : decode cX1_copyFrom 90 = .ok (.invokestatic 47, 3) := by decide +kernel
theorem dX1_copyFrom_93 : decode cX1_copyFrom 93 = .ok (.aload_n 1, 1) := by decide +kernel
theorem dX1_copyFrom_94 : decode cX1_copyFrom 94 = .ok (.getfield 23, 3) := by decide +kernel
theorem dX1_copyFrom_97 : decode cX1_copyFrom 97 = .ok (.iconst 0, 1) := by decide +kernel
theorem dX1_copyFrom_98 : decode cX1_copyFrom 98 = .ok (.aload_n 0, 1) := by decide +kernel
theorem dX1_copyFrom_99 : decode cX1_copyFrom 99 = .ok (.getfield 23, 3) := by decide +kernel
theorem dX1_copyFrom_102 : decode cX1_copyFrom 102 = .ok (.iconst 0, 1) := by decide +kernel
theorem dX1_copyFrom_103 : decode cX1_copyFrom 103 = .ok (.bipush 60, 2) := by decide +kernel
theorem dX1_copyFrom_105 : decode cX1_copyFrom 105 = .ok (.invokestatic 47, 3) := by decide +kernel
theorem dX1_copyFrom_108 : decode cX1_copyFrom 108 = .ok (.return_, 1) := by decide +kernel
theorem dX1_level_0 : decode cX1_level 0 = .ok (.aload_n 0, 1) := by decide +kernel
theorem dX1_level_1 : decode cX1_level 1 = .ok (.getfield 10, 3) := by decide +kernel
theorem dX1_level_4 : decode cX1_level 4 = .ok (.aload_n 0, 1) := by decide +kernel
theorem dX1_level_5 : decode cX1_level 5 = .ok (.getfield 29, 3) := by decide +kernel
theorem dX1_level_8 : decode cX1_level 8 = .ok (.iadd, 1) := by decide +kernel
theorem dX1_level_9 : decode cX1_level 9 = .ok (.bipush 100, 2) := by decide +kernel
theorem dX1_level_11 : decode cX1_level 11 = .ok (.idiv, 1) := by decide +kernel
theorem dX1_level_12 : decode cX1_level 12 = .ok (.sipush 400, 3) := by decide +kernel
theorem dX1_level_15 : decode cX1_level 15 = .ok (.isub, 1) := by decide +kernel
theorem dX1_level_16 : decode cX1_level 16 = .ok (.ireturn, 1) := by decide +kernel
theorem dX1_head_0 : decode cX1_head 0 = .ok (.aload_n 0, 1) := by decide +kernel
theorem dX1_head_1 : decode cX1_head 1 = .ok (.getfield 26, 3) := by decide +kernel
theorem dX1_head_4 : decode cX1_head 4 = .ok (.invokestatic 53, 3) := by decide +kernel
theorem dX1_head_7 : decode cX1_head 7 = .ok (.aload_n 0, 1) := by decide +kernel
theorem dX1_head_8 : decode cX1_head 8 = .ok (.invokevirtual 57, 3) := by decide +kernel
theorem dX1_head_11 : decode cX1_head 11 = .ok (.isub, 1) := by decide +kernel
theorem dX1_head_12 : decode cX1_head 12 = .ok (.ireturn, 1) := by decide +kernel
theorem dX1_isBirdHour_0 : decode cX1_isBirdHour 0 = .ok (.aload_n 0, 1) := by decide +kernel
theorem dX1_isBirdHour_1 : decode cX1_isBirdHour 1 = .ok (.getfield 26, 3) := by decide +kernel
theorem dX1_isBirdHour_4 : decode cX1_isBirdHour 4 = .ok (.sipush 144, 3) := by decide +kernel
theorem dX1_isBirdHour_7 : decode cX1_isBirdHour 7 = .ok (.irem, 1) := by decide +kernel
theorem dX1_isBirdHour_8 : decode cX1_isBirdHour 8 = .ok (.istore_n 1, 1) := by decide +kernel
theorem dX1_isBirdHour_9 : decode cX1_isBirdHour 9 = .ok (.aload_n 0, 1) := by decide +kernel
theorem dX1_isBirdHour_10 : decode cX1_isBirdHour 10 = .ok (.getfield 41, 3) := by decide +kernel
theorem dX1_isBirdHour_13 : decode cX1_isBirdHour 13 = .ok (.iload_n 1, 1) := by decide +kernel
theorem dX1_isBirdHour_14 : decode cX1_isBirdHour 14 = .ok (.if_icmp .gt 15, 3) := by decide +kernel
theorem dX1_isBirdHour_17 : decode cX1_isBirdHour 17 = .ok (.iload_n 1, 1) := by decide +kernel
theorem dX1_isBirdHour_18 : decode cX1_isBirdHour 18 = .ok (.aload_n 0, 1) := by decide +kernel
theorem dX1_isBirdHour_19 : decode cX1_isBirdHour 19 = .ok (.getfield 44, 3) := by decide +kernel
theorem dX1_isBirdHour_22 : decode cX1_isBirdHour 22 = .ok (.if_icmp .ge 7, 3) := by decide +kernel
theorem dX1_isBirdHour_25 : decode cX1_isBirdHour 25 = .ok (.iconst 1, 1) := by decide +kernel
theorem dX1_isBirdHour_26 : decode cX1_isBirdHour 26 = .ok (.goto 4, 3) := by decide +kernel
theorem dX1_isBirdHour_29 : decode cX1_isBirdHour 29 = .ok (.iconst 0, 1) := by decide +kernel
theorem dX1_isBirdHour_30 : decode cX1_isBirdHour 30 = .ok (.ireturn, 1) := by decide +kernel
theorem dX1_gain_0 : decode cX1_gain 0 = .ok (.aload_n 0, 1) := by decide +kernel
theorem dX1_gain_1 : decode cX1_gain 1 = .ok (.getfield 20, 3) := by decide +kernel
theorem dX1_gain_4 : decode cX1_gain 4 = .ok (.iconst 0, 1) := by decide +kernel
theorem dX1_gain_5 : decode cX1_gain 5 = .ok (.iaload, 1) := by decide +kernel
theorem dX1_gain_6 : decode cX1_gain 6 = .ok (.aload_n 0, 1) := by decide +kernel
theorem dX1_gain_7 : decode cX1_gain 7 = .ok (.getfield 20, 3) := by decide +kernel
theorem dX1_gain_10 : decode cX1_gain 10 = .ok (.iconst 1, 1) := by decide +kernel
theorem dX1_gain_11 : decode cX1_gain 11 = .ok (.iaload, 1) := by decide +kernel
theorem dX1_gain_12 : decode cX1_gain 12 = .ok (.isub, 1) := by decide +kernel
theorem dX1_gain_13 : decode cX1_gain 13 = .ok (.ireturn, 1) := by decide +kernel
theorem dX1_lastDay_0 : decode cX1_lastDay 0 = .ok (.aload_n 0, 1) := by decide +kernel
theorem dX1_lastDay_1 : decode cX1_lastDay 1 = .ok (.getfield 26, 3) := by decide +kernel
theorem dX1_lastDay_4 : decode cX1_lastDay 4 = .ok (.iconst 1, 1) := by decide +kernel
theorem dX1_lastDay_5 : decode cX1_lastDay 5 = .ok (.isub, 1) := by decide +kernel
theorem dX1_lastDay_6 : decode cX1_lastDay 6 = .ok (.sipush 144, 3) := by decide +kernel
theorem dX1_lastDay_9 : decode cX1_lastDay 9 = .ok (.invokestatic 61, 3) := by decide +kernel
theorem dX1_lastDay_12 : decode cX1_lastDay 12 = .ok (.ireturn, 1) := by decide +kernel
theorem dX1_firstDay_0 : decode cX1_firstDay 0 = .ok (.iconst 0, 1) := by decide +kernel
theorem dX1_firstDay_1 : decode cX1_firstDay 1 = .ok (.aload_n 0, 1) := by decide +kernel
theorem dX1_firstDay_2 : decode cX1_firstDay 2 = .ok (.invokevirtual 67, 3) := by decide +kernel
theorem dX1_firstDay_5 : decode cX1_firstDay 5 = .ok (.bipush 10, 2) := by decide +kernel
theorem dX1_firstDay_7 : decode cX1_firstDay 7 = .ok (.isub, 1) := by decide +kernel
theorem dX1_firstDay_8 : decode cX1_firstDay 8 = .ok (.iconst 1, 1) := by decide +kernel
theorem dX1_firstDay_9 : decode cX1_firstDay 9 = .ok (.iadd, 1) := by decide +kernel
theorem dX1_firstDay_10 : decode cX1_firstDay 10 = .ok (.invokestatic 70, 3) := by decide +kernel
theorem dX1_firstDay_13 : decode cX1_firstDay 13 = .ok (.ireturn, 1) := by decide +kernel
theorem dX1_openGates_0 : decode cX1_openGates 0 = .ok (.iload_n 1, 1) := by decide +kernel
theorem dX1_openGates_1 : decode cX1_openGates 1 = .ok (.ifCond .lt 9, 3) := by decide +kernel
theorem dX1_openGates_4 : decode cX1_openGates 4 = .ok (.iload_n 1, 1) := by decide +kernel
theorem dX1_openGates_5 : decode cX1_openGates 5 = .ok (.bipush 8, 2) := by decide +kernel
theorem dX1_openGates_7 : decode cX1_openGates 7 = .ok (.if_icmp .le 6, 3) := by decide +kernel
theorem dX1_openGates_10 : decode cX1_openGates 10 = .ok (.ldc 73, 2) := by decide +kernel
theorem dX1_openGates_12 : decode cX1_openGates 12 = .ok (.ireturn, 1) := by decide +kernel
theorem dX1_openGates_13 : decode cX1_openGates 13 = .ok (.aload_n 0, 1) := by decide +kernel
theorem dX1_openGates_14 : decode cX1_openGates 14 = .ok (.getfield 32, 3) := by decide +kernel
theorem dX1_openGates_17 : decode cX1_openGates 17 = .ok (.istore_n 2, 1) := by decide +kernel
theorem dX1_openGates_18 : decode cX1_openGates 18 = .ok (.aload_n 0, 1) := by decide +kernel
theorem dX1_openGates_19 : decode cX1_openGates 19 = .ok (.iload_n 1, 1) := by decide +kernel
theorem dX1_openGates_20 : decode cX1_openGates 20 = .ok (.putfield 32, 3) := by decide +kernel
theorem dX1_openGates_23 : decode cX1_openGates 23 = .ok (.iload_n 2, 1) := by decide +kernel
theorem dX1_openGates_24 : decode cX1_openGates 24 = .ok (.ireturn, 1) := by decide +kernel
theorem dX1_openTurbines_0 : decode cX1_openTurbines 0 = .ok (.iload_n 1, 1) := by decide +kernel
theorem dX1_openTurbines_1 : decode cX1_openTurbines 1 = .ok (.ifCond .lt 9, 3) := by decide +kernel
theorem dX1_openTurbines_4 : decode cX1_openTurbines 4 = .ok (.iload_n 1, 1) := by decide +kernel
theorem dX1_openTurbines_5 : decode cX1_openTurbines 5 = .ok (.bipush 6, 2) := by decide +kernel
theorem dX1_openTurbines_7 : decode cX1_openTurbines 7 = .ok (.if_icmp .le 6, 3) := by decide +kernel
theorem dX1_openTurbines_10 : decode cX1_openTurbines 10 = .ok (.ldc 73, 2) := by decide +kernel
theorem dX1_openTurbines_12 : decode cX1_openTurbines 12 = .ok (.ireturn, 1) := by decide +kernel
theorem dX1_openTurbines_13 : decode cX1_openTurbines 13 = .ok (.aload_n 0, 1) := by decide +kernel
theorem dX1_openTurbines_14 : decode cX1_openTurbines 14 = .ok (.getfield 35, 3) := by decide +kernel
theorem dX1_openTurbines_17 : decode cX1_openTurbines 17 = .ok (.istore_n 2, 1) := by decide +kernel
theorem dX1_openTurbines_18 : decode cX1_openTurbines 18 = .ok (.aload_n 0, 1) := by decide +kernel
theorem dX1_openTurbines_19 : decode cX1_openTurbines 19 = .ok (.iload_n 1, 1) := by decide +kernel
theorem dX1_openTurbines_20 : decode cX1_openTurbines 20 = .ok (.putfield 35, 3) := by decide +kernel
theorem dX1_openTurbines_23 : decode cX1_openTurbines 23 = .ok (.iload_n 2, 1) := by decide +kernel
theorem dX1_openTurbines_24 : decode cX1_openTurbines 24 = .ok (.ireturn, 1) := by decide +kernel
theorem dX1_setPump_0 : decode cX1_setPump 0 = .ok (.iload_n 1, 1) := by decide +kernel
theorem dX1_setPump_1 : decode cX1_setPump 1 = .ok (.sipush (-500), 3) := by decide +kernel
theorem dX1_setPump_4 : decode cX1_setPump 4 = .ok (.if_icmp .lt 10, 3) := by decide +kernel
theorem dX1_setPump_7 : decode cX1_setPump 7 = .ok (.iload_n 1, 1) := by decide +kernel
theorem dX1_setPump_8 : decode cX1_setPump 8 = .ok (.sipush 500, 3) := by decide +kernel
theorem dX1_setPump_11 : decode cX1_setPump 11 = .ok (.if_icmp .le 6, 3) := by decide +kernel
theorem dX1_setPump_14 : decode cX1_setPump 14 = .ok (.ldc 73, 2) := by decide +kernel
theorem dX1_setPump_16 : decode cX1_setPump 16 = .ok (.ireturn, 1) := by decide +kernel
theorem dX1_setPump_17 : decode cX1_setPump 17 = .ok (.aload_n 0, 1) := by decide +kernel
theorem dX1_setPump_18 : decode cX1_setPump 18 = .ok (.getfield 38, 3) := by decide +kernel
theorem dX1_setPump_21 : decode cX1_setPump 21 = .ok (.istore_n 2, 1) := by decide +kernel
theorem dX1_setPump_22 : decode cX1_setPump 22 = .ok (.aload_n 0, 1) := by decide +kernel
theorem dX1_setPump_23 : decode cX1_setPump 23 = .ok (.iload_n 1, 1) := by decide +kernel
theorem dX1_setPump_24 : decode cX1_setPump 24 = .ok (.putfield 38, 3) := by decide +kernel
theorem dX1_setPump_27 : decode cX1_setPump 27 = .ok (.iload_n 2, 1) := by decide +kernel
theorem dX1_setPump_28 : decode cX1_setPump 28 = .ok (.ireturn, 1) := by decide +kernel
theorem dX1_setBirds_0 : decode cX1_setBirds 0 = .ok (.iload_n 1, 1) := by decide +kernel
theorem dX1_setBirds_1 : decode cX1_setBirds 1 = .ok (.ifCond .lt 21, 3) := by decide +kernel
theorem dX1_setBirds_4 : decode cX1_setBirds 4 = .ok (.iload_n 1, 1) := by decide +kernel
theorem dX1_setBirds_5 : decode cX1_setBirds 5 = .ok (.sipush 144, 3) := by decide +kernel
theorem dX1_setBirds_8 : decode cX1_setBirds 8 = .ok (.if_icmp .ge 14, 3) := by decide +kernel
theorem dX1_setBirds_11 : decode cX1_setBirds 11 = .ok (.iload_n 2, 1) := by decide +kernel
theorem dX1_setBirds_12 : decode cX1_setBirds 12 = .ok (.ifCond .lt 10, 3) := by decide +kernel
theorem dX1_setBirds_15 : decode cX1_setBirds 15 = .ok (.iload_n 2, 1) := by decide +kernel
theorem dX1_setBirds_16 : decode cX1_setBirds 16 = .ok (.sipush 144, 3) := by decide +kernel
theorem dX1_setBirds_19 : decode cX1_setBirds 19 = .ok (.if_icmp .le 6, 3) := by decide +kernel
theorem dX1_setBirds_22 : decode cX1_setBirds 22 = .ok (.ldc 73, 2) := by decide +kernel
theorem dX1_setBirds_24 : decode cX1_setBirds 24 = .ok (.ireturn, 1) := by decide +kernel
theorem dX1_setBirds_25 : decode cX1_setBirds 25 = .ok (.aload_n 0, 1) := by decide +kernel
theorem dX1_setBirds_26 : decode cX1_setBirds 26 = .ok (.iload_n 1, 1) := by decide +kernel
theorem dX1_setBirds_27 : decode cX1_setBirds 27 = .ok (.putfield 41, 3) := by decide +kernel
theorem dX1_setBirds_30 : decode cX1_setBirds 30 = .ok (.aload_n 0, 1) := by decide +kernel
theorem dX1_setBirds_31 : decode cX1_setBirds 31 = .ok (.iload_n 2, 1) := by decide +kernel
theorem dX1_setBirds_32 : decode cX1_setBirds 32 = .ok (.putfield 44, 3) := by decide +kernel
theorem dX1_setBirds_35 : decode cX1_setBirds 35 = .ok (.iconst 0, 1) := by decide +kernel
theorem dX1_setBirds_36 : decode cX1_setBirds 36 = .ok (.iload_n 2, 1) := by decide +kernel
theorem dX1_setBirds_37 : decode cX1_setBirds 37 = .ok (.iload_n 1, 1) := by decide +kernel
theorem dX1_setBirds_38 : decode cX1_setBirds 38 = .ok (.isub, 1) := by decide +kernel
theorem dX1_setBirds_39 : decode cX1_setBirds 39 = .ok (.invokestatic 70, 3) := by decide +kernel
theorem dX1_setBirds_42 : decode cX1_setBirds 42 = .ok (.ireturn, 1) := by decide +kernel
theorem dX1_runTicks_0 : decode cX1_runTicks 0 = .ok (.iload_n 1, 1) := by decide +kernel
theorem dX1_runTicks_1 : decode cX1_runTicks 1 = .ok (.iconst 1, 1) := by decide +kernel
theorem dX1_runTicks_2 : decode cX1_runTicks 2 = .ok (.if_icmp .lt 10, 3) := by decide +kernel
theorem dX1_runTicks_5 : decode cX1_runTicks 5 = .ok (.iload_n 1, 1) := by decide +kernel
theorem dX1_runTicks_6 : decode cX1_runTicks 6 = .ok (.sipush 300, 3) := by decide +kernel
theorem dX1_runTicks_9 : decode cX1_runTicks 9 = .ok (.if_icmp .le 6, 3) := by decide +kernel
theorem dX1_runTicks_12 : decode cX1_runTicks 12 = .ok (.ldc 73, 2) := by decide +kernel
theorem dX1_runTicks_14 : decode cX1_runTicks 14 = .ok (.ireturn, 1) := by decide +kernel
theorem dX1_runTicks_15 : decode cX1_runTicks 15 = .ok (.aload_n 0, 1) := by decide +kernel
theorem dX1_runTicks_16 : decode cX1_runTicks 16 = .ok (.getfield 26, 3) := by decide +kernel
theorem dX1_runTicks_19 : decode cX1_runTicks 19 = .ok (.iload_n 1, 1) := by decide +kernel
theorem dX1_runTicks_20 : decode cX1_runTicks 20 = .ok (.iadd, 1) := by decide +kernel
theorem dX1_runTicks_21 : decode cX1_runTicks 21 = .ok (.sipush 9999, 3) := by decide +kernel
theorem dX1_runTicks_24 : decode cX1_runTicks 24 = .ok (.if_icmp .le 6, 3) := by decide +kernel
theorem dX1_runTicks_27 : decode cX1_runTicks 27 = .ok (.ldc 74, 2) := by decide +kernel
theorem dX1_runTicks_29 : decode cX1_runTicks 29 = .ok (.ireturn, 1) := by decide +kernel
theorem dX1_runTicks_30 : decode cX1_runTicks 30 = .ok (.aload_n 0, 1) := by decide +kernel
theorem dX1_runTicks_31 : decode cX1_runTicks 31 = .ok (.iload_n 1, 1) := by decide +kernel
theorem dX1_runTicks_32 : decode cX1_runTicks 32 = .ok (.aload_n 2, 1) := by decide +kernel
theorem dX1_runTicks_33 : decode cX1_runTicks 33 = .ok (.invokevirtual 75, 3) := by decide +kernel
theorem dX1_runTicks_36 : decode cX1_runTicks 36 = .ok (.aload_n 0, 1) := by decide +kernel
theorem dX1_runTicks_37 : decode cX1_runTicks 37 = .ok (.invokevirtual 57, 3) := by decide +kernel
theorem dX1_runTicks_40 : decode cX1_runTicks 40 = .ok (.ireturn, 1) := by decide +kernel
theorem dX1_dredgeSilt_0 : decode cX1_dredgeSilt 0 = .ok (.iload_n 1, 1) := by decide +kernel
theorem dX1_dredgeSilt_1 : decode cX1_dredgeSilt 1 = .ok (.iconst 1, 1) := by decide +kernel
theorem dX1_dredgeSilt_2 : decode cX1_dredgeSilt 2 = .ok (.if_icmp .lt 10, 3) := by decide +kernel
theorem dX1_dredgeSilt_5 : decode cX1_dredgeSilt 5 = .ok (.iload_n 1, 1) := by decide +kernel
theorem dX1_dredgeSilt_6 : decode cX1_dredgeSilt 6 = .ok (.sipush 20000, 3) := by decide +kernel
theorem dX1_dredgeSilt_9 : decode cX1_dredgeSilt 9 = .ok (.if_icmp .le 6, 3) := by decide +kernel
theorem dX1_dredgeSilt_12 : decode cX1_dredgeSilt 12 = .ok (.ldc 73, 2) := by decide +kernel
theorem dX1_dredgeSilt_14 : decode cX1_dredgeSilt 14 = .ok (.ireturn, 1) := by decide +kernel
theorem dX1_dredgeSilt_15 : decode cX1_dredgeSilt 15 = .ok (.iload_n 1, 1) := by decide +kernel
theorem dX1_dredgeSilt_16 : decode cX1_dredgeSilt 16 = .ok (.aload_n 0, 1) := by decide +kernel
theorem dX1_dredgeSilt_17 : decode cX1_dredgeSilt 17 = .ok (.getfield 29, 3) := by decide +kernel
theorem dX1_dredgeSilt_20 : decode cX1_dredgeSilt 20 = .ok (.if_icmp .le 6, 3) := by decide +kernel
theorem dX1_dredgeSilt_23 : decode cX1_dredgeSilt 23 = .ok (.ldc 79, 2) := by decide +kernel
theorem dX1_dredgeSilt_25 : decode cX1_dredgeSilt 25 = .ok (.ireturn, 1) := by decide +kernel
theorem dX1_dredgeSilt_26 : decode cX1_dredgeSilt 26 = .ok (.aload_n 0, 1) := by decide +kernel
theorem dX1_dredgeSilt_27 : decode cX1_dredgeSilt 27 = .ok (.dup, 1) := by decide +kernel
theorem dX1_dredgeSilt_28 : decode cX1_dredgeSilt 28 = .ok (.getfield 29, 3) := by decide +kernel
theorem dX1_dredgeSilt_31 : decode cX1_dredgeSilt 31 = .ok (.iload_n 1, 1) := by decide +kernel
theorem dX1_dredgeSilt_32 : decode cX1_dredgeSilt 32 = .ok (.isub, 1) := by decide +kernel
theorem dX1_dredgeSilt_33 : decode cX1_dredgeSilt 33 = .ok (.putfield 29, 3) := by decide +kernel
theorem dX1_dredgeSilt_36 : decode cX1_dredgeSilt 36 = .ok (.aload_n 0, 1) := by decide +kernel
theorem dX1_dredgeSilt_37 : decode cX1_dredgeSilt 37 = .ok (.getfield 20, 3) := by decide +kernel
theorem dX1_dredgeSilt_40 : decode cX1_dredgeSilt 40 = .ok (.iconst 4, 1) := by decide +kernel
theorem dX1_dredgeSilt_41 : decode cX1_dredgeSilt 41 = .ok (.dup2, 1) := by decide +kernel
theorem dX1_dredgeSilt_42 : decode cX1_dredgeSilt 42 = .ok (.iaload, 1) := by decide +kernel
theorem dX1_dredgeSilt_43 : decode cX1_dredgeSilt 43 = .ok (.iload_n 1, 1) := by decide +kernel
theorem dX1_dredgeSilt_44 : decode cX1_dredgeSilt 44 = .ok (.iadd, 1) := by decide +kernel
theorem dX1_dredgeSilt_45 : decode cX1_dredgeSilt 45 = .ok (.iastore, 1) := by decide +kernel
theorem dX1_dredgeSilt_46 : decode cX1_dredgeSilt 46 = .ok (.aload_n 0, 1) := by decide +kernel
theorem dX1_dredgeSilt_47 : decode cX1_dredgeSilt 47 = .ok (.getfield 29, 3) := by decide +kernel
theorem dX1_dredgeSilt_50 : decode cX1_dredgeSilt 50 = .ok (.ireturn, 1) := by decide +kernel
theorem dX1_changeSetting_0 : decode cX1_changeSetting 0 = .ok (.iload_n 1, 1) := by decide +kernel
theorem dX1_changeSetting_1 : decode cX1_changeSetting 1 = .ok (.ifCond .lt 8, 3) := by decide +kernel
theorem dX1_changeSetting_4 : decode cX1_changeSetting 4 = .ok (.iload_n 1, 1) := by decide +kernel
theorem dX1_changeSetting_5 : decode cX1_changeSetting 5 = .ok (.iconst 3, 1) := by decide +kernel
theorem dX1_changeSetting_6 : decode cX1_changeSetting 6 = .ok (.if_icmp .lt 6, 3) := by decide +kernel
theorem dX1_changeSetting_9 : decode cX1_changeSetting 9 = .ok (.ldc 73, 2) := by decide +kernel
theorem dX1_changeSetting_11 : decode cX1_changeSetting 11 = .ok (.ireturn, 1) := by decide +kernel
theorem dX1_changeSetting_12 : decode cX1_changeSetting 12 = .ok (.iload_n 2, 1) := by decide +kernel
theorem dX1_changeSetting_13 : decode cX1_changeSetting 13 = .ok (.getstatic 80, 3) := by decide +kernel
theorem dX1_changeSetting_16 : decode cX1_changeSetting 16 = .ok (.iload_n 1, 1) := by decide +kernel
theorem dX1_changeSetting_17 : decode cX1_changeSetting 17 = .ok (.iaload, 1) := by decide +kernel
theorem dX1_changeSetting_18 : decode cX1_changeSetting 18 = .ok (.if_icmp .lt 12, 3) := by decide +kernel
theorem dX1_changeSetting_21 : decode cX1_changeSetting 21 = .ok (.iload_n 2, 1) := by decide +kernel
theorem dX1_changeSetting_22 : decode cX1_changeSetting 22 = .ok (.getstatic 83, 3) := by decide +kernel
theorem dX1_changeSetting_25 : decode cX1_changeSetting 25 = .ok (.iload_n 1, 1) := by decide +kernel
theorem dX1_changeSetting_26 : decode cX1_changeSetting 26 = .ok (.iaload, 1) := by decide +kernel
theorem dX1_changeSetting_27 : decode cX1_changeSetting 27 = .ok (.if_icmp .le 6, 3) := by decide +kernel
theorem dX1_changeSetting_30 : decode cX1_changeSetting 30 = .ok (.ldc 73, 2) := by decide +kernel
theorem dX1_changeSetting_32 : decode cX1_changeSetting 32 = .ok (.ireturn, 1) := by decide +kernel
theorem dX1_changeSetting_33 : decode cX1_changeSetting 33 = .ok (.aload_n 0, 1) := by decide +kernel
theorem dX1_changeSetting_34 : decode cX1_changeSetting 34 = .ok (.getfield 16, 3) := by decide +kernel
theorem dX1_changeSetting_37 : decode cX1_changeSetting 37 = .ok (.iload_n 1, 1) := by decide +kernel
theorem dX1_changeSetting_38 : decode cX1_changeSetting 38 = .ok (.iaload, 1) := by decide +kernel
theorem dX1_changeSetting_39 : decode cX1_changeSetting 39 = .ok (.istore_n 3, 1) := by decide +kernel
theorem dX1_changeSetting_40 : decode cX1_changeSetting 40 = .ok (.aload_n 0, 1) := by decide +kernel
theorem dX1_changeSetting_41 : decode cX1_changeSetting 41 = .ok (.getfield 16, 3) := by decide +kernel
theorem dX1_changeSetting_44 : decode cX1_changeSetting 44 = .ok (.iload_n 1, 1) := by decide +kernel
theorem dX1_changeSetting_45 : decode cX1_changeSetting 45 = .ok (.iload_n 2, 1) := by decide +kernel
theorem dX1_changeSetting_46 : decode cX1_changeSetting 46 = .ok (.iastore, 1) := by decide +kernel
theorem dX1_changeSetting_47 : decode cX1_changeSetting 47 = .ok (.iload_n 3, 1) := by decide +kernel
theorem dX1_changeSetting_48 : decode cX1_changeSetting 48 = .ok (.ireturn, 1) := by decide +kernel
theorem dX1_letPass_0 : decode cX1_letPass 0 = .ok (.iconst 0, 1) := by decide +kernel
theorem dX1_letPass_1 : decode cX1_letPass 1 = .ok (.istore_n 3, 1) := by decide +kernel
theorem dX1_letPass_2 : decode cX1_letPass 2 = .ok (.iload_n 3, 1) := by decide +kernel
theorem dX1_letPass_3 : decode cX1_letPass 3 = .ok (.iload_n 1, 1) := by decide +kernel
theorem dX1_letPass_4 : decode cX1_letPass 4 = .ok (.if_icmp .ge 38, 3) := by decide +kernel
theorem dX1_letPass_7 : decode cX1_letPass 7 = .ok (.aload_n 2, 1) := by decide +kernel
theorem dX1_letPass_8 : decode cX1_letPass 8 = .ok (.aload_n 0, 1) := by decide +kernel
theorem dX1_letPass_9 : decode cX1_letPass 9 = .ok (.aload_n 0, 1) := by decide +kernel
theorem dX1_letPass_10 : decode cX1_letPass 10 = .ok (.invokevirtual 86, 3) := by decide +kernel
theorem dX1_letPass_13 : decode cX1_letPass 13 = .ok (.invokevirtual 89, 3) := by decide +kernel
theorem dX1_letPass_16 : decode cX1_letPass 16 = .ok (.aload_n 0, 1) := by decide +kernel
theorem dX1_letPass_17 : decode cX1_letPass 17 = .ok (.aload_n 2, 1) := by decide +kernel
theorem dX1_letPass_18 : decode cX1_letPass 18 = .ok (.invokevirtual 95, 3) := by decide +kernel
theorem dX1_letPass_21 : decode cX1_letPass 21 = .ok (.aload_n 0, 1) := by decide +kernel
theorem dX1_letPass_22 : decode cX1_letPass 22 = .ok (.aload_n 2, 1) := by decide +kernel
theorem dX1_letPass_23 : decode cX1_letPass 23 = .ok (.invokevirtual 99, 3) := by decide +kernel
theorem dX1_letPass_26 : decode cX1_letPass 26 = .ok (.aload_n 0, 1) := by decide +kernel
theorem dX1_letPass_27 : decode cX1_letPass 27 = .ok (.dup, 1) := by decide +kernel
theorem dX1_letPass_28 : decode cX1_letPass 28 = .ok (.getfield 26, 3) := by decide +kernel
theorem dX1_letPass_31 : decode cX1_letPass 31 = .ok (.iconst 1, 1) := by decide +kernel
theorem dX1_letPass_32 : decode cX1_letPass 32 = .ok (.iadd, 1) := by decide +kernel
theorem dX1_letPass_33 : decode cX1_letPass 33 = .ok (.putfield 26, 3) := by decide +kernel
theorem dX1_letPass_36 : decode cX1_letPass 36 = .ok (.iinc 3 1, 3) := by decide +kernel
theorem dX1_letPass_39 : decode cX1_letPass 39 = .ok (.goto (-37), 3) := by decide +kernel
theorem dX1_letPass_42 : decode cX1_letPass 42 = .ok (.return_, 1) := by decide +kernel
theorem dX1_take_0 : decode cX1_take 0 = .ok (.aload_n 0, 1) := by decide +kernel
theorem dX1_take_1 : decode cX1_take 1 = .ok (.dup, 1) := by decide +kernel
theorem dX1_take_2 : decode cX1_take 2 = .ok (.getfield 10, 3) := by decide +kernel
theorem dX1_take_5 : decode cX1_take 5 = .ok (.aload_n 1, 1) := by decide +kernel
theorem dX1_take_6 : decode cX1_take 6 = .ok (.getfield 102, 3) := by decide +kernel
theorem dX1_take_9 : decode cX1_take 9 = .ok (.iadd, 1) := by decide +kernel
theorem dX1_take_10 : decode cX1_take 10 = .ok (.putfield 10, 3) := by decide +kernel
theorem dX1_take_13 : decode cX1_take 13 = .ok (.aload_n 0, 1) := by decide +kernel
theorem dX1_take_14 : decode cX1_take 14 = .ok (.dup, 1) := by decide +kernel
theorem dX1_take_15 : decode cX1_take 15 = .ok (.getfield 29, 3) := by decide +kernel
theorem dX1_take_18 : decode cX1_take 18 = .ok (.aload_n 1, 1) := by decide +kernel
theorem dX1_take_19 : decode cX1_take 19 = .ok (.getfield 105, 3) := by decide +kernel
theorem dX1_take_22 : decode cX1_take 22 = .ok (.iadd, 1) := by decide +kernel
theorem dX1_take_23 : decode cX1_take 23 = .ok (.putfield 29, 3) := by decide +kernel
theorem dX1_take_26 : decode cX1_take 26 = .ok (.aload_n 0, 1) := by decide +kernel
theorem dX1_take_27 : decode cX1_take 27 = .ok (.getfield 20, 3) := by decide +kernel
theorem dX1_take_30 : decode cX1_take 30 = .ok (.iconst 0, 1) := by decide +kernel
theorem dX1_take_31 : decode cX1_take 31 = .ok (.dup2, 1) := by decide +kernel
theorem dX1_take_32 : decode cX1_take 32 = .ok (.iaload, 1) := by decide +kernel
theorem dX1_take_33 : decode cX1_take 33 = .ok (.aload_n 1, 1) := by decide +kernel
theorem dX1_take_34 : decode cX1_take 34 = .ok (.getfield 108, 3) := by decide +kernel
theorem dX1_take_37 : decode cX1_take 37 = .ok (.iadd, 1) := by decide +kernel
theorem dX1_take_38 : decode cX1_take 38 = .ok (.iastore, 1) := by decide +kernel
theorem dX1_take_39 : decode cX1_take 39 = .ok (.aload_n 0, 1) := by decide +kernel
theorem dX1_take_40 : decode cX1_take 40 = .ok (.getfield 20, 3) := by decide +kernel
theorem dX1_take_43 : decode cX1_take 43 = .ok (.iconst 1, 1) := by decide +kernel
theorem dX1_take_44 : decode cX1_take 44 = .ok (.dup2, 1) := by decide +kernel
theorem dX1_take_45 : decode cX1_take 45 = .ok (.iaload, 1) := by decide +kernel
theorem dX1_take_46 : decode cX1_take 46 = .ok (.aload_n 1, 1) := by decide +kernel
theorem dX1_take_47 : decode cX1_take 47 = .ok (.getfield 111, 3) := by decide +kernel
theorem dX1_take_50 : decode cX1_take 50 = .ok (.iadd, 1) := by decide +kernel
theorem dX1_take_51 : decode cX1_take 51 = .ok (.iastore, 1) := by decide +kernel
theorem dX1_take_52 : decode cX1_take 52 = .ok (.aload_n 0, 1) := by decide +kernel
theorem dX1_take_53 : decode cX1_take 53 = .ok (.getfield 20, 3) := by decide +kernel
theorem dX1_take_56 : decode cX1_take 56 = .ok (.iconst 2, 1) := by decide +kernel
theorem dX1_take_57 : decode cX1_take 57 = .ok (.dup2, 1) := by decide +kernel
theorem dX1_take_58 : decode cX1_take 58 = .ok (.iaload, 1) := by decide +kernel
theorem dX1_take_59 : decode cX1_take 59 = .ok (.iconst 0, 1) := by decide +kernel
theorem dX1_take_60 : decode cX1_take 60 = .ok (.aload_n 1, 1) := by decide +kernel
theorem dX1_take_61 : decode cX1_take 61 = .ok (.getfield 102, 3) := by decide +kernel
theorem dX1_take_64 : decode cX1_take 64 = .ok (.invokestatic 70, 3) := by decide +kernel
theorem dX1_take_67 : decode cX1_take 67 = .ok (.iadd, 1) := by decide +kernel
theorem dX1_take_68 : decode cX1_take 68 = .ok (.iastore, 1) := by decide +kernel
theorem dX1_take_69 : decode cX1_take 69 = .ok (.aload_n 0, 1) := by decide +kernel
theorem dX1_take_70 : decode cX1_take 70 = .ok (.getfield 20, 3) := by decide +kernel
theorem dX1_take_73 : decode cX1_take 73 = .ok (.iconst 3, 1) := by decide +kernel
theorem dX1_take_74 : decode cX1_take 74 = .ok (.dup2, 1) := by decide +kernel
theorem dX1_take_75 : decode cX1_take 75 = .ok (.iaload, 1) := by decide +kernel
theorem dX1_take_76 : decode cX1_take 76 = .ok (.iconst 0, 1) := by decide +kernel
theorem dX1_take_77 : decode cX1_take 77 = .ok (.aload_n 1, 1) := by decide +kernel
theorem dX1_take_78 : decode cX1_take 78 = .ok (.getfield 102, 3) := by decide +kernel
theorem dX1_take_81 : decode cX1_take 81 = .ok (.ineg, 1) := by decide +kernel
theorem dX1_take_82 : decode cX1_take 82 = .ok (.invokestatic 70, 3) := by decide +kernel
theorem dX1_take_85 : decode cX1_take 85 = .ok (.iadd, 1) := by decide +kernel
theorem dX1_take_86 : decode cX1_take 86 = .ok (.iastore, 1) := by decide +kernel
theorem dX1_take_87 : decode cX1_take 87 = .ok (.aload_n 0, 1) := by decide +kernel
theorem dX1_take_88 : decode cX1_take 88 = .ok (.getfield 20, 3) := by decide +kernel
theorem dX1_take_91 : decode cX1_take 91 = .ok (.iconst 5, 1) := by decide +kernel
theorem dX1_take_92 : decode cX1_take 92 = .ok (.dup2, 1) := by decide +kernel
theorem dX1_take_93 : decode cX1_take 93 = .ok (.iaload, 1) := by decide +kernel
theorem dX1_take_94 : decode cX1_take 94 = .ok (.iconst 0, 1) := by decide +kernel
theorem dX1_take_95 : decode cX1_take 95 = .ok (.aload_n 1, 1) := by decide +kernel
theorem dX1_take_96 : decode cX1_take 96 = .ok (.getfield 105, 3) := by decide +kernel
theorem dX1_take_99 : decode cX1_take 99 = .ok (.invokestatic 70, 3) := by decide +kernel
theorem dX1_take_102 : decode cX1_take 102 = .ok (.iadd, 1) := by decide +kernel
theorem dX1_take_103 : decode cX1_take 103 = .ok (.iastore, 1) := by decide +kernel
theorem dX1_take_104 : decode cX1_take 104 = .ok (.aload_n 0, 1) := by decide +kernel
theorem dX1_take_105 : decode cX1_take 105 = .ok (.getfield 20, 3) := by decide +kernel
theorem dX1_take_108 : decode cX1_take 108 = .ok (.bipush 6, 2) := by decide +kernel
theorem dX1_take_110 : decode cX1_take 110 = .ok (.dup2, 1) := by decide +kernel
theorem dX1_take_111 : decode cX1_take 111 = .ok (.iaload, 1) := by decide +kernel
theorem dX1_take_112 : decode cX1_take 112 = .ok (.iconst 0, 1) := by decide +kernel
theorem dX1_take_113 : decode cX1_take 113 = .ok (.aload_n 1, 1) := by decide +kernel
theorem dX1_take_114 : decode cX1_take 114 = .ok (.getfield 105, 3) := by decide +kernel
theorem dX1_take_117 : decode cX1_take 117 = .ok (.ineg, 1) := by decide +kernel
theorem dX1_take_118 : decode cX1_take 118 = .ok (.invokestatic 70, 3) := by decide +kernel
theorem dX1_take_121 : decode cX1_take 121 = .ok (.iadd, 1) := by decide +kernel
theorem dX1_take_122 : decode cX1_take 122 = .ok (.iastore, 1) := by decide +kernel
theorem dX1_take_123 : decode cX1_take 123 = .ok (.return_, 1) := by decide +kernel
theorem dX1_enterRecord_0 : decode cX1_enterRecord 0 = .ok (.aload_n 0, 1) := by decide +kernel
theorem dX1_enterRecord_1 : decode cX1_enterRecord 1 = .ok (.getfield 26, 3) := by decide +kernel
theorem dX1_enterRecord_4 : decode cX1_enterRecord 4 = .ok (.sipush 144, 3) := by decide +kernel
theorem dX1_enterRecord_7 : decode cX1_enterRecord 7 = .ok (.idiv, 1) := by decide +kernel
theorem dX1_enterRecord_8 : decode cX1_enterRecord 8 = .ok (.invokestatic 114, 3) := by decide +kernel
theorem dX1_enterRecord_11 : decode cX1_enterRecord 11 = .ok (.istore_n 2, 1) := by decide +kernel
theorem dX1_enterRecord_12 : decode cX1_enterRecord 12 = .ok (.aload_n 0, 1) := by decide +kernel
theorem dX1_enterRecord_13 : decode cX1_enterRecord 13 = .ok (.invokevirtual 57, 3) := by decide +kernel
theorem dX1_enterRecord_16 : decode cX1_enterRecord 16 = .ok (.istore_n 3, 1) := by decide +kernel
theorem dX1_enterRecord_17 : decode cX1_enterRecord 17 = .ok (.aload_n 0, 1) := by decide +kernel
theorem dX1_enterRecord_18 : decode cX1_enterRecord 18 = .ok (.getfield 26, 3) := by decide +kernel
theorem dX1_enterRecord_21 : decode cX1_enterRecord 21 = .ok (.sipush 144, 3) := by decide +kernel
theorem dX1_enterRecord_24 : decode cX1_enterRecord 24 = .ok (.irem, 1) := by decide +kernel
theorem dX1_enterRecord_25 : decode cX1_enterRecord 25 = .ok (.ifCond .ne 9, 3) := by decide +kernel
theorem dX1_enterRecord_28 : decode cX1_enterRecord 28 = .ok (.aload_n 0, 1) := by decide +kernel
theorem dX1_enterRecord_29 : decode cX1_enterRecord 29 = .ok (.iload_n 2, 1) := by decide +kernel
theorem dX1_enterRecord_30 : decode cX1_enterRecord 30 = .ok (.iload_n 3, 1) := by decide +kernel
theorem dX1_enterRecord_31 : decode cX1_enterRecord 31 = .ok (.invokevirtual 117, 3) := by decide +kernel
theorem dX1_enterRecord_34 : decode cX1_enterRecord 34 = .ok (.aload_n 0, 1) := by decide +kernel
theorem dX1_enterRecord_35 : decode cX1_enterRecord 35 = .ok (.getfield 23, 3) := by decide +kernel
theorem dX1_enterRecord_38 : decode cX1_enterRecord 38 = .ok (.iload_n 2, 1) := by decide +kernel
theorem dX1_enterRecord_39 : decode cX1_enterRecord 39 = .ok (.iconst 0, 1) := by decide +kernel
theorem dX1_enterRecord_40 : decode cX1_enterRecord 40 = .ok (.iadd, 1) := by decide +kernel
theorem dX1_enterRecord_41 : decode cX1_enterRecord 41 = .ok (.dup2, 1) := by decide +kernel
theorem dX1_enterRecord_42 : decode cX1_enterRecord 42 = .ok (.iaload, 1) := by decide +kernel
theorem dX1_enterRecord_43 : decode cX1_enterRecord 43 = .ok (.aload_n 1, 1) := by decide +kernel
theorem dX1_enterRecord_44 : decode cX1_enterRecord 44 = .ok (.getfield 108, 3) := by decide +kernel
theorem dX1_enterRecord_47 : decode cX1_enterRecord 47 = .ok (.iadd, 1) := by decide +kernel
theorem dX1_enterRecord_48 : decode cX1_enterRecord 48 = .ok (.iastore, 1) := by decide +kernel
theorem dX1_enterRecord_49 : decode cX1_enterRecord 49 = .ok (.aload_n 0, 1) := by decide +kernel
theorem dX1_enterRecord_50 : decode cX1_enterRecord 50 = .ok (.getfield 23, 3) := by decide +kernel
theorem dX1_enterRecord_53 : decode cX1_enterRecord 53 = .ok (.iload_n 2, 1) := by decide +kernel
theorem dX1_enterRecord_54 : decode cX1_enterRecord 54 = .ok (.iconst 1, 1) := by decide +kernel
theorem dX1_enterRecord_55 : decode cX1_enterRecord 55 = .ok (.iadd, 1) := by decide +kernel
theorem dX1_enterRecord_56 : decode cX1_enterRecord 56 = .ok (.dup2, 1) := by decide +kernel
theorem dX1_enterRecord_57 : decode cX1_enterRecord 57 = .ok (.iaload, 1) := by decide +kernel
theorem dX1_enterRecord_58 : decode cX1_enterRecord 58 = .ok (.aload_n 1, 1) := by decide +kernel
theorem dX1_enterRecord_59 : decode cX1_enterRecord 59 = .ok (.getfield 111, 3) := by decide +kernel
theorem dX1_enterRecord_62 : decode cX1_enterRecord 62 = .ok (.iadd, 1) := by decide +kernel
theorem dX1_enterRecord_63 : decode cX1_enterRecord 63 = .ok (.iastore, 1) := by decide +kernel
theorem dX1_enterRecord_64 : decode cX1_enterRecord 64 = .ok (.aload_n 0, 1) := by decide +kernel
theorem dX1_enterRecord_65 : decode cX1_enterRecord 65 = .ok (.getfield 23, 3) := by decide +kernel
theorem dX1_enterRecord_68 : decode cX1_enterRecord 68 = .ok (.iload_n 2, 1) := by decide +kernel
theorem dX1_enterRecord_69 : decode cX1_enterRecord 69 = .ok (.iconst 2, 1) := by decide +kernel
theorem dX1_enterRecord_70 : decode cX1_enterRecord 70 = .ok (.iadd, 1) := by decide +kernel
theorem dX1_enterRecord_71 : decode cX1_enterRecord 71 = .ok (.aload_n 0, 1) := by decide +kernel
theorem dX1_enterRecord_72 : decode cX1_enterRecord 72 = .ok (.getfield 23, 3) := by decide +kernel
theorem dX1_enterRecord_75 : decode cX1_enterRecord 75 = .ok (.iload_n 2, 1) := by decide +kernel
theorem dX1_enterRecord_76 : decode cX1_enterRecord 76 = .ok (.iconst 2, 1) := by decide +kernel
theorem dX1_enterRecord_77 : decode cX1_enterRecord 77 = .ok (.iadd, 1) := by decide +kernel
theorem dX1_enterRecord_78 : decode cX1_enterRecord 78 = .ok (.iaload, 1) := by decide +kernel
theorem dX1_enterRecord_79 : decode cX1_enterRecord 79 = .ok (.iload_n 3, 1) := by decide +kernel
theorem dX1_enterRecord_80 : decode cX1_enterRecord 80 = .ok (.invokestatic 70, 3) := by decide +kernel
theorem dX1_enterRecord_83 : decode cX1_enterRecord 83 = .ok (.iastore, 1) := by decide +kernel
theorem dX1_enterRecord_84 : decode cX1_enterRecord 84 = .ok (.aload_n 0, 1) := by decide +kernel
theorem dX1_enterRecord_85 : decode cX1_enterRecord 85 = .ok (.getfield 23, 3) := by decide +kernel
theorem dX1_enterRecord_88 : decode cX1_enterRecord 88 = .ok (.iload_n 2, 1) := by decide +kernel
theorem dX1_enterRecord_89 : decode cX1_enterRecord 89 = .ok (.iconst 3, 1) := by decide +kernel
theorem dX1_enterRecord_90 : decode cX1_enterRecord 90 = .ok (.iadd, 1) := by decide +kernel
theorem dX1_enterRecord_91 : decode cX1_enterRecord 91 = .ok (.aload_n 0, 1) := by decide +kernel
theorem dX1_enterRecord_92 : decode cX1_enterRecord 92 = .ok (.getfield 23, 3) := by decide +kernel
theorem dX1_enterRecord_95 : decode cX1_enterRecord 95 = .ok (.iload_n 2, 1) := by decide +kernel
theorem dX1_enterRecord_96 : decode cX1_enterRecord 96 = .ok (.iconst 3, 1) := by decide +kernel
theorem dX1_enterRecord_97 : decode cX1_enterRecord 97 = .ok (.iadd, 1) := by decide +kernel
theorem dX1_enterRecord_98 : decode cX1_enterRecord 98 = .ok (.iaload, 1) := by decide +kernel
theorem dX1_enterRecord_99 : decode cX1_enterRecord 99 = .ok (.iload_n 3, 1) := by decide +kernel
theorem dX1_enterRecord_100 : decode cX1_enterRecord 100 = .ok (.invokestatic 121, 3) := by decide +kernel
theorem dX1_enterRecord_103 : decode cX1_enterRecord 103 = .ok (.iastore, 1) := by decide +kernel
theorem dX1_enterRecord_104 : decode cX1_enterRecord 104 = .ok (.aload_n 0, 1) := by decide +kernel
theorem dX1_enterRecord_105 : decode cX1_enterRecord 105 = .ok (.getfield 23, 3) := by decide +kernel
theorem dX1_enterRecord_108 : decode cX1_enterRecord 108 = .ok (.iload_n 2, 1) := by decide +kernel
theorem dX1_enterRecord_109 : decode cX1_enterRecord 109 = .ok (.iconst 4, 1) := by decide +kernel
theorem dX1_enterRecord_110 : decode cX1_enterRecord 110 = .ok (.iadd, 1) := by decide +kernel
theorem dX1_enterRecord_111 : decode cX1_enterRecord 111 = .ok (.dup2, 1) := by decide +kernel
theorem dX1_enterRecord_112 : decode cX1_enterRecord 112 = .ok (.iaload, 1) := by decide +kernel
theorem dX1_enterRecord_113 : decode cX1_enterRecord 113 = .ok (.iconst 0, 1) := by decide +kernel
theorem dX1_enterRecord_114 : decode cX1_enterRecord 114 = .ok (.aload_n 1, 1) := by decide +kernel
theorem dX1_enterRecord_115 : decode cX1_enterRecord 115 = .ok (.getfield 102, 3) := by decide +kernel
theorem dX1_enterRecord_118 : decode cX1_enterRecord 118 = .ok (.invokestatic 70, 3) := by decide +kernel
theorem dX1_enterRecord_121 : decode cX1_enterRecord 121 = .ok (.iadd, 1) := by decide +kernel
theorem dX1_enterRecord_122 : decode cX1_enterRecord 122 = .ok (.iastore, 1) := by decide +kernel
theorem dX1_enterRecord_123 : decode cX1_enterRecord 123 = .ok (.aload_n 0, 1) := by decide +kernel
theorem dX1_enterRecord_124 : decode cX1_enterRecord 124 = .ok (.getfield 23, 3) := by decide +kernel
theorem dX1_enterRecord_127 : decode cX1_enterRecord 127 = .ok (.iload_n 2, 1) := by decide +kernel
theorem dX1_enterRecord_128 : decode cX1_enterRecord 128 = .ok (.iconst 5, 1) := by decide +kernel
theorem dX1_enterRecord_129 : decode cX1_enterRecord 129 = .ok (.iadd, 1) := by decide +kernel
theorem dX1_enterRecord_130 : decode cX1_enterRecord 130 = .ok (.dup2, 1) := by decide +kernel
theorem dX1_enterRecord_131 : decode cX1_enterRecord 131 = .ok (.iaload, 1) := by decide +kernel
theorem dX1_enterRecord_132 : decode cX1_enterRecord 132 = .ok (.iconst 0, 1) := by decide +kernel
theorem dX1_enterRecord_133 : decode cX1_enterRecord 133 = .ok (.aload_n 1, 1) := by decide +kernel
theorem dX1_enterRecord_134 : decode cX1_enterRecord 134 = .ok (.getfield 102, 3) := by decide +kernel
theorem dX1_enterRecord_137 : decode cX1_enterRecord 137 = .ok (.ineg, 1) := by decide +kernel
theorem dX1_enterRecord_138 : decode cX1_enterRecord 138 = .ok (.invokestatic 70, 3) := by decide +kernel
theorem dX1_enterRecord_141 : decode cX1_enterRecord 141 = .ok (.iadd, 1) := by decide +kernel
theorem dX1_enterRecord_142 : decode cX1_enterRecord 142 = .ok (.iastore, 1) := by decide +kernel
theorem dX1_enterRecord_143 : decode cX1_enterRecord 143 = .ok (.return_, 1) := by decide +kernel
theorem dX1_beginRecord_0 : decode cX1_beginRecord 0 = .ok (.aload_n 0, 1) := by decide +kernel
theorem dX1_beginRecord_1 : decode cX1_beginRecord 1 = .ok (.getfield 23, 3) := by decide +kernel
theorem dX1_beginRecord_4 : decode cX1_beginRecord 4 = .ok (.iload_n 1, 1) := by decide +kernel
theorem dX1_beginRecord_5 : decode cX1_beginRecord 5 = .ok (.iconst 0, 1) := by decide +kernel
theorem dX1_beginRecord_6 : decode cX1_beginRecord 6 = .ok (.iadd, 1) := by decide +kernel
theorem dX1_beginRecord_7 : decode cX1_beginRecord 7 = .ok (.iconst 0, 1) := by decide +kernel
theorem dX1_beginRecord_8 : decode cX1_beginRecord 8 = .ok (.iastore, 1) := by decide +kernel
theorem dX1_beginRecord_9 : decode cX1_beginRecord 9 = .ok (.aload_n 0, 1) := by decide +kernel
theorem dX1_beginRecord_10 : decode cX1_beginRecord 10 = .ok (.getfield 23, 3) := by decide +kernel
theorem dX1_beginRecord_13 : decode cX1_beginRecord 13 = .ok (.iload_n 1, 1) := by decide +kernel
theorem dX1_beginRecord_14 : decode cX1_beginRecord 14 = .ok (.iconst 1, 1) := by decide +kernel
theorem dX1_beginRecord_15 : decode cX1_beginRecord 15 = .ok (.iadd, 1) := by decide +kernel
theorem dX1_beginRecord_16 : decode cX1_beginRecord 16 = .ok (.iconst 0, 1) := by decide +kernel
theorem dX1_beginRecord_17 : decode cX1_beginRecord 17 = .ok (.iastore, 1) := by decide +kernel
theorem dX1_beginRecord_18 : decode cX1_beginRecord 18 = .ok (.aload_n 0, 1) := by decide +kernel
theorem dX1_beginRecord_19 : decode cX1_beginRecord 19 = .ok (.getfield 23, 3) := by decide +kernel
theorem dX1_beginRecord_22 : decode cX1_beginRecord 22 = .ok (.iload_n 1, 1) := by decide +kernel
theorem dX1_beginRecord_23 : decode cX1_beginRecord 23 = .ok (.iconst 2, 1) := by decide +kernel
theorem dX1_beginRecord_24 : decode cX1_beginRecord 24 = .ok (.iadd, 1) := by decide +kernel
theorem dX1_beginRecord_25 : decode cX1_beginRecord 25 = .ok (.iload_n 2, 1) := by decide +kernel
theorem dX1_beginRecord_26 : decode cX1_beginRecord 26 = .ok (.iastore, 1) := by decide +kernel
theorem dX1_beginRecord_27 : decode cX1_beginRecord 27 = .ok (.aload_n 0, 1) := by decide +kernel
theorem dX1_beginRecord_28 : decode cX1_beginRecord 28 = .ok (.getfield 23, 3) := by decide +kernel
theorem dX1_beginRecord_31 : decode cX1_beginRecord 31 = .ok (.iload_n 1, 1) := by decide +kernel
theorem dX1_beginRecord_32 : decode cX1_beginRecord 32 = .ok (.iconst 3, 1) := by decide +kernel
theorem dX1_beginRecord_33 : decode cX1_beginRecord 33 = .ok (.iadd, 1) := by decide +kernel
theorem dX1_beginRecord_34 : decode cX1_beginRecord 34 = .ok (.iload_n 2, 1) := by decide +kernel
theorem dX1_beginRecord_35 : decode cX1_beginRecord 35 = .ok (.iastore, 1) := by decide +kernel
theorem dX1_beginRecord_36 : decode cX1_beginRecord 36 = .ok (.aload_n 0, 1) := by decide +kernel
theorem dX1_beginRecord_37 : decode cX1_beginRecord 37 = .ok (.getfield 23, 3) := by decide +kernel
theorem dX1_beginRecord_40 : decode cX1_beginRecord 40 = .ok (.iload_n 1, 1) := by decide +kernel
theorem dX1_beginRecord_41 : decode cX1_beginRecord 41 = .ok (.iconst 4, 1) := by decide +kernel
theorem dX1_beginRecord_42 : decode cX1_beginRecord 42 = .ok (.iadd, 1) := by decide +kernel
theorem dX1_beginRecord_43 : decode cX1_beginRecord 43 = .ok (.iconst 0, 1) := by decide +kernel
theorem dX1_beginRecord_44 : decode cX1_beginRecord 44 = .ok (.iastore, 1) := by decide +kernel
theorem dX1_beginRecord_45 : decode cX1_beginRecord 45 = .ok (.aload_n 0, 1) := by decide +kernel
theorem dX1_beginRecord_46 : decode cX1_beginRecord 46 = .ok (.getfield 23, 3) := by decide +kernel
theorem dX1_beginRecord_49 : decode cX1_beginRecord 49 = .ok (.iload_n 1, 1) := by decide +kernel
theorem dX1_beginRecord_50 : decode cX1_beginRecord 50 = .ok (.iconst 5, 1) := by decide +kernel
theorem dX1_beginRecord_51 : decode cX1_beginRecord 51 = .ok (.iadd, 1) := by decide +kernel
theorem dX1_beginRecord_52 : decode cX1_beginRecord 52 = .ok (.iconst 0, 1) := by decide +kernel
theorem dX1_beginRecord_53 : decode cX1_beginRecord 53 = .ok (.iastore, 1) := by decide +kernel
theorem dX1_beginRecord_54 : decode cX1_beginRecord 54 = .ok (.return_, 1) := by decide +kernel
theorem dX2_init_0 : decode cX2_init 0 = .ok (.aload_n 0, 1) := by decide +kernel
theorem dX2_init_1 : decode cX2_init 1 = .ok (.invokespecial 3, 3) := by decide +kernel
theorem dX2_init_4 : decode cX2_init 4 = .ok (.return_, 1) := by decide +kernel
theorem dX2_perform_0 : decode cX2_perform 0 = .ok (.aload_n 0, 1) := by decide +kernel
theorem dX2_perform_1 : decode cX2_perform 1 = .ok (.iconst 0, 1) := by decide +kernel
theorem dX2_perform_2 : decode cX2_perform 2 = .ok (.putfield 9, 3) := by decide +kernel
theorem dX2_perform_5 : decode cX2_perform 5 = .ok (.aload_n 0, 1) := by decide +kernel
theorem dX2_perform_6 : decode cX2_perform 6 = .ok (.iconst 0, 1) := by decide +kernel
theorem dX2_perform_7 : decode cX2_perform 7 = .ok (.putfield 15, 3) := by decide +kernel
theorem dX2_perform_10 : decode cX2_perform 10 = .ok (.aload_n 1, 1) := by decide +kernel
theorem dX2_perform_11 : decode cX2_perform 11 = .ok (.iconst 0, 1) := by decide +kernel
theorem dX2_perform_12 : decode cX2_perform 12 = .ok (.putfield 18, 3) := by decide +kernel
theorem dX2_perform_15 : decode cX2_perform 15 = .ok (.iconst 0, 1) := by decide +kernel
theorem dX2_perform_16 : decode cX2_perform 16 = .ok (.istore 4, 2) := by decide +kernel
theorem dX2_perform_18 : decode cX2_perform 18 = .ok (.iload 4, 2) := by decide +kernel
theorem dX2_perform_20 : decode cX2_perform 20 = .ok (.bipush 60, 2) := by decide +kernel
theorem dX2_perform_22 : decode cX2_perform 22 = .ok (.if_icmp .ge 92, 3) := by decide +kernel
theorem dX2_perform_25 : decode cX2_perform 25 = .ok (.aload_n 1, 1) := by decide +kernel
theorem dX2_perform_26 : decode cX2_perform 26 = .ok (.getfield 18, 3) := by decide +kernel
theorem dX2_perform_29 : decode cX2_perform 29 = .ok (.aload_n 1, 1) := by decide +kernel
theorem dX2_perform_30 : decode cX2_perform 30 = .ok (.getfield 23, 3) := by decide +kernel
theorem dX2_perform_33 : decode cX2_perform 33 = .ok (.if_icmp .ge 81, 3) := by decide +kernel
theorem dX2_perform_36 : decode cX2_perform 36 = .ok (.aload_n 0, 1) := by decide +kernel
theorem dX2_perform_37 : decode cX2_perform 37 = .ok (.aload_n 1, 1) := by decide +kernel
theorem dX2_perform_38 : decode cX2_perform 38 = .ok (.getfield 18, 3) := by decide +kernel
theorem dX2_perform_41 : decode cX2_perform 41 = .ok (.putfield 26, 3) := by decide +kernel
theorem dX2_perform_44 : decode cX2_perform 44 = .ok (.aload_n 1, 1) := by decide +kernel
theorem dX2_perform_45 : decode cX2_perform 45 = .ok (.invokevirtual 27, 3) := by decide +kernel
theorem dX2_perform_48 : decode cX2_perform 48 = .ok (.ifCond .ne 22, 3) := by decide +kernel
theorem dX2_perform_51 : decode cX2_perform 51 = .ok (.aload_n 0, 1) := by decide +kernel
theorem dX2_perform_52 : decode cX2_perform 52 = .ok (.iconst 1, 1) := by decide +kernel
theorem dX2_perform_53 : decode cX2_perform 53 = .ok (.putfield 15, 3) := by decide +kernel
theorem dX2_perform_56 : decode cX2_perform 56 = .ok (.aload_n 0, 1) := by decide +kernel
theorem dX2_perform_57 : decode cX2_perform 57 = .ok (.aload_n 1, 1) := by decide +kernel
theorem dX2_perform_58 : decode cX2_perform 58 = .ok (.getfield 18, 3) := by decide +kernel
theorem dX2_perform_61 : decode cX2_perform 61 = .ok (.aload_n 0, 1) := by decide +kernel
theorem dX2_perform_62 : decode cX2_perform 62 = .ok (.getfield 26, 3) := by decide +kernel
theorem dX2_perform_65 : decode cX2_perform 65 = .ok (.isub, 1) := by decide +kernel
theorem dX2_perform_66 : decode cX2_perform 66 = .ok (.putfield 31, 3) := by decide +kernel
theorem dX2_perform_69 : decode cX2_perform 69 = .ok (.return_, 1) := by decide +kernel
theorem dX2_perform_70 : decode cX2_perform 70 = .ok (.aload_n 1, 1) := by decide +kernel
theorem dX2_perform_71 : decode cX2_perform 71 = .ok (.aload_n 2, 1) := by decide +kernel
theorem dX2_perform_72 : decode cX2_perform 72 = .ok (.aload_n 3, 1) := by decide +kernel
theorem dX2_perform_73 : decode cX2_perform 73 = .ok (.invokestatic 34, 3) := by decide +kernel
theorem dX2_perform_76 : decode cX2_perform 76 = .ok (.istore 5, 2) := by decide +kernel
theorem dX2_perform_78 : decode cX2_perform 78 = .ok (.iload 5, 2) := by decide +kernel
theorem dX2_perform_80 : decode cX2_perform 80 = .ok (.invokestatic 38, 3) := by decide +kernel
theorem dX2_perform_83 : decode cX2_perform 83 = .ok (.ifCond .eq 15, 3) := by decide +kernel
theorem dX2_perform_86 : decode cX2_perform 86 = .ok (.aload_n 0, 1) := by decide +kernel
theorem dX2_perform_87 : decode cX2_perform 87 = .ok (.iconst 2, 1) := by decide +kernel
theorem dX2_perform_88 : decode cX2_perform 88 = .ok (.putfield 15, 3) := by decide +kernel
theorem dX2_perform_91 : decode cX2_perform 91 = .ok (.aload_n 0, 1) := by decide +kernel
theorem dX2_perform_92 : decode cX2_perform 92 = .ok (.iload 5, 2) := by decide +kernel
theorem dX2_perform_94 : decode cX2_perform 94 = .ok (.putfield 31, 3) := by decide +kernel
theorem dX2_perform_97 : decode cX2_perform 97 = .ok (.return_, 1) := by decide +kernel
theorem dX2_perform_98 : decode cX2_perform 98 = .ok (.aload_n 0, 1) := by decide +kernel
theorem dX2_perform_99 : decode cX2_perform 99 = .ok (.dup, 1) := by decide +kernel
theorem dX2_perform_100 : decode cX2_perform 100 = .ok (.getfield 9, 3) := by decide +kernel
theorem dX2_perform_103 : decode cX2_perform 103 = .ok (.iconst 1, 1) := by decide +kernel
theorem dX2_perform_104 : decode cX2_perform 104 = .ok (.iadd, 1) := by decide +kernel
theorem dX2_perform_105 : decode cX2_perform 105 = .ok (.putfield 9, 3) := by decide +kernel
theorem dX2_perform_108 : decode cX2_perform 108 = .ok (.iinc 4 1, 3) := by decide +kernel
theorem dX2_perform_111 : decode cX2_perform 111 = .ok (.goto (-93), 3) := by decide +kernel
theorem dX2_perform_114 : decode cX2_perform 114 = .ok (.return_, 1) := by decide +kernel
theorem dX2_obey_0 : decode cX2_obey 0 = .ok (.aload_n 0, 1) := by decide +kernel
theorem dX2_obey_1 : decode cX2_obey 1 = .ok (.getfield 42, 3) := by decide +kernel
theorem dX2_obey_4 : decode cX2_obey 4 = .ok (.lookupswitch 102 #[(98, 89), (103, 52), (112, 70), (113, 79), (116, 61)], 52) := by decide +kernel
theorem dX2_obey_56 : decode cX2_obey 56 = .ok (.aload_n 1, 1) := by decide +kernel
theorem dX2_obey_57 : decode cX2_obey 57 = .ok (.aload_n 0, 1) := by decide +kernel
theorem dX2_obey_58 : decode cX2_obey 58 = .ok (.getfield 46, 3) := by decide +kernel
theorem dX2_obey_61 : decode cX2_obey 61 = .ok (.invokevirtual 49, 3) := by decide +kernel
theorem dX2_obey_64 : decode cX2_obey 64 = .ok (.ireturn, 1) := by decide +kernel
theorem dX2_obey_65 : decode cX2_obey 65 = .ok (.aload_n 1, 1) := by decide +kernel
theorem dX2_obey_66 : decode cX2_obey 66 = .ok (.aload_n 0, 1) := by decide +kernel
theorem dX2_obey_67 : decode cX2_obey 67 = .ok (.getfield 46, 3) := by decide +kernel
theorem dX2_obey_70 : decode cX2_obey 70 = .ok (.invokevirtual 55, 3) := by decide +kernel
theorem dX2_obey_73 : decode cX2_obey 73 = .ok (.ireturn, 1) := by decide +kernel
theorem dX2_obey_74 : decode cX2_obey 74 = .ok (.aload_n 1, 1) := by decide +kernel
theorem dX2_obey_75 : decode cX2_obey 75 = .ok (.aload_n 0, 1) := by decide +kernel
theorem dX2_obey_76 : decode cX2_obey 76 = .ok (.getfield 46, 3) := by decide +kernel
theorem dX2_obey_79 : decode cX2_obey 79 = .ok (.invokevirtual 58, 3) := by decide +kernel
theorem dX2_obey_82 : decode cX2_obey 82 = .ok (.ireturn, 1) := by decide +kernel
theorem dX2_obey_83 : decode cX2_obey 83 = .ok (.aload_n 1, 1) := by decide +kernel
theorem dX2_obey_84 : decode cX2_obey 84 = .ok (.aload_n 0, 1) := by decide +kernel
theorem dX2_obey_85 : decode cX2_obey 85 = .ok (.getfield 46, 3) := by decide +kernel
theorem dX2_obey_88 : decode cX2_obey 88 = .ok (.ineg, 1) := by decide +kernel
theorem dX2_obey_89 : decode cX2_obey 89 = .ok (.invokevirtual 58, 3) := by decide +kernel
theorem dX2_obey_92 : decode cX2_obey 92 = .ok (.ireturn, 1) := by decide +kernel
theorem dX2_obey_93 : decode cX2_obey 93 = .ok (.aload_n 1, 1) := by decide +kernel
theorem dX2_obey_94 : decode cX2_obey 94 = .ok (.aload_n 0, 1) := by decide +kernel
theorem dX2_obey_95 : decode cX2_obey 95 = .ok (.getfield 46, 3) := by decide +kernel
theorem dX2_obey_98 : decode cX2_obey 98 = .ok (.aload_n 0, 1) := by decide +kernel
theorem dX2_obey_99 : decode cX2_obey 99 = .ok (.getfield 61, 3) := by decide +kernel
theorem dX2_obey_102 : decode cX2_obey 102 = .ok (.invokevirtual 64, 3) := by decide +kernel
theorem dX2_obey_105 : decode cX2_obey 105 = .ok (.ireturn, 1) := by decide +kernel
theorem dX2_obey_106 : decode cX2_obey 106 = .ok (.aload_n 1, 1) := by decide +kernel
theorem dX2_obey_107 : decode cX2_obey 107 = .ok (.aload_n 0, 1) := by decide +kernel
theorem dX2_obey_108 : decode cX2_obey 108 = .ok (.getfield 46, 3) := by decide +kernel
theorem dX2_obey_111 : decode cX2_obey 111 = .ok (.aload_n 2, 1) := by decide +kernel
theorem dX2_obey_112 : decode cX2_obey 112 = .ok (.invokevirtual 68, 3) := by decide +kernel
theorem dX2_obey_115 : decode cX2_obey 115 = .ok (.ireturn, 1) := by decide +kernel
theorem dX3_init_0 : decode cX3_init 0 = .ok (.aload_n 0, 1) := by decide +kernel
theorem dX3_init_1 : decode cX3_init 1 = .ok (.invokespecial 3, 3) := by decide +kernel
theorem dX3_init_4 : decode cX3_init 4 = .ok (.aload_n 0, 1) := by decide +kernel
theorem dX3_init_5 : decode cX3_init 5 = .ok (.bipush 60, 2) := by decide +kernel
theorem dX3_init_7 : decode cX3_init 7 = .ok (.newarray .char, 2) := by decide +kernel
theorem dX3_init_9 : decode cX3_init 9 = .ok (.putfield 9, 3) := by decide +kernel
theorem dX3_init_12 : decode cX3_init 12 = .ok (.return_, 1) := by decide +kernel
theorem dX3_append_0 : decode cX3_append 0 = .ok (.aload_n 0, 1) := by decide +kernel
theorem dX3_append_1 : decode cX3_append 1 = .ok (.getfield 15, 3) := by decide +kernel
theorem dX3_append_4 : decode cX3_append 4 = .ok (.bipush 60, 2) := by decide +kernel
theorem dX3_append_6 : decode cX3_append 6 = .ok (.if_icmp .ge 23, 3) := by decide +kernel
theorem dX3_append_9 : decode cX3_append 9 = .ok (.aload_n 0, 1) := by decide +kernel
theorem dX3_append_10 : decode cX3_append 10 = .ok (.getfield 9, 3) := by decide +kernel
theorem dX3_append_13 : decode cX3_append 13 = .ok (.aload_n 0, 1) := by decide +kernel
theorem dX3_append_14 : decode cX3_append 14 = .ok (.getfield 15, 3) := by decide +kernel
theorem dX3_append_17 : decode cX3_append 17 = .ok (.iload_n 1, 1) := by decide +kernel
theorem dX3_append_18 : decode cX3_append 18 = .ok (.castore, 1) := by decide +kernel
theorem dX3_append_19 : decode cX3_append 19 = .ok (.aload_n 0, 1) := by decide +kernel
theorem dX3_append_20 : decode cX3_append 20 = .ok (.dup, 1) := by decide +kernel
theorem dX3_append_21 : decode cX3_append 21 = .ok (.getfield 15, 3) := by decide +kernel
theorem dX3_append_24 : decode cX3_append 24 = .ok (.iconst 1, 1) := by decide +kernel
theorem dX3_append_25 : decode cX3_append 25 = .ok (.iadd, 1) := by decide +kernel
theorem dX3_append_26 : decode cX3_append 26 = .ok (.putfield 15, 3) := by decide +kernel
theorem dX3_append_29 : decode cX3_append 29 = .ok (.return_, 1) := by decide +kernel
theorem dX3_readOrder_0 : decode cX3_readOrder 0 = .ok (.aload_n 0, 1) := by decide +kernel
theorem dX3_readOrder_1 : decode cX3_readOrder 1 = .ok (.aload_n 0, 1) := by decide +kernel
theorem dX3_readOrder_2 : decode cX3_readOrder 2 = .ok (.invokevirtual 19, 3) := by decide +kernel
theorem dX3_readOrder_5 : decode cX3_readOrder 5 = .ok (.putfield 23, 3) := by decide +kernel
theorem dX3_readOrder_8 : decode cX3_readOrder 8 = .ok (.aload_n 0, 1) := by decide +kernel
theorem dX3_readOrder_9 : decode cX3_readOrder 9 = .ok (.iconst 0, 1) := by decide +kernel
theorem dX3_readOrder_10 : decode cX3_readOrder 10 = .ok (.putfield 27, 3) := by decide +kernel
theorem dX3_readOrder_13 : decode cX3_readOrder 13 = .ok (.aload_n 0, 1) := by decide +kernel
theorem dX3_readOrder_14 : decode cX3_readOrder 14 = .ok (.getfield 23, 3) := by decide +kernel
theorem dX3_readOrder_17 : decode cX3_readOrder 17 = .ok (.invokestatic 30, 3) := by decide +kernel
theorem dX3_readOrder_20 : decode cX3_readOrder 20 = .ok (.ifCond .ne 5, 3) := by decide +kernel
theorem dX3_readOrder_23 : decode cX3_readOrder 23 = .ok (.iconst 0, 1) := by decide +kernel
theorem dX3_readOrder_24 : decode cX3_readOrder 24 = .ok (.ireturn, 1) := by decide +kernel
theorem dX3_readOrder_25 : decode cX3_readOrder 25 = .ok (.aload_n 0, 1) := by decide +kernel
theorem dX3_readOrder_26 : decode cX3_readOrder 26 = .ok (.dup, 1) := by decide +kernel
theorem dX3_readOrder_27 : decode cX3_readOrder 27 = .ok (.getfield 34, 3) := by decide +kernel
theorem dX3_readOrder_30 : decode cX3_readOrder 30 = .ok (.iconst 1, 1) := by decide +kernel
theorem dX3_readOrder_31 : decode cX3_readOrder 31 = .ok (.iadd, 1) := by decide +kernel
theorem dX3_readOrder_32 : decode cX3_readOrder 32 = .ok (.putfield 34, 3) := by decide +kernel
theorem dX3_readOrder_35 : decode cX3_readOrder 35 = .ok (.aload_n 0, 1) := by decide +kernel
theorem dX3_readOrder_36 : decode cX3_readOrder 36 = .ok (.aload_n 0, 1) := by decide +kernel
theorem dX3_readOrder_37 : decode cX3_readOrder 37 = .ok (.invokevirtual 37, 3) := by decide +kernel
theorem dX3_readOrder_40 : decode cX3_readOrder 40 = .ok (.putfield 41, 3) := by decide +kernel
theorem dX3_readOrder_43 : decode cX3_readOrder 43 = .ok (.aload_n 0, 1) := by decide +kernel
theorem dX3_readOrder_44 : decode cX3_readOrder 44 = .ok (.getfield 41, 3) := by decide +kernel
theorem dX3_readOrder_47 : decode cX3_readOrder 47 = .ok (.ifCond .ge 5, 3) := by decide +kernel
theorem dX3_readOrder_50 : decode cX3_readOrder 50 = .ok (.iconst 0, 1) := by decide +kernel
theorem dX3_readOrder_51 : decode cX3_readOrder 51 = .ok (.ireturn, 1) := by decide +kernel
theorem dX3_readOrder_52 : decode cX3_readOrder 52 = .ok (.aload_n 0, 1) := by decide +kernel
theorem dX3_readOrder_53 : decode cX3_readOrder 53 = .ok (.getfield 23, 3) := by decide +kernel
theorem dX3_readOrder_56 : decode cX3_readOrder 56 = .ok (.bipush 98, 2) := by decide +kernel
theorem dX3_readOrder_58 : decode cX3_readOrder 58 = .ok (.if_icmp .ne 22, 3) := by decide +kernel
theorem dX3_readOrder_61 : decode cX3_readOrder 61 = .ok (.aload_n 0, 1) := by decide +kernel
theorem dX3_readOrder_62 : decode cX3_readOrder 62 = .ok (.bipush 44, 2) := by decide +kernel
theorem dX3_readOrder_64 : decode cX3_readOrder 64 = .ok (.invokevirtual 44, 3) := by decide +kernel
theorem dX3_readOrder_67 : decode cX3_readOrder 67 = .ok (.ifCond .ne 5, 3) := by decide +kernel
theorem dX3_readOrder_70 : decode cX3_readOrder 70 = .ok (.iconst 0, 1) := by decide +kernel
theorem dX3_readOrder_71 : decode cX3_readOrder 71 = .ok (.ireturn, 1) := by decide +kernel
theorem dX3_readOrder_72 : decode cX3_readOrder 72 = .ok (.aload_n 0, 1) := by decide +kernel
theorem dX3_readOrder_73 : decode cX3_readOrder 73 = .ok (.aload_n 0, 1) := by decide +kernel
theorem dX3_readOrder_74 : decode cX3_readOrder 74 = .ok (.invokevirtual 37, 3) := by decide +kernel
theorem dX3_readOrder_77 : decode cX3_readOrder 77 = .ok (.putfield 27, 3) := by decide +kernel
theorem dX3_readOrder_80 : decode cX3_readOrder 80 = .ok (.aload_n 0, 1) := by decide +kernel
theorem dX3_readOrder_81 : decode cX3_readOrder 81 = .ok (.getfield 27, 3) := by decide +kernel
theorem dX3_readOrder_84 : decode cX3_readOrder 84 = .ok (.ifCond .lt 16, 3) := by decide +kernel
theorem dX3_readOrder_87 : decode cX3_readOrder 87 = .ok (.aload_n 0, 1) := by decide +kernel
theorem dX3_readOrder_88 : decode cX3_readOrder 88 = .ok (.bipush 59, 2) := by decide +kernel
theorem dX3_readOrder_90 : decode cX3_readOrder 90 = .ok (.invokevirtual 44, 3) := by decide +kernel
theorem dX3_readOrder_93 : decode cX3_readOrder 93 = .ok (.ifCond .eq 7, 3) := by decide +kernel
theorem dX3_readOrder_96 : decode cX3_readOrder 96 = .ok (.iconst 1, 1) := by decide +kernel
theorem dX3_readOrder_97 : decode cX3_readOrder 97 = .ok (.goto 4, 3) := by decide +kernel
theorem dX3_readOrder_100 : decode cX3_readOrder 100 = .ok (.iconst 0, 1) := by decide +kernel
theorem dX3_readOrder_101 : decode cX3_readOrder 101 = .ok (.ireturn, 1) := by decide +kernel
theorem dX3_isKind_0 : decode cX3_isKind 0 = .ok (.iload_n 0, 1) := by decide +kernel
theorem dX3_isKind_1 : decode cX3_isKind 1 = .ok (.bipush 103, 2) := by decide +kernel
theorem dX3_isKind_3 : decode cX3_isKind 3 = .ok (.if_icmp .eq 33, 3) := by decide +kernel
theorem dX3_isKind_6 : decode cX3_isKind 6 = .ok (.iload_n 0, 1) := by decide +kernel
theorem dX3_isKind_7 : decode cX3_isKind 7 = .ok (.bipush 116, 2) := by decide +kernel
theorem dX3_isKind_9 : decode cX3_isKind 9 = .ok (.if_icmp .eq 27, 3) := by decide +kernel
theorem dX3_isKind_12 : decode cX3_isKind 12 = .ok (.iload_n 0, 1) := by decide +kernel
theorem dX3_isKind_13 : decode cX3_isKind 13 = .ok (.bipush 112, 2) := by decide +kernel
theorem dX3_isKind_15 : decode cX3_isKind 15 = .ok (.if_icmp .eq 21, 3) := by decide +kernel
theorem dX3_isKind_18 : decode cX3_isKind 18 = .ok (.iload_n 0, 1) := by decide +kernel
theorem dX3_isKind_19 : decode cX3_isKind 19 = .ok (.bipush 113, 2) := by decide +kernel
theorem dX3_isKind_21 : decode cX3_isKind 21 = .ok (.if_icmp .eq 15, 3) := by decide +kernel
theorem dX3_isKind_24 : decode cX3_isKind 24 = .ok (.iload_n 0, 1) := by decide +kernel
theorem dX3_isKind_25 : decode cX3_isKind 25 = .ok (.bipush 98, 2) := by decide +kernel
theorem dX3_isKind_27 : decode cX3_isKind 27 = .ok (.if_icmp .eq 9, 3) := by decide +kernel
theorem dX3_isKind_30 : decode cX3_isKind 30 = .ok (.iload_n 0, 1) := by decide +kernel
theorem dX3_isKind_31 : decode cX3_isKind 31 = .ok (.bipush 114, 2) := by decide +kernel
theorem dX3_isKind_33 : decode cX3_isKind 33 = .ok (.if_icmp .ne 7, 3) := by decide +kernel
theorem dX3_isKind_36 : decode cX3_isKind 36 = .ok (.iconst 1, 1) := by decide +kernel
theorem dX3_isKind_37 : decode cX3_isKind 37 = .ok (.goto 4, 3) := by decide +kernel
theorem dX3_isKind_40 : decode cX3_isKind 40 = .ok (.iconst 0, 1) := by decide +kernel
theorem dX3_isKind_41 : decode cX3_isKind 41 = .ok (.ireturn, 1) := by decide +kernel
theorem dX3_characterHere_0 : decode cX3_characterHere 0 = .ok (.aload_n 0, 1) := by decide +kernel
theorem dX3_characterHere_1 : decode cX3_characterHere 1 = .ok (.getfield 34, 3) := by decide +kernel
theorem dX3_characterHere_4 : decode cX3_characterHere 4 = .ok (.ifCond .lt 35, 3) := by decide +kernel
theorem dX3_characterHere_7 : decode cX3_characterHere 7 = .ok (.aload_n 0, 1) := by decide +kernel
theorem dX3_characterHere_8 : decode cX3_characterHere 8 = .ok (.getfield 34, 3) := by decide +kernel
theorem dX3_characterHere_11 : decode cX3_characterHere 11 = .ok (.aload_n 0, 1) := by decide +kernel
theorem dX3_characterHere_12 : decode cX3_characterHere 12 = .ok (.getfield 15, 3) := by decide +kernel
theorem dX3_characterHere_15 : decode cX3_characterHere 15 = .ok (.if_icmp .ge 24, 3) := by decide +kernel
theorem dX3_characterHere_18 : decode cX3_characterHere 18 = .ok (.aload_n 0, 1) := by decide +kernel
theorem dX3_characterHere_19 : decode cX3_characterHere 19 = .ok (.getfield 34, 3) := by decide +kernel
theorem dX3_characterHere_22 : decode cX3_characterHere 22 = .ok (.bipush 60, 2) := by decide +kernel
theorem dX3_characterHere_24 : decode cX3_characterHere 24 = .ok (.if_icmp .ge 15, 3) := by decide +kernel
theorem dX3_characterHere_27 : decode cX3_characterHere 27 = .ok (.aload_n 0, 1) := by decide +kernel
theorem dX3_characterHere_28 : decode cX3_characterHere 28 = .ok (.getfield 9, 3) := by decide +kernel
theorem dX3_characterHere_31 : decode cX3_characterHere 31 = .ok (.aload_n 0, 1) := by decide +kernel
theorem dX3_characterHere_32 : decode cX3_characterHere 32 = .ok (.getfield 34, 3) := by decide +kernel
theorem dX3_characterHere_35 : decode cX3_characterHere 35 = .ok (.caload, 1) := by decide +kernel
theorem dX3_characterHere_36 : decode cX3_characterHere 36 = .ok (.goto 4, 3) := by decide +kernel
theorem dX3_characterHere_39 : decode cX3_characterHere 39 = .ok (.iconst 0, 1) := by decide +kernel
theorem dX3_characterHere_40 : decode cX3_characterHere 40 = .ok (.ireturn, 1) := by decide +kernel
theorem dX3_skip_0 : decode cX3_skip 0 = .ok (.aload_n 0, 1) := by decide +kernel
theorem dX3_skip_1 : decode cX3_skip 1 = .ok (.invokevirtual 19, 3) := by decide +kernel
theorem dX3_skip_4 : decode cX3_skip 4 = .ok (.iload_n 1, 1) := by decide +kernel
theorem dX3_skip_5 : decode cX3_skip 5 = .ok (.if_icmp .eq 5, 3) := by decide +kernel
theorem dX3_skip_8 : decode cX3_skip 8 = .ok (.iconst 0, 1) := by decide +kernel
theorem dX3_skip_9 : decode cX3_skip 9 = .ok (.ireturn, 1) := by decide +kernel
theorem dX3_skip_10 : decode cX3_skip 10 = .ok (.aload_n 0, 1) := by decide +kernel
theorem dX3_skip_11 : decode cX3_skip 11 = .ok (.dup, 1) := by decide +kernel
theorem dX3_skip_12 : decode cX3_skip 12 = .ok (.getfield 34, 3) := by decide +kernel
theorem dX3_skip_15 : decode cX3_skip 15 = .ok (.iconst 1, 1) := by decide +kernel
theorem dX3_skip_16 : decode cX3_skip 16 = .ok (.iadd, 1) := by decide +kernel
theorem dX3_skip_17 : decode cX3_skip 17 = .ok (.putfield 34, 3) := by decide +kernel
theorem dX3_skip_20 : decode cX3_skip 20 = .ok (.iconst 1, 1) := by decide +kernel
theorem dX3_skip_21 : decode cX3_skip 21 = .ok (.ireturn, 1) := by decide +kernel
theorem dX3_readNumber_0 : decode cX3_readNumber 0 = .ok (.iconst (-1), 1) := by decide +kernel
theorem dX3_readNumber_1 : decode cX3_readNumber 1 = .ok (.istore_n 1, 1) := by decide +kernel
theorem dX3_readNumber_2 : decode cX3_readNumber 2 = .ok (.iconst 0, 1) := by decide +kernel
theorem dX3_readNumber_3 : decode cX3_readNumber 3 = .ok (.istore_n 2, 1) := by decide +kernel
theorem dX3_readNumber_4 : decode cX3_readNumber 4 = .ok (.iload_n 2, 1) := by decide +kernel
theorem dX3_readNumber_5 : decode cX3_readNumber 5 = .ok (.iconst 3, 1) := by decide +kernel
theorem dX3_readNumber_6 : decode cX3_readNumber 6 = .ok (.if_icmp .ge 52, 3) := by decide +kernel
theorem dX3_readNumber_9 : decode cX3_readNumber 9 = .ok (.aload_n 0, 1) := by decide +kernel
theorem dX3_readNumber_10 : decode cX3_readNumber 10 = .ok (.invokevirtual 19, 3) := by decide +kernel
theorem dX3_readNumber_13 : decode cX3_readNumber 13 = .ok (.istore_n 3, 1) := by decide +kernel
theorem dX3_readNumber_14 : decode cX3_readNumber 14 = .ok (.iload_n 3, 1) := by decide +kernel
theorem dX3_readNumber_15 : decode cX3_readNumber 15 = .ok (.bipush 48, 2) := by decide +kernel
theorem dX3_readNumber_17 : decode cX3_readNumber 17 = .ok (.if_icmp .lt 9, 3) := by decide +kernel
theorem dX3_readNumber_20 : decode cX3_readNumber 20 = .ok (.iload_n 3, 1) := by decide +kernel
theorem dX3_readNumber_21 : decode cX3_readNumber 21 = .ok (.bipush 57, 2) := by decide +kernel
theorem dX3_readNumber_23 : decode cX3_readNumber 23 = .ok (.if_icmp .le 5, 3) := by decide +kernel
theorem dX3_readNumber_26 : decode cX3_readNumber 26 = .ok (.iload_n 1, 1) := by decide +kernel
theorem dX3_readNumber_27 : decode cX3_readNumber 27 = .ok (.ireturn, 1) := by decide +kernel
theorem dX3_readNumber_28 : decode cX3_readNumber 28 = .ok (.iconst 0, 1) := by decide +kernel
theorem dX3_readNumber_29 : decode cX3_readNumber 29 = .ok (.iload_n 1, 1) := by decide +kernel
theorem dX3_readNumber_30 : decode cX3_readNumber 30 = .ok (.invokestatic 47, 3) := by decide +kernel
theorem dX3_readNumber_33 : decode cX3_readNumber 33 = .ok (.bipush 10, 2) := by decide +kernel
theorem dX3_readNumber_35 : decode cX3_readNumber 35 = .ok (.imul, 1) := by decide +kernel
theorem dX3_readNumber_36 : decode cX3_readNumber 36 = .ok (.iload_n 3, 1) := by decide +kernel
theorem dX3_readNumber_37 : decode cX3_readNumber 37 = .ok (.bipush 48, 2) := by decide +kernel
theorem dX3_readNumber_39 : decode cX3_readNumber 39 = .ok (.isub, 1) := by decide +kernel
theorem dX3_readNumber_40 : decode cX3_readNumber 40 = .ok (.iadd, 1) := by decide +kernel
theorem dX3_readNumber_41 : decode cX3_readNumber 41 = .ok (.istore_n 1, 1) := by decide +kernel
theorem dX3_readNumber_42 : decode cX3_readNumber 42 = .ok (.aload_n 0, 1) := by decide +kernel
theorem dX3_readNumber_43 : decode cX3_readNumber 43 = .ok (.dup, 1) := by decide +kernel
theorem dX3_readNumber_44 : decode cX3_readNumber 44 = .ok (.getfield 34, 3) := by decide +kernel
theorem dX3_readNumber_47 : decode cX3_readNumber 47 = .ok (.iconst 1, 1) := by decide +kernel
theorem dX3_readNumber_48 : decode cX3_readNumber 48 = .ok (.iadd, 1) := by decide +kernel
theorem dX3_readNumber_49 : decode cX3_readNumber 49 = .ok (.putfield 34, 3) := by decide +kernel
theorem dX3_readNumber_52 : decode cX3_readNumber 52 = .ok (.iinc 2 1, 3) := by decide +kernel
theorem dX3_readNumber_55 : decode cX3_readNumber 55 = .ok (.goto (-51), 3) := by decide +kernel
theorem dX3_readNumber_58 : decode cX3_readNumber 58 = .ok (.iload_n 1, 1) := by decide +kernel
theorem dX3_readNumber_59 : decode cX3_readNumber 59 = .ok (.ireturn, 1) := by decide +kernel
theorem dX4_init_0 : decode cX4_init 0 = .ok (.aload_n 0, 1) := by decide +kernel
theorem dX4_init_1 : decode cX4_init 1 = .ok (.invokespecial 3, 3) := by decide +kernel
theorem dX4_init_4 : decode cX4_init 4 = .ok (.return_, 1) := by decide +kernel
theorem dX4_foresee_0 : decode cX4_foresee 0 = .ok (.iload_n 2, 1) := by decide +kernel
theorem dX4_foresee_1 : decode cX4_foresee 1 = .ok (.invokestatic 9, 3) := by decide +kernel
theorem dX4_foresee_4 : decode cX4_foresee 4 = .ok (.istore_n 3, 1) := by decide +kernel
theorem dX4_foresee_5 : decode cX4_foresee 5 = .ok (.aload_n 1, 1) := by decide +kernel
theorem dX4_foresee_6 : decode cX4_foresee 6 = .ok (.invokevirtual 15, 3) := by decide +kernel
theorem dX4_foresee_9 : decode cX4_foresee 9 = .ok (.istore 4, 2) := by decide +kernel
theorem dX4_foresee_11 : decode cX4_foresee 11 = .ok (.aload_n 0, 1) := by decide +kernel
theorem dX4_foresee_12 : decode cX4_foresee 12 = .ok (.iload 4, 2) := by decide +kernel
theorem dX4_foresee_14 : decode cX4_foresee 14 = .ok (.ifCond .eq 7, 3) := by decide +kernel
theorem dX4_foresee_17 : decode cX4_foresee 17 = .ok (.iconst 0, 1) := by decide +kernel
theorem dX4_foresee_18 : decode cX4_foresee 18 = .ok (.goto 11, 3) := by decide +kernel
theorem dX4_foresee_21 : decode cX4_foresee 21 = .ok (.aload_n 1, 1) := by decide +kernel
theorem dX4_foresee_22 : decode cX4_foresee 22 = .ok (.getfield 21, 3) := by decide +kernel
theorem dX4_foresee_25 : decode cX4_foresee 25 = .ok (.iload_n 2, 1) := by decide +kernel
theorem dX4_foresee_26 : decode cX4_foresee 26 = .ok (.imul, 1) := by decide +kernel
theorem dX4_foresee_27 : decode cX4_foresee 27 = .ok (.iconst 2, 1) := by decide +kernel
theorem dX4_foresee_28 : decode cX4_foresee 28 = .ok (.imul, 1) := by decide +kernel
theorem dX4_foresee_29 : decode cX4_foresee 29 = .ok (.putfield 25, 3) := by decide +kernel
theorem dX4_foresee_32 : decode cX4_foresee 32 = .ok (.aload_n 0, 1) := by decide +kernel
theorem dX4_foresee_33 : decode cX4_foresee 33 = .ok (.iload_n 3, 1) := by decide +kernel
theorem dX4_foresee_34 : decode cX4_foresee 34 = .ok (.aload_n 1, 1) := by decide +kernel
theorem dX4_foresee_35 : decode cX4_foresee 35 = .ok (.getfield 30, 3) := by decide +kernel
theorem dX4_foresee_38 : decode cX4_foresee 38 = .ok (.iconst 0, 1) := by decide +kernel
theorem dX4_foresee_39 : decode cX4_foresee 39 = .ok (.iaload, 1) := by decide +kernel
theorem dX4_foresee_40 : decode cX4_foresee 40 = .ok (.if_icmp .lt 12, 3) := by decide +kernel
theorem dX4_foresee_43 : decode cX4_foresee 43 = .ok (.aload_n 1, 1) := by decide +kernel
theorem dX4_foresee_44 : decode cX4_foresee 44 = .ok (.getfield 34, 3) := by decide +kernel
theorem dX4_foresee_47 : decode cX4_foresee 47 = .ok (.iload_n 2, 1) := by decide +kernel
theorem dX4_foresee_48 : decode cX4_foresee 48 = .ok (.imul, 1) := by decide +kernel
theorem dX4_foresee_49 : decode cX4_foresee 49 = .ok (.goto 4, 3) := by decide +kernel
theorem dX4_foresee_52 : decode cX4_foresee 52 = .ok (.iconst 0, 1) := by decide +kernel
theorem dX4_foresee_53 : decode cX4_foresee 53 = .ok (.putfield 37, 3) := by decide +kernel
theorem dX4_foresee_56 : decode cX4_foresee 56 = .ok (.aload_n 0, 1) := by decide +kernel
theorem dX4_foresee_57 : decode cX4_foresee 57 = .ok (.iload 4, 2) := by decide +kernel
theorem dX4_foresee_59 : decode cX4_foresee 59 = .ok (.ifCond .ne 20, 3) := by decide +kernel
theorem dX4_foresee_62 : decode cX4_foresee 62 = .ok (.iload_n 3, 1) := by decide +kernel
theorem dX4_foresee_63 : decode cX4_foresee 63 = .ok (.aload_n 1, 1) := by decide +kernel
theorem dX4_foresee_64 : decode cX4_foresee 64 = .ok (.getfield 30, 3) := by decide +kernel
theorem dX4_foresee_67 : decode cX4_foresee 67 = .ok (.iconst 1, 1) := by decide +kernel
theorem dX4_foresee_68 : decode cX4_foresee 68 = .ok (.iaload, 1) := by decide +kernel
theorem dX4_foresee_69 : decode cX4_foresee 69 = .ok (.if_icmp .gt 10, 3) := by decide +kernel
theorem dX4_foresee_72 : decode cX4_foresee 72 = .ok (.aload_n 1, 1) := by decide +kernel
theorem dX4_foresee_73 : decode cX4_foresee 73 = .ok (.getfield 40, 3) := by decide +kernel
theorem dX4_foresee_76 : decode cX4_foresee 76 = .ok (.goto 4, 3) := by decide +kernel
theorem dX4_foresee_79 : decode cX4_foresee 79 = .ok (.iconst 0, 1) := by decide +kernel
theorem dX4_foresee_80 : decode cX4_foresee 80 = .ok (.putfield 43, 3) := by decide +kernel
theorem dX4_foresee_83 : decode cX4_foresee 83 = .ok (.aload_n 0, 1) := by decide +kernel
theorem dX4_foresee_84 : decode cX4_foresee 84 = .ok (.aload_n 0, 1) := by decide +kernel
theorem dX4_foresee_85 : decode cX4_foresee 85 = .ok (.getfield 37, 3) := by decide +kernel
theorem dX4_foresee_88 : decode cX4_foresee 88 = .ok (.invokestatic 9, 3) := by decide +kernel
theorem dX4_foresee_91 : decode cX4_foresee 91 = .ok (.iload_n 3, 1) := by decide +kernel
theorem dX4_foresee_92 : decode cX4_foresee 92 = .ok (.imul, 1) := by decide +kernel
theorem dX4_foresee_93 : decode cX4_foresee 93 = .ok (.bipush 100, 2) := by decide +kernel
theorem dX4_foresee_95 : decode cX4_foresee 95 = .ok (.idiv, 1) := by decide +kernel
theorem dX4_foresee_96 : decode cX4_foresee 96 = .ok (.putfield 46, 3) := by decide +kernel
theorem dX4_foresee_99 : decode cX4_foresee 99 = .ok (.aload_n 0, 1) := by decide +kernel
theorem dX4_foresee_100 : decode cX4_foresee 100 = .ok (.aload_n 0, 1) := by decide +kernel
theorem dX4_foresee_101 : decode cX4_foresee 101 = .ok (.getfield 43, 3) := by decide +kernel
theorem dX4_foresee_104 : decode cX4_foresee 104 = .ok (.invokestatic 9, 3) := by decide +kernel
theorem dX4_foresee_107 : decode cX4_foresee 107 = .ok (.bipush 20, 2) := by decide +kernel
theorem dX4_foresee_109 : decode cX4_foresee 109 = .ok (.iload_n 3, 1) := by decide +kernel
theorem dX4_foresee_110 : decode cX4_foresee 110 = .ok (.iadd, 1) := by decide +kernel
theorem dX4_foresee_111 : decode cX4_foresee 111 = .ok (.imul, 1) := by decide +kernel
theorem dX4_foresee_112 : decode cX4_foresee 112 = .ok (.bipush 100, 2) := by decide +kernel
theorem dX4_foresee_114 : decode cX4_foresee 114 = .ok (.idiv, 1) := by decide +kernel
theorem dX4_foresee_115 : decode cX4_foresee 115 = .ok (.putfield 49, 3) := by decide +kernel
theorem dX4_foresee_118 : decode cX4_foresee 118 = .ok (.aload_n 0, 1) := by decide +kernel
theorem dX4_foresee_119 : decode cX4_foresee 119 = .ok (.getfield 25, 3) := by decide +kernel
theorem dX4_foresee_122 : decode cX4_foresee 122 = .ok (.aload_n 0, 1) := by decide +kernel
theorem dX4_foresee_123 : decode cX4_foresee 123 = .ok (.getfield 37, 3) := by decide +kernel
theorem dX4_foresee_126 : decode cX4_foresee 126 = .ok (.iadd, 1) := by decide +kernel
theorem dX4_foresee_127 : decode cX4_foresee 127 = .ok (.aload_n 0, 1) := by decide +kernel
theorem dX4_foresee_128 : decode cX4_foresee 128 = .ok (.getfield 43, 3) := by decide +kernel
theorem dX4_foresee_131 : decode cX4_foresee 131 = .ok (.iadd, 1) := by decide +kernel
theorem dX4_foresee_132 : decode cX4_foresee 132 = .ok (.istore 5, 2) := by decide +kernel
theorem dX4_foresee_134 : decode cX4_foresee 134 = .ok (.aload_n 0, 1) := by decide +kernel
theorem dX4_foresee_135 : decode cX4_foresee 135 = .ok (.aload_n 1, 1) := by decide +kernel
theorem dX4_foresee_136 : decode cX4_foresee 136 = .ok (.getfield 52, 3) := by decide +kernel
theorem dX4_foresee_139 : decode cX4_foresee 139 = .ok (.ineg, 1) := by decide +kernel
theorem dX4_foresee_140 : decode cX4_foresee 140 = .ok (.ldc 55, 2) := by decide +kernel
theorem dX4_foresee_142 : decode cX4_foresee 142 = .ok (.aload_n 1, 1) := by decide +kernel
theorem dX4_foresee_143 : decode cX4_foresee 143 = .ok (.getfield 52, 3) := by decide +kernel
theorem dX4_foresee_146 : decode cX4_foresee 146 = .ok (.isub, 1) := by decide +kernel
theorem dX4_foresee_147 : decode cX4_foresee 147 = .ok (.iload 5, 2) := by decide +kernel
theorem dX4_foresee_149 : decode cX4_foresee 149 = .ok (.invokestatic 56, 3) := by decide +kernel
theorem dX4_foresee_152 : decode cX4_foresee 152 = .ok (.invokestatic 60, 3) := by decide +kernel
theorem dX4_foresee_155 : decode cX4_foresee 155 = .ok (.putfield 63, 3) := by decide +kernel
theorem dX4_foresee_158 : decode cX4_foresee 158 = .ok (.aload_n 0, 1) := by decide +kernel
theorem dX4_foresee_159 : decode cX4_foresee 159 = .ok (.aload_n 0, 1) := by decide +kernel
theorem dX4_foresee_160 : decode cX4_foresee 160 = .ok (.aload_n 1, 1) := by decide +kernel
theorem dX4_foresee_161 : decode cX4_foresee 161 = .ok (.invokevirtual 66, 3) := by decide +kernel
theorem dX4_foresee_164 : decode cX4_foresee 164 = .ok (.putfield 70, 3) := by decide +kernel
theorem dX4_foresee_167 : decode cX4_foresee 167 = .ok (.return_, 1) := by decide +kernel
theorem dX4_siltOf_0 : decode cX4_siltOf 0 = .ok (.aload_n 0, 1) := by decide +kernel
theorem dX4_siltOf_1 : decode cX4_siltOf 1 = .ok (.getfield 63, 3) := by decide +kernel
theorem dX4_siltOf_4 : decode cX4_siltOf 4 = .ok (.ifCond .le 22, 3) := by decide +kernel
theorem dX4_siltOf_7 : decode cX4_siltOf 7 = .ok (.aload_n 0, 1) := by decide +kernel
theorem dX4_siltOf_8 : decode cX4_siltOf 8 = .ok (.getfield 63, 3) := by decide +kernel
theorem dX4_siltOf_11 : decode cX4_siltOf 11 = .ok (.bipush 50, 2) := by decide +kernel
theorem dX4_siltOf_13 : decode cX4_siltOf 13 = .ok (.idiv, 1) := by decide +kernel
theorem dX4_siltOf_14 : decode cX4_siltOf 14 = .ok (.sipush 20000, 3) := by decide +kernel
theorem dX4_siltOf_17 : decode cX4_siltOf 17 = .ok (.aload_n 1, 1) := by decide +kernel
theorem dX4_siltOf_18 : decode cX4_siltOf 18 = .ok (.getfield 73, 3) := by decide +kernel
theorem dX4_siltOf_21 : decode cX4_siltOf 21 = .ok (.isub, 1) := by decide +kernel
theorem dX4_siltOf_22 : decode cX4_siltOf 22 = .ok (.invokestatic 56, 3) := by decide +kernel
theorem dX4_siltOf_25 : decode cX4_siltOf 25 = .ok (.ireturn, 1) := by decide +kernel
theorem dX4_siltOf_26 : decode cX4_siltOf 26 = .ok (.aload_n 0, 1) := by decide +kernel
theorem dX4_siltOf_27 : decode cX4_siltOf 27 = .ok (.getfield 63, 3) := by decide +kernel
theorem dX4_siltOf_30 : decode cX4_siltOf 30 = .ok (.aload_n 1, 1) := by decide +kernel
theorem dX4_siltOf_31 : decode cX4_siltOf 31 = .ok (.getfield 30, 3) := by decide +kernel
theorem dX4_siltOf_34 : decode cX4_siltOf 34 = .ok (.iconst 2, 1) := by decide +kernel
theorem dX4_siltOf_35 : decode cX4_siltOf 35 = .ok (.iaload, 1) := by decide +kernel
theorem dX4_siltOf_36 : decode cX4_siltOf 36 = .ok (.ineg, 1) := by decide +kernel
theorem dX4_siltOf_37 : decode cX4_siltOf 37 = .ok (.if_icmp .gt 20, 3) := by decide +kernel
theorem dX4_siltOf_40 : decode cX4_siltOf 40 = .ok (.aload_n 0, 1) := by decide +kernel
theorem dX4_siltOf_41 : decode cX4_siltOf 41 = .ok (.getfield 63, 3) := by decide +kernel
theorem dX4_siltOf_44 : decode cX4_siltOf 44 = .ok (.ineg, 1) := by decide +kernel
theorem dX4_siltOf_45 : decode cX4_siltOf 45 = .ok (.bipush 20, 2) := by decide +kernel
theorem dX4_siltOf_47 : decode cX4_siltOf 47 = .ok (.idiv, 1) := by decide +kernel
theorem dX4_siltOf_48 : decode cX4_siltOf 48 = .ok (.aload_n 1, 1) := by decide +kernel
theorem dX4_siltOf_49 : decode cX4_siltOf 49 = .ok (.getfield 73, 3) := by decide +kernel
theorem dX4_siltOf_52 : decode cX4_siltOf 52 = .ok (.invokestatic 56, 3) := by decide +kernel
theorem dX4_siltOf_55 : decode cX4_siltOf 55 = .ok (.ineg, 1) := by decide +kernel
theorem dX4_siltOf_56 : decode cX4_siltOf 56 = .ok (.ireturn, 1) := by decide +kernel
theorem dX4_siltOf_57 : decode cX4_siltOf 57 = .ok (.iconst 0, 1) := by decide +kernel
theorem dX4_siltOf_58 : decode cX4_siltOf 58 = .ok (.ireturn, 1) := by decide +kernel
theorem dX5_init_0 : decode cX5_init 0 = .ok (.aload_n 0, 1) := by decide +kernel
theorem dX5_init_1 : decode cX5_init 1 = .ok (.invokespecial 1, 3) := by decide +kernel
theorem dX5_init_4 : decode cX5_init 4 = .ok (.aload_n 0, 1) := by decide +kernel
theorem dX5_init_5 : decode cX5_init 5 = .ok (.new 7, 3) := by decide +kernel
theorem dX5_init_8 : decode cX5_init 8 = .ok (.dup, 1) := by decide +kernel
theorem dX5_init_9 : decode cX5_init 9 = .ok (.invokespecial 9, 3) := by decide +kernel
theorem dX5_init_12 : decode cX5_init 12 = .ok (.putfield 10, 3) := by decide +kernel
theorem dX5_init_15 : decode cX5_init 15 = .ok (.aload_n 0, 1) := by decide +kernel
theorem dX5_init_16 : decode cX5_init 16 = .ok (.new 7, 3) := by decide +kernel
theorem dX5_init_19 : decode cX5_init 19 = .ok (.dup, 1) := by decide +kernel
theorem dX5_init_20 : decode cX5_init 20 = .ok (.invokespecial 9, 3) := by decide +kernel
theorem dX5_init_23 : decode cX5_init 23 = .ok (.putfield 16, 3) := by decide +kernel
theorem dX5_init_26 : decode cX5_init 26 = .ok (.aload_n 0, 1) := by decide +kernel
theorem dX5_init_27 : decode cX5_init 27 = .ok (.new 19, 3) := by decide +kernel
theorem dX5_init_30 : decode cX5_init 30 = .ok (.dup, 1) := by decide +kernel
theorem dX5_init_31 : decode cX5_init 31 = .ok (.invokespecial 21, 3) := by decide +kernel
theorem dX5_init_34 : decode cX5_init 34 = .ok (.putfield 22, 3) := by decide +kernel
theorem dX5_init_37 : decode cX5_init 37 = .ok (.aload_n 0, 1) := by decide +kernel
theorem dX5_init_38 : decode cX5_init 38 = .ok (.new 26, 3) := by decide +kernel
theorem dX5_init_41 : decode cX5_init 41 = .ok (.dup, 1) := by decide +kernel
theorem dX5_init_42 : decode cX5_init 42 = .ok (.invokespecial 28, 3) := by decide +kernel
theorem dX5_init_45 : decode cX5_init 45 = .ok (.putfield 29, 3) := by decide +kernel
theorem dX5_init_48 : decode cX5_init 48 = .ok (.aload_n 0, 1) := by decide +kernel
theorem dX5_init_49 : decode cX5_init 49 = .ok (.new 33, 3) := by decide +kernel
theorem dX5_init_52 : decode cX5_init 52 = .ok (.dup, 1) := by decide +kernel
theorem dX5_init_53 : decode cX5_init 53 = .ok (.invokespecial 35, 3) := by decide +kernel
theorem dX5_init_56 : decode cX5_init 56 = .ok (.putfield 36, 3) := by decide +kernel
theorem dX5_init_59 : decode cX5_init 59 = .ok (.aload_n 0, 1) := by decide +kernel
theorem dX5_init_60 : decode cX5_init 60 = .ok (.new 40, 3) := by decide +kernel
theorem dX5_init_63 : decode cX5_init 63 = .ok (.dup, 1) := by decide +kernel
theorem dX5_init_64 : decode cX5_init 64 = .ok (.invokespecial 42, 3) := by decide +kernel
theorem dX5_init_67 : decode cX5_init 67 = .ok (.putfield 43, 3) := by decide +kernel
theorem dX5_init_70 : decode cX5_init 70 = .ok (.return_, 1) := by decide +kernel
theorem dX5_gates_0 : decode cX5_gates 0 = .ok (.aload_n 0, 1) := by decide +kernel
theorem dX5_gates_1 : decode cX5_gates 1 = .ok (.getfield 16, 3) := by decide +kernel
theorem dX5_gates_4 : decode cX5_gates 4 = .ok (.aload_n 0, 1) := by decide +kernel
theorem dX5_gates_5 : decode cX5_gates 5 = .ok (.getfield 10, 3) := by decide +kernel
theorem dX5_gates_8 : decode cX5_gates 8 = .ok (.invokevirtual 47, 3) := by decide +kernel
theorem dX5_gates_11 : decode cX5_gates 11 = .ok (.aload_n 0, 1) := by decide +kernel
theorem dX5_gates_12 : decode cX5_gates 12 = .ok (.aload_n 0, 1) := by decide +kernel
theorem dX5_gates_13 : decode cX5_gates 13 = .ok (.getfield 16, 3) := by decide +kernel
theorem dX5_gates_16 : decode cX5_gates 16 = .ok (.iload_n 1, 1) := by decide +kernel
theorem dX5_gates_17 : decode cX5_gates 17 = .ok (.invokevirtual 51, 3) := by decide +kernel
theorem dX5_gates_20 : decode cX5_gates 20 = .ok (.invokevirtual 55, 3) := by decide +kernel
theorem dX5_gates_23 : decode cX5_gates 23 = .ok (.ireturn, 1) := by decide +kernel
theorem dX5_turbines_0 : decode cX5_turbines 0 = .ok (.aload_n 0, 1) := by decide +kernel
theorem dX5_turbines_1 : decode cX5_turbines 1 = .ok (.getfield 16, 3) := by decide +kernel
theorem dX5_turbines_4 : decode cX5_turbines 4 = .ok (.aload_n 0, 1) := by decide +kernel
theorem dX5_turbines_5 : decode cX5_turbines 5 = .ok (.getfield 10, 3) := by decide +kernel
theorem dX5_turbines_8 : decode cX5_turbines 8 = .ok (.invokevirtual 47, 3) := by decide +kernel
theorem dX5_turbines_11 : decode cX5_turbines 11 = .ok (.aload_n 0, 1) := by decide +kernel
theorem dX5_turbines_12 : decode cX5_turbines 12 = .ok (.aload_n 0, 1) := by decide +kernel
theorem dX5_turbines_13 : decode cX5_turbines 13 = .ok (.getfield 16, 3) := by decide +kernel
theorem dX5_turbines_16 : decode cX5_turbines 16 = .ok (.iload_n 1, 1) := by decide +kernel
theorem dX5_turbines_17 : decode cX5_turbines 17 = .ok (.invokevirtual 58, 3) := by decide +kernel
theorem dX5_turbines_20 : decode cX5_turbines 20 = .ok (.invokevirtual 55, 3) := by decide +kernel
theorem dX5_turbines_23 : decode cX5_turbines 23 = .ok (.ireturn, 1) := by decide +kernel
theorem dX5_pump_0 : decode cX5_pump 0 = .ok (.aload_n 0, 1) := by decide +kernel
theorem dX5_pump_1 : decode cX5_pump 1 = .ok (.getfield 16, 3) := by decide +kernel
theorem dX5_pump_4 : decode cX5_pump 4 = .ok (.aload_n 0, 1) := by decide +kernel
theorem dX5_pump_5 : decode cX5_pump 5 = .ok (.getfield 10, 3) := by decide +kernel
theorem dX5_pump_8 : decode cX5_pump 8 = .ok (.invokevirtual 47, 3) := by decide +kernel
theorem dX5_pump_11 : decode cX5_pump 11 = .ok (.aload_n 0, 1) := by decide +kernel
theorem dX5_pump_12 : decode cX5_pump 12 = .ok (.aload_n 0, 1) := by decide +kernel
theorem dX5_pump_13 : decode cX5_pump 13 = .ok (.getfield 16, 3) := by decide +kernel
theorem dX5_pump_16 : decode cX5_pump 16 = .ok (.iload_n 1, 1) := by decide +kernel
theorem dX5_pump_17 : decode cX5_pump 17 = .ok (.invokevirtual 61, 3) := by decide +kernel
theorem dX5_pump_20 : decode cX5_pump 20 = .ok (.invokevirtual 55, 3) := by decide +kernel
theorem dX5_pump_23 : decode cX5_pump 23 = .ok (.ireturn, 1) := by decide +kernel
theorem dX5_birds_0 : decode cX5_birds 0 = .ok (.aload_n 0, 1) := by decide +kernel
theorem dX5_birds_1 : decode cX5_birds 1 = .ok (.getfield 16, 3) := by decide +kernel
theorem dX5_birds_4 : decode cX5_birds 4 = .ok (.aload_n 0, 1) := by decide +kernel
theorem dX5_birds_5 : decode cX5_birds 5 = .ok (.getfield 10, 3) := by decide +kernel
theorem dX5_birds_8 : decode cX5_birds 8 = .ok (.invokevirtual 47, 3) := by decide +kernel
theorem dX5_birds_11 : decode cX5_birds 11 = .ok (.aload_n 0, 1) := by decide +kernel
theorem dX5_birds_12 : decode cX5_birds 12 = .ok (.aload_n 0, 1) := by decide +kernel
theorem dX5_birds_13 : decode cX5_birds 13 = .ok (.getfield 16, 3) := by decide +kernel
theorem dX5_birds_16 : decode cX5_birds 16 = .ok (.iload_n 1, 1) := by decide +kernel
theorem dX5_birds_17 : decode cX5_birds 17 = .ok (.iload_n 2, 1) := by decide +kernel
theorem dX5_birds_18 : decode cX5_birds 18 = .ok (.invokevirtual 64, 3) := by decide +kernel
theorem dX5_birds_21 : decode cX5_birds 21 = .ok (.invokevirtual 55, 3) := by decide +kernel
theorem dX5_birds_24 : decode cX5_birds 24 = .ok (.ireturn, 1) := by decide +kernel
theorem dX5_run_0 : decode cX5_run 0 = .ok (.aload_n 0, 1) := by decide +kernel
theorem dX5_run_1 : decode cX5_run 1 = .ok (.getfield 16, 3) := by decide +kernel
theorem dX5_run_4 : decode cX5_run 4 = .ok (.aload_n 0, 1) := by decide +kernel
theorem dX5_run_5 : decode cX5_run 5 = .ok (.getfield 10, 3) := by decide +kernel
theorem dX5_run_8 : decode cX5_run 8 = .ok (.invokevirtual 47, 3) := by decide +kernel
theorem dX5_run_11 : decode cX5_run 11 = .ok (.aload_n 0, 1) := by decide +kernel
theorem dX5_run_12 : decode cX5_run 12 = .ok (.aload_n 0, 1) := by decide +kernel
theorem dX5_run_13 : decode cX5_run 13 = .ok (.getfield 16, 3) := by decide +kernel
theorem dX5_run_16 : decode cX5_run 16 = .ok (.iload_n 1, 1) := by decide +kernel
theorem dX5_run_17 : decode cX5_run 17 = .ok (.aload_n 0, 1) := by decide +kernel
theorem dX5_run_18 : decode cX5_run 18 = .ok (.getfield 22, 3) := by decide +kernel
theorem dX5_run_21 : decode cX5_run 21 = .ok (.invokevirtual 68, 3) := by decide +kernel
theorem dX5_run_24 : decode cX5_run 24 = .ok (.invokevirtual 55, 3) := by decide +kernel
theorem dX5_run_27 : decode cX5_run 27 = .ok (.ireturn, 1) := by decide +kernel
theorem dX5_dredge_0 : decode cX5_dredge 0 = .ok (.aload_n 0, 1) := by decide +kernel
theorem dX5_dredge_1 : decode cX5_dredge 1 = .ok (.getfield 16, 3) := by decide +kernel
theorem dX5_dredge_4 : decode cX5_dredge 4 = .ok (.aload_n 0, 1) := by decide +kernel
theorem dX5_dredge_5 : decode cX5_dredge 5 = .ok (.getfield 10, 3) := by decide +kernel
theorem dX5_dredge_8 : decode cX5_dredge 8 = .ok (.invokevirtual 47, 3) := by decide +kernel
theorem dX5_dredge_11 : decode cX5_dredge 11 = .ok (.aload_n 0, 1) := by decide +kernel
theorem dX5_dredge_12 : decode cX5_dredge 12 = .ok (.aload_n 0, 1) := by decide +kernel
theorem dX5_dredge_13 : decode cX5_dredge 13 = .ok (.getfield 16, 3) := by decide +kernel
theorem dX5_dredge_16 : decode cX5_dredge 16 = .ok (.iload_n 1, 1) := by decide +kernel
theorem dX5_dredge_17 : decode cX5_dredge 17 = .ok (.invokevirtual 72, 3) := by decide +kernel
theorem dX5_dredge_20 : decode cX5_dredge 20 = .ok (.invokevirtual 55, 3) := by decide +kernel
theorem dX5_dredge_23 : decode cX5_dredge 23 = .ok (.ireturn, 1) := by decide +kernel
theorem dX5_set_0 : decode cX5_set 0 = .ok (.aload_n 0, 1) := by decide +kernel
theorem dX5_set_1 : decode cX5_set 1 = .ok (.getfield 16, 3) := by decide +kernel
theorem dX5_set_4 : decode cX5_set 4 = .ok (.aload_n 0, 1) := by decide +kernel
theorem dX5_set_5 : decode cX5_set 5 = .ok (.getfield 10, 3) := by decide +kernel
theorem dX5_set_8 : decode cX5_set 8 = .ok (.invokevirtual 47, 3) := by decide +kernel
theorem dX5_set_11 : decode cX5_set 11 = .ok (.aload_n 0, 1) := by decide +kernel
theorem dX5_set_12 : decode cX5_set 12 = .ok (.aload_n 0, 1) := by decide +kernel
theorem dX5_set_13 : decode cX5_set 13 = .ok (.getfield 16, 3) := by decide +kernel
theorem dX5_set_16 : decode cX5_set 16 = .ok (.iload_n 1, 1) := by decide +kernel
theorem dX5_set_17 : decode cX5_set 17 = .ok (.iload_n 2, 1) := by decide +kernel
theorem dX5_set_18 : decode cX5_set 18 = .ok (.invokevirtual 75, 3) := by decide +kernel
theorem dX5_set_21 : decode cX5_set 21 = .ok (.invokevirtual 55, 3) := by decide +kernel
theorem dX5_set_24 : decode cX5_set 24 = .ok (.ireturn, 1) := by decide +kernel
theorem dX5_sea_0 : decode cX5_sea 0 = .ok (.iload_n 1, 1) := by decide +kernel
theorem dX5_sea_1 : decode cX5_sea 1 = .ok (.ifCond .lt 10, 3) := by decide +kernel
theorem dX5_sea_4 : decode cX5_sea 4 = .ok (.iload_n 1, 1) := by decide +kernel
theorem dX5_sea_5 : decode cX5_sea 5 = .ok (.sipush 9999, 3) := by decide +kernel
theorem dX5_sea_8 : decode cX5_sea 8 = .ok (.if_icmp .le 6, 3) := by decide +kernel
theorem dX5_sea_11 : decode cX5_sea 11 = .ok (.ldc 78, 2) := by decide +kernel
theorem dX5_sea_13 : decode cX5_sea 13 = .ok (.ireturn, 1) := by decide +kernel
theorem dX5_sea_14 : decode cX5_sea 14 = .ok (.iload_n 1, 1) := by decide +kernel
theorem dX5_sea_15 : decode cX5_sea 15 = .ok (.invokestatic 79, 3) := by decide +kernel
theorem dX5_sea_18 : decode cX5_sea 18 = .ok (.ireturn, 1) := by decide +kernel
theorem dX5_now_0 : decode cX5_now 0 = .ok (.iload_n 1, 1) := by decide +kernel
theorem dX5_now_1 : decode cX5_now 1 = .ok (.tableswitch 197 0 12 #[67, 75, 87, 99, 110, 118, 126, 134, 142, 150, 158, 166, 182], 67) := by decide +kernel
theorem dX5_now_68 : decode cX5_now 68 = .ok (.aload_n 0, 1) := by decide +kernel
theorem dX5_now_69 : decode cX5_now 69 = .ok (.getfield 10, 3) := by decide +kernel
theorem dX5_now_72 : decode cX5_now 72 = .ok (.getfield 82, 3) := by decide +kernel
theorem dX5_now_75 : decode cX5_now 75 = .ok (.ireturn, 1) := by decide +kernel
theorem dX5_now_76 : decode cX5_now 76 = .ok (.aload_n 0, 1) := by decide +kernel
theorem dX5_now_77 : decode cX5_now 77 = .ok (.getfield 10, 3) := by decide +kernel
theorem dX5_now_80 : decode cX5_now 80 = .ok (.getfield 82, 3) := by decide +kernel
theorem dX5_now_83 : decode cX5_now 83 = .ok (.sipush 144, 3) := by decide +kernel
theorem dX5_now_86 : decode cX5_now 86 = .ok (.idiv, 1) := by decide +kernel
theorem dX5_now_87 : decode cX5_now 87 = .ok (.ireturn, 1) := by decide +kernel
theorem dX5_now_88 : decode cX5_now 88 = .ok (.aload_n 0, 1) := by decide +kernel
theorem dX5_now_89 : decode cX5_now 89 = .ok (.getfield 10, 3) := by decide +kernel
theorem dX5_now_92 : decode cX5_now 92 = .ok (.getfield 82, 3) := by decide +kernel
theorem dX5_now_95 : decode cX5_now 95 = .ok (.sipush 144, 3) := by decide +kernel
theorem dX5_now_98 : decode cX5_now 98 = .ok (.irem, 1) := by decide +kernel
theorem dX5_now_99 : decode cX5_now 99 = .ok (.ireturn, 1) := by decide +kernel
theorem dX5_now_100 : decode cX5_now 100 = .ok (.aload_n 0, 1) := by decide +kernel
theorem dX5_now_101 : decode cX5_now 101 = .ok (.getfield 10, 3) := by decide +kernel
theorem dX5_now_104 : decode cX5_now 104 = .ok (.getfield 82, 3) := by decide +kernel
theorem dX5_now_107 : decode cX5_now 107 = .ok (.invokestatic 79, 3) := by decide +kernel
theorem dX5_now_110 : decode cX5_now 110 = .ok (.ireturn, 1) := by decide +kernel
theorem dX5_now_111 : decode cX5_now 111 = .ok (.aload_n 0, 1) := by decide +kernel
theorem dX5_now_112 : decode cX5_now 112 = .ok (.getfield 10, 3) := by decide +kernel
theorem dX5_now_115 : decode cX5_now 115 = .ok (.invokevirtual 86, 3) := by decide +kernel
theorem dX5_now_118 : decode cX5_now 118 = .ok (.ireturn, 1) := by decide +kernel
theorem dX5_now_119 : decode cX5_now 119 = .ok (.aload_n 0, 1) := by decide +kernel
theorem dX5_now_120 : decode cX5_now 120 = .ok (.getfield 10, 3) := by decide +kernel
theorem dX5_now_123 : decode cX5_now 123 = .ok (.invokevirtual 90, 3) := by decide +kernel
theorem dX5_now_126 : decode cX5_now 126 = .ok (.ireturn, 1) := by decide +kernel
theorem dX5_now_127 : decode cX5_now 127 = .ok (.aload_n 0, 1) := by decide +kernel
theorem dX5_now_128 : decode cX5_now 128 = .ok (.getfield 10, 3) := by decide +kernel
theorem dX5_now_131 : decode cX5_now 131 = .ok (.getfield 93, 3) := by decide +kernel
theorem dX5_now_134 : decode cX5_now 134 = .ok (.ireturn, 1) := by decide +kernel
theorem dX5_now_135 : decode cX5_now 135 = .ok (.aload_n 0, 1) := by decide +kernel
theorem dX5_now_136 : decode cX5_now 136 = .ok (.getfield 10, 3) := by decide +kernel
theorem dX5_now_139 : decode cX5_now 139 = .ok (.getfield 96, 3) := by decide +kernel
theorem dX5_now_142 : decode cX5_now 142 = .ok (.ireturn, 1) := by decide +kernel
theorem dX5_now_143 : decode cX5_now 143 = .ok (.aload_n 0, 1) := by decide +kernel
theorem dX5_now_144 : decode cX5_now 144 = .ok (.getfield 10, 3) := by decide +kernel
theorem dX5_now_147 : decode cX5_now 147 = .ok (.getfield 99, 3) := by decide +kernel
theorem dX5_now_150 : decode cX5_now 150 = .ok (.ireturn, 1) := by decide +kernel
theorem dX5_now_151 : decode cX5_now 151 = .ok (.aload_n 0, 1) := by decide +kernel
theorem dX5_now_152 : decode cX5_now 152 = .ok (.getfield 10, 3) := by decide +kernel
theorem dX5_now_155 : decode cX5_now 155 = .ok (.getfield 102, 3) := by decide +kernel
theorem dX5_now_158 : decode cX5_now 158 = .ok (.ireturn, 1) := by decide +kernel
theorem dX5_now_159 : decode cX5_now 159 = .ok (.aload_n 0, 1) := by decide +kernel
theorem dX5_now_160 : decode cX5_now 160 = .ok (.getfield 10, 3) := by decide +kernel
theorem dX5_now_163 : decode cX5_now 163 = .ok (.getfield 105, 3) := by decide +kernel
theorem dX5_now_166 : decode cX5_now 166 = .ok (.ireturn, 1) := by decide +kernel
theorem dX5_now_167 : decode cX5_now 167 = .ok (.aload_n 0, 1) := by decide +kernel
theorem dX5_now_168 : decode cX5_now 168 = .ok (.getfield 10, 3) := by decide +kernel
theorem dX5_now_171 : decode cX5_now 171 = .ok (.invokevirtual 108, 3) := by decide +kernel
theorem dX5_now_174 : decode cX5_now 174 = .ok (.ifCond .eq 7, 3) := by decide +kernel
theorem dX5_now_177 : decode cX5_now 177 = .ok (.iconst 1, 1) := by decide +kernel
theorem dX5_now_178 : decode cX5_now 178 = .ok (.goto 4, 3) := by decide +kernel
theorem dX5_now_181 : decode cX5_now 181 = .ok (.iconst 0, 1) := by decide +kernel
theorem dX5_now_182 : decode cX5_now 182 = .ok (.ireturn, 1) := by decide +kernel
theorem dX5_now_183 : decode cX5_now 183 = .ok (.aload_n 0, 1) := by decide +kernel
theorem dX5_now_184 : decode cX5_now 184 = .ok (.getfield 10, 3) := by decide +kernel
theorem dX5_now_187 : decode cX5_now 187 = .ok (.getfield 82, 3) := by decide +kernel
theorem dX5_now_190 : decode cX5_now 190 = .ok (.sipush 144, 3) := by decide +kernel
theorem dX5_now_193 : decode cX5_now 193 = .ok (.idiv, 1) := by decide +kernel
theorem dX5_now_194 : decode cX5_now 194 = .ok (.invokestatic 112, 3) := by decide +kernel
theorem dX5_now_197 : decode cX5_now 197 = .ok (.ireturn, 1) := by decide +kernel
theorem dX5_now_198 : decode cX5_now 198 = .ok (.ldc 78, 2) := by decide +kernel
theorem dX5_now_200 : decode cX5_now 200 = .ok (.ireturn, 1) := by decide +kernel
theorem dX5_record_0 : decode cX5_record 0 = .ok (.iload_n 1, 1) := by decide +kernel
theorem dX5_record_1 : decode cX5_record 1 = .ok (.ifCond .lt 13, 3) := by decide +kernel
theorem dX5_record_4 : decode cX5_record 4 = .ok (.iload_n 2, 1) := by decide +kernel
theorem dX5_record_5 : decode cX5_record 5 = .ok (.ifCond .lt 9, 3) := by decide +kernel
theorem dX5_record_8 : decode cX5_record 8 = .ok (.iload_n 2, 1) := by decide +kernel
theorem dX5_record_9 : decode cX5_record 9 = .ok (.bipush 6, 2) := by decide +kernel
theorem dX5_record_11 : decode cX5_record 11 = .ok (.if_icmp .lt 6, 3) := by decide +kernel
theorem dX5_record_14 : decode cX5_record 14 = .ok (.ldc 78, 2) := by decide +kernel
theorem dX5_record_16 : decode cX5_record 16 = .ok (.ireturn, 1) := by decide +kernel
theorem dX5_record_17 : decode cX5_record 17 = .ok (.iload_n 1, 1) := by decide +kernel
theorem dX5_record_18 : decode cX5_record 18 = .ok (.aload_n 0, 1) := by decide +kernel
theorem dX5_record_19 : decode cX5_record 19 = .ok (.getfield 10, 3) := by decide +kernel
theorem dX5_record_22 : decode cX5_record 22 = .ok (.invokevirtual 115, 3) := by decide +kernel
theorem dX5_record_25 : decode cX5_record 25 = .ok (.if_icmp .lt 14, 3) := by decide +kernel
theorem dX5_record_28 : decode cX5_record 28 = .ok (.iload_n 1, 1) := by decide +kernel
theorem dX5_record_29 : decode cX5_record 29 = .ok (.aload_n 0, 1) := by decide +kernel
theorem dX5_record_30 : decode cX5_record 30 = .ok (.getfield 10, 3) := by decide +kernel
theorem dX5_record_33 : decode cX5_record 33 = .ok (.invokevirtual 118, 3) := by decide +kernel
theorem dX5_record_36 : decode cX5_record 36 = .ok (.if_icmp .le 6, 3) := by decide +kernel
theorem dX5_record_39 : decode cX5_record 39 = .ok (.ldc 121, 2) := by decide +kernel
theorem dX5_record_41 : decode cX5_record 41 = .ok (.ireturn, 1) := by decide +kernel
theorem dX5_record_42 : decode cX5_record 42 = .ok (.aload_n 0, 1) := by decide +kernel
theorem dX5_record_43 : decode cX5_record 43 = .ok (.getfield 10, 3) := by decide +kernel
theorem dX5_record_46 : decode cX5_record 46 = .ok (.getfield 122, 3) := by decide +kernel
theorem dX5_record_49 : decode cX5_record 49 = .ok (.iload_n 1, 1) := by decide +kernel
theorem dX5_record_50 : decode cX5_record 50 = .ok (.invokestatic 126, 3) := by decide +kernel
theorem dX5_record_53 : decode cX5_record 53 = .ok (.iload_n 2, 1) := by decide +kernel
theorem dX5_record_54 : decode cX5_record 54 = .ok (.iadd, 1) := by decide +kernel
theorem dX5_record_55 : decode cX5_record 55 = .ok (.iaload, 1) := by decide +kernel
theorem dX5_record_56 : decode cX5_record 56 = .ok (.ireturn, 1) := by decide +kernel
theorem dX5_next_0 : decode cX5_next 0 = .ok (.aload_n 0, 1) := by decide +kernel
theorem dX5_next_1 : decode cX5_next 1 = .ok (.getfield 22, 3) := by decide +kernel
theorem dX5_next_4 : decode cX5_next 4 = .ok (.aload_n 0, 1) := by decide +kernel
theorem dX5_next_5 : decode cX5_next 5 = .ok (.getfield 10, 3) := by decide +kernel
theorem dX5_next_8 : decode cX5_next 8 = .ok (.aload_n 0, 1) := by decide +kernel
theorem dX5_next_9 : decode cX5_next 9 = .ok (.getfield 10, 3) := by decide +kernel
theorem dX5_next_12 : decode cX5_next 12 = .ok (.invokevirtual 90, 3) := by decide +kernel
theorem dX5_next_15 : decode cX5_next 15 = .ok (.invokevirtual 129, 3) := by decide +kernel
theorem dX5_next_18 : decode cX5_next 18 = .ok (.iload_n 1, 1) := by decide +kernel
theorem dX5_next_19 : decode cX5_next 19 = .ok (.tableswitch 97 0 6 #[41, 49, 57, 65, 73, 81, 89], 41) := by decide +kernel
theorem dX5_next_60 : decode cX5_next 60 = .ok (.aload_n 0, 1) := by decide +kernel
theorem dX5_next_61 : decode cX5_next 61 = .ok (.getfield 22, 3) := by decide +kernel
theorem dX5_next_64 : decode cX5_next 64 = .ok (.getfield 133, 3) := by decide +kernel
theorem dX5_next_67 : decode cX5_next 67 = .ok (.ireturn, 1) := by decide +kernel
theorem dX5_next_68 : decode cX5_next 68 = .ok (.aload_n 0, 1) := by decide +kernel
theorem dX5_next_69 : decode cX5_next 69 = .ok (.getfield 22, 3) := by decide +kernel
theorem dX5_next_72 : decode cX5_next 72 = .ok (.getfield 136, 3) := by decide +kernel
theorem dX5_next_75 : decode cX5_next 75 = .ok (.ireturn, 1) := by decide +kernel
theorem dX5_next_76 : decode cX5_next 76 = .ok (.aload_n 0, 1) := by decide +kernel
theorem dX5_next_77 : decode cX5_next 77 = .ok (.getfield 22, 3) := by decide +kernel
theorem dX5_next_80 : decode cX5_next 80 = .ok (.getfield 139, 3) := by decide +kernel
theorem dX5_next_83 : decode cX5_next 83 = .ok (.ireturn, 1) := by decide +kernel
theorem dX5_next_84 : decode cX5_next 84 = .ok (.aload_n 0, 1) := by decide +kernel
theorem dX5_next_85 : decode cX5_next 85 = .ok (.getfield 22, 3) := by decide +kernel
theorem dX5_next_88 : decode cX5_next 88 = .ok (.getfield 142, 3) := by decide +kernel
theorem dX5_next_91 : decode cX5_next 91 = .ok (.ireturn, 1) := by decide +kernel
theorem dX5_next_92 : decode cX5_next 92 = .ok (.aload_n 0, 1) := by decide +kernel
theorem dX5_next_93 : decode cX5_next 93 = .ok (.getfield 22, 3) := by decide +kernel
theorem dX5_next_96 : decode cX5_next 96 = .ok (.getfield 145, 3) := by decide +kernel
theorem dX5_next_99 : decode cX5_next 99 = .ok (.ireturn, 1) := by decide +kernel
theorem dX5_next_100 : decode cX5_next 100 = .ok (.aload_n 0, 1) := by decide +kernel
theorem dX5_next_101 : decode cX5_next 101 = .ok (.getfield 22, 3) := by decide +kernel
theorem dX5_next_104 : decode cX5_next 104 = .ok (.getfield 148, 3) := by decide +kernel
theorem dX5_next_107 : decode cX5_next 107 = .ok (.ireturn, 1) := by decide +kernel
theorem dX5_next_108 : decode cX5_next 108 = .ok (.aload_n 0, 1) := by decide +kernel
theorem dX5_next_109 : decode cX5_next 109 = .ok (.getfield 22, 3) := by decide +kernel
theorem dX5_next_112 : decode cX5_next 112 = .ok (.getfield 151, 3) := by decide +kernel
theorem dX5_next_115 : decode cX5_next 115 = .ok (.ireturn, 1) := by decide +kernel
theorem dX5_next_116 : decode cX5_next 116 = .ok (.ldc 78, 2) := by decide +kernel
theorem dX5_next_118 : decode cX5_next 118 = .ok (.ireturn, 1) := by decide +kernel
theorem dX5_would_0 : decode cX5_would 0 = .ok (.iload_n 1, 1) := by decide +kernel
theorem dX5_would_1 : decode cX5_would 1 = .ok (.ifCond .lt 19, 3) := by decide +kernel
theorem dX5_would_4 : decode cX5_would 4 = .ok (.iload_n 1, 1) := by decide +kernel
theorem dX5_would_5 : decode cX5_would 5 = .ok (.sipush 300, 3) := by decide +kernel
theorem dX5_would_8 : decode cX5_would 8 = .ok (.if_icmp .gt 12, 3) := by decide +kernel
theorem dX5_would_11 : decode cX5_would 11 = .ok (.iload_n 2, 1) := by decide +kernel
theorem dX5_would_12 : decode cX5_would 12 = .ok (.ifCond .lt 8, 3) := by decide +kernel
theorem dX5_would_15 : decode cX5_would 15 = .ok (.iload_n 2, 1) := by decide +kernel
theorem dX5_would_16 : decode cX5_would 16 = .ok (.iconst 3, 1) := by decide +kernel
theorem dX5_would_17 : decode cX5_would 17 = .ok (.if_icmp .le 6, 3) := by decide +kernel
theorem dX5_would_20 : decode cX5_would 20 = .ok (.ldc 78, 2) := by decide +kernel
theorem dX5_would_22 : decode cX5_would 22 = .ok (.ireturn, 1) := by decide +kernel
theorem dX5_would_23 : decode cX5_would 23 = .ok (.aload_n 0, 1) := by decide +kernel
theorem dX5_would_24 : decode cX5_would 24 = .ok (.getfield 16, 3) := by decide +kernel
theorem dX5_would_27 : decode cX5_would 27 = .ok (.aload_n 0, 1) := by decide +kernel
theorem dX5_would_28 : decode cX5_would 28 = .ok (.getfield 10, 3) := by decide +kernel
theorem dX5_would_31 : decode cX5_would 31 = .ok (.invokevirtual 47, 3) := by decide +kernel
theorem dX5_would_34 : decode cX5_would 34 = .ok (.aload_n 0, 1) := by decide +kernel
theorem dX5_would_35 : decode cX5_would 35 = .ok (.getfield 16, 3) := by decide +kernel
theorem dX5_would_38 : decode cX5_would 38 = .ok (.iload_n 1, 1) := by decide +kernel
theorem dX5_would_39 : decode cX5_would 39 = .ok (.aload_n 0, 1) := by decide +kernel
theorem dX5_would_40 : decode cX5_would 40 = .ok (.getfield 22, 3) := by decide +kernel
theorem dX5_would_43 : decode cX5_would 43 = .ok (.invokevirtual 154, 3) := by decide +kernel
theorem dX5_would_46 : decode cX5_would 46 = .ok (.iload_n 2, 1) := by decide +kernel
theorem dX5_would_47 : decode cX5_would 47 = .ok (.tableswitch 73 0 2 #[25, 33, 53], 25) := by decide +kernel
theorem dX5_would_72 : decode cX5_would 72 = .ok (.aload_n 0, 1) := by decide +kernel
theorem dX5_would_73 : decode cX5_would 73 = .ok (.getfield 16, 3) := by decide +kernel
theorem dX5_would_76 : decode cX5_would 76 = .ok (.invokevirtual 86, 3) := by decide +kernel
theorem dX5_would_79 : decode cX5_would 79 = .ok (.ireturn, 1) := by decide +kernel
theorem dX5_would_80 : decode cX5_would 80 = .ok (.aload_n 0, 1) := by decide +kernel
theorem dX5_would_81 : decode cX5_would 81 = .ok (.getfield 16, 3) := by decide +kernel
theorem dX5_would_84 : decode cX5_would 84 = .ok (.getfield 158, 3) := by decide +kernel
theorem dX5_would_87 : decode cX5_would 87 = .ok (.iconst 0, 1) := by decide +kernel
theorem dX5_would_88 : decode cX5_would 88 = .ok (.iaload, 1) := by decide +kernel
theorem dX5_would_89 : decode cX5_would 89 = .ok (.aload_n 0, 1) := by decide +kernel
theorem dX5_would_90 : decode cX5_would 90 = .ok (.getfield 10, 3) := by decide +kernel
theorem dX5_would_93 : decode cX5_would 93 = .ok (.getfield 158, 3) := by decide +kernel
theorem dX5_would_96 : decode cX5_would 96 = .ok (.iconst 0, 1) := by decide +kernel
theorem dX5_would_97 : decode cX5_would 97 = .ok (.iaload, 1) := by decide +kernel
theorem dX5_would_98 : decode cX5_would 98 = .ok (.isub, 1) := by decide +kernel
theorem dX5_would_99 : decode cX5_would 99 = .ok (.ireturn, 1) := by decide +kernel
theorem dX5_would_100 : decode cX5_would 100 = .ok (.aload_n 0, 1) := by decide +kernel
theorem dX5_would_101 : decode cX5_would 101 = .ok (.getfield 16, 3) := by decide +kernel
theorem dX5_would_104 : decode cX5_would 104 = .ok (.getfield 158, 3) := by decide +kernel
theorem dX5_would_107 : decode cX5_would 107 = .ok (.iconst 1, 1) := by decide +kernel
theorem dX5_would_108 : decode cX5_would 108 = .ok (.iaload, 1) := by decide +kernel
theorem dX5_would_109 : decode cX5_would 109 = .ok (.aload_n 0, 1) := by decide +kernel
theorem dX5_would_110 : decode cX5_would 110 = .ok (.getfield 10, 3) := by decide +kernel
theorem dX5_would_113 : decode cX5_would 113 = .ok (.getfield 158, 3) := by decide +kernel
theorem dX5_would_116 : decode cX5_would 116 = .ok (.iconst 1, 1) := by decide +kernel
theorem dX5_would_117 : decode cX5_would 117 = .ok (.iaload, 1) := by decide +kernel
theorem dX5_would_118 : decode cX5_would 118 = .ok (.isub, 1) := by decide +kernel
theorem dX5_would_119 : decode cX5_would 119 = .ok (.ireturn, 1) := by decide +kernel
theorem dX5_would_120 : decode cX5_would 120 = .ok (.aload_n 0, 1) := by decide +kernel
theorem dX5_would_121 : decode cX5_would 121 = .ok (.getfield 16, 3) := by decide +kernel
theorem dX5_would_124 : decode cX5_would 124 = .ok (.getfield 96, 3) := by decide +kernel
theorem dX5_would_127 : decode cX5_would 127 = .ok (.ireturn, 1) := by decide +kernel
theorem dX5_seaAt_0 : decode cX5_seaAt 0 = .ok (.iload_n 1, 1) := by decide +kernel
theorem dX5_seaAt_1 : decode cX5_seaAt 1 = .ok (.sipush (-400), 3) := by decide +kernel
theorem dX5_seaAt_4 : decode cX5_seaAt 4 = .ok (.if_icmp .lt 10, 3) := by decide +kernel
theorem dX5_seaAt_7 : decode cX5_seaAt 7 = .ok (.iload_n 1, 1) := by decide +kernel
theorem dX5_seaAt_8 : decode cX5_seaAt 8 = .ok (.sipush 400, 3) := by decide +kernel
theorem dX5_seaAt_11 : decode cX5_seaAt 11 = .ok (.if_icmp .le 6, 3) := by decide +kernel
theorem dX5_seaAt_14 : decode cX5_seaAt 14 = .ok (.ldc 78, 2) := by decide +kernel
theorem dX5_seaAt_16 : decode cX5_seaAt 16 = .ok (.ireturn, 1) := by decide +kernel
theorem dX5_seaAt_17 : decode cX5_seaAt 17 = .ok (.iconst 0, 1) := by decide +kernel
theorem dX5_seaAt_18 : decode cX5_seaAt 18 = .ok (.istore_n 2, 1) := by decide +kernel
theorem dX5_seaAt_19 : decode cX5_seaAt 19 = .ok (.iload_n 2, 1) := by decide +kernel
theorem dX5_seaAt_20 : decode cX5_seaAt 20 = .ok (.sipush 2016, 3) := by decide +kernel
theorem dX5_seaAt_23 : decode cX5_seaAt 23 = .ok (.if_icmp .gt 27, 3) := by decide +kernel
theorem dX5_seaAt_26 : decode cX5_seaAt 26 = .ok (.aload_n 0, 1) := by decide +kernel
theorem dX5_seaAt_27 : decode cX5_seaAt 27 = .ok (.getfield 10, 3) := by decide +kernel
theorem dX5_seaAt_30 : decode cX5_seaAt 30 = .ok (.getfield 82, 3) := by decide +kernel
theorem dX5_seaAt_33 : decode cX5_seaAt 33 = .ok (.iload_n 2, 1) := by decide +kernel
theorem dX5_seaAt_34 : decode cX5_seaAt 34 = .ok (.iadd, 1) := by decide +kernel
theorem dX5_seaAt_35 : decode cX5_seaAt 35 = .ok (.invokestatic 79, 3) := by decide +kernel
theorem dX5_seaAt_38 : decode cX5_seaAt 38 = .ok (.iload_n 1, 1) := by decide +kernel
theorem dX5_seaAt_39 : decode cX5_seaAt 39 = .ok (.if_icmp .lt 5, 3) := by decide +kernel
theorem dX5_seaAt_42 : decode cX5_seaAt 42 = .ok (.iload_n 2, 1) := by decide +kernel
theorem dX5_seaAt_43 : decode cX5_seaAt 43 = .ok (.ireturn, 1) := by decide +kernel
theorem dX5_seaAt_44 : decode cX5_seaAt 44 = .ok (.iinc 2 1, 3) := by decide +kernel
theorem dX5_seaAt_47 : decode cX5_seaAt 47 = .ok (.goto (-28), 3) := by decide +kernel
theorem dX5_seaAt_50 : decode cX5_seaAt 50 = .ok (.ldc 121, 2) := by decide +kernel
theorem dX5_seaAt_52 : decode cX5_seaAt 52 = .ok (.ireturn, 1) := by decide +kernel
theorem dX5_best_0 : decode cX5_best 0 = .ok (.iload_n 1, 1) := by decide +kernel
theorem dX5_best_1 : decode cX5_best 1 = .ok (.iconst 1, 1) := by decide +kernel
theorem dX5_best_2 : decode cX5_best 2 = .ok (.if_icmp .lt 19, 3) := by decide +kernel
theorem dX5_best_5 : decode cX5_best 5 = .ok (.iload_n 1, 1) := by decide +kernel
theorem dX5_best_6 : decode cX5_best 6 = .ok (.sipush 150, 3) := by decide +kernel
theorem dX5_best_9 : decode cX5_best 9 = .ok (.if_icmp .gt 12, 3) := by decide +kernel
theorem dX5_best_12 : decode cX5_best 12 = .ok (.iload_n 2, 1) := by decide +kernel
theorem dX5_best_13 : decode cX5_best 13 = .ok (.ifCond .lt 8, 3) := by decide +kernel
theorem dX5_best_16 : decode cX5_best 16 = .ok (.iload_n 2, 1) := by decide +kernel
theorem dX5_best_17 : decode cX5_best 17 = .ok (.iconst 1, 1) := by decide +kernel
theorem dX5_best_18 : decode cX5_best 18 = .ok (.if_icmp .le 6, 3) := by decide +kernel
theorem dX5_best_21 : decode cX5_best 21 = .ok (.ldc 78, 2) := by decide +kernel
theorem dX5_best_23 : decode cX5_best 23 = .ok (.ireturn, 1) := by decide +kernel
theorem dX5_best_24 : decode cX5_best 24 = .ok (.iconst 0, 1) := by decide +kernel
theorem dX5_best_25 : decode cX5_best 25 = .ok (.istore_n 3, 1) := by decide +kernel
theorem dX5_best_26 : decode cX5_best 26 = .ok (.aload_n 0, 1) := by decide +kernel
theorem dX5_best_27 : decode cX5_best 27 = .ok (.iconst 0, 1) := by decide +kernel
theorem dX5_best_28 : decode cX5_best 28 = .ok (.iload_n 1, 1) := by decide +kernel
theorem dX5_best_29 : decode cX5_best 29 = .ok (.invokevirtual 161, 3) := by decide +kernel
theorem dX5_best_32 : decode cX5_best 32 = .ok (.istore 4, 2) := by decide +kernel
theorem dX5_best_34 : decode cX5_best 34 = .ok (.iconst 1, 1) := by decide +kernel
theorem dX5_best_35 : decode cX5_best 35 = .ok (.istore 5, 2) := by decide +kernel
theorem dX5_best_37 : decode cX5_best 37 = .ok (.iload 5, 2) := by decide +kernel
theorem dX5_best_39 : decode cX5_best 39 = .ok (.bipush 6, 2) := by decide +kernel
theorem dX5_best_41 : decode cX5_best 41 = .ok (.if_icmp .gt 32, 3) := by decide +kernel
theorem dX5_best_44 : decode cX5_best 44 = .ok (.aload_n 0, 1) := by decide +kernel
theorem dX5_best_45 : decode cX5_best 45 = .ok (.iload 5, 2) := by decide +kernel
theorem dX5_best_47 : decode cX5_best 47 = .ok (.iload_n 1, 1) := by decide +kernel
theorem dX5_best_48 : decode cX5_best 48 = .ok (.invokevirtual 161, 3) := by decide +kernel
theorem dX5_best_51 : decode cX5_best 51 = .ok (.istore 6, 2) := by decide +kernel
theorem dX5_best_53 : decode cX5_best 53 = .ok (.iload 6, 2) := by decide +kernel
theorem dX5_best_55 : decode cX5_best 55 = .ok (.iload 4, 2) := by decide +kernel
theorem dX5_best_57 : decode cX5_best 57 = .ok (.if_icmp .le 10, 3) := by decide +kernel
theorem dX5_best_60 : decode cX5_best 60 = .ok (.iload 5, 2) := by decide +kernel
theorem dX5_best_62 : decode cX5_best 62 = .ok (.istore_n 3, 1) := by decide +kernel
theorem dX5_best_63 : decode cX5_best 63 = .ok (.iload 6, 2) := by decide +kernel
theorem dX5_best_65 : decode cX5_best 65 = .ok (.istore 4, 2) := by decide +kernel
theorem dX5_best_67 : decode cX5_best 67 = .ok (.iinc 5 1, 3) := by decide +kernel
theorem dX5_best_70 : decode cX5_best 70 = .ok (.goto (-33), 3) := by decide +kernel
theorem dX5_best_73 : decode cX5_best 73 = .ok (.iload_n 2, 1) := by decide +kernel
theorem dX5_best_74 : decode cX5_best 74 = .ok (.ifCond .ne 7, 3) := by decide +kernel
theorem dX5_best_77 : decode cX5_best 77 = .ok (.iload_n 3, 1) := by decide +kernel
theorem dX5_best_78 : decode cX5_best 78 = .ok (.goto 5, 3) := by decide +kernel
theorem dX5_best_81 : decode cX5_best 81 = .ok (.iload 4, 2) := by decide +kernel
theorem dX5_best_83 : decode cX5_best 83 = .ok (.ireturn, 1) := by decide +kernel
theorem dX5_gatesFor_0 : decode cX5_gatesFor 0 = .ok (.iload_n 1, 1) := by decide +kernel
theorem dX5_gatesFor_1 : decode cX5_gatesFor 1 = .ok (.iconst 1, 1) := by decide +kernel
theorem dX5_gatesFor_2 : decode cX5_gatesFor 2 = .ok (.if_icmp .lt 24, 3) := by decide +kernel
theorem dX5_gatesFor_5 : decode cX5_gatesFor 5 = .ok (.iload_n 1, 1) := by decide +kernel
theorem dX5_gatesFor_6 : decode cX5_gatesFor 6 = .ok (.sipush 150, 3) := by decide +kernel
theorem dX5_gatesFor_9 : decode cX5_gatesFor 9 = .ok (.if_icmp .gt 17, 3) := by decide +kernel
theorem dX5_gatesFor_12 : decode cX5_gatesFor 12 = .ok (.iload_n 2, 1) := by decide +kernel
theorem dX5_gatesFor_13 : decode cX5_gatesFor 13 = .ok (.sipush (-400), 3) := by decide +kernel
theorem dX5_gatesFor_16 : decode cX5_gatesFor 16 = .ok (.if_icmp .lt 10, 3) := by decide +kernel
theorem dX5_gatesFor_19 : decode cX5_gatesFor 19 = .ok (.iload_n 2, 1) := by decide +kernel
theorem dX5_gatesFor_20 : decode cX5_gatesFor 20 = .ok (.sipush 600, 3) := by decide +kernel
theorem dX5_gatesFor_23 : decode cX5_gatesFor 23 = .ok (.if_icmp .le 6, 3) := by decide +kernel
theorem dX5_gatesFor_26 : decode cX5_gatesFor 26 = .ok (.ldc 78, 2) := by decide +kernel
theorem dX5_gatesFor_28 : decode cX5_gatesFor 28 = .ok (.ireturn, 1) := by decide +kernel
theorem dX5_gatesFor_29 : decode cX5_gatesFor 29 = .ok (.iconst 0, 1) := by decide +kernel
theorem dX5_gatesFor_30 : decode cX5_gatesFor 30 = .ok (.istore_n 3, 1) := by decide +kernel
theorem dX5_gatesFor_31 : decode cX5_gatesFor 31 = .ok (.aload_n 0, 1) := by decide +kernel
theorem dX5_gatesFor_32 : decode cX5_gatesFor 32 = .ok (.iconst 0, 1) := by decide +kernel
theorem dX5_gatesFor_33 : decode cX5_gatesFor 33 = .ok (.iload_n 1, 1) := by decide +kernel
theorem dX5_gatesFor_34 : decode cX5_gatesFor 34 = .ok (.invokevirtual 164, 3) := by decide +kernel
theorem dX5_gatesFor_37 : decode cX5_gatesFor 37 = .ok (.iload_n 2, 1) := by decide +kernel
theorem dX5_gatesFor_38 : decode cX5_gatesFor 38 = .ok (.isub, 1) := by decide +kernel
theorem dX5_gatesFor_39 : decode cX5_gatesFor 39 = .ok (.invokestatic 167, 3) := by decide +kernel
theorem dX5_gatesFor_42 : decode cX5_gatesFor 42 = .ok (.istore 4, 2) := by decide +kernel
theorem dX5_gatesFor_44 : decode cX5_gatesFor 44 = .ok (.iconst 1, 1) := by decide +kernel
theorem dX5_gatesFor_45 : decode cX5_gatesFor 45 = .ok (.istore 5, 2) := by decide +kernel
theorem dX5_gatesFor_47 : decode cX5_gatesFor 47 = .ok (.iload 5, 2) := by decide +kernel
theorem dX5_gatesFor_49 : decode cX5_gatesFor 49 = .ok (.bipush 8, 2) := by decide +kernel
theorem dX5_gatesFor_51 : decode cX5_gatesFor 51 = .ok (.if_icmp .gt 37, 3) := by decide +kernel
theorem dX5_gatesFor_54 : decode cX5_gatesFor 54 = .ok (.aload_n 0, 1) := by decide +kernel
theorem dX5_gatesFor_55 : decode cX5_gatesFor 55 = .ok (.iload 5, 2) := by decide +kernel
theorem dX5_gatesFor_57 : decode cX5_gatesFor 57 = .ok (.iload_n 1, 1) := by decide +kernel
theorem dX5_gatesFor_58 : decode cX5_gatesFor 58 = .ok (.invokevirtual 164, 3) := by decide +kernel
theorem dX5_gatesFor_61 : decode cX5_gatesFor 61 = .ok (.iload_n 2, 1) := by decide +kernel
theorem dX5_gatesFor_62 : decode cX5_gatesFor 62 = .ok (.isub, 1) := by decide +kernel
theorem dX5_gatesFor_63 : decode cX5_gatesFor 63 = .ok (.invokestatic 167, 3) := by decide +kernel
theorem dX5_gatesFor_66 : decode cX5_gatesFor 66 = .ok (.istore 6, 2) := by decide +kernel
theorem dX5_gatesFor_68 : decode cX5_gatesFor 68 = .ok (.iload 6, 2) := by decide +kernel
theorem dX5_gatesFor_70 : decode cX5_gatesFor 70 = .ok (.iload 4, 2) := by decide +kernel
theorem dX5_gatesFor_72 : decode cX5_gatesFor 72 = .ok (.if_icmp .ge 10, 3) := by decide +kernel
theorem dX5_gatesFor_75 : decode cX5_gatesFor 75 = .ok (.iload 5, 2) := by decide +kernel
theorem dX5_gatesFor_77 : decode cX5_gatesFor 77 = .ok (.istore_n 3, 1) := by decide +kernel
theorem dX5_gatesFor_78 : decode cX5_gatesFor 78 = .ok (.iload 6, 2) := by decide +kernel
theorem dX5_gatesFor_80 : decode cX5_gatesFor 80 = .ok (.istore 4, 2) := by decide +kernel
theorem dX5_gatesFor_82 : decode cX5_gatesFor 82 = .ok (.iinc 5 1, 3) := by decide +kernel
theorem dX5_gatesFor_85 : decode cX5_gatesFor 85 = .ok (.goto (-38), 3) := by decide +kernel
theorem dX5_gatesFor_88 : decode cX5_gatesFor 88 = .ok (.iload_n 3, 1) := by decide +kernel
theorem dX5_gatesFor_89 : decode cX5_gatesFor 89 = .ok (.ireturn, 1) := by decide +kernel
theorem dX5_bestDay_0 : decode cX5_bestDay 0 = .ok (.ldc 121, 2) := by decide +kernel
theorem dX5_bestDay_2 : decode cX5_bestDay 2 = .ok (.istore_n 1, 1) := by decide +kernel
theorem dX5_bestDay_3 : decode cX5_bestDay 3 = .ok (.iconst (-1), 1) := by decide +kernel
theorem dX5_bestDay_4 : decode cX5_bestDay 4 = .ok (.istore_n 2, 1) := by decide +kernel
theorem dX5_bestDay_5 : decode cX5_bestDay 5 = .ok (.aload_n 0, 1) := by decide +kernel
theorem dX5_bestDay_6 : decode cX5_bestDay 6 = .ok (.getfield 10, 3) := by decide +kernel
theorem dX5_bestDay_9 : decode cX5_bestDay 9 = .ok (.invokevirtual 118, 3) := by decide +kernel
theorem dX5_bestDay_12 : decode cX5_bestDay 12 = .ok (.istore_n 3, 1) := by decide +kernel
theorem dX5_bestDay_13 : decode cX5_bestDay 13 = .ok (.aload_n 0, 1) := by decide +kernel
theorem dX5_bestDay_14 : decode cX5_bestDay 14 = .ok (.getfield 10, 3) := by decide +kernel
theorem dX5_bestDay_17 : decode cX5_bestDay 17 = .ok (.invokevirtual 115, 3) := by decide +kernel
theorem dX5_bestDay_20 : decode cX5_bestDay 20 = .ok (.istore 4, 2) := by decide +kernel
theorem dX5_bestDay_22 : decode cX5_bestDay 22 = .ok (.iload 4, 2) := by decide +kernel
theorem dX5_bestDay_24 : decode cX5_bestDay 24 = .ok (.iload_n 3, 1) := by decide +kernel
theorem dX5_bestDay_25 : decode cX5_bestDay 25 = .ok (.if_icmp .gt 38, 3) := by decide +kernel
theorem dX5_bestDay_28 : decode cX5_bestDay 28 = .ok (.aload_n 0, 1) := by decide +kernel
theorem dX5_bestDay_29 : decode cX5_bestDay 29 = .ok (.getfield 10, 3) := by decide +kernel
theorem dX5_bestDay_32 : decode cX5_bestDay 32 = .ok (.getfield 122, 3) := by decide +kernel
theorem dX5_bestDay_35 : decode cX5_bestDay 35 = .ok (.iload 4, 2) := by decide +kernel
theorem dX5_bestDay_37 : decode cX5_bestDay 37 = .ok (.invokestatic 126, 3) := by decide +kernel
theorem dX5_bestDay_40 : decode cX5_bestDay 40 = .ok (.iconst 0, 1) := by decide +kernel
theorem dX5_bestDay_41 : decode cX5_bestDay 41 = .ok (.iadd, 1) := by decide +kernel
theorem dX5_bestDay_42 : decode cX5_bestDay 42 = .ok (.iaload, 1) := by decide +kernel
theorem dX5_bestDay_43 : decode cX5_bestDay 43 = .ok (.istore 5, 2) := by decide +kernel
theorem dX5_bestDay_45 : decode cX5_bestDay 45 = .ok (.iload 5, 2) := by decide +kernel
theorem dX5_bestDay_47 : decode cX5_bestDay 47 = .ok (.iload_n 2, 1) := by decide +kernel
theorem dX5_bestDay_48 : decode cX5_bestDay 48 = .ok (.if_icmp .le 9, 3) := by decide +kernel
theorem dX5_bestDay_51 : decode cX5_bestDay 51 = .ok (.iload 4, 2) := by decide +kernel
theorem dX5_bestDay_53 : decode cX5_bestDay 53 = .ok (.istore_n 1, 1) := by decide +kernel
theorem dX5_bestDay_54 : decode cX5_bestDay 54 = .ok (.iload 5, 2) := by decide +kernel
theorem dX5_bestDay_56 : decode cX5_bestDay 56 = .ok (.istore_n 2, 1) := by decide +kernel
theorem dX5_bestDay_57 : decode cX5_bestDay 57 = .ok (.iinc 4 1, 3) := by decide +kernel
theorem dX5_bestDay_60 : decode cX5_bestDay 60 = .ok (.goto (-38), 3) := by decide +kernel
theorem dX5_bestDay_63 : decode cX5_bestDay 63 = .ok (.iload_n 1, 1) := by decide +kernel
theorem dX5_bestDay_64 : decode cX5_bestDay 64 = .ok (.ireturn, 1) := by decide +kernel
theorem dX5_share_0 : decode cX5_share 0 = .ok (.aload_n 0, 1) := by decide +kernel
theorem dX5_share_1 : decode cX5_share 1 = .ok (.getfield 10, 3) := by decide +kernel
theorem dX5_share_4 : decode cX5_share 4 = .ok (.getfield 158, 3) := by decide +kernel
theorem dX5_share_7 : decode cX5_share 7 = .ok (.iconst 0, 1) := by decide +kernel
theorem dX5_share_8 : decode cX5_share 8 = .ok (.iaload, 1) := by decide +kernel
theorem dX5_share_9 : decode cX5_share 9 = .ok (.istore_n 1, 1) := by decide +kernel
theorem dX5_share_10 : decode cX5_share 10 = .ok (.iload_n 1, 1) := by decide +kernel
theorem dX5_share_11 : decode cX5_share 11 = .ok (.ifCond .gt 6, 3) := by decide +kernel
theorem dX5_share_14 : decode cX5_share 14 = .ok (.ldc 121, 2) := by decide +kernel
theorem dX5_share_16 : decode cX5_share 16 = .ok (.ireturn, 1) := by decide +kernel
theorem dX5_share_17 : decode cX5_share 17 = .ok (.aload_n 0, 1) := by decide +kernel
theorem dX5_share_18 : decode cX5_share 18 = .ok (.getfield 10, 3) := by decide +kernel
theorem dX5_share_21 : decode cX5_share 21 = .ok (.getfield 158, 3) := by decide +kernel
theorem dX5_share_24 : decode cX5_share 24 = .ok (.iconst 1, 1) := by decide +kernel
theorem dX5_share_25 : decode cX5_share 25 = .ok (.iaload, 1) := by decide +kernel
theorem dX5_share_26 : decode cX5_share 26 = .ok (.i2f, 1) := by decide +kernel
theorem dX5_share_27 : decode cX5_share 27 = .ok (.iload_n 1, 1) := by decide +kernel
theorem dX5_share_28 : decode cX5_share 28 = .ok (.i2f, 1) := by decide +kernel
theorem dX5_share_29 : decode cX5_share 29 = .ok (.fdiv, 1) := by decide +kernel
theorem dX5_share_30 : decode cX5_share 30 = .ok (.invokestatic 172, 3) := by decide +kernel
theorem dX5_share_33 : decode cX5_share 33 = .ok (.ireturn, 1) := by decide +kernel
theorem dX5_count_0 : decode cX5_count 0 = .ok (.iload_n 1, 1) := by decide +kernel
theorem dX5_count_1 : decode cX5_count 1 = .ok (.ifCond .lt 19, 3) := by decide +kernel
theorem dX5_count_4 : decode cX5_count 4 = .ok (.iload_n 1, 1) := by decide +kernel
theorem dX5_count_5 : decode cX5_count 5 = .ok (.bipush 7, 2) := by decide +kernel
theorem dX5_count_7 : decode cX5_count 7 = .ok (.if_icmp .ge 13, 3) := by decide +kernel
theorem dX5_count_10 : decode cX5_count 10 = .ok (.aload_n 0, 1) := by decide +kernel
theorem dX5_count_11 : decode cX5_count 11 = .ok (.getfield 10, 3) := by decide +kernel
theorem dX5_count_14 : decode cX5_count 14 = .ok (.getfield 158, 3) := by decide +kernel
theorem dX5_count_17 : decode cX5_count 17 = .ok (.iload_n 1, 1) := by decide +kernel
theorem dX5_count_18 : decode cX5_count 18 = .ok (.iaload, 1) := by decide +kernel
theorem dX5_count_19 : decode cX5_count 19 = .ok (.ireturn, 1) := by decide +kernel
theorem dX5_count_20 : decode cX5_count 20 = .ok (.iload_n 1, 1) := by decide +kernel
theorem dX5_count_21 : decode cX5_count 21 = .ok (.bipush 20, 2) := by decide +kernel
theorem dX5_count_23 : decode cX5_count 23 = .ok (.if_icmp .lt 22, 3) := by decide +kernel
theorem dX5_count_26 : decode cX5_count 26 = .ok (.iload_n 1, 1) := by decide +kernel
theorem dX5_count_27 : decode cX5_count 27 = .ok (.bipush 23, 2) := by decide +kernel
theorem dX5_count_29 : decode cX5_count 29 = .ok (.if_icmp .ge 16, 3) := by decide +kernel
theorem dX5_count_32 : decode cX5_count 32 = .ok (.aload_n 0, 1) := by decide +kernel
theorem dX5_count_33 : decode cX5_count 33 = .ok (.getfield 10, 3) := by decide +kernel
theorem dX5_count_36 : decode cX5_count 36 = .ok (.getfield 176, 3) := by decide +kernel
theorem dX5_count_39 : decode cX5_count 39 = .ok (.iload_n 1, 1) := by decide +kernel
theorem dX5_count_40 : decode cX5_count 40 = .ok (.bipush 20, 2) := by decide +kernel
theorem dX5_count_42 : decode cX5_count 42 = .ok (.isub, 1) := by decide +kernel
theorem dX5_count_43 : decode cX5_count 43 = .ok (.iaload, 1) := by decide +kernel
theorem dX5_count_44 : decode cX5_count 44 = .ok (.ireturn, 1) := by decide +kernel
theorem dX5_count_45 : decode cX5_count 45 = .ok (.iload_n 1, 1) := by decide +kernel
theorem dX5_count_46 : decode cX5_count 46 = .ok (.tableswitch 60 7 9 #[26, 44, 52], 26) := by decide +kernel
theorem dX5_count_72 : decode cX5_count 72 = .ok (.aload_n 0, 1) := by decide +kernel
theorem dX5_count_73 : decode cX5_count 73 = .ok (.getfield 10, 3) := by decide +kernel
theorem dX5_count_76 : decode cX5_count 76 = .ok (.invokevirtual 118, 3) := by decide +kernel
theorem dX5_count_79 : decode cX5_count 79 = .ok (.aload_n 0, 1) := by decide +kernel
theorem dX5_count_80 : decode cX5_count 80 = .ok (.getfield 10, 3) := by decide +kernel
theorem dX5_count_83 : decode cX5_count 83 = .ok (.invokevirtual 115, 3) := by decide +kernel
theorem dX5_count_86 : decode cX5_count 86 = .ok (.isub, 1) := by decide +kernel
theorem dX5_count_87 : decode cX5_count 87 = .ok (.iconst 1, 1) := by decide +kernel
theorem dX5_count_88 : decode cX5_count 88 = .ok (.iadd, 1) := by decide +kernel
theorem dX5_count_89 : decode cX5_count 89 = .ok (.ireturn, 1) := by decide +kernel
theorem dX5_count_90 : decode cX5_count 90 = .ok (.aload_n 0, 1) := by decide +kernel
theorem dX5_count_91 : decode cX5_count 91 = .ok (.getfield 29, 3) := by decide +kernel
theorem dX5_count_94 : decode cX5_count 94 = .ok (.getfield 179, 3) := by decide +kernel
theorem dX5_count_97 : decode cX5_count 97 = .ok (.ireturn, 1) := by decide +kernel
theorem dX5_count_98 : decode cX5_count 98 = .ok (.aload_n 0, 1) := by decide +kernel
theorem dX5_count_99 : decode cX5_count 99 = .ok (.getfield 36, 3) := by decide +kernel
theorem dX5_count_102 : decode cX5_count 102 = .ok (.getfield 182, 3) := by decide +kernel
theorem dX5_count_105 : decode cX5_count 105 = .ok (.ireturn, 1) := by decide +kernel
theorem dX5_count_106 : decode cX5_count 106 = .ok (.ldc 78, 2) := by decide +kernel
theorem dX5_count_108 : decode cX5_count 108 = .ok (.ireturn, 1) := by decide +kernel
theorem dX5_undo_0 : decode cX5_undo 0 = .ok (.aload_n 0, 1) := by decide +kernel
theorem dX5_undo_1 : decode cX5_undo 1 = .ok (.getfield 29, 3) := by decide +kernel
theorem dX5_undo_4 : decode cX5_undo 4 = .ok (.getfield 179, 3) := by decide +kernel
theorem dX5_undo_7 : decode cX5_undo 7 = .ok (.ifCond .ne 6, 3) := by decide +kernel
theorem dX5_undo_10 : decode cX5_undo 10 = .ok (.ldc 185, 2) := by decide +kernel
theorem dX5_undo_12 : decode cX5_undo 12 = .ok (.ireturn, 1) := by decide +kernel
theorem dX5_undo_13 : decode cX5_undo 13 = .ok (.aload_n 0, 1) := by decide +kernel
theorem dX5_undo_14 : decode cX5_undo 14 = .ok (.getfield 29, 3) := by decide +kernel
theorem dX5_undo_17 : decode cX5_undo 17 = .ok (.aload_n 0, 1) := by decide +kernel
theorem dX5_undo_18 : decode cX5_undo 18 = .ok (.getfield 10, 3) := by decide +kernel
theorem dX5_undo_21 : decode cX5_undo 21 = .ok (.invokevirtual 186, 3) := by decide +kernel
theorem dX5_undo_24 : decode cX5_undo 24 = .ok (.aload_n 0, 1) := by decide +kernel
theorem dX5_undo_25 : decode cX5_undo 25 = .ok (.getfield 29, 3) := by decide +kernel
theorem dX5_undo_28 : decode cX5_undo 28 = .ok (.getfield 179, 3) := by decide +kernel
theorem dX5_undo_31 : decode cX5_undo 31 = .ok (.ireturn, 1) := by decide +kernel
theorem dX5_type_0 : decode cX5_type 0 = .ok (.iload_n 1, 1) := by decide +kernel
theorem dX5_type_1 : decode cX5_type 1 = .ok (.bipush 32, 2) := by decide +kernel
theorem dX5_type_3 : decode cX5_type 3 = .ok (.if_icmp .lt 9, 3) := by decide +kernel
theorem dX5_type_6 : decode cX5_type 6 = .ok (.iload_n 1, 1) := by decide +kernel
theorem dX5_type_7 : decode cX5_type 7 = .ok (.bipush 126, 2) := by decide +kernel
theorem dX5_type_9 : decode cX5_type 9 = .ok (.if_icmp .le 6, 3) := by decide +kernel
theorem dX5_type_12 : decode cX5_type 12 = .ok (.ldc 78, 2) := by decide +kernel
theorem dX5_type_14 : decode cX5_type 14 = .ok (.ireturn, 1) := by decide +kernel
theorem dX5_type_15 : decode cX5_type 15 = .ok (.aload_n 0, 1) := by decide +kernel
theorem dX5_type_16 : decode cX5_type 16 = .ok (.getfield 36, 3) := by decide +kernel
theorem dX5_type_19 : decode cX5_type 19 = .ok (.getfield 182, 3) := by decide +kernel
theorem dX5_type_22 : decode cX5_type 22 = .ok (.bipush 60, 2) := by decide +kernel
theorem dX5_type_24 : decode cX5_type 24 = .ok (.if_icmp .lt 6, 3) := by decide +kernel
theorem dX5_type_27 : decode cX5_type 27 = .ok (.ldc 189, 2) := by decide +kernel
theorem dX5_type_29 : decode cX5_type 29 = .ok (.ireturn, 1) := by decide +kernel
theorem dX5_type_30 : decode cX5_type 30 = .ok (.aload_n 0, 1) := by decide +kernel
theorem dX5_type_31 : decode cX5_type 31 = .ok (.getfield 36, 3) := by decide +kernel
theorem dX5_type_34 : decode cX5_type 34 = .ok (.iload_n 1, 1) := by decide +kernel
theorem dX5_type_35 : decode cX5_type 35 = .ok (.i2c, 1) := by decide +kernel
theorem dX5_type_36 : decode cX5_type 36 = .ok (.invokevirtual 190, 3) := by decide +kernel
theorem dX5_type_39 : decode cX5_type 39 = .ok (.aload_n 0, 1) := by decide +kernel
theorem dX5_type_40 : decode cX5_type 40 = .ok (.getfield 36, 3) := by decide +kernel
theorem dX5_type_43 : decode cX5_type 43 = .ok (.getfield 182, 3) := by decide +kernel
theorem dX5_type_46 : decode cX5_type 46 = .ok (.ireturn, 1) := by decide +kernel
theorem dX5_clearText_0 : decode cX5_clearText 0 = .ok (.aload_n 0, 1) := by decide +kernel
theorem dX5_clearText_1 : decode cX5_clearText 1 = .ok (.getfield 36, 3) := by decide +kernel
theorem dX5_clearText_4 : decode cX5_clearText 4 = .ok (.getfield 182, 3) := by decide +kernel
theorem dX5_clearText_7 : decode cX5_clearText 7 = .ok (.istore_n 1, 1) := by decide +kernel
theorem dX5_clearText_8 : decode cX5_clearText 8 = .ok (.aload_n 0, 1) := by decide +kernel
theorem dX5_clearText_9 : decode cX5_clearText 9 = .ok (.getfield 36, 3) := by decide +kernel
theorem dX5_clearText_12 : decode cX5_clearText 12 = .ok (.iconst 0, 1) := by decide +kernel
theorem dX5_clearText_13 : decode cX5_clearText 13 = .ok (.putfield 182, 3) := by decide +kernel
theorem dX5_clearText_16 : decode cX5_clearText 16 = .ok (.iload_n 1, 1) := by decide +kernel
theorem dX5_clearText_17 : decode cX5_clearText 17 = .ok (.ireturn, 1) := by decide +kernel
theorem dX5_fault_0 : decode cX5_fault 0 = .ok (.iload_n 1, 1) := by decide +kernel
theorem dX5_fault_1 : decode cX5_fault 1 = .ok (.ifCond .lt 8, 3) := by decide +kernel
theorem dX5_fault_4 : decode cX5_fault 4 = .ok (.iload_n 1, 1) := by decide +kernel
theorem dX5_fault_5 : decode cX5_fault 5 = .ok (.iconst 2, 1) := by decide +kernel
theorem dX5_fault_6 : decode cX5_fault 6 = .ok (.if_icmp .le 6, 3) := by decide +kernel
theorem dX5_fault_9 : decode cX5_fault 9 = .ok (.ldc 78, 2) := by decide +kernel
theorem dX5_fault_11 : decode cX5_fault 11 = .ok (.ireturn, 1) := by decide +kernel
theorem dX5_fault_12 : decode cX5_fault 12 = .ok (.aload_n 0, 1) := by decide +kernel
theorem dX5_fault_13 : decode cX5_fault 13 = .ok (.getfield 16, 3) := by decide +kernel
theorem dX5_fault_16 : decode cX5_fault 16 = .ok (.aload_n 0, 1) := by decide +kernel
theorem dX5_fault_17 : decode cX5_fault 17 = .ok (.getfield 10, 3) := by decide +kernel
theorem dX5_fault_20 : decode cX5_fault 20 = .ok (.invokevirtual 47, 3) := by decide +kernel
theorem dX5_fault_23 : decode cX5_fault 23 = .ok (.aload_n 0, 1) := by decide +kernel
theorem dX5_fault_24 : decode cX5_fault 24 = .ok (.getfield 43, 3) := by decide +kernel
theorem dX5_fault_27 : decode cX5_fault 27 = .ok (.aload_n 0, 1) := by decide +kernel
theorem dX5_fault_28 : decode cX5_fault 28 = .ok (.getfield 36, 3) := by decide +kernel
theorem dX5_fault_31 : decode cX5_fault 31 = .ok (.aload_n 0, 1) := by decide +kernel
theorem dX5_fault_32 : decode cX5_fault 32 = .ok (.getfield 16, 3) := by decide +kernel
theorem dX5_fault_35 : decode cX5_fault 35 = .ok (.aload_n 0, 1) := by decide +kernel
theorem dX5_fault_36 : decode cX5_fault 36 = .ok (.getfield 22, 3) := by decide +kernel
theorem dX5_fault_39 : decode cX5_fault 39 = .ok (.invokevirtual 194, 3) := by decide +kernel
theorem dX5_fault_42 : decode cX5_fault 42 = .ok (.aload_n 0, 1) := by decide +kernel
theorem dX5_fault_43 : decode cX5_fault 43 = .ok (.getfield 43, 3) := by decide +kernel
theorem dX5_fault_46 : decode cX5_fault 46 = .ok (.getfield 198, 3) := by decide +kernel
theorem dX5_fault_49 : decode cX5_fault 49 = .ok (.ifCond .ne 6, 3) := by decide +kernel
theorem dX5_fault_52 : decode cX5_fault 52 = .ok (.ldc 121, 2) := by decide +kernel
theorem dX5_fault_54 : decode cX5_fault 54 = .ok (.ireturn, 1) := by decide +kernel
theorem dX5_fault_55 : decode cX5_fault 55 = .ok (.iload_n 1, 1) := by decide +kernel
theorem dX5_fault_56 : decode cX5_fault 56 = .ok (.lookupswitch 44 #[(0, 28), (1, 36)], 28) := by decide +kernel
theorem dX5_fault_84 : decode cX5_fault 84 = .ok (.aload_n 0, 1) := by decide +kernel
theorem dX5_fault_85 : decode cX5_fault 85 = .ok (.getfield 43, 3) := by decide +kernel
theorem dX5_fault_88 : decode cX5_fault 88 = .ok (.getfield 201, 3) := by decide +kernel
theorem dX5_fault_91 : decode cX5_fault 91 = .ok (.ireturn, 1) := by decide +kernel
theorem dX5_fault_92 : decode cX5_fault 92 = .ok (.aload_n 0, 1) := by decide +kernel
theorem dX5_fault_93 : decode cX5_fault 93 = .ok (.getfield 43, 3) := by decide +kernel
theorem dX5_fault_96 : decode cX5_fault 96 = .ok (.getfield 198, 3) := by decide +kernel
theorem dX5_fault_99 : decode cX5_fault 99 = .ok (.ireturn, 1) := by decide +kernel
theorem dX5_fault_100 : decode cX5_fault 100 = .ok (.aload_n 0, 1) := by decide +kernel
theorem dX5_fault_101 : decode cX5_fault 101 = .ok (.getfield 43, 3) := by decide +kernel
theorem dX5_fault_104 : decode cX5_fault 104 = .ok (.getfield 204, 3) := by decide +kernel
theorem dX5_fault_107 : decode cX5_fault 107 = .ok (.ireturn, 1) := by decide +kernel
theorem dX5_play_0 : decode cX5_play 0 = .ok (.aload_n 0, 1) := by decide +kernel
theorem dX5_play_1 : decode cX5_play 1 = .ok (.getfield 16, 3) := by decide +kernel
theorem dX5_play_4 : decode cX5_play 4 = .ok (.aload_n 0, 1) := by decide +kernel
theorem dX5_play_5 : decode cX5_play 5 = .ok (.getfield 10, 3) := by decide +kernel
theorem dX5_play_8 : decode cX5_play 8 = .ok (.invokevirtual 47, 3) := by decide +kernel
theorem dX5_play_11 : decode cX5_play 11 = .ok (.aload_n 0, 1) := by decide +kernel
theorem dX5_play_12 : decode cX5_play 12 = .ok (.getfield 43, 3) := by decide +kernel
theorem dX5_play_15 : decode cX5_play 15 = .ok (.aload_n 0, 1) := by decide +kernel
theorem dX5_play_16 : decode cX5_play 16 = .ok (.getfield 36, 3) := by decide +kernel
theorem dX5_play_19 : decode cX5_play 19 = .ok (.aload_n 0, 1) := by decide +kernel
theorem dX5_play_20 : decode cX5_play 20 = .ok (.getfield 16, 3) := by decide +kernel
theorem dX5_play_23 : decode cX5_play 23 = .ok (.aload_n 0, 1) := by decide +kernel
theorem dX5_play_24 : decode cX5_play 24 = .ok (.getfield 22, 3) := by decide +kernel
theorem dX5_play_27 : decode cX5_play 27 = .ok (.invokevirtual 194, 3) := by decide +kernel
theorem dX5_play_30 : decode cX5_play 30 = .ok (.aload_n 0, 1) := by decide +kernel
theorem dX5_play_31 : decode cX5_play 31 = .ok (.aload_n 0, 1) := by decide +kernel
theorem dX5_play_32 : decode cX5_play 32 = .ok (.getfield 43, 3) := by decide +kernel
theorem dX5_play_35 : decode cX5_play 35 = .ok (.getfield 198, 3) := by decide +kernel
theorem dX5_play_38 : decode cX5_play 38 = .ok (.ifCond .ne 13, 3) := by decide +kernel
theorem dX5_play_41 : decode cX5_play 41 = .ok (.aload_n 0, 1) := by decide +kernel
theorem dX5_play_42 : decode cX5_play 42 = .ok (.getfield 43, 3) := by decide +kernel
theorem dX5_play_45 : decode cX5_play 45 = .ok (.getfield 207, 3) := by decide +kernel
theorem dX5_play_48 : decode cX5_play 48 = .ok (.goto 5, 3) := by decide +kernel
theorem dX5_play_51 : decode cX5_play 51 = .ok (.ldc 185, 2) := by decide +kernel
theorem dX5_play_53 : decode cX5_play 53 = .ok (.invokevirtual 55, 3) := by decide +kernel
theorem dX5_play_56 : decode cX5_play 56 = .ok (.ireturn, 1) := by decide +kernel
theorem dX5_settle_0 : decode cX5_settle 0 = .ok (.iload_n 1, 1) := by decide +kernel
theorem dX5_settle_1 : decode cX5_settle 1 = .ok (.invokestatic 210, 3) := by decide +kernel
theorem dX5_settle_4 : decode cX5_settle 4 = .ok (.ifCond .ne 25, 3) := by decide +kernel
theorem dX5_settle_7 : decode cX5_settle 7 = .ok (.aload_n 0, 1) := by decide +kernel
theorem dX5_settle_8 : decode cX5_settle 8 = .ok (.getfield 29, 3) := by decide +kernel
theorem dX5_settle_11 : decode cX5_settle 11 = .ok (.aload_n 0, 1) := by decide +kernel
theorem dX5_settle_12 : decode cX5_settle 12 = .ok (.getfield 10, 3) := by decide +kernel
theorem dX5_settle_15 : decode cX5_settle 15 = .ok (.invokevirtual 214, 3) := by decide +kernel
theorem dX5_settle_18 : decode cX5_settle 18 = .ok (.aload_n 0, 1) := by decide +kernel
theorem dX5_settle_19 : decode cX5_settle 19 = .ok (.getfield 10, 3) := by decide +kernel
theorem dX5_settle_22 : decode cX5_settle 22 = .ok (.aload_n 0, 1) := by decide +kernel
theorem dX5_settle_23 : decode cX5_settle 23 = .ok (.getfield 16, 3) := by decide +kernel
theorem dX5_settle_26 : decode cX5_settle 26 = .ok (.invokevirtual 47, 3) := by decide +kernel
theorem dX5_settle_29 : decode cX5_settle 29 = .ok (.iload_n 1, 1) := by decide +kernel
theorem dX5_settle_30 : decode cX5_settle 30 = .ok (.ireturn, 1) := by decide +kernel
theorem dX5_gainWith_0 : decode cX5_gainWith 0 = .ok (.aload_n 0, 1) := by decide +kernel
theorem dX5_gainWith_1 : decode cX5_gainWith 1 = .ok (.getfield 16, 3) := by decide +kernel
theorem dX5_gainWith_4 : decode cX5_gainWith 4 = .ok (.aload_n 0, 1) := by decide +kernel
theorem dX5_gainWith_5 : decode cX5_gainWith 5 = .ok (.getfield 10, 3) := by decide +kernel
theorem dX5_gainWith_8 : decode cX5_gainWith 8 = .ok (.invokevirtual 47, 3) := by decide +kernel
theorem dX5_gainWith_11 : decode cX5_gainWith 11 = .ok (.aload_n 0, 1) := by decide +kernel
theorem dX5_gainWith_12 : decode cX5_gainWith 12 = .ok (.getfield 16, 3) := by decide +kernel
theorem dX5_gainWith_15 : decode cX5_gainWith 15 = .ok (.iload_n 1, 1) := by decide +kernel
theorem dX5_gainWith_16 : decode cX5_gainWith 16 = .ok (.putfield 102, 3) := by decide +kernel
theorem dX5_gainWith_19 : decode cX5_gainWith 19 = .ok (.aload_n 0, 1) := by decide +kernel
theorem dX5_gainWith_20 : decode cX5_gainWith 20 = .ok (.getfield 16, 3) := by decide +kernel
theorem dX5_gainWith_23 : decode cX5_gainWith 23 = .ok (.iload_n 2, 1) := by decide +kernel
theorem dX5_gainWith_24 : decode cX5_gainWith 24 = .ok (.aload_n 0, 1) := by decide +kernel
theorem dX5_gainWith_25 : decode cX5_gainWith 25 = .ok (.getfield 22, 3) := by decide +kernel
theorem dX5_gainWith_28 : decode cX5_gainWith 28 = .ok (.invokevirtual 154, 3) := by decide +kernel
theorem dX5_gainWith_31 : decode cX5_gainWith 31 = .ok (.aload_n 0, 1) := by decide +kernel
theorem dX5_gainWith_32 : decode cX5_gainWith 32 = .ok (.getfield 16, 3) := by decide +kernel
theorem dX5_gainWith_35 : decode cX5_gainWith 35 = .ok (.invokevirtual 217, 3) := by decide +kernel
theorem dX5_gainWith_38 : decode cX5_gainWith 38 = .ok (.aload_n 0, 1) := by decide +kernel
theorem dX5_gainWith_39 : decode cX5_gainWith 39 = .ok (.getfield 10, 3) := by decide +kernel
theorem dX5_gainWith_42 : decode cX5_gainWith 42 = .ok (.invokevirtual 217, 3) := by decide +kernel
theorem dX5_gainWith_45 : decode cX5_gainWith 45 = .ok (.isub, 1) := by decide +kernel
theorem dX5_gainWith_46 : decode cX5_gainWith 46 = .ok (.ireturn, 1) := by decide +kernel
theorem dX5_levelWith_0 : decode cX5_levelWith 0 = .ok (.aload_n 0, 1) := by decide +kernel
theorem dX5_levelWith_1 : decode cX5_levelWith 1 = .ok (.getfield 16, 3) := by decide +kernel
theorem dX5_levelWith_4 : decode cX5_levelWith 4 = .ok (.aload_n 0, 1) := by decide +kernel
theorem dX5_levelWith_5 : decode cX5_levelWith 5 = .ok (.getfield 10, 3) := by decide +kernel
theorem dX5_levelWith_8 : decode cX5_levelWith 8 = .ok (.invokevirtual 47, 3) := by decide +kernel
theorem dX5_levelWith_11 : decode cX5_levelWith 11 = .ok (.aload_n 0, 1) := by decide +kernel
theorem dX5_levelWith_12 : decode cX5_levelWith 12 = .ok (.getfield 16, 3) := by decide +kernel
theorem dX5_levelWith_15 : decode cX5_levelWith 15 = .ok (.iload_n 1, 1) := by decide +kernel
theorem dX5_levelWith_16 : decode cX5_levelWith 16 = .ok (.putfield 99, 3) := by decide +kernel
theorem dX5_levelWith_19 : decode cX5_levelWith 19 = .ok (.aload_n 0, 1) := by decide +kernel
theorem dX5_levelWith_20 : decode cX5_levelWith 20 = .ok (.getfield 16, 3) := by decide +kernel
theorem dX5_levelWith_23 : decode cX5_levelWith 23 = .ok (.iload_n 2, 1) := by decide +kernel
theorem dX5_levelWith_24 : decode cX5_levelWith 24 = .ok (.aload_n 0, 1) := by decide +kernel
theorem dX5_levelWith_25 : decode cX5_levelWith 25 = .ok (.getfield 22, 3) := by decide +kernel
theorem dX5_levelWith_28 : decode cX5_levelWith 28 = .ok (.invokevirtual 154, 3) := by decide +kernel
theorem dX5_levelWith_31 : decode cX5_levelWith 31 = .ok (.aload_n 0, 1) := by decide +kernel
theorem dX5_levelWith_32 : decode cX5_levelWith 32 = .ok (.getfield 16, 3) := by decide +kernel
theorem dX5_levelWith_35 : decode cX5_levelWith 35 = .ok (.invokevirtual 86, 3) := by decide +kernel
theorem dX5_levelWith_38 : decode cX5_levelWith 38 = .ok (.ireturn, 1) := by decide +kernel
theorem dX5_isError_0 : decode cX5_isError 0 = .ok (.iload_n 0, 1) := by decide +kernel
theorem dX5_isError_1 : decode cX5_isError 1 = .ok (.ldc 78, 2) := by decide +kernel
theorem dX5_isError_3 : decode cX5_isError 3 = .ok (.if_icmp .gt 7, 3) := by decide +kernel
theorem dX5_isError_6 : decode cX5_isError 6 = .ok (.iconst 1, 1) := by decide +kernel
theorem dX5_isError_7 : decode cX5_isError 7 = .ok (.goto 4, 3) := by decide +kernel
theorem dX5_isError_10 : decode cX5_isError 10 = .ok (.iconst 0, 1) := by decide +kernel
theorem dX5_isError_11 : decode cX5_isError 11 = .ok (.ireturn, 1) := by decide +kernel
theorem dX5_tideHeight_0 : decode cX5_tideHeight 0 = .ok (.iload_n 0, 1) := by decide +kernel
theorem dX5_tideHeight_1 : decode cX5_tideHeight 1 = .ok (.bipush 14, 2) := by decide +kernel
theorem dX5_tideHeight_3 : decode cX5_tideHeight 3 = .ok (.irem, 1) := by decide +kernel
theorem dX5_tideHeight_4 : decode cX5_tideHeight 4 = .ok (.bipush 7, 2) := by decide +kernel
theorem dX5_tideHeight_6 : decode cX5_tideHeight 6 = .ok (.isub, 1) := by decide +kernel
theorem dX5_tideHeight_7 : decode cX5_tideHeight 7 = .ok (.istore_n 1, 1) := by decide +kernel
theorem dX5_tideHeight_8 : decode cX5_tideHeight 8 = .ok (.sipush 200, 3) := by decide +kernel
theorem dX5_tideHeight_11 : decode cX5_tideHeight 11 = .ok (.bipush 20, 2) := by decide +kernel
theorem dX5_tideHeight_13 : decode cX5_tideHeight 13 = .ok (.iload_n 1, 1) := by decide +kernel
theorem dX5_tideHeight_14 : decode cX5_tideHeight 14 = .ok (.ifCond .ge 8, 3) := by decide +kernel
theorem dX5_tideHeight_17 : decode cX5_tideHeight 17 = .ok (.iload_n 1, 1) := by decide +kernel
theorem dX5_tideHeight_18 : decode cX5_tideHeight 18 = .ok (.ineg, 1) := by decide +kernel
theorem dX5_tideHeight_19 : decode cX5_tideHeight 19 = .ok (.goto 4, 3) := by decide +kernel
theorem dX5_tideHeight_22 : decode cX5_tideHeight 22 = .ok (.iload_n 1, 1) := by decide +kernel
theorem dX5_tideHeight_23 : decode cX5_tideHeight 23 = .ok (.imul, 1) := by decide +kernel
theorem dX5_tideHeight_24 : decode cX5_tideHeight 24 = .ok (.iadd, 1) := by decide +kernel
theorem dX5_tideHeight_25 : decode cX5_tideHeight 25 = .ok (.ireturn, 1) := by decide +kernel
theorem dX5_seaLevel_0 : decode cX5_seaLevel 0 = .ok (.iload_n 0, 1) := by decide +kernel
theorem dX5_seaLevel_1 : decode cX5_seaLevel 1 = .ok (.sipush 144, 3) := by decide +kernel
theorem dX5_seaLevel_4 : decode cX5_seaLevel 4 = .ok (.idiv, 1) := by decide +kernel
theorem dX5_seaLevel_5 : decode cX5_seaLevel 5 = .ok (.invokestatic 112, 3) := by decide +kernel
theorem dX5_seaLevel_8 : decode cX5_seaLevel 8 = .ok (.istore_n 1, 1) := by decide +kernel
theorem dX5_seaLevel_9 : decode cX5_seaLevel 9 = .ok (.iload_n 0, 1) := by decide +kernel
theorem dX5_seaLevel_10 : decode cX5_seaLevel 10 = .ok (.bipush 74, 2) := by decide +kernel
theorem dX5_seaLevel_12 : decode cX5_seaLevel 12 = .ok (.irem, 1) := by decide +kernel
theorem dX5_seaLevel_13 : decode cX5_seaLevel 13 = .ok (.istore_n 2, 1) := by decide +kernel
theorem dX5_seaLevel_14 : decode cX5_seaLevel 14 = .ok (.iload_n 2, 1) := by decide +kernel
theorem dX5_seaLevel_15 : decode cX5_seaLevel 15 = .ok (.bipush 37, 2) := by decide +kernel
theorem dX5_seaLevel_17 : decode cX5_seaLevel 17 = .ok (.if_icmp .ge 14, 3) := by decide +kernel
theorem dX5_seaLevel_20 : decode cX5_seaLevel 20 = .ok (.iconst 2, 1) := by decide +kernel
theorem dX5_seaLevel_21 : decode cX5_seaLevel 21 = .ok (.iload_n 1, 1) := by decide +kernel
theorem dX5_seaLevel_22 : decode cX5_seaLevel 22 = .ok (.imul, 1) := by decide +kernel
theorem dX5_seaLevel_23 : decode cX5_seaLevel 23 = .ok (.iload_n 2, 1) := by decide +kernel
theorem dX5_seaLevel_24 : decode cX5_seaLevel 24 = .ok (.imul, 1) := by decide +kernel
theorem dX5_seaLevel_25 : decode cX5_seaLevel 25 = .ok (.bipush 37, 2) := by decide +kernel
theorem dX5_seaLevel_27 : decode cX5_seaLevel 27 = .ok (.idiv, 1) := by decide +kernel
theorem dX5_seaLevel_28 : decode cX5_seaLevel 28 = .ok (.iload_n 1, 1) := by decide +kernel
theorem dX5_seaLevel_29 : decode cX5_seaLevel 29 = .ok (.isub, 1) := by decide +kernel
theorem dX5_seaLevel_30 : decode cX5_seaLevel 30 = .ok (.ireturn, 1) := by decide +kernel
theorem dX5_seaLevel_31 : decode cX5_seaLevel 31 = .ok (.iload_n 1, 1) := by decide +kernel
theorem dX5_seaLevel_32 : decode cX5_seaLevel 32 = .ok (.iconst 2, 1) := by decide +kernel
theorem dX5_seaLevel_33 : decode cX5_seaLevel 33 = .ok (.iload_n 1, 1) := by decide +kernel
theorem dX5_seaLevel_34 : decode cX5_seaLevel 34 = .ok (.imul, 1) := by decide +kernel
theorem dX5_seaLevel_35 : decode cX5_seaLevel 35 = .ok (.iload_n 2, 1) := by decide +kernel
theorem dX5_seaLevel_36 : decode cX5_seaLevel 36 = .ok (.bipush 37, 2) := by decide +kernel
theorem dX5_seaLevel_38 : decode cX5_seaLevel 38 = .ok (.isub, 1) := by decide +kernel
theorem dX5_seaLevel_39 : decode cX5_seaLevel 39 = .ok (.imul, 1) := by decide +kernel
theorem dX5_seaLevel_40 : decode cX5_seaLevel 40 = .ok (.bipush 37, 2) := by decide +kernel
theorem dX5_seaLevel_42 : decode cX5_seaLevel 42 = .ok (.idiv, 1) := by decide +kernel
theorem dX5_seaLevel_43 : decode cX5_seaLevel 43 = .ok (.isub, 1) := by decide +kernel
theorem dX5_seaLevel_44 : decode cX5_seaLevel 44 = .ok (.ireturn, 1) := by decide +kernel
theorem dX5_recordStart_0 : decode cX5_recordStart 0 = .ok (.iload_n 0, 1) := by decide +kernel
theorem dX5_recordStart_1 : decode cX5_recordStart 1 = .ok (.bipush 10, 2) := by decide +kernel
theorem dX5_recordStart_3 : decode cX5_recordStart 3 = .ok (.invokestatic 220, 3) := by decide +kernel
theorem dX5_recordStart_6 : decode cX5_recordStart 6 = .ok (.bipush 6, 2) := by decide +kernel
theorem dX5_recordStart_8 : decode cX5_recordStart 8 = .ok (.imul, 1) := by decide +kernel
theorem dX5_recordStart_9 : decode cX5_recordStart 9 = .ok (.ireturn, 1) := by decide +kernel
theorem dX5_floatBits_0 : decode cX5_floatBits 0 = .ok (.fload_n 0, 1) := by decide +kernel
theorem dX5_floatBits_1 : decode cX5_floatBits 1 = .ok (.fconst 0, 1) := by decide +kernel
theorem dX5_floatBits_2 : decode cX5_floatBits 2 = .ok (.fcmp .l, 1) := by decide +kernel
theorem dX5_floatBits_3 : decode cX5_floatBits 3 = .ok (.ifCond .gt 5, 3) := by decide +kernel
theorem dX5_floatBits_6 : decode cX5_floatBits 6 = .ok (.iconst 0, 1) := by decide +kernel
theorem dX5_floatBits_7 : decode cX5_floatBits 7 = .ok (.ireturn, 1) := by decide +kernel
theorem dX5_floatBits_8 : decode cX5_floatBits 8 = .ok (.bipush 127, 2) := by decide +kernel
theorem dX5_floatBits_10 : decode cX5_floatBits 10 = .ok (.istore_n 1, 1) := by decide +kernel
theorem dX5_floatBits_11 : decode cX5_floatBits 11 = .ok (.fload_n 0, 1) := by decide +kernel
theorem dX5_floatBits_12 : decode cX5_floatBits 12 = .ok (.fstore_n 2, 1) := by decide +kernel
theorem dX5_floatBits_13 : decode cX5_floatBits 13 = .ok (.iconst 0, 1) := by decide +kernel
theorem dX5_floatBits_14 : decode cX5_floatBits 14 = .ok (.istore_n 3, 1) := by decide +kernel
theorem dX5_floatBits_15 : decode cX5_floatBits 15 = .ok (.iload_n 3, 1) := by decide +kernel
theorem dX5_floatBits_16 : decode cX5_floatBits 16 = .ok (.sipush 128, 3) := by decide +kernel
theorem dX5_floatBits_19 : decode cX5_floatBits 19 = .ok (.if_icmp .ge 22, 3) := by decide +kernel
theorem dX5_floatBits_22 : decode cX5_floatBits 22 = .ok (.fload_n 2, 1) := by decide +kernel
theorem dX5_floatBits_23 : decode cX5_floatBits 23 = .ok (.fconst 2, 1) := by decide +kernel
theorem dX5_floatBits_24 : decode cX5_floatBits 24 = .ok (.fcmp .l, 1) := by decide +kernel
theorem dX5_floatBits_25 : decode cX5_floatBits 25 = .ok (.ifCond .lt 16, 3) := by decide +kernel
theorem dX5_floatBits_28 : decode cX5_floatBits 28 = .ok (.fload_n 2, 1) := by decide +kernel
theorem dX5_floatBits_29 : decode cX5_floatBits 29 = .ok (.fconst 2, 1) := by decide +kernel
theorem dX5_floatBits_30 : decode cX5_floatBits 30 = .ok (.fdiv, 1) := by decide +kernel
theorem dX5_floatBits_31 : decode cX5_floatBits 31 = .ok (.fstore_n 2, 1) := by decide +kernel
theorem dX5_floatBits_32 : decode cX5_floatBits 32 = .ok (.iinc 1 1, 3) := by decide +kernel
theorem dX5_floatBits_35 : decode cX5_floatBits 35 = .ok (.iinc 3 1, 3) := by decide +kernel
theorem dX5_floatBits_38 : decode cX5_floatBits 38 = .ok (.goto (-23), 3) := by decide +kernel
theorem dX5_floatBits_41 : decode cX5_floatBits 41 = .ok (.iconst 0, 1) := by decide +kernel
theorem dX5_floatBits_42 : decode cX5_floatBits 42 = .ok (.istore_n 3, 1) := by decide +kernel
theorem dX5_floatBits_43 : decode cX5_floatBits 43 = .ok (.iload_n 3, 1) := by decide +kernel
theorem dX5_floatBits_44 : decode cX5_floatBits 44 = .ok (.sipush 128, 3) := by decide +kernel
theorem dX5_floatBits_47 : decode cX5_floatBits 47 = .ok (.if_icmp .ge 22, 3) := by decide +kernel
theorem dX5_floatBits_50 : decode cX5_floatBits 50 = .ok (.fload_n 2, 1) := by decide +kernel
theorem dX5_floatBits_51 : decode cX5_floatBits 51 = .ok (.fconst 1, 1) := by decide +kernel
theorem dX5_floatBits_52 : decode cX5_floatBits 52 = .ok (.fcmp .g, 1) := by decide +kernel
theorem dX5_floatBits_53 : decode cX5_floatBits 53 = .ok (.ifCond .ge 16, 3) := by decide +kernel
theorem dX5_floatBits_56 : decode cX5_floatBits 56 = .ok (.fload_n 2, 1) := by decide +kernel
theorem dX5_floatBits_57 : decode cX5_floatBits 57 = .ok (.fconst 2, 1) := by decide +kernel
theorem dX5_floatBits_58 : decode cX5_floatBits 58 = .ok (.fmul, 1) := by decide +kernel
theorem dX5_floatBits_59 : decode cX5_floatBits 59 = .ok (.fstore_n 2, 1) := by decide +kernel
theorem dX5_floatBits_60 : decode cX5_floatBits 60 = .ok (.iinc 1 (-1), 3) := by decide +kernel
theorem dX5_floatBits_63 : decode cX5_floatBits 63 = .ok (.iinc 3 1, 3) := by decide +kernel
theorem dX5_floatBits_66 : decode cX5_floatBits 66 = .ok (.goto (-23), 3) := by decide +kernel
theorem dX5_floatBits_69 : decode cX5_floatBits 69 = .ok (.fload_n 2, 1) := by decide +kernel
theorem dX5_floatBits_70 : decode cX5_floatBits 70 = .ok (.ldc 223, 2) := by decide +kernel
theorem dX5_floatBits_72 : decode cX5_floatBits 72 = .ok (.fmul, 1) := by decide +kernel
theorem dX5_floatBits_73 : decode cX5_floatBits 73 = .ok (.f2i, 1) := by decide +kernel
theorem dX5_floatBits_74 : decode cX5_floatBits 74 = .ok (.ldc 224, 2) := by decide +kernel
theorem dX5_floatBits_76 : decode cX5_floatBits 76 = .ok (.isub, 1) := by decide +kernel
theorem dX5_floatBits_77 : decode cX5_floatBits 77 = .ok (.istore_n 3, 1) := by decide +kernel
theorem dX5_floatBits_78 : decode cX5_floatBits 78 = .ok (.iload_n 1, 1) := by decide +kernel
theorem dX5_floatBits_79 : decode cX5_floatBits 79 = .ok (.ldc 224, 2) := by decide +kernel
theorem dX5_floatBits_81 : decode cX5_floatBits 81 = .ok (.imul, 1) := by decide +kernel
theorem dX5_floatBits_82 : decode cX5_floatBits 82 = .ok (.iload_n 3, 1) := by decide +kernel
theorem dX5_floatBits_83 : decode cX5_floatBits 83 = .ok (.iadd, 1) := by decide +kernel
theorem dX5_floatBits_84 : decode cX5_floatBits 84 = .ok (.ireturn, 1) := by decide +kernel
theorem dX6_init_0 : decode cX6_init 0 = .ok (.aload_n 0, 1) := by decide +kernel
theorem dX6_init_1 : decode cX6_init 1 = .ok (.invokespecial 1, 3) := by decide +kernel
theorem dX6_init_4 : decode cX6_init 4 = .ok (.aload_n 0, 1) := by decide +kernel
theorem dX6_init_5 : decode cX6_init 5 = .ok (.bipush 89, 2) := by decide +kernel
theorem dX6_init_7 : decode cX6_init 7 = .ok (.newarray .int, 2) := by decide +kernel
theorem dX6_init_9 : decode cX6_init 9 = .ok (.putfield 7, 3) := by decide +kernel
theorem dX6_init_12 : decode cX6_init 12 = .ok (.aload_n 0, 1) := by decide +kernel
theorem dX6_init_13 : decode cX6_init 13 = .ok (.sipush 356, 3) := by decide +kernel
theorem dX6_init_16 : decode cX6_init 16 = .ok (.newarray .int, 2) := by decide +kernel
theorem dX6_init_18 : decode cX6_init 18 = .ok (.putfield 13, 3) := by decide +kernel
theorem dX6_init_21 : decode cX6_init 21 = .ok (.aload_n 0, 1) := by decide +kernel
theorem dX6_init_22 : decode cX6_init 22 = .ok (.bipush 89, 2) := by decide +kernel
theorem dX6_init_24 : decode cX6_init 24 = .ok (.newarray .int, 2) := by decide +kernel
theorem dX6_init_26 : decode cX6_init 26 = .ok (.putfield 16, 3) := by decide +kernel
theorem dX6_init_29 : decode cX6_init 29 = .ok (.aload_n 0, 1) := by decide +kernel
theorem dX6_init_30 : decode cX6_init 30 = .ok (.bipush 89, 2) := by decide +kernel
theorem dX6_init_32 : decode cX6_init 32 = .ok (.newarray .int, 2) := by decide +kernel
theorem dX6_init_34 : decode cX6_init 34 = .ok (.putfield 19, 3) := by decide +kernel
theorem dX6_init_37 : decode cX6_init 37 = .ok (.aload_n 0, 1) := by decide +kernel
theorem dX6_init_38 : decode cX6_init 38 = .ok (.bipush 60, 2) := by decide +kernel
theorem dX6_init_40 : decode cX6_init 40 = .ok (.newarray .int, 2) := by decide +kernel
theorem dX6_init_42 : decode cX6_init 42 = .ok (.putfield 22, 3) := by decide +kernel
theorem dX6_init_45 : decode cX6_init 45 = .ok (.aload_n 0, 1) := by decide +kernel
theorem dX6_init_46 : decode cX6_init 46 = .ok (.iconst 2, 1) := by decide +kernel
theorem dX6_init_47 : decode cX6_init 47 = .ok (.newarray .int, 2) := by decide +kernel
theorem dX6_init_49 : decode cX6_init 49 = .ok (.putfield 25, 3) := by decide +kernel
theorem dX6_init_52 : decode cX6_init 52 = .ok (.aload_n 0, 1) := by decide +kernel
theorem dX6_init_53 : decode cX6_init 53 = .ok (.getfield 7, 3) := by decide +kernel
theorem dX6_init_56 : decode cX6_init 56 = .ok (.iconst 1, 1) := by decide +kernel
theorem dX6_init_57 : decode cX6_init 57 = .ok (.ldc 28, 2) := by decide +kernel
theorem dX6_init_59 : decode cX6_init 59 = .ok (.iastore, 1) := by decide +kernel
theorem dX6_init_60 : decode cX6_init 60 = .ok (.aload_n 0, 1) := by decide +kernel
theorem dX6_init_61 : decode cX6_init 61 = .ok (.getfield 7, 3) := by decide +kernel
theorem dX6_init_64 : decode cX6_init 64 = .ok (.bipush 8, 2) := by decide +kernel
theorem dX6_init_66 : decode cX6_init 66 = .ok (.bipush 120, 2) := by decide +kernel
theorem dX6_init_68 : decode cX6_init 68 = .ok (.iastore, 1) := by decide +kernel
theorem dX6_init_69 : decode cX6_init 69 = .ok (.aload_n 0, 1) := by decide +kernel
theorem dX6_init_70 : decode cX6_init 70 = .ok (.getfield 7, 3) := by decide +kernel
theorem dX6_init_73 : decode cX6_init 73 = .ok (.bipush 9, 2) := by decide +kernel
theorem dX6_init_75 : decode cX6_init 75 = .ok (.bipush 40, 2) := by decide +kernel
theorem dX6_init_77 : decode cX6_init 77 = .ok (.iastore, 1) := by decide +kernel
theorem dX6_init_78 : decode cX6_init 78 = .ok (.aload_n 0, 1) := by decide +kernel
theorem dX6_init_79 : decode cX6_init 79 = .ok (.getfield 7, 3) := by decide +kernel
theorem dX6_init_82 : decode cX6_init 82 = .ok (.bipush 10, 2) := by decide +kernel
theorem dX6_init_84 : decode cX6_init 84 = .ok (.sipush 1500, 3) := by decide +kernel
theorem dX6_init_87 : decode cX6_init 87 = .ok (.iastore, 1) := by decide +kernel
theorem dX6_init_88 : decode cX6_init 88 = .ok (.return_, 1) := by decide +kernel
theorem dX6_in_0 : decode cX6_in 0 = .ok (.iload_n 0, 1) := by decide +kernel
theorem dX6_in_1 : decode cX6_in 1 = .ok (.iload_n 1, 1) := by decide +kernel
theorem dX6_in_2 : decode cX6_in 2 = .ok (.if_icmp .lt 12, 3) := by decide +kernel
theorem dX6_in_5 : decode cX6_in 5 = .ok (.iload_n 0, 1) := by decide +kernel
theorem dX6_in_6 : decode cX6_in 6 = .ok (.iload_n 2, 1) := by decide +kernel
theorem dX6_in_7 : decode cX6_in 7 = .ok (.if_icmp .gt 7, 3) := by decide +kernel
theorem dX6_in_10 : decode cX6_in 10 = .ok (.iconst 1, 1) := by decide +kernel
theorem dX6_in_11 : decode cX6_in 11 = .ok (.goto 4, 3) := by decide +kernel
theorem dX6_in_14 : decode cX6_in 14 = .ok (.iconst 0, 1) := by decide +kernel
theorem dX6_in_15 : decode cX6_in 15 = .ok (.ireturn, 1) := by decide +kernel
theorem dX6_size_0 : decode cX6_size 0 = .ok (.iload_n 0, 1) := by decide +kernel
theorem dX6_size_1 : decode cX6_size 1 = .ok (.ifCond .ge 8, 3) := by decide +kernel
theorem dX6_size_4 : decode cX6_size 4 = .ok (.iload_n 0, 1) := by decide +kernel
theorem dX6_size_5 : decode cX6_size 5 = .ok (.ineg, 1) := by decide +kernel
theorem dX6_size_6 : decode cX6_size 6 = .ok (.goto 4, 3) := by decide +kernel
theorem dX6_size_9 : decode cX6_size 9 = .ok (.iload_n 0, 1) := by decide +kernel
theorem dX6_size_10 : decode cX6_size 10 = .ok (.ireturn, 1) := by decide +kernel
theorem dX6_copies_0 : decode cX6_copies 0 = .ok (.iconst 0, 1) := by decide +kernel
theorem dX6_copies_1 : decode cX6_copies 1 = .ok (.istore_n 2, 1) := by decide +kernel
theorem dX6_copies_2 : decode cX6_copies 2 = .ok (.iload_n 2, 1) := by decide +kernel
theorem dX6_copies_3 : decode cX6_copies 3 = .ok (.bipush 89, 2) := by decide +kernel
theorem dX6_copies_5 : decode cX6_copies 5 = .ok (.if_icmp .ge 15, 3) := by decide +kernel
theorem dX6_copies_8 : decode cX6_copies 8 = .ok (.aload_n 1, 1) := by decide +kernel
theorem dX6_copies_9 : decode cX6_copies 9 = .ok (.iload_n 2, 1) := by decide +kernel
theorem dX6_copies_10 : decode cX6_copies 10 = .ok (.aload_n 0, 1) := by decide +kernel
theorem dX6_copies_11 : decode cX6_copies 11 = .ok (.iload_n 2, 1) := by decide +kernel
theorem dX6_copies_12 : decode cX6_copies 12 = .ok (.iaload, 1) := by decide +kernel
theorem dX6_copies_13 : decode cX6_copies 13 = .ok (.iastore, 1) := by decide +kernel
theorem dX6_copies_14 : decode cX6_copies 14 = .ok (.iinc 2 1, 3) := by decide +kernel
theorem dX6_copies_17 : decode cX6_copies 17 = .ok (.goto (-15), 3) := by decide +kernel
theorem dX6_copies_20 : decode cX6_copies 20 = .ok (.return_, 1) := by decide +kernel
theorem dX6_changes_0 : decode cX6_changes 0 = .ok (.aload_n 0, 1) := by decide +kernel
theorem dX6_changes_1 : decode cX6_changes 1 = .ok (.getfield 29, 3) := by decide +kernel
theorem dX6_changes_4 : decode cX6_changes 4 = .ok (.ifCond .eq 4, 3) := by decide +kernel
theorem dX6_changes_7 : decode cX6_changes 7 = .ok (.return_, 1) := by decide +kernel
theorem dX6_changes_8 : decode cX6_changes 8 = .ok (.aload_n 0, 1) := by decide +kernel
theorem dX6_changes_9 : decode cX6_changes 9 = .ok (.getfield 33, 3) := by decide +kernel
theorem dX6_changes_12 : decode cX6_changes 12 = .ok (.iconst 4, 1) := by decide +kernel
theorem dX6_changes_13 : decode cX6_changes 13 = .ok (.if_icmp .ne 43, 3) := by decide +kernel
theorem dX6_changes_16 : decode cX6_changes 16 = .ok (.iconst 0, 1) := by decide +kernel
theorem dX6_changes_17 : decode cX6_changes 17 = .ok (.istore_n 1, 1) := by decide +kernel
theorem dX6_changes_18 : decode cX6_changes 18 = .ok (.iload_n 1, 1) := by decide +kernel
theorem dX6_changes_19 : decode cX6_changes 19 = .ok (.sipush 267, 3) := by decide +kernel
theorem dX6_changes_22 : decode cX6_changes 22 = .ok (.if_icmp .ge 24, 3) := by decide +kernel
theorem dX6_changes_25 : decode cX6_changes 25 = .ok (.aload_n 0, 1) := by decide +kernel
theorem dX6_changes_26 : decode cX6_changes 26 = .ok (.getfield 13, 3) := by decide +kernel
theorem dX6_changes_29 : decode cX6_changes 29 = .ok (.iload_n 1, 1) := by decide +kernel
theorem dX6_changes_30 : decode cX6_changes 30 = .ok (.aload_n 0, 1) := by decide +kernel
theorem dX6_changes_31 : decode cX6_changes 31 = .ok (.getfield 13, 3) := by decide +kernel
theorem dX6_changes_34 : decode cX6_changes 34 = .ok (.iload_n 1, 1) := by decide +kernel
theorem dX6_changes_35 : decode cX6_changes 35 = .ok (.bipush 89, 2) := by decide +kernel
theorem dX6_changes_37 : decode cX6_changes 37 = .ok (.iadd, 1) := by decide +kernel
theorem dX6_changes_38 : decode cX6_changes 38 = .ok (.iaload, 1) := by decide +kernel
theorem dX6_changes_39 : decode cX6_changes 39 = .ok (.iastore, 1) := by decide +kernel
theorem dX6_changes_40 : decode cX6_changes 40 = .ok (.iinc 1 1, 3) := by decide +kernel
theorem dX6_changes_43 : decode cX6_changes 43 = .ok (.goto (-25), 3) := by decide +kernel
theorem dX6_changes_46 : decode cX6_changes 46 = .ok (.aload_n 0, 1) := by decide +kernel
theorem dX6_changes_47 : decode cX6_changes 47 = .ok (.dup, 1) := by decide +kernel
theorem dX6_changes_48 : decode cX6_changes 48 = .ok (.getfield 33, 3) := by decide +kernel
theorem dX6_changes_51 : decode cX6_changes 51 = .ok (.iconst 1, 1) := by decide +kernel
theorem dX6_changes_52 : decode cX6_changes 52 = .ok (.isub, 1) := by decide +kernel
theorem dX6_changes_53 : decode cX6_changes 53 = .ok (.putfield 33, 3) := by decide +kernel
theorem dX6_changes_56 : decode cX6_changes 56 = .ok (.iconst 0, 1) := by decide +kernel
theorem dX6_changes_57 : decode cX6_changes 57 = .ok (.istore_n 1, 1) := by decide +kernel
theorem dX6_changes_58 : decode cX6_changes 58 = .ok (.iload_n 1, 1) := by decide +kernel
theorem dX6_changes_59 : decode cX6_changes 59 = .ok (.bipush 89, 2) := by decide +kernel
theorem dX6_changes_61 : decode cX6_changes 61 = .ok (.if_icmp .ge 29, 3) := by decide +kernel
theorem dX6_changes_64 : decode cX6_changes 64 = .ok (.aload_n 0, 1) := by decide +kernel
theorem dX6_changes_65 : decode cX6_changes 65 = .ok (.getfield 13, 3) := by decide +kernel
theorem dX6_changes_68 : decode cX6_changes 68 = .ok (.bipush 89, 2) := by decide +kernel
theorem dX6_changes_70 : decode cX6_changes 70 = .ok (.aload_n 0, 1) := by decide +kernel
theorem dX6_changes_71 : decode cX6_changes 71 = .ok (.getfield 33, 3) := by decide +kernel
theorem dX6_changes_74 : decode cX6_changes 74 = .ok (.imul, 1) := by decide +kernel
theorem dX6_changes_75 : decode cX6_changes 75 = .ok (.iload_n 1, 1) := by decide +kernel
theorem dX6_changes_76 : decode cX6_changes 76 = .ok (.iadd, 1) := by decide +kernel
theorem dX6_changes_77 : decode cX6_changes 77 = .ok (.aload_n 0, 1) := by decide +kernel
theorem dX6_changes_78 : decode cX6_changes 78 = .ok (.getfield 7, 3) := by decide +kernel
theorem dX6_changes_81 : decode cX6_changes 81 = .ok (.iload_n 1, 1) := by decide +kernel
theorem dX6_changes_82 : decode cX6_changes 82 = .ok (.iaload, 1) := by decide +kernel
theorem dX6_changes_83 : decode cX6_changes 83 = .ok (.iastore, 1) := by decide +kernel
theorem dX6_changes_84 : decode cX6_changes 84 = .ok (.iinc 1 1, 3) := by decide +kernel
theorem dX6_changes_87 : decode cX6_changes 87 = .ok (.goto (-29), 3) := by decide +kernel
theorem dX6_changes_90 : decode cX6_changes 90 = .ok (.aload_n 0, 1) := by decide +kernel
theorem dX6_changes_91 : decode cX6_changes 91 = .ok (.dup, 1) := by decide +kernel
theorem dX6_changes_92 : decode cX6_changes 92 = .ok (.getfield 33, 3) := by decide +kernel
theorem dX6_changes_95 : decode cX6_changes 95 = .ok (.iconst 1, 1) := by decide +kernel
theorem dX6_changes_96 : decode cX6_changes 96 = .ok (.iadd, 1) := by decide +kernel
theorem dX6_changes_97 : decode cX6_changes 97 = .ok (.putfield 33, 3) := by decide +kernel
theorem dX6_changes_100 : decode cX6_changes 100 = .ok (.return_, 1) := by decide +kernel
theorem dX6_sets_0 : decode cX6_sets 0 = .ok (.aload_n 0, 1) := by decide +kernel
theorem dX6_sets_1 : decode cX6_sets 1 = .ok (.invokevirtual 37, 3) := by decide +kernel
theorem dX6_sets_4 : decode cX6_sets 4 = .ok (.aload_n 0, 1) := by decide +kernel
theorem dX6_sets_5 : decode cX6_sets 5 = .ok (.getfield 7, 3) := by decide +kernel
theorem dX6_sets_8 : decode cX6_sets 8 = .ok (.iload_n 1, 1) := by decide +kernel
theorem dX6_sets_9 : decode cX6_sets 9 = .ok (.iaload, 1) := by decide +kernel
theorem dX6_sets_10 : decode cX6_sets 10 = .ok (.istore_n 3, 1) := by decide +kernel
theorem dX6_sets_11 : decode cX6_sets 11 = .ok (.aload_n 0, 1) := by decide +kernel
theorem dX6_sets_12 : decode cX6_sets 12 = .ok (.getfield 7, 3) := by decide +kernel
theorem dX6_sets_15 : decode cX6_sets 15 = .ok (.iload_n 1, 1) := by decide +kernel
theorem dX6_sets_16 : decode cX6_sets 16 = .ok (.iload_n 2, 1) := by decide +kernel
theorem dX6_sets_17 : decode cX6_sets 17 = .ok (.iastore, 1) := by decide +kernel
theorem dX6_sets_18 : decode cX6_sets 18 = .ok (.iload_n 3, 1) := by decide +kernel
theorem dX6_sets_19 : decode cX6_sets 19 = .ok (.ireturn, 1) := by decide +kernel
theorem dX6_gates_0 : decode cX6_gates 0 = .ok (.iload_n 1, 1) := by decide +kernel
theorem dX6_gates_1 : decode cX6_gates 1 = .ok (.iconst 0, 1) := by decide +kernel
theorem dX6_gates_2 : decode cX6_gates 2 = .ok (.bipush 8, 2) := by decide +kernel
theorem dX6_gates_4 : decode cX6_gates 4 = .ok (.invokestatic 40, 3) := by decide +kernel
theorem dX6_gates_7 : decode cX6_gates 7 = .ok (.ifCond .eq 12, 3) := by decide +kernel
theorem dX6_gates_10 : decode cX6_gates 10 = .ok (.aload_n 0, 1) := by decide +kernel
theorem dX6_gates_11 : decode cX6_gates 11 = .ok (.iconst 3, 1) := by decide +kernel
theorem dX6_gates_12 : decode cX6_gates 12 = .ok (.iload_n 1, 1) := by decide +kernel
theorem dX6_gates_13 : decode cX6_gates 13 = .ok (.invokevirtual 44, 3) := by decide +kernel
theorem dX6_gates_16 : decode cX6_gates 16 = .ok (.goto 5, 3) := by decide +kernel
theorem dX6_gates_19 : decode cX6_gates 19 = .ok (.ldc 48, 2) := by decide +kernel
theorem dX6_gates_21 : decode cX6_gates 21 = .ok (.ireturn, 1) := by decide +kernel
theorem dX6_turbines_0 : decode cX6_turbines 0 = .ok (.iload_n 1, 1) := by decide +kernel
theorem dX6_turbines_1 : decode cX6_turbines 1 = .ok (.iconst 0, 1) := by decide +kernel
theorem dX6_turbines_2 : decode cX6_turbines 2 = .ok (.bipush 6, 2) := by decide +kernel
theorem dX6_turbines_4 : decode cX6_turbines 4 = .ok (.invokestatic 40, 3) := by decide +kernel
theorem dX6_turbines_7 : decode cX6_turbines 7 = .ok (.ifCond .eq 12, 3) := by decide +kernel
theorem dX6_turbines_10 : decode cX6_turbines 10 = .ok (.aload_n 0, 1) := by decide +kernel
theorem dX6_turbines_11 : decode cX6_turbines 11 = .ok (.iconst 4, 1) := by decide +kernel
theorem dX6_turbines_12 : decode cX6_turbines 12 = .ok (.iload_n 1, 1) := by decide +kernel
theorem dX6_turbines_13 : decode cX6_turbines 13 = .ok (.invokevirtual 44, 3) := by decide +kernel
theorem dX6_turbines_16 : decode cX6_turbines 16 = .ok (.goto 5, 3) := by decide +kernel
theorem dX6_turbines_19 : decode cX6_turbines 19 = .ok (.ldc 48, 2) := by decide +kernel
theorem dX6_turbines_21 : decode cX6_turbines 21 = .ok (.ireturn, 1) := by decide +kernel
theorem dX6_pump_0 : decode cX6_pump 0 = .ok (.iload_n 1, 1) := by decide +kernel
theorem dX6_pump_1 : decode cX6_pump 1 = .ok (.sipush (-500), 3) := by decide +kernel
theorem dX6_pump_4 : decode cX6_pump 4 = .ok (.sipush 500, 3) := by decide +kernel
theorem dX6_pump_7 : decode cX6_pump 7 = .ok (.invokestatic 40, 3) := by decide +kernel
theorem dX6_pump_10 : decode cX6_pump 10 = .ok (.ifCond .eq 12, 3) := by decide +kernel
theorem dX6_pump_13 : decode cX6_pump 13 = .ok (.aload_n 0, 1) := by decide +kernel
theorem dX6_pump_14 : decode cX6_pump 14 = .ok (.iconst 5, 1) := by decide +kernel
theorem dX6_pump_15 : decode cX6_pump 15 = .ok (.iload_n 1, 1) := by decide +kernel
theorem dX6_pump_16 : decode cX6_pump 16 = .ok (.invokevirtual 44, 3) := by decide +kernel
theorem dX6_pump_19 : decode cX6_pump 19 = .ok (.goto 5, 3) := by decide +kernel
theorem dX6_pump_22 : decode cX6_pump 22 = .ok (.ldc 48, 2) := by decide +kernel
theorem dX6_pump_24 : decode cX6_pump 24 = .ok (.ireturn, 1) := by decide +kernel
theorem dX6_birds_0 : decode cX6_birds 0 = .ok (.iload_n 1, 1) := by decide +kernel
theorem dX6_birds_1 : decode cX6_birds 1 = .ok (.iconst 0, 1) := by decide +kernel
theorem dX6_birds_2 : decode cX6_birds 2 = .ok (.sipush 143, 3) := by decide +kernel
theorem dX6_birds_5 : decode cX6_birds 5 = .ok (.invokestatic 40, 3) := by decide +kernel
theorem dX6_birds_8 : decode cX6_birds 8 = .ok (.ifCond .eq 14, 3) := by decide +kernel
theorem dX6_birds_11 : decode cX6_birds 11 = .ok (.iload_n 2, 1) := by decide +kernel
theorem dX6_birds_12 : decode cX6_birds 12 = .ok (.iconst 0, 1) := by decide +kernel
theorem dX6_birds_13 : decode cX6_birds 13 = .ok (.sipush 144, 3) := by decide +kernel
theorem dX6_birds_16 : decode cX6_birds 16 = .ok (.invokestatic 40, 3) := by decide +kernel
theorem dX6_birds_19 : decode cX6_birds 19 = .ok (.ifCond .ne 6, 3) := by decide +kernel
theorem dX6_birds_22 : decode cX6_birds 22 = .ok (.ldc 48, 2) := by decide +kernel
theorem dX6_birds_24 : decode cX6_birds 24 = .ok (.ireturn, 1) := by decide +kernel
theorem dX6_birds_25 : decode cX6_birds 25 = .ok (.aload_n 0, 1) := by decide +kernel
theorem dX6_birds_26 : decode cX6_birds 26 = .ok (.invokevirtual 37, 3) := by decide +kernel
theorem dX6_birds_29 : decode cX6_birds 29 = .ok (.aload_n 0, 1) := by decide +kernel
theorem dX6_birds_30 : decode cX6_birds 30 = .ok (.getfield 7, 3) := by decide +kernel
theorem dX6_birds_33 : decode cX6_birds 33 = .ok (.bipush 6, 2) := by decide +kernel
theorem dX6_birds_35 : decode cX6_birds 35 = .ok (.iload_n 1, 1) := by decide +kernel
theorem dX6_birds_36 : decode cX6_birds 36 = .ok (.iastore, 1) := by decide +kernel
theorem dX6_birds_37 : decode cX6_birds 37 = .ok (.aload_n 0, 1) := by decide +kernel
theorem dX6_birds_38 : decode cX6_birds 38 = .ok (.getfield 7, 3) := by decide +kernel
theorem dX6_birds_41 : decode cX6_birds 41 = .ok (.bipush 7, 2) := by decide +kernel
theorem dX6_birds_43 : decode cX6_birds 43 = .ok (.iload_n 2, 1) := by decide +kernel
theorem dX6_birds_44 : decode cX6_birds 44 = .ok (.iastore, 1) := by decide +kernel
theorem dX6_birds_45 : decode cX6_birds 45 = .ok (.iload_n 1, 1) := by decide +kernel
theorem dX6_birds_46 : decode cX6_birds 46 = .ok (.iload_n 2, 1) := by decide +kernel
theorem dX6_birds_47 : decode cX6_birds 47 = .ok (.if_icmp .ge 9, 3) := by decide +kernel
theorem dX6_birds_50 : decode cX6_birds 50 = .ok (.iload_n 2, 1) := by decide +kernel
theorem dX6_birds_51 : decode cX6_birds 51 = .ok (.iload_n 1, 1) := by decide +kernel
theorem dX6_birds_52 : decode cX6_birds 52 = .ok (.isub, 1) := by decide +kernel
theorem dX6_birds_53 : decode cX6_birds 53 = .ok (.goto 4, 3) := by decide +kernel
theorem dX6_birds_56 : decode cX6_birds 56 = .ok (.iconst 0, 1) := by decide +kernel
theorem dX6_birds_57 : decode cX6_birds 57 = .ok (.ireturn, 1) := by decide +kernel
theorem dX6_tide_0 : decode cX6_tide 0 = .ok (.sipush 200, 3) := by decide +kernel
theorem dX6_tide_3 : decode cX6_tide 3 = .ok (.bipush 20, 2) := by decide +kernel
theorem dX6_tide_5 : decode cX6_tide 5 = .ok (.iload_n 0, 1) := by decide +kernel
theorem dX6_tide_6 : decode cX6_tide 6 = .ok (.sipush 144, 3) := by decide +kernel
theorem dX6_tide_9 : decode cX6_tide 9 = .ok (.idiv, 1) := by decide +kernel
theorem dX6_tide_10 : decode cX6_tide 10 = .ok (.bipush 14, 2) := by decide +kernel
theorem dX6_tide_12 : decode cX6_tide 12 = .ok (.irem, 1) := by decide +kernel
theorem dX6_tide_13 : decode cX6_tide 13 = .ok (.bipush 7, 2) := by decide +kernel
theorem dX6_tide_15 : decode cX6_tide 15 = .ok (.isub, 1) := by decide +kernel
theorem dX6_tide_16 : decode cX6_tide 16 = .ok (.invokestatic 49, 3) := by decide +kernel
theorem dX6_tide_19 : decode cX6_tide 19 = .ok (.imul, 1) := by decide +kernel
theorem dX6_tide_20 : decode cX6_tide 20 = .ok (.iadd, 1) := by decide +kernel
theorem dX6_tide_21 : decode cX6_tide 21 = .ok (.ireturn, 1) := by decide +kernel
theorem dX6_seaLevel_0 : decode cX6_seaLevel 0 = .ok (.iload_n 0, 1) := by decide +kernel
theorem dX6_seaLevel_1 : decode cX6_seaLevel 1 = .ok (.invokestatic 53, 3) := by decide +kernel
theorem dX6_seaLevel_4 : decode cX6_seaLevel 4 = .ok (.istore_n 1, 1) := by decide +kernel
theorem dX6_seaLevel_5 : decode cX6_seaLevel 5 = .ok (.iload_n 0, 1) := by decide +kernel
theorem dX6_seaLevel_6 : decode cX6_seaLevel 6 = .ok (.bipush 74, 2) := by decide +kernel
theorem dX6_seaLevel_8 : decode cX6_seaLevel 8 = .ok (.irem, 1) := by decide +kernel
theorem dX6_seaLevel_9 : decode cX6_seaLevel 9 = .ok (.istore_n 2, 1) := by decide +kernel
theorem dX6_seaLevel_10 : decode cX6_seaLevel 10 = .ok (.iload_n 2, 1) := by decide +kernel
theorem dX6_seaLevel_11 : decode cX6_seaLevel 11 = .ok (.bipush 37, 2) := by decide +kernel
theorem dX6_seaLevel_13 : decode cX6_seaLevel 13 = .ok (.if_icmp .ge 16, 3) := by decide +kernel
theorem dX6_seaLevel_16 : decode cX6_seaLevel 16 = .ok (.iconst 2, 1) := by decide +kernel
theorem dX6_seaLevel_17 : decode cX6_seaLevel 17 = .ok (.iload_n 1, 1) := by decide +kernel
theorem dX6_seaLevel_18 : decode cX6_seaLevel 18 = .ok (.imul, 1) := by decide +kernel
theorem dX6_seaLevel_19 : decode cX6_seaLevel 19 = .ok (.iload_n 2, 1) := by decide +kernel
theorem dX6_seaLevel_20 : decode cX6_seaLevel 20 = .ok (.imul, 1) := by decide +kernel
theorem dX6_seaLevel_21 : decode cX6_seaLevel 21 = .ok (.bipush 37, 2) := by decide +kernel
theorem dX6_seaLevel_23 : decode cX6_seaLevel 23 = .ok (.idiv, 1) := by decide +kernel
theorem dX6_seaLevel_24 : decode cX6_seaLevel 24 = .ok (.iload_n 1, 1) := by decide +kernel
theorem dX6_seaLevel_25 : decode cX6_seaLevel 25 = .ok (.isub, 1) := by decide +kernel
theorem dX6_seaLevel_26 : decode cX6_seaLevel 26 = .ok (.goto 16, 3) := by decide +kernel
theorem dX6_seaLevel_29 : decode cX6_seaLevel 29 = .ok (.iload_n 1, 1) := by decide +kernel
theorem dX6_seaLevel_30 : decode cX6_seaLevel 30 = .ok (.iconst 2, 1) := by decide +kernel
theorem dX6_seaLevel_31 : decode cX6_seaLevel 31 = .ok (.iload_n 1, 1) := by decide +kernel
theorem dX6_seaLevel_32 : decode cX6_seaLevel 32 = .ok (.imul, 1) := by decide +kernel
theorem dX6_seaLevel_33 : decode cX6_seaLevel 33 = .ok (.iload_n 2, 1) := by decide +kernel
theorem dX6_seaLevel_34 : decode cX6_seaLevel 34 = .ok (.bipush 37, 2) := by decide +kernel
theorem dX6_seaLevel_36 : decode cX6_seaLevel 36 = .ok (.isub, 1) := by decide +kernel
theorem dX6_seaLevel_37 : decode cX6_seaLevel 37 = .ok (.imul, 1) := by decide +kernel
theorem dX6_seaLevel_38 : decode cX6_seaLevel 38 = .ok (.bipush 37, 2) := by decide +kernel
theorem dX6_seaLevel_40 : decode cX6_seaLevel 40 = .ok (.idiv, 1) := by decide +kernel
theorem dX6_seaLevel_41 : decode cX6_seaLevel 41 = .ok (.isub, 1) := by decide +kernel
theorem dX6_seaLevel_42 : decode cX6_seaLevel 42 = .ok (.ireturn, 1) := by decide +kernel
theorem dX6_level_0 : decode cX6_level 0 = .ok (.aload_n 0, 1) := by decide +kernel
theorem dX6_level_1 : decode cX6_level 1 = .ok (.getfield 7, 3) := by decide +kernel
theorem dX6_level_4 : decode cX6_level 4 = .ok (.iconst 1, 1) := by decide +kernel
theorem dX6_level_5 : decode cX6_level 5 = .ok (.iaload, 1) := by decide +kernel
theorem dX6_level_6 : decode cX6_level 6 = .ok (.aload_n 0, 1) := by decide +kernel
theorem dX6_level_7 : decode cX6_level 7 = .ok (.getfield 7, 3) := by decide +kernel
theorem dX6_level_10 : decode cX6_level 10 = .ok (.iconst 2, 1) := by decide +kernel
theorem dX6_level_11 : decode cX6_level 11 = .ok (.iaload, 1) := by decide +kernel
theorem dX6_level_12 : decode cX6_level 12 = .ok (.iadd, 1) := by decide +kernel
theorem dX6_level_13 : decode cX6_level 13 = .ok (.bipush 100, 2) := by decide +kernel
theorem dX6_level_15 : decode cX6_level 15 = .ok (.idiv, 1) := by decide +kernel
theorem dX6_level_16 : decode cX6_level 16 = .ok (.sipush 400, 3) := by decide +kernel
theorem dX6_level_19 : decode cX6_level 19 = .ok (.isub, 1) := by decide +kernel
theorem dX6_level_20 : decode cX6_level 20 = .ok (.ireturn, 1) := by decide +kernel
theorem dX6_head_0 : decode cX6_head 0 = .ok (.aload_n 0, 1) := by decide +kernel
theorem dX6_head_1 : decode cX6_head 1 = .ok (.getfield 7, 3) := by decide +kernel
theorem dX6_head_4 : decode cX6_head 4 = .ok (.iconst 0, 1) := by decide +kernel
theorem dX6_head_5 : decode cX6_head 5 = .ok (.iaload, 1) := by decide +kernel
theorem dX6_head_6 : decode cX6_head 6 = .ok (.invokestatic 56, 3) := by decide +kernel
theorem dX6_head_9 : decode cX6_head 9 = .ok (.aload_n 0, 1) := by decide +kernel
theorem dX6_head_10 : decode cX6_head 10 = .ok (.invokevirtual 59, 3) := by decide +kernel
theorem dX6_head_13 : decode cX6_head 13 = .ok (.isub, 1) := by decide +kernel
theorem dX6_head_14 : decode cX6_head 14 = .ok (.ireturn, 1) := by decide +kernel
theorem dX6_isBirds_0 : decode cX6_isBirds 0 = .ok (.aload_n 0, 1) := by decide +kernel
theorem dX6_isBirds_1 : decode cX6_isBirds 1 = .ok (.getfield 7, 3) := by decide +kernel
theorem dX6_isBirds_4 : decode cX6_isBirds 4 = .ok (.iconst 0, 1) := by decide +kernel
theorem dX6_isBirds_5 : decode cX6_isBirds 5 = .ok (.iaload, 1) := by decide +kernel
theorem dX6_isBirds_6 : decode cX6_isBirds 6 = .ok (.sipush 144, 3) := by decide +kernel
theorem dX6_isBirds_9 : decode cX6_isBirds 9 = .ok (.irem, 1) := by decide +kernel
theorem dX6_isBirds_10 : decode cX6_isBirds 10 = .ok (.aload_n 0, 1) := by decide +kernel
theorem dX6_isBirds_11 : decode cX6_isBirds 11 = .ok (.getfield 7, 3) := by decide +kernel
theorem dX6_isBirds_14 : decode cX6_isBirds 14 = .ok (.bipush 6, 2) := by decide +kernel
theorem dX6_isBirds_16 : decode cX6_isBirds 16 = .ok (.iaload, 1) := by decide +kernel
theorem dX6_isBirds_17 : decode cX6_isBirds 17 = .ok (.if_icmp .lt 27, 3) := by decide +kernel
theorem dX6_isBirds_20 : decode cX6_isBirds 20 = .ok (.aload_n 0, 1) := by decide +kernel
theorem dX6_isBirds_21 : decode cX6_isBirds 21 = .ok (.getfield 7, 3) := by decide +kernel
theorem dX6_isBirds_24 : decode cX6_isBirds 24 = .ok (.iconst 0, 1) := by decide +kernel
theorem dX6_isBirds_25 : decode cX6_isBirds 25 = .ok (.iaload, 1) := by decide +kernel
theorem dX6_isBirds_26 : decode cX6_isBirds 26 = .ok (.sipush 144, 3) := by decide +kernel
theorem dX6_isBirds_29 : decode cX6_isBirds 29 = .ok (.irem, 1) := by decide +kernel
theorem dX6_isBirds_30 : decode cX6_isBirds 30 = .ok (.aload_n 0, 1) := by decide +kernel
theorem dX6_isBirds_31 : decode cX6_isBirds 31 = .ok (.getfield 7, 3) := by decide +kernel
theorem dX6_isBirds_34 : decode cX6_isBirds 34 = .ok (.bipush 7, 2) := by decide +kernel
theorem dX6_isBirds_36 : decode cX6_isBirds 36 = .ok (.iaload, 1) := by decide +kernel
theorem dX6_isBirds_37 : decode cX6_isBirds 37 = .ok (.if_icmp .ge 7, 3) := by decide +kernel
theorem dX6_isBirds_40 : decode cX6_isBirds 40 = .ok (.iconst 1, 1) := by decide +kernel
theorem dX6_isBirds_41 : decode cX6_isBirds 41 = .ok (.goto 4, 3) := by decide +kernel
theorem dX6_isBirds_44 : decode cX6_isBirds 44 = .ok (.iconst 0, 1) := by decide +kernel
theorem dX6_isBirds_45 : decode cX6_isBirds 45 = .ok (.ireturn, 1) := by decide +kernel
theorem dX6_weighs_0 : decode cX6_weighs 0 = .ok (.aload_n 0, 1) := by decide +kernel
theorem dX6_weighs_1 : decode cX6_weighs 1 = .ok (.invokevirtual 63, 3) := by decide +kernel
theorem dX6_weighs_4 : decode cX6_weighs 4 = .ok (.istore_n 1, 1) := by decide +kernel
theorem dX6_weighs_5 : decode cX6_weighs 5 = .ok (.iload_n 1, 1) := by decide +kernel
theorem dX6_weighs_6 : decode cX6_weighs 6 = .ok (.invokestatic 49, 3) := by decide +kernel
theorem dX6_weighs_9 : decode cX6_weighs 9 = .ok (.aload_n 0, 1) := by decide +kernel
theorem dX6_weighs_10 : decode cX6_weighs 10 = .ok (.getfield 7, 3) := by decide +kernel
theorem dX6_weighs_13 : decode cX6_weighs 13 = .ok (.bipush 8, 2) := by decide +kernel
theorem dX6_weighs_15 : decode cX6_weighs 15 = .ok (.iaload, 1) := by decide +kernel
theorem dX6_weighs_16 : decode cX6_weighs 16 = .ok (.if_icmp .lt 7, 3) := by decide +kernel
theorem dX6_weighs_19 : decode cX6_weighs 19 = .ok (.iconst 1, 1) := by decide +kernel
theorem dX6_weighs_20 : decode cX6_weighs 20 = .ok (.goto 4, 3) := by decide +kernel
theorem dX6_weighs_23 : decode cX6_weighs 23 = .ok (.iconst 0, 1) := by decide +kernel
theorem dX6_weighs_24 : decode cX6_weighs 24 = .ok (.istore_n 2, 1) := by decide +kernel
theorem dX6_weighs_25 : decode cX6_weighs 25 = .ok (.aload_n 0, 1) := by decide +kernel
theorem dX6_weighs_26 : decode cX6_weighs 26 = .ok (.invokevirtual 66, 3) := by decide +kernel
theorem dX6_weighs_29 : decode cX6_weighs 29 = .ok (.ifCond .ne 21, 3) := by decide +kernel
theorem dX6_weighs_32 : decode cX6_weighs 32 = .ok (.iload_n 1, 1) := by decide +kernel
theorem dX6_weighs_33 : decode cX6_weighs 33 = .ok (.invokestatic 49, 3) := by decide +kernel
theorem dX6_weighs_36 : decode cX6_weighs 36 = .ok (.aload_n 0, 1) := by decide +kernel
theorem dX6_weighs_37 : decode cX6_weighs 37 = .ok (.getfield 7, 3) := by decide +kernel
theorem dX6_weighs_40 : decode cX6_weighs 40 = .ok (.bipush 9, 2) := by decide +kernel
theorem dX6_weighs_42 : decode cX6_weighs 42 = .ok (.iaload, 1) := by decide +kernel
theorem dX6_weighs_43 : decode cX6_weighs 43 = .ok (.if_icmp .gt 7, 3) := by decide +kernel
theorem dX6_weighs_46 : decode cX6_weighs 46 = .ok (.iconst 1, 1) := by decide +kernel
theorem dX6_weighs_47 : decode cX6_weighs 47 = .ok (.goto 4, 3) := by decide +kernel
theorem dX6_weighs_50 : decode cX6_weighs 50 = .ok (.iconst 0, 1) := by decide +kernel
theorem dX6_weighs_51 : decode cX6_weighs 51 = .ok (.istore_n 3, 1) := by decide +kernel
theorem dX6_weighs_52 : decode cX6_weighs 52 = .ok (.aload_n 0, 1) := by decide +kernel
theorem dX6_weighs_53 : decode cX6_weighs 53 = .ok (.aload_n 0, 1) := by decide +kernel
theorem dX6_weighs_54 : decode cX6_weighs 54 = .ok (.invokevirtual 66, 3) := by decide +kernel
theorem dX6_weighs_57 : decode cX6_weighs 57 = .ok (.ifCond .eq 7, 3) := by decide +kernel
theorem dX6_weighs_60 : decode cX6_weighs 60 = .ok (.iconst 0, 1) := by decide +kernel
theorem dX6_weighs_61 : decode cX6_weighs 61 = .ok (.goto 13, 3) := by decide +kernel
theorem dX6_weighs_64 : decode cX6_weighs 64 = .ok (.aload_n 0, 1) := by decide +kernel
theorem dX6_weighs_65 : decode cX6_weighs 65 = .ok (.getfield 7, 3) := by decide +kernel
theorem dX6_weighs_68 : decode cX6_weighs 68 = .ok (.iconst 3, 1) := by decide +kernel
theorem dX6_weighs_69 : decode cX6_weighs 69 = .ok (.iaload, 1) := by decide +kernel
theorem dX6_weighs_70 : decode cX6_weighs 70 = .ok (.iload_n 1, 1) := by decide +kernel
theorem dX6_weighs_71 : decode cX6_weighs 71 = .ok (.imul, 1) := by decide +kernel
theorem dX6_weighs_72 : decode cX6_weighs 72 = .ok (.iconst 2, 1) := by decide +kernel
theorem dX6_weighs_73 : decode cX6_weighs 73 = .ok (.imul, 1) := by decide +kernel
theorem dX6_weighs_74 : decode cX6_weighs 74 = .ok (.putfield 70, 3) := by decide +kernel
theorem dX6_weighs_77 : decode cX6_weighs 77 = .ok (.aload_n 0, 1) := by decide +kernel
theorem dX6_weighs_78 : decode cX6_weighs 78 = .ok (.iload_n 2, 1) := by decide +kernel
theorem dX6_weighs_79 : decode cX6_weighs 79 = .ok (.ifCond .eq 14, 3) := by decide +kernel
theorem dX6_weighs_82 : decode cX6_weighs 82 = .ok (.aload_n 0, 1) := by decide +kernel
theorem dX6_weighs_83 : decode cX6_weighs 83 = .ok (.getfield 7, 3) := by decide +kernel
theorem dX6_weighs_86 : decode cX6_weighs 86 = .ok (.iconst 4, 1) := by decide +kernel
theorem dX6_weighs_87 : decode cX6_weighs 87 = .ok (.iaload, 1) := by decide +kernel
theorem dX6_weighs_88 : decode cX6_weighs 88 = .ok (.iload_n 1, 1) := by decide +kernel
theorem dX6_weighs_89 : decode cX6_weighs 89 = .ok (.imul, 1) := by decide +kernel
theorem dX6_weighs_90 : decode cX6_weighs 90 = .ok (.goto 4, 3) := by decide +kernel
theorem dX6_weighs_93 : decode cX6_weighs 93 = .ok (.iconst 0, 1) := by decide +kernel
theorem dX6_weighs_94 : decode cX6_weighs 94 = .ok (.putfield 73, 3) := by decide +kernel
theorem dX6_weighs_97 : decode cX6_weighs 97 = .ok (.aload_n 0, 1) := by decide +kernel
theorem dX6_weighs_98 : decode cX6_weighs 98 = .ok (.iload_n 3, 1) := by decide +kernel
theorem dX6_weighs_99 : decode cX6_weighs 99 = .ok (.ifCond .eq 12, 3) := by decide +kernel
theorem dX6_weighs_102 : decode cX6_weighs 102 = .ok (.aload_n 0, 1) := by decide +kernel
theorem dX6_weighs_103 : decode cX6_weighs 103 = .ok (.getfield 7, 3) := by decide +kernel
theorem dX6_weighs_106 : decode cX6_weighs 106 = .ok (.iconst 5, 1) := by decide +kernel
theorem dX6_weighs_107 : decode cX6_weighs 107 = .ok (.iaload, 1) := by decide +kernel
theorem dX6_weighs_108 : decode cX6_weighs 108 = .ok (.goto 4, 3) := by decide +kernel
theorem dX6_weighs_111 : decode cX6_weighs 111 = .ok (.iconst 0, 1) := by decide +kernel
theorem dX6_weighs_112 : decode cX6_weighs 112 = .ok (.putfield 76, 3) := by decide +kernel
theorem dX6_weighs_115 : decode cX6_weighs 115 = .ok (.aload_n 0, 1) := by decide +kernel
theorem dX6_weighs_116 : decode cX6_weighs 116 = .ok (.aload_n 0, 1) := by decide +kernel
theorem dX6_weighs_117 : decode cX6_weighs 117 = .ok (.getfield 73, 3) := by decide +kernel
theorem dX6_weighs_120 : decode cX6_weighs 120 = .ok (.invokestatic 49, 3) := by decide +kernel
theorem dX6_weighs_123 : decode cX6_weighs 123 = .ok (.iload_n 1, 1) := by decide +kernel
theorem dX6_weighs_124 : decode cX6_weighs 124 = .ok (.invokestatic 49, 3) := by decide +kernel
theorem dX6_weighs_127 : decode cX6_weighs 127 = .ok (.imul, 1) := by decide +kernel
theorem dX6_weighs_128 : decode cX6_weighs 128 = .ok (.bipush 100, 2) := by decide +kernel
theorem dX6_weighs_130 : decode cX6_weighs 130 = .ok (.idiv, 1) := by decide +kernel
theorem dX6_weighs_131 : decode cX6_weighs 131 = .ok (.putfield 79, 3) := by decide +kernel
theorem dX6_weighs_134 : decode cX6_weighs 134 = .ok (.aload_n 0, 1) := by decide +kernel
theorem dX6_weighs_135 : decode cX6_weighs 135 = .ok (.aload_n 0, 1) := by decide +kernel
theorem dX6_weighs_136 : decode cX6_weighs 136 = .ok (.getfield 76, 3) := by decide +kernel
theorem dX6_weighs_139 : decode cX6_weighs 139 = .ok (.invokestatic 49, 3) := by decide +kernel
theorem dX6_weighs_142 : decode cX6_weighs 142 = .ok (.bipush 20, 2) := by decide +kernel
theorem dX6_weighs_144 : decode cX6_weighs 144 = .ok (.iload_n 1, 1) := by decide +kernel
theorem dX6_weighs_145 : decode cX6_weighs 145 = .ok (.invokestatic 49, 3) := by decide +kernel
theorem dX6_weighs_148 : decode cX6_weighs 148 = .ok (.iadd, 1) := by decide +kernel
theorem dX6_weighs_149 : decode cX6_weighs 149 = .ok (.imul, 1) := by decide +kernel
theorem dX6_weighs_150 : decode cX6_weighs 150 = .ok (.bipush 100, 2) := by decide +kernel
theorem dX6_weighs_152 : decode cX6_weighs 152 = .ok (.idiv, 1) := by decide +kernel
theorem dX6_weighs_153 : decode cX6_weighs 153 = .ok (.putfield 82, 3) := by decide +kernel
theorem dX6_weighs_156 : decode cX6_weighs 156 = .ok (.aload_n 0, 1) := by decide +kernel
theorem dX6_weighs_157 : decode cX6_weighs 157 = .ok (.aload_n 0, 1) := by decide +kernel
theorem dX6_weighs_158 : decode cX6_weighs 158 = .ok (.getfield 70, 3) := by decide +kernel
theorem dX6_weighs_161 : decode cX6_weighs 161 = .ok (.aload_n 0, 1) := by decide +kernel
theorem dX6_weighs_162 : decode cX6_weighs 162 = .ok (.getfield 73, 3) := by decide +kernel
theorem dX6_weighs_165 : decode cX6_weighs 165 = .ok (.iadd, 1) := by decide +kernel
theorem dX6_weighs_166 : decode cX6_weighs 166 = .ok (.aload_n 0, 1) := by decide +kernel
theorem dX6_weighs_167 : decode cX6_weighs 167 = .ok (.getfield 76, 3) := by decide +kernel
theorem dX6_weighs_170 : decode cX6_weighs 170 = .ok (.iadd, 1) := by decide +kernel
theorem dX6_weighs_171 : decode cX6_weighs 171 = .ok (.putfield 85, 3) := by decide +kernel
theorem dX6_weighs_174 : decode cX6_weighs 174 = .ok (.aload_n 0, 1) := by decide +kernel
theorem dX6_weighs_175 : decode cX6_weighs 175 = .ok (.aload_n 0, 1) := by decide +kernel
theorem dX6_weighs_176 : decode cX6_weighs 176 = .ok (.getfield 7, 3) := by decide +kernel
theorem dX6_weighs_179 : decode cX6_weighs 179 = .ok (.iconst 1, 1) := by decide +kernel
theorem dX6_weighs_180 : decode cX6_weighs 180 = .ok (.iaload, 1) := by decide +kernel
theorem dX6_weighs_181 : decode cX6_weighs 181 = .ok (.aload_n 0, 1) := by decide +kernel
theorem dX6_weighs_182 : decode cX6_weighs 182 = .ok (.getfield 85, 3) := by decide +kernel
theorem dX6_weighs_185 : decode cX6_weighs 185 = .ok (.iadd, 1) := by decide +kernel
theorem dX6_weighs_186 : decode cX6_weighs 186 = .ok (.ldc 88, 2) := by decide +kernel
theorem dX6_weighs_188 : decode cX6_weighs 188 = .ok (.if_icmp .le 15, 3) := by decide +kernel
theorem dX6_weighs_191 : decode cX6_weighs 191 = .ok (.ldc 88, 2) := by decide +kernel
theorem dX6_weighs_193 : decode cX6_weighs 193 = .ok (.aload_n 0, 1) := by decide +kernel
theorem dX6_weighs_194 : decode cX6_weighs 194 = .ok (.getfield 7, 3) := by decide +kernel
theorem dX6_weighs_197 : decode cX6_weighs 197 = .ok (.iconst 1, 1) := by decide +kernel
theorem dX6_weighs_198 : decode cX6_weighs 198 = .ok (.iaload, 1) := by decide +kernel
theorem dX6_weighs_199 : decode cX6_weighs 199 = .ok (.isub, 1) := by decide +kernel
theorem dX6_weighs_200 : decode cX6_weighs 200 = .ok (.goto 31, 3) := by decide +kernel
theorem dX6_weighs_203 : decode cX6_weighs 203 = .ok (.aload_n 0, 1) := by decide +kernel
theorem dX6_weighs_204 : decode cX6_weighs 204 = .ok (.getfield 7, 3) := by decide +kernel
theorem dX6_weighs_207 : decode cX6_weighs 207 = .ok (.iconst 1, 1) := by decide +kernel
theorem dX6_weighs_208 : decode cX6_weighs 208 = .ok (.iaload, 1) := by decide +kernel
theorem dX6_weighs_209 : decode cX6_weighs 209 = .ok (.aload_n 0, 1) := by decide +kernel
theorem dX6_weighs_210 : decode cX6_weighs 210 = .ok (.getfield 85, 3) := by decide +kernel
theorem dX6_weighs_213 : decode cX6_weighs 213 = .ok (.iadd, 1) := by decide +kernel
theorem dX6_weighs_214 : decode cX6_weighs 214 = .ok (.ifCond .ge 13, 3) := by decide +kernel
theorem dX6_weighs_217 : decode cX6_weighs 217 = .ok (.aload_n 0, 1) := by decide +kernel
theorem dX6_weighs_218 : decode cX6_weighs 218 = .ok (.getfield 7, 3) := by decide +kernel
theorem dX6_weighs_221 : decode cX6_weighs 221 = .ok (.iconst 1, 1) := by decide +kernel
theorem dX6_weighs_222 : decode cX6_weighs 222 = .ok (.iaload, 1) := by decide +kernel
theorem dX6_weighs_223 : decode cX6_weighs 223 = .ok (.ineg, 1) := by decide +kernel
theorem dX6_weighs_224 : decode cX6_weighs 224 = .ok (.goto 7, 3) := by decide +kernel
theorem dX6_weighs_227 : decode cX6_weighs 227 = .ok (.aload_n 0, 1) := by decide +kernel
theorem dX6_weighs_228 : decode cX6_weighs 228 = .ok (.getfield 85, 3) := by decide +kernel
theorem dX6_weighs_231 : decode cX6_weighs 231 = .ok (.putfield 85, 3) := by decide +kernel
theorem dX6_weighs_234 : decode cX6_weighs 234 = .ok (.aload_n 0, 1) := by decide +kernel
theorem dX6_weighs_235 : decode cX6_weighs 235 = .ok (.iconst 0, 1) := by decide +kernel
theorem dX6_weighs_236 : decode cX6_weighs 236 = .ok (.putfield 89, 3) := by decide +kernel
theorem dX6_weighs_239 : decode cX6_weighs 239 = .ok (.aload_n 0, 1) := by decide +kernel
theorem dX6_weighs_240 : decode cX6_weighs 240 = .ok (.getfield 85, 3) := by decide +kernel
theorem dX6_weighs_243 : decode cX6_weighs 243 = .ok (.ifCond .le 50, 3) := by decide +kernel
theorem dX6_weighs_246 : decode cX6_weighs 246 = .ok (.aload_n 0, 1) := by decide +kernel
theorem dX6_weighs_247 : decode cX6_weighs 247 = .ok (.aload_n 0, 1) := by decide +kernel
theorem dX6_weighs_248 : decode cX6_weighs 248 = .ok (.getfield 85, 3) := by decide +kernel
theorem dX6_weighs_251 : decode cX6_weighs 251 = .ok (.bipush 50, 2) := by decide +kernel
theorem dX6_weighs_253 : decode cX6_weighs 253 = .ok (.idiv, 1) := by decide +kernel
theorem dX6_weighs_254 : decode cX6_weighs 254 = .ok (.sipush 20000, 3) := by decide +kernel
theorem dX6_weighs_257 : decode cX6_weighs 257 = .ok (.aload_n 0, 1) := by decide +kernel
theorem dX6_weighs_258 : decode cX6_weighs 258 = .ok (.getfield 7, 3) := by decide +kernel
theorem dX6_weighs_261 : decode cX6_weighs 261 = .ok (.iconst 2, 1) := by decide +kernel
theorem dX6_weighs_262 : decode cX6_weighs 262 = .ok (.iaload, 1) := by decide +kernel
theorem dX6_weighs_263 : decode cX6_weighs 263 = .ok (.isub, 1) := by decide +kernel
theorem dX6_weighs_264 : decode cX6_weighs 264 = .ok (.if_icmp .ge 13, 3) := by decide +kernel
theorem dX6_weighs_267 : decode cX6_weighs 267 = .ok (.aload_n 0, 1) := by decide +kernel
theorem dX6_weighs_268 : decode cX6_weighs 268 = .ok (.getfield 85, 3) := by decide +kernel
theorem dX6_weighs_271 : decode cX6_weighs 271 = .ok (.bipush 50, 2) := by decide +kernel
theorem dX6_weighs_273 : decode cX6_weighs 273 = .ok (.idiv, 1) := by decide +kernel
theorem dX6_weighs_274 : decode cX6_weighs 274 = .ok (.goto 13, 3) := by decide +kernel
theorem dX6_weighs_277 : decode cX6_weighs 277 = .ok (.sipush 20000, 3) := by decide +kernel
theorem dX6_weighs_280 : decode cX6_weighs 280 = .ok (.aload_n 0, 1) := by decide +kernel
theorem dX6_weighs_281 : decode cX6_weighs 281 = .ok (.getfield 7, 3) := by decide +kernel
theorem dX6_weighs_284 : decode cX6_weighs 284 = .ok (.iconst 2, 1) := by decide +kernel
theorem dX6_weighs_285 : decode cX6_weighs 285 = .ok (.iaload, 1) := by decide +kernel
theorem dX6_weighs_286 : decode cX6_weighs 286 = .ok (.isub, 1) := by decide +kernel
theorem dX6_weighs_287 : decode cX6_weighs 287 = .ok (.putfield 89, 3) := by decide +kernel
theorem dX6_weighs_290 : decode cX6_weighs 290 = .ok (.goto 58, 3) := by decide +kernel
theorem dX6_weighs_293 : decode cX6_weighs 293 = .ok (.aload_n 0, 1) := by decide +kernel
theorem dX6_weighs_294 : decode cX6_weighs 294 = .ok (.getfield 85, 3) := by decide +kernel
theorem dX6_weighs_297 : decode cX6_weighs 297 = .ok (.aload_n 0, 1) := by decide +kernel
theorem dX6_weighs_298 : decode cX6_weighs 298 = .ok (.getfield 7, 3) := by decide +kernel
theorem dX6_weighs_301 : decode cX6_weighs 301 = .ok (.bipush 10, 2) := by decide +kernel
theorem dX6_weighs_303 : decode cX6_weighs 303 = .ok (.iaload, 1) := by decide +kernel
theorem dX6_weighs_304 : decode cX6_weighs 304 = .ok (.ineg, 1) := by decide +kernel
theorem dX6_weighs_305 : decode cX6_weighs 305 = .ok (.if_icmp .gt 43, 3) := by decide +kernel
theorem dX6_weighs_308 : decode cX6_weighs 308 = .ok (.aload_n 0, 1) := by decide +kernel
theorem dX6_weighs_309 : decode cX6_weighs 309 = .ok (.aload_n 0, 1) := by decide +kernel
theorem dX6_weighs_310 : decode cX6_weighs 310 = .ok (.getfield 85, 3) := by decide +kernel
theorem dX6_weighs_313 : decode cX6_weighs 313 = .ok (.ineg, 1) := by decide +kernel
theorem dX6_weighs_314 : decode cX6_weighs 314 = .ok (.bipush 20, 2) := by decide +kernel
theorem dX6_weighs_316 : decode cX6_weighs 316 = .ok (.idiv, 1) := by decide +kernel
theorem dX6_weighs_317 : decode cX6_weighs 317 = .ok (.aload_n 0, 1) := by decide +kernel
theorem dX6_weighs_318 : decode cX6_weighs 318 = .ok (.getfield 7, 3) := by decide +kernel
theorem dX6_weighs_321 : decode cX6_weighs 321 = .ok (.iconst 2, 1) := by decide +kernel
theorem dX6_weighs_322 : decode cX6_weighs 322 = .ok (.iaload, 1) := by decide +kernel
theorem dX6_weighs_323 : decode cX6_weighs 323 = .ok (.if_icmp .ge 15, 3) := by decide +kernel
theorem dX6_weighs_326 : decode cX6_weighs 326 = .ok (.aload_n 0, 1) := by decide +kernel
theorem dX6_weighs_327 : decode cX6_weighs 327 = .ok (.getfield 85, 3) := by decide +kernel
theorem dX6_weighs_330 : decode cX6_weighs 330 = .ok (.ineg, 1) := by decide +kernel
theorem dX6_weighs_331 : decode cX6_weighs 331 = .ok (.bipush 20, 2) := by decide +kernel
theorem dX6_weighs_333 : decode cX6_weighs 333 = .ok (.idiv, 1) := by decide +kernel
theorem dX6_weighs_334 : decode cX6_weighs 334 = .ok (.ineg, 1) := by decide +kernel
theorem dX6_weighs_335 : decode cX6_weighs 335 = .ok (.goto 10, 3) := by decide +kernel
theorem dX6_weighs_338 : decode cX6_weighs 338 = .ok (.aload_n 0, 1) := by decide +kernel
theorem dX6_weighs_339 : decode cX6_weighs 339 = .ok (.getfield 7, 3) := by decide +kernel
theorem dX6_weighs_342 : decode cX6_weighs 342 = .ok (.iconst 2, 1) := by decide +kernel
theorem dX6_weighs_343 : decode cX6_weighs 343 = .ok (.iaload, 1) := by decide +kernel
theorem dX6_weighs_344 : decode cX6_weighs 344 = .ok (.ineg, 1) := by decide +kernel
theorem dX6_weighs_345 : decode cX6_weighs 345 = .ok (.putfield 89, 3) := by decide +kernel
theorem dX6_weighs_348 : decode cX6_weighs 348 = .ok (.return_, 1) := by decide +kernel
theorem dX6_recordOf_0 : decode cX6_recordOf 0 = .ok (.iconst 0, 1) := by decide +kernel
theorem dX6_recordOf_1 : decode cX6_recordOf 1 = .ok (.istore_n 2, 1) := by decide +kernel
theorem dX6_recordOf_2 : decode cX6_recordOf 2 = .ok (.iload_n 2, 1) := by decide +kernel
theorem dX6_recordOf_3 : decode cX6_recordOf 3 = .ok (.aload_n 0, 1) := by decide +kernel
theorem dX6_recordOf_4 : decode cX6_recordOf 4 = .ok (.getfield 7, 3) := by decide +kernel
theorem dX6_recordOf_7 : decode cX6_recordOf 7 = .ok (.bipush 18, 2) := by decide +kernel
theorem dX6_recordOf_9 : decode cX6_recordOf 9 = .ok (.iaload, 1) := by decide +kernel
theorem dX6_recordOf_10 : decode cX6_recordOf 10 = .ok (.if_icmp .ge 33, 3) := by decide +kernel
theorem dX6_recordOf_13 : decode cX6_recordOf 13 = .ok (.aload_n 0, 1) := by decide +kernel
theorem dX6_recordOf_14 : decode cX6_recordOf 14 = .ok (.getfield 7, 3) := by decide +kernel
theorem dX6_recordOf_17 : decode cX6_recordOf 17 = .ok (.bipush 19, 2) := by decide +kernel
theorem dX6_recordOf_19 : decode cX6_recordOf 19 = .ok (.bipush 7, 2) := by decide +kernel
theorem dX6_recordOf_21 : decode cX6_recordOf 21 = .ok (.iload_n 2, 1) := by decide +kernel
theorem dX6_recordOf_22 : decode cX6_recordOf 22 = .ok (.imul, 1) := by decide +kernel
theorem dX6_recordOf_23 : decode cX6_recordOf 23 = .ok (.iadd, 1) := by decide +kernel
theorem dX6_recordOf_24 : decode cX6_recordOf 24 = .ok (.iaload, 1) := by decide +kernel
theorem dX6_recordOf_25 : decode cX6_recordOf 25 = .ok (.iload_n 1, 1) := by decide +kernel
theorem dX6_recordOf_26 : decode cX6_recordOf 26 = .ok (.if_icmp .ne 11, 3) := by decide +kernel
theorem dX6_recordOf_29 : decode cX6_recordOf 29 = .ok (.bipush 19, 2) := by decide +kernel
theorem dX6_recordOf_31 : decode cX6_recordOf 31 = .ok (.bipush 7, 2) := by decide +kernel
theorem dX6_recordOf_33 : decode cX6_recordOf 33 = .ok (.iload_n 2, 1) := by decide +kernel
theorem dX6_recordOf_34 : decode cX6_recordOf 34 = .ok (.imul, 1) := by decide +kernel
theorem dX6_recordOf_35 : decode cX6_recordOf 35 = .ok (.iadd, 1) := by decide +kernel
theorem dX6_recordOf_36 : decode cX6_recordOf 36 = .ok (.ireturn, 1) := by decide +kernel
theorem dX6_recordOf_37 : decode cX6_recordOf 37 = .ok (.iinc 2 1, 3) := by decide +kernel
theorem dX6_recordOf_40 : decode cX6_recordOf 40 = .ok (.goto (-38), 3) := by decide +kernel
theorem dX6_recordOf_43 : decode cX6_recordOf 43 = .ok (.ldc 92, 2) := by decide +kernel
theorem dX6_recordOf_45 : decode cX6_recordOf 45 = .ok (.ireturn, 1) := by decide +kernel
theorem dX6_opens_0 : decode cX6_opens 0 = .ok (.aload_n 0, 1) := by decide +kernel
theorem dX6_opens_1 : decode cX6_opens 1 = .ok (.iload_n 1, 1) := by decide +kernel
theorem dX6_opens_2 : decode cX6_opens 2 = .ok (.invokevirtual 93, 3) := by decide +kernel
theorem dX6_opens_5 : decode cX6_opens 5 = .ok (.istore_n 2, 1) := by decide +kernel
theorem dX6_opens_6 : decode cX6_opens 6 = .ok (.iload_n 2, 1) := by decide +kernel
theorem dX6_opens_7 : decode cX6_opens 7 = .ok (.ifCond .lt 5, 3) := by decide +kernel
theorem dX6_opens_10 : decode cX6_opens 10 = .ok (.iload_n 2, 1) := by decide +kernel
theorem dX6_opens_11 : decode cX6_opens 11 = .ok (.ireturn, 1) := by decide +kernel
theorem dX6_opens_12 : decode cX6_opens 12 = .ok (.aload_n 0, 1) := by decide +kernel
theorem dX6_opens_13 : decode cX6_opens 13 = .ok (.getfield 7, 3) := by decide +kernel
theorem dX6_opens_16 : decode cX6_opens 16 = .ok (.bipush 18, 2) := by decide +kernel
theorem dX6_opens_18 : decode cX6_opens 18 = .ok (.iaload, 1) := by decide +kernel
theorem dX6_opens_19 : decode cX6_opens 19 = .ok (.bipush 10, 2) := by decide +kernel
theorem dX6_opens_21 : decode cX6_opens 21 = .ok (.if_icmp .ne 44, 3) := by decide +kernel
theorem dX6_opens_24 : decode cX6_opens 24 = .ok (.bipush 19, 2) := by decide +kernel
theorem dX6_opens_26 : decode cX6_opens 26 = .ok (.istore_n 3, 1) := by decide +kernel
theorem dX6_opens_27 : decode cX6_opens 27 = .ok (.iload_n 3, 1) := by decide +kernel
theorem dX6_opens_28 : decode cX6_opens 28 = .ok (.bipush 82, 2) := by decide +kernel
theorem dX6_opens_30 : decode cX6_opens 30 = .ok (.if_icmp .ge 24, 3) := by decide +kernel
theorem dX6_opens_33 : decode cX6_opens 33 = .ok (.aload_n 0, 1) := by decide +kernel
theorem dX6_opens_34 : decode cX6_opens 34 = .ok (.getfield 7, 3) := by decide +kernel
theorem dX6_opens_37 : decode cX6_opens 37 = .ok (.iload_n 3, 1) := by decide +kernel
theorem dX6_opens_38 : decode cX6_opens 38 = .ok (.aload_n 0, 1) := by decide +kernel
theorem dX6_opens_39 : decode cX6_opens 39 = .ok (.getfield 7, 3) := by decide +kernel
theorem dX6_opens_42 : decode cX6_opens 42 = .ok (.iload_n 3, 1) := by decide +kernel
theorem dX6_opens_43 : decode cX6_opens 43 = .ok (.bipush 7, 2) := by decide +kernel
theorem dX6_opens_45 : decode cX6_opens 45 = .ok (.iadd, 1) := by decide +kernel
theorem dX6_opens_46 : decode cX6_opens 46 = .ok (.iaload, 1) := by decide +kernel
theorem dX6_opens_47 : decode cX6_opens 47 = .ok (.iastore, 1) := by decide +kernel
theorem dX6_opens_48 : decode cX6_opens 48 = .ok (.iinc 3 1, 3) := by decide +kernel
theorem dX6_opens_51 : decode cX6_opens 51 = .ok (.goto (-24), 3) := by decide +kernel
theorem dX6_opens_54 : decode cX6_opens 54 = .ok (.aload_n 0, 1) := by decide +kernel
theorem dX6_opens_55 : decode cX6_opens 55 = .ok (.getfield 7, 3) := by decide +kernel
theorem dX6_opens_58 : decode cX6_opens 58 = .ok (.bipush 18, 2) := by decide +kernel
theorem dX6_opens_60 : decode cX6_opens 60 = .ok (.dup2, 1) := by decide +kernel
theorem dX6_opens_61 : decode cX6_opens 61 = .ok (.iaload, 1) := by decide +kernel
theorem dX6_opens_62 : decode cX6_opens 62 = .ok (.iconst 1, 1) := by decide +kernel
theorem dX6_opens_63 : decode cX6_opens 63 = .ok (.isub, 1) := by decide +kernel
theorem dX6_opens_64 : decode cX6_opens 64 = .ok (.iastore, 1) := by decide +kernel
theorem dX6_opens_65 : decode cX6_opens 65 = .ok (.bipush 19, 2) := by decide +kernel
theorem dX6_opens_67 : decode cX6_opens 67 = .ok (.bipush 7, 2) := by decide +kernel
theorem dX6_opens_69 : decode cX6_opens 69 = .ok (.aload_n 0, 1) := by decide +kernel
theorem dX6_opens_70 : decode cX6_opens 70 = .ok (.getfield 7, 3) := by decide +kernel
theorem dX6_opens_73 : decode cX6_opens 73 = .ok (.bipush 18, 2) := by decide +kernel
theorem dX6_opens_75 : decode cX6_opens 75 = .ok (.iaload, 1) := by decide +kernel
theorem dX6_opens_76 : decode cX6_opens 76 = .ok (.imul, 1) := by decide +kernel
theorem dX6_opens_77 : decode cX6_opens 77 = .ok (.iadd, 1) := by decide +kernel
theorem dX6_opens_78 : decode cX6_opens 78 = .ok (.istore_n 3, 1) := by decide +kernel
theorem dX6_opens_79 : decode cX6_opens 79 = .ok (.aload_n 0, 1) := by decide +kernel
theorem dX6_opens_80 : decode cX6_opens 80 = .ok (.getfield 7, 3) := by decide +kernel
theorem dX6_opens_83 : decode cX6_opens 83 = .ok (.iload_n 3, 1) := by decide +kernel
theorem dX6_opens_84 : decode cX6_opens 84 = .ok (.iload_n 1, 1) := by decide +kernel
theorem dX6_opens_85 : decode cX6_opens 85 = .ok (.iastore, 1) := by decide +kernel
theorem dX6_opens_86 : decode cX6_opens 86 = .ok (.iconst 1, 1) := by decide +kernel
theorem dX6_opens_87 : decode cX6_opens 87 = .ok (.istore 4, 2) := by decide +kernel
theorem dX6_opens_89 : decode cX6_opens 89 = .ok (.iload 4, 2) := by decide +kernel
theorem dX6_opens_91 : decode cX6_opens 91 = .ok (.bipush 7, 2) := by decide +kernel
theorem dX6_opens_93 : decode cX6_opens 93 = .ok (.if_icmp .ge 19, 3) := by decide +kernel
theorem dX6_opens_96 : decode cX6_opens 96 = .ok (.aload_n 0, 1) := by decide +kernel
theorem dX6_opens_97 : decode cX6_opens 97 = .ok (.getfield 7, 3) := by decide +kernel
theorem dX6_opens_100 : decode cX6_opens 100 = .ok (.iload_n 3, 1) := by decide +kernel
theorem dX6_opens_101 : decode cX6_opens 101 = .ok (.iload 4, 2) := by decide +kernel
theorem dX6_opens_103 : decode cX6_opens 103 = .ok (.iadd, 1) := by decide +kernel
theorem dX6_opens_104 : decode cX6_opens 104 = .ok (.iconst 0, 1) := by decide +kernel
theorem dX6_opens_105 : decode cX6_opens 105 = .ok (.iastore, 1) := by decide +kernel
theorem dX6_opens_106 : decode cX6_opens 106 = .ok (.iinc 4 1, 3) := by decide +kernel
theorem dX6_opens_109 : decode cX6_opens 109 = .ok (.goto (-20), 3) := by decide +kernel
theorem dX6_opens_112 : decode cX6_opens 112 = .ok (.aload_n 0, 1) := by decide +kernel
theorem dX6_opens_113 : decode cX6_opens 113 = .ok (.getfield 7, 3) := by decide +kernel
theorem dX6_opens_116 : decode cX6_opens 116 = .ok (.iload_n 3, 1) := by decide +kernel
theorem dX6_opens_117 : decode cX6_opens 117 = .ok (.iconst 3, 1) := by decide +kernel
theorem dX6_opens_118 : decode cX6_opens 118 = .ok (.iadd, 1) := by decide +kernel
theorem dX6_opens_119 : decode cX6_opens 119 = .ok (.aload_n 0, 1) := by decide +kernel
theorem dX6_opens_120 : decode cX6_opens 120 = .ok (.invokevirtual 59, 3) := by decide +kernel
theorem dX6_opens_123 : decode cX6_opens 123 = .ok (.iastore, 1) := by decide +kernel
theorem dX6_opens_124 : decode cX6_opens 124 = .ok (.aload_n 0, 1) := by decide +kernel
theorem dX6_opens_125 : decode cX6_opens 125 = .ok (.getfield 7, 3) := by decide +kernel
theorem dX6_opens_128 : decode cX6_opens 128 = .ok (.iload_n 3, 1) := by decide +kernel
theorem dX6_opens_129 : decode cX6_opens 129 = .ok (.iconst 4, 1) := by decide +kernel
theorem dX6_opens_130 : decode cX6_opens 130 = .ok (.iadd, 1) := by decide +kernel
theorem dX6_opens_131 : decode cX6_opens 131 = .ok (.aload_n 0, 1) := by decide +kernel
theorem dX6_opens_132 : decode cX6_opens 132 = .ok (.invokevirtual 59, 3) := by decide +kernel
theorem dX6_opens_135 : decode cX6_opens 135 = .ok (.iastore, 1) := by decide +kernel
theorem dX6_opens_136 : decode cX6_opens 136 = .ok (.aload_n 0, 1) := by decide +kernel
theorem dX6_opens_137 : decode cX6_opens 137 = .ok (.getfield 7, 3) := by decide +kernel
theorem dX6_opens_140 : decode cX6_opens 140 = .ok (.bipush 18, 2) := by decide +kernel
theorem dX6_opens_142 : decode cX6_opens 142 = .ok (.dup2, 1) := by decide +kernel
theorem dX6_opens_143 : decode cX6_opens 143 = .ok (.iaload, 1) := by decide +kernel
theorem dX6_opens_144 : decode cX6_opens 144 = .ok (.iconst 1, 1) := by decide +kernel
theorem dX6_opens_145 : decode cX6_opens 145 = .ok (.iadd, 1) := by decide +kernel
theorem dX6_opens_146 : decode cX6_opens 146 = .ok (.iastore, 1) := by decide +kernel
theorem dX6_opens_147 : decode cX6_opens 147 = .ok (.iload_n 3, 1) := by decide +kernel
theorem dX6_opens_148 : decode cX6_opens 148 = .ok (.ireturn, 1) := by decide +kernel
theorem dX6_tick_0 : decode cX6_tick 0 = .ok (.aload_n 0, 1) := by decide +kernel
theorem dX6_tick_1 : decode cX6_tick 1 = .ok (.invokevirtual 96, 3) := by decide +kernel
theorem dX6_tick_4 : decode cX6_tick 4 = .ok (.aload_n 0, 1) := by decide +kernel
theorem dX6_tick_5 : decode cX6_tick 5 = .ok (.getfield 7, 3) := by decide +kernel
theorem dX6_tick_8 : decode cX6_tick 8 = .ok (.iconst 0, 1) := by decide +kernel
theorem dX6_tick_9 : decode cX6_tick 9 = .ok (.iaload, 1) := by decide +kernel
theorem dX6_tick_10 : decode cX6_tick 10 = .ok (.sipush 144, 3) := by decide +kernel
theorem dX6_tick_13 : decode cX6_tick 13 = .ok (.idiv, 1) := by decide +kernel
theorem dX6_tick_14 : decode cX6_tick 14 = .ok (.istore_n 1, 1) := by decide +kernel
theorem dX6_tick_15 : decode cX6_tick 15 = .ok (.aload_n 0, 1) := by decide +kernel
theorem dX6_tick_16 : decode cX6_tick 16 = .ok (.getfield 7, 3) := by decide +kernel
theorem dX6_tick_19 : decode cX6_tick 19 = .ok (.iconst 1, 1) := by decide +kernel
theorem dX6_tick_20 : decode cX6_tick 20 = .ok (.dup2, 1) := by decide +kernel
theorem dX6_tick_21 : decode cX6_tick 21 = .ok (.iaload, 1) := by decide +kernel
theorem dX6_tick_22 : decode cX6_tick 22 = .ok (.aload_n 0, 1) := by decide +kernel
theorem dX6_tick_23 : decode cX6_tick 23 = .ok (.getfield 85, 3) := by decide +kernel
theorem dX6_tick_26 : decode cX6_tick 26 = .ok (.iadd, 1) := by decide +kernel
theorem dX6_tick_27 : decode cX6_tick 27 = .ok (.iastore, 1) := by decide +kernel
theorem dX6_tick_28 : decode cX6_tick 28 = .ok (.aload_n 0, 1) := by decide +kernel
theorem dX6_tick_29 : decode cX6_tick 29 = .ok (.getfield 7, 3) := by decide +kernel
theorem dX6_tick_32 : decode cX6_tick 32 = .ok (.iconst 2, 1) := by decide +kernel
theorem dX6_tick_33 : decode cX6_tick 33 = .ok (.dup2, 1) := by decide +kernel
theorem dX6_tick_34 : decode cX6_tick 34 = .ok (.iaload, 1) := by decide +kernel
theorem dX6_tick_35 : decode cX6_tick 35 = .ok (.aload_n 0, 1) := by decide +kernel
theorem dX6_tick_36 : decode cX6_tick 36 = .ok (.getfield 89, 3) := by decide +kernel
theorem dX6_tick_39 : decode cX6_tick 39 = .ok (.iadd, 1) := by decide +kernel
theorem dX6_tick_40 : decode cX6_tick 40 = .ok (.iastore, 1) := by decide +kernel
theorem dX6_tick_41 : decode cX6_tick 41 = .ok (.aload_n 0, 1) := by decide +kernel
theorem dX6_tick_42 : decode cX6_tick 42 = .ok (.getfield 7, 3) := by decide +kernel
theorem dX6_tick_45 : decode cX6_tick 45 = .ok (.iconst 0, 1) := by decide +kernel
theorem dX6_tick_46 : decode cX6_tick 46 = .ok (.dup2, 1) := by decide +kernel
theorem dX6_tick_47 : decode cX6_tick 47 = .ok (.iaload, 1) := by decide +kernel
theorem dX6_tick_48 : decode cX6_tick 48 = .ok (.iconst 1, 1) := by decide +kernel
theorem dX6_tick_49 : decode cX6_tick 49 = .ok (.iadd, 1) := by decide +kernel
theorem dX6_tick_50 : decode cX6_tick 50 = .ok (.iastore, 1) := by decide +kernel
theorem dX6_tick_51 : decode cX6_tick 51 = .ok (.aload_n 0, 1) := by decide +kernel
theorem dX6_tick_52 : decode cX6_tick 52 = .ok (.getfield 7, 3) := by decide +kernel
theorem dX6_tick_55 : decode cX6_tick 55 = .ok (.bipush 11, 2) := by decide +kernel
theorem dX6_tick_57 : decode cX6_tick 57 = .ok (.dup2, 1) := by decide +kernel
theorem dX6_tick_58 : decode cX6_tick 58 = .ok (.iaload, 1) := by decide +kernel
theorem dX6_tick_59 : decode cX6_tick 59 = .ok (.aload_n 0, 1) := by decide +kernel
theorem dX6_tick_60 : decode cX6_tick 60 = .ok (.getfield 79, 3) := by decide +kernel
theorem dX6_tick_63 : decode cX6_tick 63 = .ok (.iadd, 1) := by decide +kernel
theorem dX6_tick_64 : decode cX6_tick 64 = .ok (.iastore, 1) := by decide +kernel
theorem dX6_tick_65 : decode cX6_tick 65 = .ok (.aload_n 0, 1) := by decide +kernel
theorem dX6_tick_66 : decode cX6_tick 66 = .ok (.getfield 7, 3) := by decide +kernel
theorem dX6_tick_69 : decode cX6_tick 69 = .ok (.bipush 12, 2) := by decide +kernel
theorem dX6_tick_71 : decode cX6_tick 71 = .ok (.dup2, 1) := by decide +kernel
theorem dX6_tick_72 : decode cX6_tick 72 = .ok (.iaload, 1) := by decide +kernel
theorem dX6_tick_73 : decode cX6_tick 73 = .ok (.aload_n 0, 1) := by decide +kernel
theorem dX6_tick_74 : decode cX6_tick 74 = .ok (.getfield 82, 3) := by decide +kernel
theorem dX6_tick_77 : decode cX6_tick 77 = .ok (.iadd, 1) := by decide +kernel
theorem dX6_tick_78 : decode cX6_tick 78 = .ok (.iastore, 1) := by decide +kernel
theorem dX6_tick_79 : decode cX6_tick 79 = .ok (.aload_n 0, 1) := by decide +kernel
theorem dX6_tick_80 : decode cX6_tick 80 = .ok (.getfield 7, 3) := by decide +kernel
theorem dX6_tick_83 : decode cX6_tick 83 = .ok (.bipush 13, 2) := by decide +kernel
theorem dX6_tick_85 : decode cX6_tick 85 = .ok (.dup2, 1) := by decide +kernel
theorem dX6_tick_86 : decode cX6_tick 86 = .ok (.iaload, 1) := by decide +kernel
theorem dX6_tick_87 : decode cX6_tick 87 = .ok (.aload_n 0, 1) := by decide +kernel
theorem dX6_tick_88 : decode cX6_tick 88 = .ok (.getfield 85, 3) := by decide +kernel
theorem dX6_tick_91 : decode cX6_tick 91 = .ok (.ifCond .le 10, 3) := by decide +kernel
theorem dX6_tick_94 : decode cX6_tick 94 = .ok (.aload_n 0, 1) := by decide +kernel
theorem dX6_tick_95 : decode cX6_tick 95 = .ok (.getfield 85, 3) := by decide +kernel
theorem dX6_tick_98 : decode cX6_tick 98 = .ok (.goto 4, 3) := by decide +kernel
theorem dX6_tick_101 : decode cX6_tick 101 = .ok (.iconst 0, 1) := by decide +kernel
theorem dX6_tick_102 : decode cX6_tick 102 = .ok (.iadd, 1) := by decide +kernel
theorem dX6_tick_103 : decode cX6_tick 103 = .ok (.iastore, 1) := by decide +kernel
theorem dX6_tick_104 : decode cX6_tick 104 = .ok (.aload_n 0, 1) := by decide +kernel
theorem dX6_tick_105 : decode cX6_tick 105 = .ok (.getfield 7, 3) := by decide +kernel
theorem dX6_tick_108 : decode cX6_tick 108 = .ok (.bipush 14, 2) := by decide +kernel
theorem dX6_tick_110 : decode cX6_tick 110 = .ok (.dup2, 1) := by decide +kernel
theorem dX6_tick_111 : decode cX6_tick 111 = .ok (.iaload, 1) := by decide +kernel
theorem dX6_tick_112 : decode cX6_tick 112 = .ok (.aload_n 0, 1) := by decide +kernel
theorem dX6_tick_113 : decode cX6_tick 113 = .ok (.getfield 85, 3) := by decide +kernel
theorem dX6_tick_116 : decode cX6_tick 116 = .ok (.ifCond .ge 11, 3) := by decide +kernel
theorem dX6_tick_119 : decode cX6_tick 119 = .ok (.aload_n 0, 1) := by decide +kernel
theorem dX6_tick_120 : decode cX6_tick 120 = .ok (.getfield 85, 3) := by decide +kernel
theorem dX6_tick_123 : decode cX6_tick 123 = .ok (.ineg, 1) := by decide +kernel
theorem dX6_tick_124 : decode cX6_tick 124 = .ok (.goto 4, 3) := by decide +kernel
theorem dX6_tick_127 : decode cX6_tick 127 = .ok (.iconst 0, 1) := by decide +kernel
theorem dX6_tick_128 : decode cX6_tick 128 = .ok (.iadd, 1) := by decide +kernel
theorem dX6_tick_129 : decode cX6_tick 129 = .ok (.iastore, 1) := by decide +kernel
theorem dX6_tick_130 : decode cX6_tick 130 = .ok (.aload_n 0, 1) := by decide +kernel
theorem dX6_tick_131 : decode cX6_tick 131 = .ok (.getfield 7, 3) := by decide +kernel
theorem dX6_tick_134 : decode cX6_tick 134 = .ok (.bipush 16, 2) := by decide +kernel
theorem dX6_tick_136 : decode cX6_tick 136 = .ok (.dup2, 1) := by decide +kernel
theorem dX6_tick_137 : decode cX6_tick 137 = .ok (.iaload, 1) := by decide +kernel
theorem dX6_tick_138 : decode cX6_tick 138 = .ok (.aload_n 0, 1) := by decide +kernel
theorem dX6_tick_139 : decode cX6_tick 139 = .ok (.getfield 89, 3) := by decide +kernel
theorem dX6_tick_142 : decode cX6_tick 142 = .ok (.ifCond .le 10, 3) := by decide +kernel
theorem dX6_tick_145 : decode cX6_tick 145 = .ok (.aload_n 0, 1) := by decide +kernel
theorem dX6_tick_146 : decode cX6_tick 146 = .ok (.getfield 89, 3) := by decide +kernel
theorem dX6_tick_149 : decode cX6_tick 149 = .ok (.goto 4, 3) := by decide +kernel
theorem dX6_tick_152 : decode cX6_tick 152 = .ok (.iconst 0, 1) := by decide +kernel
theorem dX6_tick_153 : decode cX6_tick 153 = .ok (.iadd, 1) := by decide +kernel
theorem dX6_tick_154 : decode cX6_tick 154 = .ok (.iastore, 1) := by decide +kernel
theorem dX6_tick_155 : decode cX6_tick 155 = .ok (.aload_n 0, 1) := by decide +kernel
theorem dX6_tick_156 : decode cX6_tick 156 = .ok (.getfield 7, 3) := by decide +kernel
theorem dX6_tick_159 : decode cX6_tick 159 = .ok (.bipush 17, 2) := by decide +kernel
theorem dX6_tick_161 : decode cX6_tick 161 = .ok (.dup2, 1) := by decide +kernel
theorem dX6_tick_162 : decode cX6_tick 162 = .ok (.iaload, 1) := by decide +kernel
theorem dX6_tick_163 : decode cX6_tick 163 = .ok (.aload_n 0, 1) := by decide +kernel
theorem dX6_tick_164 : decode cX6_tick 164 = .ok (.getfield 89, 3) := by decide +kernel
theorem dX6_tick_167 : decode cX6_tick 167 = .ok (.ifCond .ge 11, 3) := by decide +kernel
theorem dX6_tick_170 : decode cX6_tick 170 = .ok (.aload_n 0, 1) := by decide +kernel
theorem dX6_tick_171 : decode cX6_tick 171 = .ok (.getfield 89, 3) := by decide +kernel
theorem dX6_tick_174 : decode cX6_tick 174 = .ok (.ineg, 1) := by decide +kernel
theorem dX6_tick_175 : decode cX6_tick 175 = .ok (.goto 4, 3) := by decide +kernel
theorem dX6_tick_178 : decode cX6_tick 178 = .ok (.iconst 0, 1) := by decide +kernel
theorem dX6_tick_179 : decode cX6_tick 179 = .ok (.iadd, 1) := by decide +kernel
theorem dX6_tick_180 : decode cX6_tick 180 = .ok (.iastore, 1) := by decide +kernel
theorem dX6_tick_181 : decode cX6_tick 181 = .ok (.aload_n 0, 1) := by decide +kernel
theorem dX6_tick_182 : decode cX6_tick 182 = .ok (.iload_n 1, 1) := by decide +kernel
theorem dX6_tick_183 : decode cX6_tick 183 = .ok (.invokevirtual 99, 3) := by decide +kernel
theorem dX6_tick_186 : decode cX6_tick 186 = .ok (.istore_n 2, 1) := by decide +kernel
theorem dX6_tick_187 : decode cX6_tick 187 = .ok (.aload_n 0, 1) := by decide +kernel
theorem dX6_tick_188 : decode cX6_tick 188 = .ok (.getfield 7, 3) := by decide +kernel
theorem dX6_tick_191 : decode cX6_tick 191 = .ok (.iload_n 2, 1) := by decide +kernel
theorem dX6_tick_192 : decode cX6_tick 192 = .ok (.iconst 1, 1) := by decide +kernel
theorem dX6_tick_193 : decode cX6_tick 193 = .ok (.iadd, 1) := by decide +kernel
theorem dX6_tick_194 : decode cX6_tick 194 = .ok (.dup2, 1) := by decide +kernel
theorem dX6_tick_195 : decode cX6_tick 195 = .ok (.iaload, 1) := by decide +kernel
theorem dX6_tick_196 : decode cX6_tick 196 = .ok (.aload_n 0, 1) := by decide +kernel
theorem dX6_tick_197 : decode cX6_tick 197 = .ok (.getfield 79, 3) := by decide +kernel
theorem dX6_tick_200 : decode cX6_tick 200 = .ok (.iadd, 1) := by decide +kernel
theorem dX6_tick_201 : decode cX6_tick 201 = .ok (.iastore, 1) := by decide +kernel
theorem dX6_tick_202 : decode cX6_tick 202 = .ok (.aload_n 0, 1) := by decide +kernel
theorem dX6_tick_203 : decode cX6_tick 203 = .ok (.getfield 7, 3) := by decide +kernel
theorem dX6_tick_206 : decode cX6_tick 206 = .ok (.iload_n 2, 1) := by decide +kernel
theorem dX6_tick_207 : decode cX6_tick 207 = .ok (.iconst 2, 1) := by decide +kernel
theorem dX6_tick_208 : decode cX6_tick 208 = .ok (.iadd, 1) := by decide +kernel
theorem dX6_tick_209 : decode cX6_tick 209 = .ok (.dup2, 1) := by decide +kernel
theorem dX6_tick_210 : decode cX6_tick 210 = .ok (.iaload, 1) := by decide +kernel
theorem dX6_tick_211 : decode cX6_tick 211 = .ok (.aload_n 0, 1) := by decide +kernel
theorem dX6_tick_212 : decode cX6_tick 212 = .ok (.getfield 82, 3) := by decide +kernel
theorem dX6_tick_215 : decode cX6_tick 215 = .ok (.iadd, 1) := by decide +kernel
theorem dX6_tick_216 : decode cX6_tick 216 = .ok (.iastore, 1) := by decide +kernel
theorem dX6_tick_217 : decode cX6_tick 217 = .ok (.aload_n 0, 1) := by decide +kernel
theorem dX6_tick_218 : decode cX6_tick 218 = .ok (.getfield 7, 3) := by decide +kernel
theorem dX6_tick_221 : decode cX6_tick 221 = .ok (.iload_n 2, 1) := by decide +kernel
theorem dX6_tick_222 : decode cX6_tick 222 = .ok (.iconst 3, 1) := by decide +kernel
theorem dX6_tick_223 : decode cX6_tick 223 = .ok (.iadd, 1) := by decide +kernel
theorem dX6_tick_224 : decode cX6_tick 224 = .ok (.aload_n 0, 1) := by decide +kernel
theorem dX6_tick_225 : decode cX6_tick 225 = .ok (.invokevirtual 59, 3) := by decide +kernel
theorem dX6_tick_228 : decode cX6_tick 228 = .ok (.aload_n 0, 1) := by decide +kernel
theorem dX6_tick_229 : decode cX6_tick 229 = .ok (.getfield 7, 3) := by decide +kernel
theorem dX6_tick_232 : decode cX6_tick 232 = .ok (.iload_n 2, 1) := by decide +kernel
theorem dX6_tick_233 : decode cX6_tick 233 = .ok (.iconst 3, 1) := by decide +kernel
theorem dX6_tick_234 : decode cX6_tick 234 = .ok (.iadd, 1) := by decide +kernel
theorem dX6_tick_235 : decode cX6_tick 235 = .ok (.iaload, 1) := by decide +kernel
theorem dX6_tick_236 : decode cX6_tick 236 = .ok (.if_icmp .le 10, 3) := by decide +kernel
theorem dX6_tick_239 : decode cX6_tick 239 = .ok (.aload_n 0, 1) := by decide +kernel
theorem dX6_tick_240 : decode cX6_tick 240 = .ok (.invokevirtual 59, 3) := by decide +kernel
theorem dX6_tick_243 : decode cX6_tick 243 = .ok (.goto 11, 3) := by decide +kernel
theorem dX6_tick_246 : decode cX6_tick 246 = .ok (.aload_n 0, 1) := by decide +kernel
theorem dX6_tick_247 : decode cX6_tick 247 = .ok (.getfield 7, 3) := by decide +kernel
theorem dX6_tick_250 : decode cX6_tick 250 = .ok (.iload_n 2, 1) := by decide +kernel
theorem dX6_tick_251 : decode cX6_tick 251 = .ok (.iconst 3, 1) := by decide +kernel
theorem dX6_tick_252 : decode cX6_tick 252 = .ok (.iadd, 1) := by decide +kernel
theorem dX6_tick_253 : decode cX6_tick 253 = .ok (.iaload, 1) := by decide +kernel
theorem dX6_tick_254 : decode cX6_tick 254 = .ok (.iastore, 1) := by decide +kernel
theorem dX6_tick_255 : decode cX6_tick 255 = .ok (.aload_n 0, 1) := by decide +kernel
theorem dX6_tick_256 : decode cX6_tick 256 = .ok (.getfield 7, 3) := by decide +kernel
theorem dX6_tick_259 : decode cX6_tick 259 = .ok (.iload_n 2, 1) := by decide +kernel
theorem dX6_tick_260 : decode cX6_tick 260 = .ok (.iconst 4, 1) := by decide +kernel
theorem dX6_tick_261 : decode cX6_tick 261 = .ok (.iadd, 1) := by decide +kernel
theorem dX6_tick_262 : decode cX6_tick 262 = .ok (.aload_n 0, 1) := by decide +kernel
theorem dX6_tick_263 : decode cX6_tick 263 = .ok (.invokevirtual 59, 3) := by decide +kernel
theorem dX6_tick_266 : decode cX6_tick 266 = .ok (.aload_n 0, 1) := by decide +kernel
theorem dX6_tick_267 : decode cX6_tick 267 = .ok (.getfield 7, 3) := by decide +kernel
theorem dX6_tick_270 : decode cX6_tick 270 = .ok (.iload_n 2, 1) := by decide +kernel
theorem dX6_tick_271 : decode cX6_tick 271 = .ok (.iconst 4, 1) := by decide +kernel
theorem dX6_tick_272 : decode cX6_tick 272 = .ok (.iadd, 1) := by decide +kernel
theorem dX6_tick_273 : decode cX6_tick 273 = .ok (.iaload, 1) := by decide +kernel
theorem dX6_tick_274 : decode cX6_tick 274 = .ok (.if_icmp .ge 10, 3) := by decide +kernel
theorem dX6_tick_277 : decode cX6_tick 277 = .ok (.aload_n 0, 1) := by decide +kernel
theorem dX6_tick_278 : decode cX6_tick 278 = .ok (.invokevirtual 59, 3) := by decide +kernel
theorem dX6_tick_281 : decode cX6_tick 281 = .ok (.goto 11, 3) := by decide +kernel
theorem dX6_tick_284 : decode cX6_tick 284 = .ok (.aload_n 0, 1) := by decide +kernel
theorem dX6_tick_285 : decode cX6_tick 285 = .ok (.getfield 7, 3) := by decide +kernel
theorem dX6_tick_288 : decode cX6_tick 288 = .ok (.iload_n 2, 1) := by decide +kernel
theorem dX6_tick_289 : decode cX6_tick 289 = .ok (.iconst 4, 1) := by decide +kernel
theorem dX6_tick_290 : decode cX6_tick 290 = .ok (.iadd, 1) := by decide +kernel
theorem dX6_tick_291 : decode cX6_tick 291 = .ok (.iaload, 1) := by decide +kernel
theorem dX6_tick_292 : decode cX6_tick 292 = .ok (.iastore, 1) := by decide +kernel
theorem dX6_tick_293 : decode cX6_tick 293 = .ok (.aload_n 0, 1) := by decide +kernel
theorem dX6_tick_294 : decode cX6_tick 294 = .ok (.getfield 7, 3) := by decide +kernel
theorem dX6_tick_297 : decode cX6_tick 297 = .ok (.iload_n 2, 1) := by decide +kernel
theorem dX6_tick_298 : decode cX6_tick 298 = .ok (.iconst 5, 1) := by decide +kernel
theorem dX6_tick_299 : decode cX6_tick 299 = .ok (.iadd, 1) := by decide +kernel
theorem dX6_tick_300 : decode cX6_tick 300 = .ok (.dup2, 1) := by decide +kernel
theorem dX6_tick_301 : decode cX6_tick 301 = .ok (.iaload, 1) := by decide +kernel
theorem dX6_tick_302 : decode cX6_tick 302 = .ok (.aload_n 0, 1) := by decide +kernel
theorem dX6_tick_303 : decode cX6_tick 303 = .ok (.getfield 85, 3) := by decide +kernel
theorem dX6_tick_306 : decode cX6_tick 306 = .ok (.ifCond .le 10, 3) := by decide +kernel
theorem dX6_tick_309 : decode cX6_tick 309 = .ok (.aload_n 0, 1) := by decide +kernel
theorem dX6_tick_310 : decode cX6_tick 310 = .ok (.getfield 85, 3) := by decide +kernel
theorem dX6_tick_313 : decode cX6_tick 313 = .ok (.goto 4, 3) := by decide +kernel
theorem dX6_tick_316 : decode cX6_tick 316 = .ok (.iconst 0, 1) := by decide +kernel
theorem dX6_tick_317 : decode cX6_tick 317 = .ok (.iadd, 1) := by decide +kernel
theorem dX6_tick_318 : decode cX6_tick 318 = .ok (.iastore, 1) := by decide +kernel
theorem dX6_tick_319 : decode cX6_tick 319 = .ok (.aload_n 0, 1) := by decide +kernel
theorem dX6_tick_320 : decode cX6_tick 320 = .ok (.getfield 7, 3) := by decide +kernel
theorem dX6_tick_323 : decode cX6_tick 323 = .ok (.iload_n 2, 1) := by decide +kernel
theorem dX6_tick_324 : decode cX6_tick 324 = .ok (.bipush 6, 2) := by decide +kernel
theorem dX6_tick_326 : decode cX6_tick 326 = .ok (.iadd, 1) := by decide +kernel
theorem dX6_tick_327 : decode cX6_tick 327 = .ok (.dup2, 1) := by decide +kernel
theorem dX6_tick_328 : decode cX6_tick 328 = .ok (.iaload, 1) := by decide +kernel
theorem dX6_tick_329 : decode cX6_tick 329 = .ok (.aload_n 0, 1) := by decide +kernel
theorem dX6_tick_330 : decode cX6_tick 330 = .ok (.getfield 85, 3) := by decide +kernel
theorem dX6_tick_333 : decode cX6_tick 333 = .ok (.ifCond .ge 11, 3) := by decide +kernel
theorem dX6_tick_336 : decode cX6_tick 336 = .ok (.aload_n 0, 1) := by decide +kernel
theorem dX6_tick_337 : decode cX6_tick 337 = .ok (.getfield 85, 3) := by decide +kernel
theorem dX6_tick_340 : decode cX6_tick 340 = .ok (.ineg, 1) := by decide +kernel
theorem dX6_tick_341 : decode cX6_tick 341 = .ok (.goto 4, 3) := by decide +kernel
theorem dX6_tick_344 : decode cX6_tick 344 = .ok (.iconst 0, 1) := by decide +kernel
theorem dX6_tick_345 : decode cX6_tick 345 = .ok (.iadd, 1) := by decide +kernel
theorem dX6_tick_346 : decode cX6_tick 346 = .ok (.iastore, 1) := by decide +kernel
theorem dX6_tick_347 : decode cX6_tick 347 = .ok (.return_, 1) := by decide +kernel
theorem dX6_ticks_0 : decode cX6_ticks 0 = .ok (.iconst 0, 1) := by decide +kernel
theorem dX6_ticks_1 : decode cX6_ticks 1 = .ok (.istore_n 2, 1) := by decide +kernel
theorem dX6_ticks_2 : decode cX6_ticks 2 = .ok (.iload_n 2, 1) := by decide +kernel
theorem dX6_ticks_3 : decode cX6_ticks 3 = .ok (.iload_n 1, 1) := by decide +kernel
theorem dX6_ticks_4 : decode cX6_ticks 4 = .ok (.if_icmp .ge 13, 3) := by decide +kernel
theorem dX6_ticks_7 : decode cX6_ticks 7 = .ok (.aload_n 0, 1) := by decide +kernel
theorem dX6_ticks_8 : decode cX6_ticks 8 = .ok (.invokevirtual 102, 3) := by decide +kernel
theorem dX6_ticks_11 : decode cX6_ticks 11 = .ok (.iinc 2 1, 3) := by decide +kernel
theorem dX6_ticks_14 : decode cX6_ticks 14 = .ok (.goto (-12), 3) := by decide +kernel
theorem dX6_ticks_17 : decode cX6_ticks 17 = .ok (.return_, 1) := by decide +kernel
theorem dX6_run_0 : decode cX6_run 0 = .ok (.iload_n 1, 1) := by decide +kernel
theorem dX6_run_1 : decode cX6_run 1 = .ok (.iconst 1, 1) := by decide +kernel
theorem dX6_run_2 : decode cX6_run 2 = .ok (.sipush 300, 3) := by decide +kernel
theorem dX6_run_5 : decode cX6_run 5 = .ok (.invokestatic 40, 3) := by decide +kernel
theorem dX6_run_8 : decode cX6_run 8 = .ok (.ifCond .ne 6, 3) := by decide +kernel
theorem dX6_run_11 : decode cX6_run 11 = .ok (.ldc 48, 2) := by decide +kernel
theorem dX6_run_13 : decode cX6_run 13 = .ok (.ireturn, 1) := by decide +kernel
theorem dX6_run_14 : decode cX6_run 14 = .ok (.aload_n 0, 1) := by decide +kernel
theorem dX6_run_15 : decode cX6_run 15 = .ok (.getfield 7, 3) := by decide +kernel
theorem dX6_run_18 : decode cX6_run 18 = .ok (.iconst 0, 1) := by decide +kernel
theorem dX6_run_19 : decode cX6_run 19 = .ok (.iaload, 1) := by decide +kernel
theorem dX6_run_20 : decode cX6_run 20 = .ok (.iload_n 1, 1) := by decide +kernel
theorem dX6_run_21 : decode cX6_run 21 = .ok (.iadd, 1) := by decide +kernel
theorem dX6_run_22 : decode cX6_run 22 = .ok (.sipush 9999, 3) := by decide +kernel
theorem dX6_run_25 : decode cX6_run 25 = .ok (.if_icmp .le 6, 3) := by decide +kernel
theorem dX6_run_28 : decode cX6_run 28 = .ok (.ldc 105, 2) := by decide +kernel
theorem dX6_run_30 : decode cX6_run 30 = .ok (.ireturn, 1) := by decide +kernel
theorem dX6_run_31 : decode cX6_run 31 = .ok (.aload_n 0, 1) := by decide +kernel
theorem dX6_run_32 : decode cX6_run 32 = .ok (.invokevirtual 37, 3) := by decide +kernel
theorem dX6_run_35 : decode cX6_run 35 = .ok (.aload_n 0, 1) := by decide +kernel
theorem dX6_run_36 : decode cX6_run 36 = .ok (.iload_n 1, 1) := by decide +kernel
theorem dX6_run_37 : decode cX6_run 37 = .ok (.invokevirtual 106, 3) := by decide +kernel
theorem dX6_run_40 : decode cX6_run 40 = .ok (.aload_n 0, 1) := by decide +kernel
theorem dX6_run_41 : decode cX6_run 41 = .ok (.invokevirtual 59, 3) := by decide +kernel
theorem dX6_run_44 : decode cX6_run 44 = .ok (.ireturn, 1) := by decide +kernel
theorem dX6_dredge_0 : decode cX6_dredge 0 = .ok (.iload_n 1, 1) := by decide +kernel
theorem dX6_dredge_1 : decode cX6_dredge 1 = .ok (.iconst 1, 1) := by decide +kernel
theorem dX6_dredge_2 : decode cX6_dredge 2 = .ok (.sipush 20000, 3) := by decide +kernel
theorem dX6_dredge_5 : decode cX6_dredge 5 = .ok (.invokestatic 40, 3) := by decide +kernel
theorem dX6_dredge_8 : decode cX6_dredge 8 = .ok (.ifCond .ne 6, 3) := by decide +kernel
theorem dX6_dredge_11 : decode cX6_dredge 11 = .ok (.ldc 48, 2) := by decide +kernel
theorem dX6_dredge_13 : decode cX6_dredge 13 = .ok (.ireturn, 1) := by decide +kernel
theorem dX6_dredge_14 : decode cX6_dredge 14 = .ok (.aload_n 0, 1) := by decide +kernel
theorem dX6_dredge_15 : decode cX6_dredge 15 = .ok (.getfield 7, 3) := by decide +kernel
theorem dX6_dredge_18 : decode cX6_dredge 18 = .ok (.iconst 2, 1) := by decide +kernel
theorem dX6_dredge_19 : decode cX6_dredge 19 = .ok (.iaload, 1) := by decide +kernel
theorem dX6_dredge_20 : decode cX6_dredge 20 = .ok (.iload_n 1, 1) := by decide +kernel
theorem dX6_dredge_21 : decode cX6_dredge 21 = .ok (.if_icmp .ge 6, 3) := by decide +kernel
theorem dX6_dredge_24 : decode cX6_dredge 24 = .ok (.ldc 110, 2) := by decide +kernel
theorem dX6_dredge_26 : decode cX6_dredge 26 = .ok (.ireturn, 1) := by decide +kernel
theorem dX6_dredge_27 : decode cX6_dredge 27 = .ok (.aload_n 0, 1) := by decide +kernel
theorem dX6_dredge_28 : decode cX6_dredge 28 = .ok (.invokevirtual 37, 3) := by decide +kernel
theorem dX6_dredge_31 : decode cX6_dredge 31 = .ok (.aload_n 0, 1) := by decide +kernel
theorem dX6_dredge_32 : decode cX6_dredge 32 = .ok (.getfield 7, 3) := by decide +kernel
theorem dX6_dredge_35 : decode cX6_dredge 35 = .ok (.iconst 2, 1) := by decide +kernel
theorem dX6_dredge_36 : decode cX6_dredge 36 = .ok (.dup2, 1) := by decide +kernel
theorem dX6_dredge_37 : decode cX6_dredge 37 = .ok (.iaload, 1) := by decide +kernel
theorem dX6_dredge_38 : decode cX6_dredge 38 = .ok (.iload_n 1, 1) := by decide +kernel
theorem dX6_dredge_39 : decode cX6_dredge 39 = .ok (.isub, 1) := by decide +kernel
theorem dX6_dredge_40 : decode cX6_dredge 40 = .ok (.iastore, 1) := by decide +kernel
theorem dX6_dredge_41 : decode cX6_dredge 41 = .ok (.aload_n 0, 1) := by decide +kernel
theorem dX6_dredge_42 : decode cX6_dredge 42 = .ok (.getfield 7, 3) := by decide +kernel
theorem dX6_dredge_45 : decode cX6_dredge 45 = .ok (.bipush 15, 2) := by decide +kernel
theorem dX6_dredge_47 : decode cX6_dredge 47 = .ok (.dup2, 1) := by decide +kernel
theorem dX6_dredge_48 : decode cX6_dredge 48 = .ok (.iaload, 1) := by decide +kernel
theorem dX6_dredge_49 : decode cX6_dredge 49 = .ok (.iload_n 1, 1) := by decide +kernel
theorem dX6_dredge_50 : decode cX6_dredge 50 = .ok (.iadd, 1) := by decide +kernel
theorem dX6_dredge_51 : decode cX6_dredge 51 = .ok (.iastore, 1) := by decide +kernel
theorem dX6_dredge_52 : decode cX6_dredge 52 = .ok (.aload_n 0, 1) := by decide +kernel
theorem dX6_dredge_53 : decode cX6_dredge 53 = .ok (.getfield 7, 3) := by decide +kernel
theorem dX6_dredge_56 : decode cX6_dredge 56 = .ok (.iconst 2, 1) := by decide +kernel
theorem dX6_dredge_57 : decode cX6_dredge 57 = .ok (.iaload, 1) := by decide +kernel
theorem dX6_dredge_58 : decode cX6_dredge 58 = .ok (.ireturn, 1) := by decide +kernel
theorem dX6_mostOf_0 : decode cX6_mostOf 0 = .ok (.iload_n 0, 1) := by decide +kernel
theorem dX6_mostOf_1 : decode cX6_mostOf 1 = .ok (.iconst 2, 1) := by decide +kernel
theorem dX6_mostOf_2 : decode cX6_mostOf 2 = .ok (.if_icmp .ne 9, 3) := by decide +kernel
theorem dX6_mostOf_5 : decode cX6_mostOf 5 = .ok (.sipush 9999, 3) := by decide +kernel
theorem dX6_mostOf_8 : decode cX6_mostOf 8 = .ok (.goto 6, 3) := by decide +kernel
theorem dX6_mostOf_11 : decode cX6_mostOf 11 = .ok (.sipush 400, 3) := by decide +kernel
theorem dX6_mostOf_14 : decode cX6_mostOf 14 = .ok (.ireturn, 1) := by decide +kernel
theorem dX6_set_0 : decode cX6_set 0 = .ok (.iload_n 1, 1) := by decide +kernel
theorem dX6_set_1 : decode cX6_set 1 = .ok (.iconst 0, 1) := by decide +kernel
theorem dX6_set_2 : decode cX6_set 2 = .ok (.iconst 2, 1) := by decide +kernel
theorem dX6_set_3 : decode cX6_set 3 = .ok (.invokestatic 40, 3) := by decide +kernel
theorem dX6_set_6 : decode cX6_set 6 = .ok (.ifCond .eq 24, 3) := by decide +kernel
theorem dX6_set_9 : decode cX6_set 9 = .ok (.iload_n 2, 1) := by decide +kernel
theorem dX6_set_10 : decode cX6_set 10 = .ok (.iload_n 1, 1) := by decide +kernel
theorem dX6_set_11 : decode cX6_set 11 = .ok (.iconst 1, 1) := by decide +kernel
theorem dX6_set_12 : decode cX6_set 12 = .ok (.if_icmp .ne 7, 3) := by decide +kernel
theorem dX6_set_15 : decode cX6_set 15 = .ok (.iconst 0, 1) := by decide +kernel
theorem dX6_set_16 : decode cX6_set 16 = .ok (.goto 4, 3) := by decide +kernel
theorem dX6_set_19 : decode cX6_set 19 = .ok (.iconst 1, 1) := by decide +kernel
theorem dX6_set_20 : decode cX6_set 20 = .ok (.iload_n 1, 1) := by decide +kernel
theorem dX6_set_21 : decode cX6_set 21 = .ok (.invokestatic 111, 3) := by decide +kernel
theorem dX6_set_24 : decode cX6_set 24 = .ok (.invokestatic 40, 3) := by decide +kernel
theorem dX6_set_27 : decode cX6_set 27 = .ok (.ifCond .ne 6, 3) := by decide +kernel
theorem dX6_set_30 : decode cX6_set 30 = .ok (.ldc 48, 2) := by decide +kernel
theorem dX6_set_32 : decode cX6_set 32 = .ok (.ireturn, 1) := by decide +kernel
theorem dX6_set_33 : decode cX6_set 33 = .ok (.aload_n 0, 1) := by decide +kernel
theorem dX6_set_34 : decode cX6_set 34 = .ok (.bipush 8, 2) := by decide +kernel
theorem dX6_set_36 : decode cX6_set 36 = .ok (.iload_n 1, 1) := by decide +kernel
theorem dX6_set_37 : decode cX6_set 37 = .ok (.iadd, 1) := by decide +kernel
theorem dX6_set_38 : decode cX6_set 38 = .ok (.iload_n 2, 1) := by decide +kernel
theorem dX6_set_39 : decode cX6_set 39 = .ok (.invokevirtual 44, 3) := by decide +kernel
theorem dX6_set_42 : decode cX6_set 42 = .ok (.ireturn, 1) := by decide +kernel
theorem dX6_sea_0 : decode cX6_sea 0 = .ok (.iload_n 1, 1) := by decide +kernel
theorem dX6_sea_1 : decode cX6_sea 1 = .ok (.iconst 0, 1) := by decide +kernel
theorem dX6_sea_2 : decode cX6_sea 2 = .ok (.sipush 9999, 3) := by decide +kernel
theorem dX6_sea_5 : decode cX6_sea 5 = .ok (.invokestatic 40, 3) := by decide +kernel
theorem dX6_sea_8 : decode cX6_sea 8 = .ok (.ifCond .eq 10, 3) := by decide +kernel
theorem dX6_sea_11 : decode cX6_sea 11 = .ok (.iload_n 1, 1) := by decide +kernel
theorem dX6_sea_12 : decode cX6_sea 12 = .ok (.invokestatic 56, 3) := by decide +kernel
theorem dX6_sea_15 : decode cX6_sea 15 = .ok (.goto 5, 3) := by decide +kernel
theorem dX6_sea_18 : decode cX6_sea 18 = .ok (.ldc 48, 2) := by decide +kernel
theorem dX6_sea_20 : decode cX6_sea 20 = .ok (.ireturn, 1) := by decide +kernel
theorem dX6_now_0 : decode cX6_now 0 = .ok (.iload_n 1, 1) := by decide +kernel
theorem dX6_now_1 : decode cX6_now 1 = .ok (.tableswitch 151 0 12 #[67, 74, 85, 96, 106, 111, 116, 116, 116, 116, 116, 128, 141], 67) := by decide +kernel
theorem dX6_now_68 : decode cX6_now 68 = .ok (.aload_n 0, 1) := by decide +kernel
theorem dX6_now_69 : decode cX6_now 69 = .ok (.getfield 7, 3) := by decide +kernel
theorem dX6_now_72 : decode cX6_now 72 = .ok (.iconst 0, 1) := by decide +kernel
theorem dX6_now_73 : decode cX6_now 73 = .ok (.iaload, 1) := by decide +kernel
theorem dX6_now_74 : decode cX6_now 74 = .ok (.ireturn, 1) := by decide +kernel
theorem dX6_now_75 : decode cX6_now 75 = .ok (.aload_n 0, 1) := by decide +kernel
theorem dX6_now_76 : decode cX6_now 76 = .ok (.getfield 7, 3) := by decide +kernel
theorem dX6_now_79 : decode cX6_now 79 = .ok (.iconst 0, 1) := by decide +kernel
theorem dX6_now_80 : decode cX6_now 80 = .ok (.iaload, 1) := by decide +kernel
theorem dX6_now_81 : decode cX6_now 81 = .ok (.sipush 144, 3) := by decide +kernel
theorem dX6_now_84 : decode cX6_now 84 = .ok (.idiv, 1) := by decide +kernel
theorem dX6_now_85 : decode cX6_now 85 = .ok (.ireturn, 1) := by decide +kernel
theorem dX6_now_86 : decode cX6_now 86 = .ok (.aload_n 0, 1) := by decide +kernel
theorem dX6_now_87 : decode cX6_now 87 = .ok (.getfield 7, 3) := by decide +kernel
theorem dX6_now_90 : decode cX6_now 90 = .ok (.iconst 0, 1) := by decide +kernel
theorem dX6_now_91 : decode cX6_now 91 = .ok (.iaload, 1) := by decide +kernel
theorem dX6_now_92 : decode cX6_now 92 = .ok (.sipush 144, 3) := by decide +kernel
theorem dX6_now_95 : decode cX6_now 95 = .ok (.irem, 1) := by decide +kernel
theorem dX6_now_96 : decode cX6_now 96 = .ok (.ireturn, 1) := by decide +kernel
theorem dX6_now_97 : decode cX6_now 97 = .ok (.aload_n 0, 1) := by decide +kernel
theorem dX6_now_98 : decode cX6_now 98 = .ok (.getfield 7, 3) := by decide +kernel
theorem dX6_now_101 : decode cX6_now 101 = .ok (.iconst 0, 1) := by decide +kernel
theorem dX6_now_102 : decode cX6_now 102 = .ok (.iaload, 1) := by decide +kernel
theorem dX6_now_103 : decode cX6_now 103 = .ok (.invokestatic 56, 3) := by decide +kernel
theorem dX6_now_106 : decode cX6_now 106 = .ok (.ireturn, 1) := by decide +kernel
theorem dX6_now_107 : decode cX6_now 107 = .ok (.aload_n 0, 1) := by decide +kernel
theorem dX6_now_108 : decode cX6_now 108 = .ok (.invokevirtual 59, 3) := by decide +kernel
theorem dX6_now_111 : decode cX6_now 111 = .ok (.ireturn, 1) := by decide +kernel
theorem dX6_now_112 : decode cX6_now 112 = .ok (.aload_n 0, 1) := by decide +kernel
theorem dX6_now_113 : decode cX6_now 113 = .ok (.invokevirtual 63, 3) := by decide +kernel
theorem dX6_now_116 : decode cX6_now 116 = .ok (.ireturn, 1) := by decide +kernel
theorem dX6_now_117 : decode cX6_now 117 = .ok (.aload_n 0, 1) := by decide +kernel
theorem dX6_now_118 : decode cX6_now 118 = .ok (.getfield 7, 3) := by decide +kernel
theorem dX6_now_121 : decode cX6_now 121 = .ok (.iconst 1, 1) := by decide +kernel
theorem dX6_now_122 : decode cX6_now 122 = .ok (.iload_n 1, 1) := by decide +kernel
theorem dX6_now_123 : decode cX6_now 123 = .ok (.iadd, 1) := by decide +kernel
theorem dX6_now_124 : decode cX6_now 124 = .ok (.bipush 6, 2) := by decide +kernel
theorem dX6_now_126 : decode cX6_now 126 = .ok (.isub, 1) := by decide +kernel
theorem dX6_now_127 : decode cX6_now 127 = .ok (.iaload, 1) := by decide +kernel
theorem dX6_now_128 : decode cX6_now 128 = .ok (.ireturn, 1) := by decide +kernel
theorem dX6_now_129 : decode cX6_now 129 = .ok (.aload_n 0, 1) := by decide +kernel
theorem dX6_now_130 : decode cX6_now 130 = .ok (.invokevirtual 66, 3) := by decide +kernel
theorem dX6_now_133 : decode cX6_now 133 = .ok (.ifCond .eq 7, 3) := by decide +kernel
theorem dX6_now_136 : decode cX6_now 136 = .ok (.iconst 1, 1) := by decide +kernel
theorem dX6_now_137 : decode cX6_now 137 = .ok (.goto 4, 3) := by decide +kernel
theorem dX6_now_140 : decode cX6_now 140 = .ok (.iconst 0, 1) := by decide +kernel
theorem dX6_now_141 : decode cX6_now 141 = .ok (.ireturn, 1) := by decide +kernel
theorem dX6_now_142 : decode cX6_now 142 = .ok (.aload_n 0, 1) := by decide +kernel
theorem dX6_now_143 : decode cX6_now 143 = .ok (.getfield 7, 3) := by decide +kernel
theorem dX6_now_146 : decode cX6_now 146 = .ok (.iconst 0, 1) := by decide +kernel
theorem dX6_now_147 : decode cX6_now 147 = .ok (.iaload, 1) := by decide +kernel
theorem dX6_now_148 : decode cX6_now 148 = .ok (.invokestatic 53, 3) := by decide +kernel
theorem dX6_now_151 : decode cX6_now 151 = .ok (.ireturn, 1) := by decide +kernel
theorem dX6_now_152 : decode cX6_now 152 = .ok (.ldc 48, 2) := by decide +kernel
theorem dX6_now_154 : decode cX6_now 154 = .ok (.ireturn, 1) := by decide +kernel
theorem dX6_record_0 : decode cX6_record 0 = .ok (.iload_n 1, 1) := by decide +kernel
theorem dX6_record_1 : decode cX6_record 1 = .ok (.ifCond .lt 12, 3) := by decide +kernel
theorem dX6_record_4 : decode cX6_record 4 = .ok (.iload_n 2, 1) := by decide +kernel
theorem dX6_record_5 : decode cX6_record 5 = .ok (.iconst 0, 1) := by decide +kernel
theorem dX6_record_6 : decode cX6_record 6 = .ok (.iconst 5, 1) := by decide +kernel
theorem dX6_record_7 : decode cX6_record 7 = .ok (.invokestatic 40, 3) := by decide +kernel
theorem dX6_record_10 : decode cX6_record 10 = .ok (.ifCond .ne 6, 3) := by decide +kernel
theorem dX6_record_13 : decode cX6_record 13 = .ok (.ldc 48, 2) := by decide +kernel
theorem dX6_record_15 : decode cX6_record 15 = .ok (.ireturn, 1) := by decide +kernel
theorem dX6_record_16 : decode cX6_record 16 = .ok (.aload_n 0, 1) := by decide +kernel
theorem dX6_record_17 : decode cX6_record 17 = .ok (.iload_n 1, 1) := by decide +kernel
theorem dX6_record_18 : decode cX6_record 18 = .ok (.invokevirtual 93, 3) := by decide +kernel
theorem dX6_record_21 : decode cX6_record 21 = .ok (.istore_n 3, 1) := by decide +kernel
theorem dX6_record_22 : decode cX6_record 22 = .ok (.iload_n 3, 1) := by decide +kernel
theorem dX6_record_23 : decode cX6_record 23 = .ok (.ifCond .ge 8, 3) := by decide +kernel
theorem dX6_record_26 : decode cX6_record 26 = .ok (.ldc 92, 2) := by decide +kernel
theorem dX6_record_28 : decode cX6_record 28 = .ok (.goto 13, 3) := by decide +kernel
theorem dX6_record_31 : decode cX6_record 31 = .ok (.aload_n 0, 1) := by decide +kernel
theorem dX6_record_32 : decode cX6_record 32 = .ok (.getfield 7, 3) := by decide +kernel
theorem dX6_record_35 : decode cX6_record 35 = .ok (.iload_n 3, 1) := by decide +kernel
theorem dX6_record_36 : decode cX6_record 36 = .ok (.iconst 1, 1) := by decide +kernel
theorem dX6_record_37 : decode cX6_record 37 = .ok (.iadd, 1) := by decide +kernel
theorem dX6_record_38 : decode cX6_record 38 = .ok (.iload_n 2, 1) := by decide +kernel
theorem dX6_record_39 : decode cX6_record 39 = .ok (.iadd, 1) := by decide +kernel
theorem dX6_record_40 : decode cX6_record 40 = .ok (.iaload, 1) := by decide +kernel
theorem dX6_record_41 : decode cX6_record 41 = .ok (.ireturn, 1) := by decide +kernel
theorem dX6_next_0 : decode cX6_next 0 = .ok (.iload_n 1, 1) := by decide +kernel
theorem dX6_next_1 : decode cX6_next 1 = .ok (.iconst 0, 1) := by decide +kernel
theorem dX6_next_2 : decode cX6_next 2 = .ok (.bipush 6, 2) := by decide +kernel
theorem dX6_next_4 : decode cX6_next 4 = .ok (.invokestatic 40, 3) := by decide +kernel
theorem dX6_next_7 : decode cX6_next 7 = .ok (.ifCond .ne 6, 3) := by decide +kernel
theorem dX6_next_10 : decode cX6_next 10 = .ok (.ldc 48, 2) := by decide +kernel
theorem dX6_next_12 : decode cX6_next 12 = .ok (.ireturn, 1) := by decide +kernel
theorem dX6_next_13 : decode cX6_next 13 = .ok (.aload_n 0, 1) := by decide +kernel
theorem dX6_next_14 : decode cX6_next 14 = .ok (.invokevirtual 96, 3) := by decide +kernel
theorem dX6_next_17 : decode cX6_next 17 = .ok (.iload_n 1, 1) := by decide +kernel
theorem dX6_next_18 : decode cX6_next 18 = .ok (.tableswitch 68 0 5 #[38, 43, 48, 53, 58, 63], 38) := by decide +kernel
theorem dX6_next_56 : decode cX6_next 56 = .ok (.aload_n 0, 1) := by decide +kernel
theorem dX6_next_57 : decode cX6_next 57 = .ok (.getfield 70, 3) := by decide +kernel
theorem dX6_next_60 : decode cX6_next 60 = .ok (.ireturn, 1) := by decide +kernel
theorem dX6_next_61 : decode cX6_next 61 = .ok (.aload_n 0, 1) := by decide +kernel
theorem dX6_next_62 : decode cX6_next 62 = .ok (.getfield 73, 3) := by decide +kernel
theorem dX6_next_65 : decode cX6_next 65 = .ok (.ireturn, 1) := by decide +kernel
theorem dX6_next_66 : decode cX6_next 66 = .ok (.aload_n 0, 1) := by decide +kernel
theorem dX6_next_67 : decode cX6_next 67 = .ok (.getfield 76, 3) := by decide +kernel
theorem dX6_next_70 : decode cX6_next 70 = .ok (.ireturn, 1) := by decide +kernel
theorem dX6_next_71 : decode cX6_next 71 = .ok (.aload_n 0, 1) := by decide +kernel
theorem dX6_next_72 : decode cX6_next 72 = .ok (.getfield 85, 3) := by decide +kernel
theorem dX6_next_75 : decode cX6_next 75 = .ok (.ireturn, 1) := by decide +kernel
theorem dX6_next_76 : decode cX6_next 76 = .ok (.aload_n 0, 1) := by decide +kernel
theorem dX6_next_77 : decode cX6_next 77 = .ok (.getfield 79, 3) := by decide +kernel
theorem dX6_next_80 : decode cX6_next 80 = .ok (.ireturn, 1) := by decide +kernel
theorem dX6_next_81 : decode cX6_next 81 = .ok (.aload_n 0, 1) := by decide +kernel
theorem dX6_next_82 : decode cX6_next 82 = .ok (.getfield 82, 3) := by decide +kernel
theorem dX6_next_85 : decode cX6_next 85 = .ok (.ireturn, 1) := by decide +kernel
theorem dX6_next_86 : decode cX6_next 86 = .ok (.aload_n 0, 1) := by decide +kernel
theorem dX6_next_87 : decode cX6_next 87 = .ok (.getfield 89, 3) := by decide +kernel
theorem dX6_next_90 : decode cX6_next 90 = .ok (.ireturn, 1) := by decide +kernel
theorem dX6_would_0 : decode cX6_would 0 = .ok (.iload_n 1, 1) := by decide +kernel
theorem dX6_would_1 : decode cX6_would 1 = .ok (.iconst 0, 1) := by decide +kernel
theorem dX6_would_2 : decode cX6_would 2 = .ok (.sipush 300, 3) := by decide +kernel
theorem dX6_would_5 : decode cX6_would 5 = .ok (.invokestatic 40, 3) := by decide +kernel
theorem dX6_would_8 : decode cX6_would 8 = .ok (.ifCond .eq 12, 3) := by decide +kernel
theorem dX6_would_11 : decode cX6_would 11 = .ok (.iload_n 2, 1) := by decide +kernel
theorem dX6_would_12 : decode cX6_would 12 = .ok (.iconst 0, 1) := by decide +kernel
theorem dX6_would_13 : decode cX6_would 13 = .ok (.iconst 3, 1) := by decide +kernel
theorem dX6_would_14 : decode cX6_would 14 = .ok (.invokestatic 40, 3) := by decide +kernel
theorem dX6_would_17 : decode cX6_would 17 = .ok (.ifCond .ne 6, 3) := by decide +kernel
theorem dX6_would_20 : decode cX6_would 20 = .ok (.ldc 48, 2) := by decide +kernel
theorem dX6_would_22 : decode cX6_would 22 = .ok (.ireturn, 1) := by decide +kernel
theorem dX6_would_23 : decode cX6_would 23 = .ok (.aload_n 0, 1) := by decide +kernel
theorem dX6_would_24 : decode cX6_would 24 = .ok (.getfield 7, 3) := by decide +kernel
theorem dX6_would_27 : decode cX6_would 27 = .ok (.aload_n 0, 1) := by decide +kernel
theorem dX6_would_28 : decode cX6_would 28 = .ok (.getfield 19, 3) := by decide +kernel
theorem dX6_would_31 : decode cX6_would 31 = .ok (.invokestatic 114, 3) := by decide +kernel
theorem dX6_would_34 : decode cX6_would 34 = .ok (.aload_n 0, 1) := by decide +kernel
theorem dX6_would_35 : decode cX6_would 35 = .ok (.iload_n 1, 1) := by decide +kernel
theorem dX6_would_36 : decode cX6_would 36 = .ok (.invokevirtual 106, 3) := by decide +kernel
theorem dX6_would_39 : decode cX6_would 39 = .ok (.iload_n 2, 1) := by decide +kernel
theorem dX6_would_40 : decode cX6_would 40 = .ok (.ifCond .ne 10, 3) := by decide +kernel
theorem dX6_would_43 : decode cX6_would 43 = .ok (.aload_n 0, 1) := by decide +kernel
theorem dX6_would_44 : decode cX6_would 44 = .ok (.invokevirtual 59, 3) := by decide +kernel
theorem dX6_would_47 : decode cX6_would 47 = .ok (.goto 55, 3) := by decide +kernel
theorem dX6_would_50 : decode cX6_would 50 = .ok (.iload_n 2, 1) := by decide +kernel
theorem dX6_would_51 : decode cX6_would 51 = .ok (.iconst 1, 1) := by decide +kernel
theorem dX6_would_52 : decode cX6_would 52 = .ok (.if_icmp .ne 21, 3) := by decide +kernel
theorem dX6_would_55 : decode cX6_would 55 = .ok (.aload_n 0, 1) := by decide +kernel
theorem dX6_would_56 : decode cX6_would 56 = .ok (.getfield 7, 3) := by decide +kernel
theorem dX6_would_59 : decode cX6_would 59 = .ok (.bipush 11, 2) := by decide +kernel
theorem dX6_would_61 : decode cX6_would 61 = .ok (.iaload, 1) := by decide +kernel
theorem dX6_would_62 : decode cX6_would 62 = .ok (.aload_n 0, 1) := by decide +kernel
theorem dX6_would_63 : decode cX6_would 63 = .ok (.getfield 19, 3) := by decide +kernel
theorem dX6_would_66 : decode cX6_would 66 = .ok (.bipush 11, 2) := by decide +kernel
theorem dX6_would_68 : decode cX6_would 68 = .ok (.iaload, 1) := by decide +kernel
theorem dX6_would_69 : decode cX6_would 69 = .ok (.isub, 1) := by decide +kernel
theorem dX6_would_70 : decode cX6_would 70 = .ok (.goto 32, 3) := by decide +kernel
theorem dX6_would_73 : decode cX6_would 73 = .ok (.iload_n 2, 1) := by decide +kernel
theorem dX6_would_74 : decode cX6_would 74 = .ok (.iconst 2, 1) := by decide +kernel
theorem dX6_would_75 : decode cX6_would 75 = .ok (.if_icmp .ne 21, 3) := by decide +kernel
theorem dX6_would_78 : decode cX6_would 78 = .ok (.aload_n 0, 1) := by decide +kernel
theorem dX6_would_79 : decode cX6_would 79 = .ok (.getfield 7, 3) := by decide +kernel
theorem dX6_would_82 : decode cX6_would 82 = .ok (.bipush 12, 2) := by decide +kernel
theorem dX6_would_84 : decode cX6_would 84 = .ok (.iaload, 1) := by decide +kernel
theorem dX6_would_85 : decode cX6_would 85 = .ok (.aload_n 0, 1) := by decide +kernel
theorem dX6_would_86 : decode cX6_would 86 = .ok (.getfield 19, 3) := by decide +kernel
theorem dX6_would_89 : decode cX6_would 89 = .ok (.bipush 12, 2) := by decide +kernel
theorem dX6_would_91 : decode cX6_would 91 = .ok (.iaload, 1) := by decide +kernel
theorem dX6_would_92 : decode cX6_would 92 = .ok (.isub, 1) := by decide +kernel
theorem dX6_would_93 : decode cX6_would 93 = .ok (.goto 9, 3) := by decide +kernel
theorem dX6_would_96 : decode cX6_would 96 = .ok (.aload_n 0, 1) := by decide +kernel
theorem dX6_would_97 : decode cX6_would 97 = .ok (.getfield 7, 3) := by decide +kernel
theorem dX6_would_100 : decode cX6_would 100 = .ok (.iconst 2, 1) := by decide +kernel
theorem dX6_would_101 : decode cX6_would 101 = .ok (.iaload, 1) := by decide +kernel
theorem dX6_would_102 : decode cX6_would 102 = .ok (.istore_n 3, 1) := by decide +kernel
theorem dX6_would_103 : decode cX6_would 103 = .ok (.aload_n 0, 1) := by decide +kernel
theorem dX6_would_104 : decode cX6_would 104 = .ok (.getfield 19, 3) := by decide +kernel
theorem dX6_would_107 : decode cX6_would 107 = .ok (.aload_n 0, 1) := by decide +kernel
theorem dX6_would_108 : decode cX6_would 108 = .ok (.getfield 7, 3) := by decide +kernel
theorem dX6_would_111 : decode cX6_would 111 = .ok (.invokestatic 114, 3) := by decide +kernel
theorem dX6_would_114 : decode cX6_would 114 = .ok (.iload_n 3, 1) := by decide +kernel
theorem dX6_would_115 : decode cX6_would 115 = .ok (.ireturn, 1) := by decide +kernel
theorem dX6_seaAt_0 : decode cX6_seaAt 0 = .ok (.iload_n 1, 1) := by decide +kernel
theorem dX6_seaAt_1 : decode cX6_seaAt 1 = .ok (.sipush (-400), 3) := by decide +kernel
theorem dX6_seaAt_4 : decode cX6_seaAt 4 = .ok (.sipush 400, 3) := by decide +kernel
theorem dX6_seaAt_7 : decode cX6_seaAt 7 = .ok (.invokestatic 40, 3) := by decide +kernel
theorem dX6_seaAt_10 : decode cX6_seaAt 10 = .ok (.ifCond .ne 6, 3) := by decide +kernel
theorem dX6_seaAt_13 : decode cX6_seaAt 13 = .ok (.ldc 48, 2) := by decide +kernel
theorem dX6_seaAt_15 : decode cX6_seaAt 15 = .ok (.ireturn, 1) := by decide +kernel
theorem dX6_seaAt_16 : decode cX6_seaAt 16 = .ok (.iconst 0, 1) := by decide +kernel
theorem dX6_seaAt_17 : decode cX6_seaAt 17 = .ok (.istore_n 2, 1) := by decide +kernel
theorem dX6_seaAt_18 : decode cX6_seaAt 18 = .ok (.iload_n 2, 1) := by decide +kernel
theorem dX6_seaAt_19 : decode cX6_seaAt 19 = .ok (.sipush 2016, 3) := by decide +kernel
theorem dX6_seaAt_22 : decode cX6_seaAt 22 = .ok (.if_icmp .gt 26, 3) := by decide +kernel
theorem dX6_seaAt_25 : decode cX6_seaAt 25 = .ok (.aload_n 0, 1) := by decide +kernel
theorem dX6_seaAt_26 : decode cX6_seaAt 26 = .ok (.getfield 7, 3) := by decide +kernel
theorem dX6_seaAt_29 : decode cX6_seaAt 29 = .ok (.iconst 0, 1) := by decide +kernel
theorem dX6_seaAt_30 : decode cX6_seaAt 30 = .ok (.iaload, 1) := by decide +kernel
theorem dX6_seaAt_31 : decode cX6_seaAt 31 = .ok (.iload_n 2, 1) := by decide +kernel
theorem dX6_seaAt_32 : decode cX6_seaAt 32 = .ok (.iadd, 1) := by decide +kernel
theorem dX6_seaAt_33 : decode cX6_seaAt 33 = .ok (.invokestatic 56, 3) := by decide +kernel
theorem dX6_seaAt_36 : decode cX6_seaAt 36 = .ok (.iload_n 1, 1) := by decide +kernel
theorem dX6_seaAt_37 : decode cX6_seaAt 37 = .ok (.if_icmp .lt 5, 3) := by decide +kernel
theorem dX6_seaAt_40 : decode cX6_seaAt 40 = .ok (.iload_n 2, 1) := by decide +kernel
theorem dX6_seaAt_41 : decode cX6_seaAt 41 = .ok (.ireturn, 1) := by decide +kernel
theorem dX6_seaAt_42 : decode cX6_seaAt 42 = .ok (.iinc 2 1, 3) := by decide +kernel
theorem dX6_seaAt_45 : decode cX6_seaAt 45 = .ok (.goto (-27), 3) := by decide +kernel
theorem dX6_seaAt_48 : decode cX6_seaAt 48 = .ok (.ldc 92, 2) := by decide +kernel
theorem dX6_seaAt_50 : decode cX6_seaAt 50 = .ok (.ireturn, 1) := by decide +kernel
theorem dX6_best_0 : decode cX6_best 0 = .ok (.iload_n 1, 1) := by decide +kernel
theorem dX6_best_1 : decode cX6_best 1 = .ok (.iconst 1, 1) := by decide +kernel
theorem dX6_best_2 : decode cX6_best 2 = .ok (.sipush 150, 3) := by decide +kernel
theorem dX6_best_5 : decode cX6_best 5 = .ok (.invokestatic 40, 3) := by decide +kernel
theorem dX6_best_8 : decode cX6_best 8 = .ok (.ifCond .eq 12, 3) := by decide +kernel
theorem dX6_best_11 : decode cX6_best 11 = .ok (.iload_n 2, 1) := by decide +kernel
theorem dX6_best_12 : decode cX6_best 12 = .ok (.iconst 0, 1) := by decide +kernel
theorem dX6_best_13 : decode cX6_best 13 = .ok (.iconst 1, 1) := by decide +kernel
theorem dX6_best_14 : decode cX6_best 14 = .ok (.invokestatic 40, 3) := by decide +kernel
theorem dX6_best_17 : decode cX6_best 17 = .ok (.ifCond .ne 6, 3) := by decide +kernel
theorem dX6_best_20 : decode cX6_best 20 = .ok (.ldc 48, 2) := by decide +kernel
theorem dX6_best_22 : decode cX6_best 22 = .ok (.ireturn, 1) := by decide +kernel
theorem dX6_best_23 : decode cX6_best 23 = .ok (.aload_n 0, 1) := by decide +kernel
theorem dX6_best_24 : decode cX6_best 24 = .ok (.getfield 7, 3) := by decide +kernel
theorem dX6_best_27 : decode cX6_best 27 = .ok (.aload_n 0, 1) := by decide +kernel
theorem dX6_best_28 : decode cX6_best 28 = .ok (.getfield 19, 3) := by decide +kernel
theorem dX6_best_31 : decode cX6_best 31 = .ok (.invokestatic 114, 3) := by decide +kernel
theorem dX6_best_34 : decode cX6_best 34 = .ok (.iconst 0, 1) := by decide +kernel
theorem dX6_best_35 : decode cX6_best 35 = .ok (.istore_n 3, 1) := by decide +kernel
theorem dX6_best_36 : decode cX6_best 36 = .ok (.iconst 0, 1) := by decide +kernel
theorem dX6_best_37 : decode cX6_best 37 = .ok (.istore 4, 2) := by decide +kernel
theorem dX6_best_39 : decode cX6_best 39 = .ok (.iconst 0, 1) := by decide +kernel
theorem dX6_best_40 : decode cX6_best 40 = .ok (.istore 5, 2) := by decide +kernel
theorem dX6_best_42 : decode cX6_best 42 = .ok (.iload 5, 2) := by decide +kernel
theorem dX6_best_44 : decode cX6_best 44 = .ok (.bipush 7, 2) := by decide +kernel
theorem dX6_best_46 : decode cX6_best 46 = .ok (.if_icmp .ge 111, 3) := by decide +kernel
theorem dX6_best_49 : decode cX6_best 49 = .ok (.aload_n 0, 1) := by decide +kernel
theorem dX6_best_50 : decode cX6_best 50 = .ok (.getfield 7, 3) := by decide +kernel
theorem dX6_best_53 : decode cX6_best 53 = .ok (.iconst 4, 1) := by decide +kernel
theorem dX6_best_54 : decode cX6_best 54 = .ok (.iload 5, 2) := by decide +kernel
theorem dX6_best_56 : decode cX6_best 56 = .ok (.iastore, 1) := by decide +kernel
theorem dX6_best_57 : decode cX6_best 57 = .ok (.aload_n 0, 1) := by decide +kernel
theorem dX6_best_58 : decode cX6_best 58 = .ok (.iload_n 1, 1) := by decide +kernel
theorem dX6_best_59 : decode cX6_best 59 = .ok (.invokevirtual 106, 3) := by decide +kernel
theorem dX6_best_62 : decode cX6_best 62 = .ok (.aload_n 0, 1) := by decide +kernel
theorem dX6_best_63 : decode cX6_best 63 = .ok (.getfield 7, 3) := by decide +kernel
theorem dX6_best_66 : decode cX6_best 66 = .ok (.bipush 11, 2) := by decide +kernel
theorem dX6_best_68 : decode cX6_best 68 = .ok (.iaload, 1) := by decide +kernel
theorem dX6_best_69 : decode cX6_best 69 = .ok (.aload_n 0, 1) := by decide +kernel
theorem dX6_best_70 : decode cX6_best 70 = .ok (.getfield 19, 3) := by decide +kernel
theorem dX6_best_73 : decode cX6_best 73 = .ok (.bipush 11, 2) := by decide +kernel
theorem dX6_best_75 : decode cX6_best 75 = .ok (.iaload, 1) := by decide +kernel
theorem dX6_best_76 : decode cX6_best 76 = .ok (.isub, 1) := by decide +kernel
theorem dX6_best_77 : decode cX6_best 77 = .ok (.aload_n 0, 1) := by decide +kernel
theorem dX6_best_78 : decode cX6_best 78 = .ok (.getfield 7, 3) := by decide +kernel
theorem dX6_best_81 : decode cX6_best 81 = .ok (.bipush 12, 2) := by decide +kernel
theorem dX6_best_83 : decode cX6_best 83 = .ok (.iaload, 1) := by decide +kernel
theorem dX6_best_84 : decode cX6_best 84 = .ok (.aload_n 0, 1) := by decide +kernel
theorem dX6_best_85 : decode cX6_best 85 = .ok (.getfield 19, 3) := by decide +kernel
theorem dX6_best_88 : decode cX6_best 88 = .ok (.bipush 12, 2) := by decide +kernel
theorem dX6_best_90 : decode cX6_best 90 = .ok (.iaload, 1) := by decide +kernel
theorem dX6_best_91 : decode cX6_best 91 = .ok (.isub, 1) := by decide +kernel
theorem dX6_best_92 : decode cX6_best 92 = .ok (.isub, 1) := by decide +kernel
theorem dX6_best_93 : decode cX6_best 93 = .ok (.istore 6, 2) := by decide +kernel
theorem dX6_best_95 : decode cX6_best 95 = .ok (.aload_n 0, 1) := by decide +kernel
theorem dX6_best_96 : decode cX6_best 96 = .ok (.getfield 19, 3) := by decide +kernel
theorem dX6_best_99 : decode cX6_best 99 = .ok (.aload_n 0, 1) := by decide +kernel
theorem dX6_best_100 : decode cX6_best 100 = .ok (.getfield 7, 3) := by decide +kernel
theorem dX6_best_103 : decode cX6_best 103 = .ok (.invokestatic 114, 3) := by decide +kernel
theorem dX6_best_106 : decode cX6_best 106 = .ok (.iload 5, 2) := by decide +kernel
theorem dX6_best_108 : decode cX6_best 108 = .ok (.ifCond .eq 10, 3) := by decide +kernel
theorem dX6_best_111 : decode cX6_best 111 = .ok (.iload 6, 2) := by decide +kernel
theorem dX6_best_113 : decode cX6_best 113 = .ok (.iload 4, 2) := by decide +kernel
theorem dX6_best_115 : decode cX6_best 115 = .ok (.if_icmp .le 7, 3) := by decide +kernel
theorem dX6_best_118 : decode cX6_best 118 = .ok (.iconst 1, 1) := by decide +kernel
theorem dX6_best_119 : decode cX6_best 119 = .ok (.goto 4, 3) := by decide +kernel
theorem dX6_best_122 : decode cX6_best 122 = .ok (.iconst 0, 1) := by decide +kernel
theorem dX6_best_123 : decode cX6_best 123 = .ok (.istore 7, 2) := by decide +kernel
theorem dX6_best_125 : decode cX6_best 125 = .ok (.iload 7, 2) := by decide +kernel
theorem dX6_best_127 : decode cX6_best 127 = .ok (.ifCond .eq 8, 3) := by decide +kernel
theorem dX6_best_130 : decode cX6_best 130 = .ok (.iload 5, 2) := by decide +kernel
theorem dX6_best_132 : decode cX6_best 132 = .ok (.goto 4, 3) := by decide +kernel
theorem dX6_best_135 : decode cX6_best 135 = .ok (.iload_n 3, 1) := by decide +kernel
theorem dX6_best_136 : decode cX6_best 136 = .ok (.istore_n 3, 1) := by decide +kernel
theorem dX6_best_137 : decode cX6_best 137 = .ok (.iload 7, 2) := by decide +kernel
theorem dX6_best_139 : decode cX6_best 139 = .ok (.ifCond .eq 8, 3) := by decide +kernel
theorem dX6_best_142 : decode cX6_best 142 = .ok (.iload 6, 2) := by decide +kernel
theorem dX6_best_144 : decode cX6_best 144 = .ok (.goto 5, 3) := by decide +kernel
theorem dX6_best_147 : decode cX6_best 147 = .ok (.iload 4, 2) := by decide +kernel
theorem dX6_best_149 : decode cX6_best 149 = .ok (.istore 4, 2) := by decide +kernel
theorem dX6_best_151 : decode cX6_best 151 = .ok (.iinc 5 1, 3) := by decide +kernel
theorem dX6_best_154 : decode cX6_best 154 = .ok (.goto (-112), 3) := by decide +kernel
theorem dX6_best_157 : decode cX6_best 157 = .ok (.iload_n 2, 1) := by decide +kernel
theorem dX6_best_158 : decode cX6_best 158 = .ok (.ifCond .ne 7, 3) := by decide +kernel
theorem dX6_best_161 : decode cX6_best 161 = .ok (.iload_n 3, 1) := by decide +kernel
theorem dX6_best_162 : decode cX6_best 162 = .ok (.goto 5, 3) := by decide +kernel
theorem dX6_best_165 : decode cX6_best 165 = .ok (.iload 4, 2) := by decide +kernel
theorem dX6_best_167 : decode cX6_best 167 = .ok (.ireturn, 1) := by decide +kernel
theorem dX6_gatesFor_0 : decode cX6_gatesFor 0 = .ok (.iload_n 1, 1) := by decide +kernel
theorem dX6_gatesFor_1 : decode cX6_gatesFor 1 = .ok (.iconst 1, 1) := by decide +kernel
theorem dX6_gatesFor_2 : decode cX6_gatesFor 2 = .ok (.sipush 150, 3) := by decide +kernel
theorem dX6_gatesFor_5 : decode cX6_gatesFor 5 = .ok (.invokestatic 40, 3) := by decide +kernel
theorem dX6_gatesFor_8 : decode cX6_gatesFor 8 = .ok (.ifCond .eq 16, 3) := by decide +kernel
theorem dX6_gatesFor_11 : decode cX6_gatesFor 11 = .ok (.iload_n 2, 1) := by decide +kernel
theorem dX6_gatesFor_12 : decode cX6_gatesFor 12 = .ok (.sipush (-400), 3) := by decide +kernel
theorem dX6_gatesFor_15 : decode cX6_gatesFor 15 = .ok (.sipush 600, 3) := by decide +kernel
theorem dX6_gatesFor_18 : decode cX6_gatesFor 18 = .ok (.invokestatic 40, 3) := by decide +kernel
theorem dX6_gatesFor_21 : decode cX6_gatesFor 21 = .ok (.ifCond .ne 6, 3) := by decide +kernel
theorem dX6_gatesFor_24 : decode cX6_gatesFor 24 = .ok (.ldc 48, 2) := by decide +kernel
theorem dX6_gatesFor_26 : decode cX6_gatesFor 26 = .ok (.ireturn, 1) := by decide +kernel
theorem dX6_gatesFor_27 : decode cX6_gatesFor 27 = .ok (.aload_n 0, 1) := by decide +kernel
theorem dX6_gatesFor_28 : decode cX6_gatesFor 28 = .ok (.getfield 7, 3) := by decide +kernel
theorem dX6_gatesFor_31 : decode cX6_gatesFor 31 = .ok (.aload_n 0, 1) := by decide +kernel
theorem dX6_gatesFor_32 : decode cX6_gatesFor 32 = .ok (.getfield 19, 3) := by decide +kernel
theorem dX6_gatesFor_35 : decode cX6_gatesFor 35 = .ok (.invokestatic 114, 3) := by decide +kernel
theorem dX6_gatesFor_38 : decode cX6_gatesFor 38 = .ok (.iconst 0, 1) := by decide +kernel
theorem dX6_gatesFor_39 : decode cX6_gatesFor 39 = .ok (.istore_n 3, 1) := by decide +kernel
theorem dX6_gatesFor_40 : decode cX6_gatesFor 40 = .ok (.iconst 0, 1) := by decide +kernel
theorem dX6_gatesFor_41 : decode cX6_gatesFor 41 = .ok (.istore 4, 2) := by decide +kernel
theorem dX6_gatesFor_43 : decode cX6_gatesFor 43 = .ok (.iconst 0, 1) := by decide +kernel
theorem dX6_gatesFor_44 : decode cX6_gatesFor 44 = .ok (.istore 5, 2) := by decide +kernel
theorem dX6_gatesFor_46 : decode cX6_gatesFor 46 = .ok (.iload 5, 2) := by decide +kernel
theorem dX6_gatesFor_48 : decode cX6_gatesFor 48 = .ok (.bipush 9, 2) := by decide +kernel
theorem dX6_gatesFor_50 : decode cX6_gatesFor 50 = .ok (.if_icmp .ge 89, 3) := by decide +kernel
theorem dX6_gatesFor_53 : decode cX6_gatesFor 53 = .ok (.aload_n 0, 1) := by decide +kernel
theorem dX6_gatesFor_54 : decode cX6_gatesFor 54 = .ok (.getfield 7, 3) := by decide +kernel
theorem dX6_gatesFor_57 : decode cX6_gatesFor 57 = .ok (.iconst 3, 1) := by decide +kernel
theorem dX6_gatesFor_58 : decode cX6_gatesFor 58 = .ok (.iload 5, 2) := by decide +kernel
theorem dX6_gatesFor_60 : decode cX6_gatesFor 60 = .ok (.iastore, 1) := by decide +kernel
theorem dX6_gatesFor_61 : decode cX6_gatesFor 61 = .ok (.aload_n 0, 1) := by decide +kernel
theorem dX6_gatesFor_62 : decode cX6_gatesFor 62 = .ok (.iload_n 1, 1) := by decide +kernel
theorem dX6_gatesFor_63 : decode cX6_gatesFor 63 = .ok (.invokevirtual 106, 3) := by decide +kernel
theorem dX6_gatesFor_66 : decode cX6_gatesFor 66 = .ok (.aload_n 0, 1) := by decide +kernel
theorem dX6_gatesFor_67 : decode cX6_gatesFor 67 = .ok (.invokevirtual 59, 3) := by decide +kernel
theorem dX6_gatesFor_70 : decode cX6_gatesFor 70 = .ok (.iload_n 2, 1) := by decide +kernel
theorem dX6_gatesFor_71 : decode cX6_gatesFor 71 = .ok (.isub, 1) := by decide +kernel
theorem dX6_gatesFor_72 : decode cX6_gatesFor 72 = .ok (.invokestatic 49, 3) := by decide +kernel
theorem dX6_gatesFor_75 : decode cX6_gatesFor 75 = .ok (.istore 6, 2) := by decide +kernel
theorem dX6_gatesFor_77 : decode cX6_gatesFor 77 = .ok (.aload_n 0, 1) := by decide +kernel
theorem dX6_gatesFor_78 : decode cX6_gatesFor 78 = .ok (.getfield 19, 3) := by decide +kernel
theorem dX6_gatesFor_81 : decode cX6_gatesFor 81 = .ok (.aload_n 0, 1) := by decide +kernel
theorem dX6_gatesFor_82 : decode cX6_gatesFor 82 = .ok (.getfield 7, 3) := by decide +kernel
theorem dX6_gatesFor_85 : decode cX6_gatesFor 85 = .ok (.invokestatic 114, 3) := by decide +kernel
theorem dX6_gatesFor_88 : decode cX6_gatesFor 88 = .ok (.iload 5, 2) := by decide +kernel
theorem dX6_gatesFor_90 : decode cX6_gatesFor 90 = .ok (.ifCond .eq 10, 3) := by decide +kernel
theorem dX6_gatesFor_93 : decode cX6_gatesFor 93 = .ok (.iload 6, 2) := by decide +kernel
theorem dX6_gatesFor_95 : decode cX6_gatesFor 95 = .ok (.iload 4, 2) := by decide +kernel
theorem dX6_gatesFor_97 : decode cX6_gatesFor 97 = .ok (.if_icmp .ge 7, 3) := by decide +kernel
theorem dX6_gatesFor_100 : decode cX6_gatesFor 100 = .ok (.iconst 1, 1) := by decide +kernel
theorem dX6_gatesFor_101 : decode cX6_gatesFor 101 = .ok (.goto 4, 3) := by decide +kernel
theorem dX6_gatesFor_104 : decode cX6_gatesFor 104 = .ok (.iconst 0, 1) := by decide +kernel
theorem dX6_gatesFor_105 : decode cX6_gatesFor 105 = .ok (.istore 7, 2) := by decide +kernel
theorem dX6_gatesFor_107 : decode cX6_gatesFor 107 = .ok (.iload 7, 2) := by decide +kernel
theorem dX6_gatesFor_109 : decode cX6_gatesFor 109 = .ok (.ifCond .eq 8, 3) := by decide +kernel
theorem dX6_gatesFor_112 : decode cX6_gatesFor 112 = .ok (.iload 5, 2) := by decide +kernel
theorem dX6_gatesFor_114 : decode cX6_gatesFor 114 = .ok (.goto 4, 3) := by decide +kernel
theorem dX6_gatesFor_117 : decode cX6_gatesFor 117 = .ok (.iload_n 3, 1) := by decide +kernel
theorem dX6_gatesFor_118 : decode cX6_gatesFor 118 = .ok (.istore_n 3, 1) := by decide +kernel
theorem dX6_gatesFor_119 : decode cX6_gatesFor 119 = .ok (.iload 7, 2) := by decide +kernel
theorem dX6_gatesFor_121 : decode cX6_gatesFor 121 = .ok (.ifCond .eq 8, 3) := by decide +kernel
theorem dX6_gatesFor_124 : decode cX6_gatesFor 124 = .ok (.iload 6, 2) := by decide +kernel
theorem dX6_gatesFor_126 : decode cX6_gatesFor 126 = .ok (.goto 5, 3) := by decide +kernel
theorem dX6_gatesFor_129 : decode cX6_gatesFor 129 = .ok (.iload 4, 2) := by decide +kernel
theorem dX6_gatesFor_131 : decode cX6_gatesFor 131 = .ok (.istore 4, 2) := by decide +kernel
theorem dX6_gatesFor_133 : decode cX6_gatesFor 133 = .ok (.iinc 5 1, 3) := by decide +kernel
theorem dX6_gatesFor_136 : decode cX6_gatesFor 136 = .ok (.goto (-90), 3) := by decide +kernel
theorem dX6_gatesFor_139 : decode cX6_gatesFor 139 = .ok (.iload_n 3, 1) := by decide +kernel
theorem dX6_gatesFor_140 : decode cX6_gatesFor 140 = .ok (.ireturn, 1) := by decide +kernel
theorem dX6_bestDay_0 : decode cX6_bestDay 0 = .ok (.ldc 92, 2) := by decide +kernel
theorem dX6_bestDay_2 : decode cX6_bestDay 2 = .ok (.istore_n 1, 1) := by decide +kernel
theorem dX6_bestDay_3 : decode cX6_bestDay 3 = .ok (.iconst 0, 1) := by decide +kernel
theorem dX6_bestDay_4 : decode cX6_bestDay 4 = .ok (.istore_n 2, 1) := by decide +kernel
theorem dX6_bestDay_5 : decode cX6_bestDay 5 = .ok (.iload_n 2, 1) := by decide +kernel
theorem dX6_bestDay_6 : decode cX6_bestDay 6 = .ok (.aload_n 0, 1) := by decide +kernel
theorem dX6_bestDay_7 : decode cX6_bestDay 7 = .ok (.getfield 7, 3) := by decide +kernel
theorem dX6_bestDay_10 : decode cX6_bestDay 10 = .ok (.bipush 18, 2) := by decide +kernel
theorem dX6_bestDay_12 : decode cX6_bestDay 12 = .ok (.iaload, 1) := by decide +kernel
theorem dX6_bestDay_13 : decode cX6_bestDay 13 = .ok (.if_icmp .ge 50, 3) := by decide +kernel
theorem dX6_bestDay_16 : decode cX6_bestDay 16 = .ok (.iload_n 1, 1) := by decide +kernel
theorem dX6_bestDay_17 : decode cX6_bestDay 17 = .ok (.ifCond .lt 28, 3) := by decide +kernel
theorem dX6_bestDay_20 : decode cX6_bestDay 20 = .ok (.aload_n 0, 1) := by decide +kernel
theorem dX6_bestDay_21 : decode cX6_bestDay 21 = .ok (.getfield 7, 3) := by decide +kernel
theorem dX6_bestDay_24 : decode cX6_bestDay 24 = .ok (.bipush 19, 2) := by decide +kernel
theorem dX6_bestDay_26 : decode cX6_bestDay 26 = .ok (.bipush 7, 2) := by decide +kernel
theorem dX6_bestDay_28 : decode cX6_bestDay 28 = .ok (.iload_n 2, 1) := by decide +kernel
theorem dX6_bestDay_29 : decode cX6_bestDay 29 = .ok (.imul, 1) := by decide +kernel
theorem dX6_bestDay_30 : decode cX6_bestDay 30 = .ok (.iadd, 1) := by decide +kernel
theorem dX6_bestDay_31 : decode cX6_bestDay 31 = .ok (.iconst 1, 1) := by decide +kernel
theorem dX6_bestDay_32 : decode cX6_bestDay 32 = .ok (.iadd, 1) := by decide +kernel
theorem dX6_bestDay_33 : decode cX6_bestDay 33 = .ok (.iaload, 1) := by decide +kernel
theorem dX6_bestDay_34 : decode cX6_bestDay 34 = .ok (.aload_n 0, 1) := by decide +kernel
theorem dX6_bestDay_35 : decode cX6_bestDay 35 = .ok (.getfield 7, 3) := by decide +kernel
theorem dX6_bestDay_38 : decode cX6_bestDay 38 = .ok (.iload_n 1, 1) := by decide +kernel
theorem dX6_bestDay_39 : decode cX6_bestDay 39 = .ok (.iconst 1, 1) := by decide +kernel
theorem dX6_bestDay_40 : decode cX6_bestDay 40 = .ok (.iadd, 1) := by decide +kernel
theorem dX6_bestDay_41 : decode cX6_bestDay 41 = .ok (.iaload, 1) := by decide +kernel
theorem dX6_bestDay_42 : decode cX6_bestDay 42 = .ok (.if_icmp .le 13, 3) := by decide +kernel
theorem dX6_bestDay_45 : decode cX6_bestDay 45 = .ok (.bipush 19, 2) := by decide +kernel
theorem dX6_bestDay_47 : decode cX6_bestDay 47 = .ok (.bipush 7, 2) := by decide +kernel
theorem dX6_bestDay_49 : decode cX6_bestDay 49 = .ok (.iload_n 2, 1) := by decide +kernel
theorem dX6_bestDay_50 : decode cX6_bestDay 50 = .ok (.imul, 1) := by decide +kernel
theorem dX6_bestDay_51 : decode cX6_bestDay 51 = .ok (.iadd, 1) := by decide +kernel
theorem dX6_bestDay_52 : decode cX6_bestDay 52 = .ok (.goto 4, 3) := by decide +kernel
theorem dX6_bestDay_55 : decode cX6_bestDay 55 = .ok (.iload_n 1, 1) := by decide +kernel
theorem dX6_bestDay_56 : decode cX6_bestDay 56 = .ok (.istore_n 1, 1) := by decide +kernel
theorem dX6_bestDay_57 : decode cX6_bestDay 57 = .ok (.iinc 2 1, 3) := by decide +kernel
theorem dX6_bestDay_60 : decode cX6_bestDay 60 = .ok (.goto (-55), 3) := by decide +kernel
theorem dX6_bestDay_63 : decode cX6_bestDay 63 = .ok (.iload_n 1, 1) := by decide +kernel
theorem dX6_bestDay_64 : decode cX6_bestDay 64 = .ok (.ifCond .ge 8, 3) := by decide +kernel
theorem dX6_bestDay_67 : decode cX6_bestDay 67 = .ok (.ldc 92, 2) := by decide +kernel
theorem dX6_bestDay_69 : decode cX6_bestDay 69 = .ok (.goto 9, 3) := by decide +kernel
theorem dX6_bestDay_72 : decode cX6_bestDay 72 = .ok (.aload_n 0, 1) := by decide +kernel
theorem dX6_bestDay_73 : decode cX6_bestDay 73 = .ok (.getfield 7, 3) := by decide +kernel
theorem dX6_bestDay_76 : decode cX6_bestDay 76 = .ok (.iload_n 1, 1) := by decide +kernel
theorem dX6_bestDay_77 : decode cX6_bestDay 77 = .ok (.iaload, 1) := by decide +kernel
theorem dX6_bestDay_78 : decode cX6_bestDay 78 = .ok (.ireturn, 1) := by decide +kernel
theorem dX6_share_0 : decode cX6_share 0 = .ok (.aload_n 0, 1) := by decide +kernel
theorem dX6_share_1 : decode cX6_share 1 = .ok (.getfield 7, 3) := by decide +kernel
theorem dX6_share_4 : decode cX6_share 4 = .ok (.bipush 12, 2) := by decide +kernel
theorem dX6_share_6 : decode cX6_share 6 = .ok (.iaload, 1) := by decide +kernel
theorem dX6_share_7 : decode cX6_share 7 = .ok (.i2f, 1) := by decide +kernel
theorem dX6_share_8 : decode cX6_share 8 = .ok (.aload_n 0, 1) := by decide +kernel
theorem dX6_share_9 : decode cX6_share 9 = .ok (.getfield 7, 3) := by decide +kernel
theorem dX6_share_12 : decode cX6_share 12 = .ok (.bipush 11, 2) := by decide +kernel
theorem dX6_share_14 : decode cX6_share 14 = .ok (.iaload, 1) := by decide +kernel
theorem dX6_share_15 : decode cX6_share 15 = .ok (.ifCond .ne 7, 3) := by decide +kernel
theorem dX6_share_18 : decode cX6_share 18 = .ok (.iconst 1, 1) := by decide +kernel
theorem dX6_share_19 : decode cX6_share 19 = .ok (.goto 10, 3) := by decide +kernel
theorem dX6_share_22 : decode cX6_share 22 = .ok (.aload_n 0, 1) := by decide +kernel
theorem dX6_share_23 : decode cX6_share 23 = .ok (.getfield 7, 3) := by decide +kernel
theorem dX6_share_26 : decode cX6_share 26 = .ok (.bipush 11, 2) := by decide +kernel
theorem dX6_share_28 : decode cX6_share 28 = .ok (.iaload, 1) := by decide +kernel
theorem dX6_share_29 : decode cX6_share 29 = .ok (.i2f, 1) := by decide +kernel
theorem dX6_share_30 : decode cX6_share 30 = .ok (.fdiv, 1) := by decide +kernel
theorem dX6_share_31 : decode cX6_share 31 = .ok (.fstore_n 1, 1) := by decide +kernel
theorem dX6_share_32 : decode cX6_share 32 = .ok (.aload_n 0, 1) := by decide +kernel
theorem dX6_share_33 : decode cX6_share 33 = .ok (.getfield 7, 3) := by decide +kernel
theorem dX6_share_36 : decode cX6_share 36 = .ok (.bipush 11, 2) := by decide +kernel
theorem dX6_share_38 : decode cX6_share 38 = .ok (.iaload, 1) := by decide +kernel
theorem dX6_share_39 : decode cX6_share 39 = .ok (.ifCond .ne 8, 3) := by decide +kernel
theorem dX6_share_42 : decode cX6_share 42 = .ok (.ldc 92, 2) := by decide +kernel
theorem dX6_share_44 : decode cX6_share 44 = .ok (.goto 7, 3) := by decide +kernel
theorem dX6_share_47 : decode cX6_share 47 = .ok (.fload_n 1, 1) := by decide +kernel
theorem dX6_share_48 : decode cX6_share 48 = .ok (.invokestatic 118, 3) := by decide +kernel
theorem dX6_share_51 : decode cX6_share 51 = .ok (.ireturn, 1) := by decide +kernel
theorem dX6_count_0 : decode cX6_count 0 = .ok (.iload_n 1, 1) := by decide +kernel
theorem dX6_count_1 : decode cX6_count 1 = .ok (.tableswitch 75 0 9 #[55, 55, 55, 55, 55, 55, 55, 55, 65, 70], 55) := by decide +kernel
theorem dX6_count_56 : decode cX6_count 56 = .ok (.aload_n 0, 1) := by decide +kernel
theorem dX6_count_57 : decode cX6_count 57 = .ok (.getfield 7, 3) := by decide +kernel
theorem dX6_count_60 : decode cX6_count 60 = .ok (.bipush 11, 2) := by decide +kernel
theorem dX6_count_62 : decode cX6_count 62 = .ok (.iload_n 1, 1) := by decide +kernel
theorem dX6_count_63 : decode cX6_count 63 = .ok (.iadd, 1) := by decide +kernel
theorem dX6_count_64 : decode cX6_count 64 = .ok (.iaload, 1) := by decide +kernel
theorem dX6_count_65 : decode cX6_count 65 = .ok (.ireturn, 1) := by decide +kernel
theorem dX6_count_66 : decode cX6_count 66 = .ok (.aload_n 0, 1) := by decide +kernel
theorem dX6_count_67 : decode cX6_count 67 = .ok (.getfield 33, 3) := by decide +kernel
theorem dX6_count_70 : decode cX6_count 70 = .ok (.ireturn, 1) := by decide +kernel
theorem dX6_count_71 : decode cX6_count 71 = .ok (.aload_n 0, 1) := by decide +kernel
theorem dX6_count_72 : decode cX6_count 72 = .ok (.getfield 124, 3) := by decide +kernel
theorem dX6_count_75 : decode cX6_count 75 = .ok (.ireturn, 1) := by decide +kernel
theorem dX6_count_76 : decode cX6_count 76 = .ok (.iload_n 1, 1) := by decide +kernel
theorem dX6_count_77 : decode cX6_count 77 = .ok (.bipush 20, 2) := by decide +kernel
theorem dX6_count_79 : decode cX6_count 79 = .ok (.bipush 22, 2) := by decide +kernel
theorem dX6_count_81 : decode cX6_count 81 = .ok (.invokestatic 40, 3) := by decide +kernel
theorem dX6_count_84 : decode cX6_count 84 = .ok (.ifCond .eq 18, 3) := by decide +kernel
theorem dX6_count_87 : decode cX6_count 87 = .ok (.aload_n 0, 1) := by decide +kernel
theorem dX6_count_88 : decode cX6_count 88 = .ok (.getfield 7, 3) := by decide +kernel
theorem dX6_count_91 : decode cX6_count 91 = .ok (.bipush 8, 2) := by decide +kernel
theorem dX6_count_93 : decode cX6_count 93 = .ok (.iload_n 1, 1) := by decide +kernel
theorem dX6_count_94 : decode cX6_count 94 = .ok (.iadd, 1) := by decide +kernel
theorem dX6_count_95 : decode cX6_count 95 = .ok (.bipush 20, 2) := by decide +kernel
theorem dX6_count_97 : decode cX6_count 97 = .ok (.isub, 1) := by decide +kernel
theorem dX6_count_98 : decode cX6_count 98 = .ok (.iaload, 1) := by decide +kernel
theorem dX6_count_99 : decode cX6_count 99 = .ok (.goto 5, 3) := by decide +kernel
theorem dX6_count_102 : decode cX6_count 102 = .ok (.ldc 48, 2) := by decide +kernel
theorem dX6_count_104 : decode cX6_count 104 = .ok (.ireturn, 1) := by decide +kernel
theorem dX6_undo_0 : decode cX6_undo 0 = .ok (.aload_n 0, 1) := by decide +kernel
theorem dX6_undo_1 : decode cX6_undo 1 = .ok (.getfield 33, 3) := by decide +kernel
theorem dX6_undo_4 : decode cX6_undo 4 = .ok (.ifCond .ne 6, 3) := by decide +kernel
theorem dX6_undo_7 : decode cX6_undo 7 = .ok (.ldc 110, 2) := by decide +kernel
theorem dX6_undo_9 : decode cX6_undo 9 = .ok (.ireturn, 1) := by decide +kernel
theorem dX6_undo_10 : decode cX6_undo 10 = .ok (.aload_n 0, 1) := by decide +kernel
theorem dX6_undo_11 : decode cX6_undo 11 = .ok (.dup, 1) := by decide +kernel
theorem dX6_undo_12 : decode cX6_undo 12 = .ok (.getfield 33, 3) := by decide +kernel
theorem dX6_undo_15 : decode cX6_undo 15 = .ok (.iconst 1, 1) := by decide +kernel
theorem dX6_undo_16 : decode cX6_undo 16 = .ok (.isub, 1) := by decide +kernel
theorem dX6_undo_17 : decode cX6_undo 17 = .ok (.putfield 33, 3) := by decide +kernel
theorem dX6_undo_20 : decode cX6_undo 20 = .ok (.iconst 0, 1) := by decide +kernel
theorem dX6_undo_21 : decode cX6_undo 21 = .ok (.istore_n 1, 1) := by decide +kernel
theorem dX6_undo_22 : decode cX6_undo 22 = .ok (.iload_n 1, 1) := by decide +kernel
theorem dX6_undo_23 : decode cX6_undo 23 = .ok (.bipush 89, 2) := by decide +kernel
theorem dX6_undo_25 : decode cX6_undo 25 = .ok (.if_icmp .ge 29, 3) := by decide +kernel
theorem dX6_undo_28 : decode cX6_undo 28 = .ok (.aload_n 0, 1) := by decide +kernel
theorem dX6_undo_29 : decode cX6_undo 29 = .ok (.getfield 7, 3) := by decide +kernel
theorem dX6_undo_32 : decode cX6_undo 32 = .ok (.iload_n 1, 1) := by decide +kernel
theorem dX6_undo_33 : decode cX6_undo 33 = .ok (.aload_n 0, 1) := by decide +kernel
theorem dX6_undo_34 : decode cX6_undo 34 = .ok (.getfield 13, 3) := by decide +kernel
theorem dX6_undo_37 : decode cX6_undo 37 = .ok (.bipush 89, 2) := by decide +kernel
theorem dX6_undo_39 : decode cX6_undo 39 = .ok (.aload_n 0, 1) := by decide +kernel
theorem dX6_undo_40 : decode cX6_undo 40 = .ok (.getfield 33, 3) := by decide +kernel
theorem dX6_undo_43 : decode cX6_undo 43 = .ok (.imul, 1) := by decide +kernel
theorem dX6_undo_44 : decode cX6_undo 44 = .ok (.iload_n 1, 1) := by decide +kernel
theorem dX6_undo_45 : decode cX6_undo 45 = .ok (.iadd, 1) := by decide +kernel
theorem dX6_undo_46 : decode cX6_undo 46 = .ok (.iaload, 1) := by decide +kernel
theorem dX6_undo_47 : decode cX6_undo 47 = .ok (.iastore, 1) := by decide +kernel
theorem dX6_undo_48 : decode cX6_undo 48 = .ok (.iinc 1 1, 3) := by decide +kernel
theorem dX6_undo_51 : decode cX6_undo 51 = .ok (.goto (-29), 3) := by decide +kernel
theorem dX6_undo_54 : decode cX6_undo 54 = .ok (.aload_n 0, 1) := by decide +kernel
theorem dX6_undo_55 : decode cX6_undo 55 = .ok (.getfield 33, 3) := by decide +kernel
theorem dX6_undo_58 : decode cX6_undo 58 = .ok (.ireturn, 1) := by decide +kernel
theorem dX6_type_0 : decode cX6_type 0 = .ok (.iload_n 1, 1) := by decide +kernel
theorem dX6_type_1 : decode cX6_type 1 = .ok (.bipush 32, 2) := by decide +kernel
theorem dX6_type_3 : decode cX6_type 3 = .ok (.bipush 126, 2) := by decide +kernel
theorem dX6_type_5 : decode cX6_type 5 = .ok (.invokestatic 40, 3) := by decide +kernel
theorem dX6_type_8 : decode cX6_type 8 = .ok (.ifCond .ne 6, 3) := by decide +kernel
theorem dX6_type_11 : decode cX6_type 11 = .ok (.ldc 48, 2) := by decide +kernel
theorem dX6_type_13 : decode cX6_type 13 = .ok (.ireturn, 1) := by decide +kernel
theorem dX6_type_14 : decode cX6_type 14 = .ok (.aload_n 0, 1) := by decide +kernel
theorem dX6_type_15 : decode cX6_type 15 = .ok (.getfield 124, 3) := by decide +kernel
theorem dX6_type_18 : decode cX6_type 18 = .ok (.bipush 60, 2) := by decide +kernel
theorem dX6_type_20 : decode cX6_type 20 = .ok (.if_icmp .ne 6, 3) := by decide +kernel
theorem dX6_type_23 : decode cX6_type 23 = .ok (.ldc 105, 2) := by decide +kernel
theorem dX6_type_25 : decode cX6_type 25 = .ok (.ireturn, 1) := by decide +kernel
theorem dX6_type_26 : decode cX6_type 26 = .ok (.aload_n 0, 1) := by decide +kernel
theorem dX6_type_27 : decode cX6_type 27 = .ok (.getfield 22, 3) := by decide +kernel
theorem dX6_type_30 : decode cX6_type 30 = .ok (.aload_n 0, 1) := by decide +kernel
theorem dX6_type_31 : decode cX6_type 31 = .ok (.getfield 124, 3) := by decide +kernel
theorem dX6_type_34 : decode cX6_type 34 = .ok (.iload_n 1, 1) := by decide +kernel
theorem dX6_type_35 : decode cX6_type 35 = .ok (.iastore, 1) := by decide +kernel
theorem dX6_type_36 : decode cX6_type 36 = .ok (.aload_n 0, 1) := by decide +kernel
theorem dX6_type_37 : decode cX6_type 37 = .ok (.dup, 1) := by decide +kernel
theorem dX6_type_38 : decode cX6_type 38 = .ok (.getfield 124, 3) := by decide +kernel
theorem dX6_type_41 : decode cX6_type 41 = .ok (.iconst 1, 1) := by decide +kernel
theorem dX6_type_42 : decode cX6_type 42 = .ok (.iadd, 1) := by decide +kernel
theorem dX6_type_43 : decode cX6_type 43 = .ok (.putfield 124, 3) := by decide +kernel
theorem dX6_type_46 : decode cX6_type 46 = .ok (.aload_n 0, 1) := by decide +kernel
theorem dX6_type_47 : decode cX6_type 47 = .ok (.getfield 124, 3) := by decide +kernel
theorem dX6_type_50 : decode cX6_type 50 = .ok (.ireturn, 1) := by decide +kernel
theorem dX6_clearText_0 : decode cX6_clearText 0 = .ok (.aload_n 0, 1) := by decide +kernel
theorem dX6_clearText_1 : decode cX6_clearText 1 = .ok (.getfield 124, 3) := by decide +kernel
theorem dX6_clearText_4 : decode cX6_clearText 4 = .ok (.istore_n 1, 1) := by decide +kernel
theorem dX6_clearText_5 : decode cX6_clearText 5 = .ok (.aload_n 0, 1) := by decide +kernel
theorem dX6_clearText_6 : decode cX6_clearText 6 = .ok (.iconst 0, 1) := by decide +kernel
theorem dX6_clearText_7 : decode cX6_clearText 7 = .ok (.putfield 124, 3) := by decide +kernel
theorem dX6_clearText_10 : decode cX6_clearText 10 = .ok (.iload_n 1, 1) := by decide +kernel
theorem dX6_clearText_11 : decode cX6_clearText 11 = .ok (.ireturn, 1) := by decide +kernel
theorem dX6_isAt_0 : decode cX6_isAt 0 = .ok (.aload_n 0, 1) := by decide +kernel
theorem dX6_isAt_1 : decode cX6_isAt 1 = .ok (.getfield 127, 3) := by decide +kernel
theorem dX6_isAt_4 : decode cX6_isAt 4 = .ok (.aload_n 0, 1) := by decide +kernel
theorem dX6_isAt_5 : decode cX6_isAt 5 = .ok (.getfield 124, 3) := by decide +kernel
theorem dX6_isAt_8 : decode cX6_isAt 8 = .ok (.if_icmp .ge 24, 3) := by decide +kernel
theorem dX6_isAt_11 : decode cX6_isAt 11 = .ok (.aload_n 0, 1) := by decide +kernel
theorem dX6_isAt_12 : decode cX6_isAt 12 = .ok (.getfield 22, 3) := by decide +kernel
theorem dX6_isAt_15 : decode cX6_isAt 15 = .ok (.aload_n 0, 1) := by decide +kernel
theorem dX6_isAt_16 : decode cX6_isAt 16 = .ok (.getfield 127, 3) := by decide +kernel
theorem dX6_isAt_19 : decode cX6_isAt 19 = .ok (.iaload, 1) := by decide +kernel
theorem dX6_isAt_20 : decode cX6_isAt 20 = .ok (.iload_n 1, 1) := by decide +kernel
theorem dX6_isAt_21 : decode cX6_isAt 21 = .ok (.iload_n 2, 1) := by decide +kernel
theorem dX6_isAt_22 : decode cX6_isAt 22 = .ok (.invokestatic 40, 3) := by decide +kernel
theorem dX6_isAt_25 : decode cX6_isAt 25 = .ok (.ifCond .eq 7, 3) := by decide +kernel
theorem dX6_isAt_28 : decode cX6_isAt 28 = .ok (.iconst 1, 1) := by decide +kernel
theorem dX6_isAt_29 : decode cX6_isAt 29 = .ok (.goto 4, 3) := by decide +kernel
theorem dX6_isAt_32 : decode cX6_isAt 32 = .ok (.iconst 0, 1) := by decide +kernel
theorem dX6_isAt_33 : decode cX6_isAt 33 = .ok (.ireturn, 1) := by decide +kernel
theorem dX6_sign_0 : decode cX6_sign 0 = .ok (.aload_n 0, 1) := by decide +kernel
theorem dX6_sign_1 : decode cX6_sign 1 = .ok (.iload_n 1, 1) := by decide +kernel
theorem dX6_sign_2 : decode cX6_sign 2 = .ok (.iload_n 1, 1) := by decide +kernel
theorem dX6_sign_3 : decode cX6_sign 3 = .ok (.invokevirtual 130, 3) := by decide +kernel
theorem dX6_sign_6 : decode cX6_sign 6 = .ok (.istore_n 2, 1) := by decide +kernel
theorem dX6_sign_7 : decode cX6_sign 7 = .ok (.aload_n 0, 1) := by decide +kernel
theorem dX6_sign_8 : decode cX6_sign 8 = .ok (.dup, 1) := by decide +kernel
theorem dX6_sign_9 : decode cX6_sign 9 = .ok (.getfield 127, 3) := by decide +kernel
theorem dX6_sign_12 : decode cX6_sign 12 = .ok (.iload_n 2, 1) := by decide +kernel
theorem dX6_sign_13 : decode cX6_sign 13 = .ok (.ifCond .eq 7, 3) := by decide +kernel
theorem dX6_sign_16 : decode cX6_sign 16 = .ok (.iconst 1, 1) := by decide +kernel
theorem dX6_sign_17 : decode cX6_sign 17 = .ok (.goto 4, 3) := by decide +kernel
theorem dX6_sign_20 : decode cX6_sign 20 = .ok (.iconst 0, 1) := by decide +kernel
theorem dX6_sign_21 : decode cX6_sign 21 = .ok (.iadd, 1) := by decide +kernel
theorem dX6_sign_22 : decode cX6_sign 22 = .ok (.putfield 127, 3) := by decide +kernel
theorem dX6_sign_25 : decode cX6_sign 25 = .ok (.iload_n 2, 1) := by decide +kernel
theorem dX6_sign_26 : decode cX6_sign 26 = .ok (.ireturn, 1) := by decide +kernel
theorem dX6_numbered_0 : decode cX6_numbered 0 = .ok (.aload_n 0, 1) := by decide +kernel
theorem dX6_numbered_1 : decode cX6_numbered 1 = .ok (.getfield 127, 3) := by decide +kernel
theorem dX6_numbered_4 : decode cX6_numbered 4 = .ok (.istore_n 2, 1) := by decide +kernel
theorem dX6_numbered_5 : decode cX6_numbered 5 = .ok (.aload_n 0, 1) := by decide +kernel
theorem dX6_numbered_6 : decode cX6_numbered 6 = .ok (.getfield 25, 3) := by decide +kernel
theorem dX6_numbered_9 : decode cX6_numbered 9 = .ok (.iload_n 1, 1) := by decide +kernel
theorem dX6_numbered_10 : decode cX6_numbered 10 = .ok (.iconst 0, 1) := by decide +kernel
theorem dX6_numbered_11 : decode cX6_numbered 11 = .ok (.iastore, 1) := by decide +kernel
theorem dX6_numbered_12 : decode cX6_numbered 12 = .ok (.aload_n 0, 1) := by decide +kernel
theorem dX6_numbered_13 : decode cX6_numbered 13 = .ok (.bipush 48, 2) := by decide +kernel
theorem dX6_numbered_15 : decode cX6_numbered 15 = .ok (.bipush 57, 2) := by decide +kernel
theorem dX6_numbered_17 : decode cX6_numbered 17 = .ok (.invokevirtual 130, 3) := by decide +kernel
theorem dX6_numbered_20 : decode cX6_numbered 20 = .ok (.ifCond .eq 54, 3) := by decide +kernel
theorem dX6_numbered_23 : decode cX6_numbered 23 = .ok (.aload_n 0, 1) := by decide +kernel
theorem dX6_numbered_24 : decode cX6_numbered 24 = .ok (.getfield 127, 3) := by decide +kernel
theorem dX6_numbered_27 : decode cX6_numbered 27 = .ok (.iload_n 2, 1) := by decide +kernel
theorem dX6_numbered_28 : decode cX6_numbered 28 = .ok (.isub, 1) := by decide +kernel
theorem dX6_numbered_29 : decode cX6_numbered 29 = .ok (.iconst 3, 1) := by decide +kernel
theorem dX6_numbered_30 : decode cX6_numbered 30 = .ok (.if_icmp .ge 44, 3) := by decide +kernel
theorem dX6_numbered_33 : decode cX6_numbered 33 = .ok (.aload_n 0, 1) := by decide +kernel
theorem dX6_numbered_34 : decode cX6_numbered 34 = .ok (.getfield 25, 3) := by decide +kernel
theorem dX6_numbered_37 : decode cX6_numbered 37 = .ok (.iload_n 1, 1) := by decide +kernel
theorem dX6_numbered_38 : decode cX6_numbered 38 = .ok (.bipush 10, 2) := by decide +kernel
theorem dX6_numbered_40 : decode cX6_numbered 40 = .ok (.aload_n 0, 1) := by decide +kernel
theorem dX6_numbered_41 : decode cX6_numbered 41 = .ok (.getfield 25, 3) := by decide +kernel
theorem dX6_numbered_44 : decode cX6_numbered 44 = .ok (.iload_n 1, 1) := by decide +kernel
theorem dX6_numbered_45 : decode cX6_numbered 45 = .ok (.iaload, 1) := by decide +kernel
theorem dX6_numbered_46 : decode cX6_numbered 46 = .ok (.imul, 1) := by decide +kernel
theorem dX6_numbered_47 : decode cX6_numbered 47 = .ok (.aload_n 0, 1) := by decide +kernel
theorem dX6_numbered_48 : decode cX6_numbered 48 = .ok (.getfield 22, 3) := by decide +kernel
theorem dX6_numbered_51 : decode cX6_numbered 51 = .ok (.aload_n 0, 1) := by decide +kernel
theorem dX6_numbered_52 : decode cX6_numbered 52 = .ok (.getfield 127, 3) := by decide +kernel
theorem dX6_numbered_55 : decode cX6_numbered 55 = .ok (.iaload, 1) := by decide +kernel
theorem dX6_numbered_56 : decode cX6_numbered 56 = .ok (.iadd, 1) := by decide +kernel
theorem dX6_numbered_57 : decode cX6_numbered 57 = .ok (.bipush 48, 2) := by decide +kernel
theorem dX6_numbered_59 : decode cX6_numbered 59 = .ok (.isub, 1) := by decide +kernel
theorem dX6_numbered_60 : decode cX6_numbered 60 = .ok (.iastore, 1) := by decide +kernel
theorem dX6_numbered_61 : decode cX6_numbered 61 = .ok (.aload_n 0, 1) := by decide +kernel
theorem dX6_numbered_62 : decode cX6_numbered 62 = .ok (.dup, 1) := by decide +kernel
theorem dX6_numbered_63 : decode cX6_numbered 63 = .ok (.getfield 127, 3) := by decide +kernel
theorem dX6_numbered_66 : decode cX6_numbered 66 = .ok (.iconst 1, 1) := by decide +kernel
theorem dX6_numbered_67 : decode cX6_numbered 67 = .ok (.iadd, 1) := by decide +kernel
theorem dX6_numbered_68 : decode cX6_numbered 68 = .ok (.putfield 127, 3) := by decide +kernel
theorem dX6_numbered_71 : decode cX6_numbered 71 = .ok (.goto (-59), 3) := by decide +kernel
theorem dX6_numbered_74 : decode cX6_numbered 74 = .ok (.aload_n 0, 1) := by decide +kernel
theorem dX6_numbered_75 : decode cX6_numbered 75 = .ok (.getfield 127, 3) := by decide +kernel
theorem dX6_numbered_78 : decode cX6_numbered 78 = .ok (.iload_n 2, 1) := by decide +kernel
theorem dX6_numbered_79 : decode cX6_numbered 79 = .ok (.if_icmp .le 7, 3) := by decide +kernel
theorem dX6_numbered_82 : decode cX6_numbered 82 = .ok (.iconst 1, 1) := by decide +kernel
theorem dX6_numbered_83 : decode cX6_numbered 83 = .ok (.goto 4, 3) := by decide +kernel
theorem dX6_numbered_86 : decode cX6_numbered 86 = .ok (.iconst 0, 1) := by decide +kernel
theorem dX6_numbered_87 : decode cX6_numbered 87 = .ok (.ireturn, 1) := by decide +kernel
theorem dX6_numbersOf_0 : decode cX6_numbersOf 0 = .ok (.iload_n 0, 1) := by decide +kernel
theorem dX6_numbersOf_1 : decode cX6_numbersOf 1 = .ok (.bipush 98, 2) := by decide +kernel
theorem dX6_numbersOf_3 : decode cX6_numbersOf 3 = .ok (.if_icmp .ne 7, 3) := by decide +kernel
theorem dX6_numbersOf_6 : decode cX6_numbersOf 6 = .ok (.iconst 2, 1) := by decide +kernel
theorem dX6_numbersOf_7 : decode cX6_numbersOf 7 = .ok (.goto 38, 3) := by decide +kernel
theorem dX6_numbersOf_10 : decode cX6_numbersOf 10 = .ok (.iload_n 0, 1) := by decide +kernel
theorem dX6_numbersOf_11 : decode cX6_numbersOf 11 = .ok (.bipush 103, 2) := by decide +kernel
theorem dX6_numbersOf_13 : decode cX6_numbersOf 13 = .ok (.if_icmp .eq 27, 3) := by decide +kernel
theorem dX6_numbersOf_16 : decode cX6_numbersOf 16 = .ok (.iload_n 0, 1) := by decide +kernel
theorem dX6_numbersOf_17 : decode cX6_numbersOf 17 = .ok (.bipush 116, 2) := by decide +kernel
theorem dX6_numbersOf_19 : decode cX6_numbersOf 19 = .ok (.if_icmp .eq 21, 3) := by decide +kernel
theorem dX6_numbersOf_22 : decode cX6_numbersOf 22 = .ok (.iload_n 0, 1) := by decide +kernel
theorem dX6_numbersOf_23 : decode cX6_numbersOf 23 = .ok (.bipush 112, 2) := by decide +kernel
theorem dX6_numbersOf_25 : decode cX6_numbersOf 25 = .ok (.if_icmp .eq 15, 3) := by decide +kernel
theorem dX6_numbersOf_28 : decode cX6_numbersOf 28 = .ok (.iload_n 0, 1) := by decide +kernel
theorem dX6_numbersOf_29 : decode cX6_numbersOf 29 = .ok (.bipush 113, 2) := by decide +kernel
theorem dX6_numbersOf_31 : decode cX6_numbersOf 31 = .ok (.if_icmp .eq 9, 3) := by decide +kernel
theorem dX6_numbersOf_34 : decode cX6_numbersOf 34 = .ok (.iload_n 0, 1) := by decide +kernel
theorem dX6_numbersOf_35 : decode cX6_numbersOf 35 = .ok (.bipush 114, 2) := by decide +kernel
theorem dX6_numbersOf_37 : decode cX6_numbersOf 37 = .ok (.if_icmp .ne 7, 3) := by decide +kernel
theorem dX6_numbersOf_40 : decode cX6_numbersOf 40 = .ok (.iconst 1, 1) := by decide +kernel
theorem dX6_numbersOf_41 : decode cX6_numbersOf 41 = .ok (.goto 4, 3) := by decide +kernel
theorem dX6_numbersOf_44 : decode cX6_numbersOf 44 = .ok (.iconst 0, 1) := by decide +kernel
theorem dX6_numbersOf_45 : decode cX6_numbersOf 45 = .ok (.ireturn, 1) := by decide +kernel
theorem dX6_reads_0 : decode cX6_reads 0 = .ok (.aload_n 0, 1) := by decide +kernel
theorem dX6_reads_1 : decode cX6_reads 1 = .ok (.aload_n 0, 1) := by decide +kernel
theorem dX6_reads_2 : decode cX6_reads 2 = .ok (.bipush 33, 2) := by decide +kernel
theorem dX6_reads_4 : decode cX6_reads 4 = .ok (.bipush 126, 2) := by decide +kernel
theorem dX6_reads_6 : decode cX6_reads 6 = .ok (.invokevirtual 130, 3) := by decide +kernel
theorem dX6_reads_9 : decode cX6_reads 9 = .ok (.ifCond .eq 15, 3) := by decide +kernel
theorem dX6_reads_12 : decode cX6_reads 12 = .ok (.aload_n 0, 1) := by decide +kernel
theorem dX6_reads_13 : decode cX6_reads 13 = .ok (.getfield 22, 3) := by decide +kernel
theorem dX6_reads_16 : decode cX6_reads 16 = .ok (.aload_n 0, 1) := by decide +kernel
theorem dX6_reads_17 : decode cX6_reads 17 = .ok (.getfield 127, 3) := by decide +kernel
theorem dX6_reads_20 : decode cX6_reads 20 = .ok (.iaload, 1) := by decide +kernel
theorem dX6_reads_21 : decode cX6_reads 21 = .ok (.goto 4, 3) := by decide +kernel
theorem dX6_reads_24 : decode cX6_reads 24 = .ok (.iconst 0, 1) := by decide +kernel
theorem dX6_reads_25 : decode cX6_reads 25 = .ok (.putfield 134, 3) := by decide +kernel
theorem dX6_reads_28 : decode cX6_reads 28 = .ok (.aload_n 0, 1) := by decide +kernel
theorem dX6_reads_29 : decode cX6_reads 29 = .ok (.getfield 134, 3) := by decide +kernel
theorem dX6_reads_32 : decode cX6_reads 32 = .ok (.invokestatic 137, 3) := by decide +kernel
theorem dX6_reads_35 : decode cX6_reads 35 = .ok (.istore_n 1, 1) := by decide +kernel
theorem dX6_reads_36 : decode cX6_reads 36 = .ok (.iload_n 1, 1) := by decide +kernel
theorem dX6_reads_37 : decode cX6_reads 37 = .ok (.ifCond .ne 5, 3) := by decide +kernel
theorem dX6_reads_40 : decode cX6_reads 40 = .ok (.iconst 0, 1) := by decide +kernel
theorem dX6_reads_41 : decode cX6_reads 41 = .ok (.ireturn, 1) := by decide +kernel
theorem dX6_reads_42 : decode cX6_reads 42 = .ok (.aload_n 0, 1) := by decide +kernel
theorem dX6_reads_43 : decode cX6_reads 43 = .ok (.dup, 1) := by decide +kernel
theorem dX6_reads_44 : decode cX6_reads 44 = .ok (.getfield 127, 3) := by decide +kernel
theorem dX6_reads_47 : decode cX6_reads 47 = .ok (.iconst 1, 1) := by decide +kernel
theorem dX6_reads_48 : decode cX6_reads 48 = .ok (.iadd, 1) := by decide +kernel
theorem dX6_reads_49 : decode cX6_reads 49 = .ok (.putfield 127, 3) := by decide +kernel
theorem dX6_reads_52 : decode cX6_reads 52 = .ok (.aload_n 0, 1) := by decide +kernel
theorem dX6_reads_53 : decode cX6_reads 53 = .ok (.iconst 0, 1) := by decide +kernel
theorem dX6_reads_54 : decode cX6_reads 54 = .ok (.invokevirtual 140, 3) := by decide +kernel
theorem dX6_reads_57 : decode cX6_reads 57 = .ok (.istore_n 2, 1) := by decide +kernel
theorem dX6_reads_58 : decode cX6_reads 58 = .ok (.iload_n 2, 1) := by decide +kernel
theorem dX6_reads_59 : decode cX6_reads 59 = .ok (.ifCond .eq 31, 3) := by decide +kernel
theorem dX6_reads_62 : decode cX6_reads 62 = .ok (.iload_n 1, 1) := by decide +kernel
theorem dX6_reads_63 : decode cX6_reads 63 = .ok (.iconst 2, 1) := by decide +kernel
theorem dX6_reads_64 : decode cX6_reads 64 = .ok (.if_icmp .ne 26, 3) := by decide +kernel
theorem dX6_reads_67 : decode cX6_reads 67 = .ok (.aload_n 0, 1) := by decide +kernel
theorem dX6_reads_68 : decode cX6_reads 68 = .ok (.bipush 44, 2) := by decide +kernel
theorem dX6_reads_70 : decode cX6_reads 70 = .ok (.invokevirtual 144, 3) := by decide +kernel
theorem dX6_reads_73 : decode cX6_reads 73 = .ok (.ifCond .eq 15, 3) := by decide +kernel
theorem dX6_reads_76 : decode cX6_reads 76 = .ok (.aload_n 0, 1) := by decide +kernel
theorem dX6_reads_77 : decode cX6_reads 77 = .ok (.iconst 1, 1) := by decide +kernel
theorem dX6_reads_78 : decode cX6_reads 78 = .ok (.invokevirtual 140, 3) := by decide +kernel
theorem dX6_reads_81 : decode cX6_reads 81 = .ok (.ifCond .eq 7, 3) := by decide +kernel
theorem dX6_reads_84 : decode cX6_reads 84 = .ok (.iconst 1, 1) := by decide +kernel
theorem dX6_reads_85 : decode cX6_reads 85 = .ok (.goto 4, 3) := by decide +kernel
theorem dX6_reads_88 : decode cX6_reads 88 = .ok (.iconst 0, 1) := by decide +kernel
theorem dX6_reads_89 : decode cX6_reads 89 = .ok (.istore_n 2, 1) := by decide +kernel
theorem dX6_reads_90 : decode cX6_reads 90 = .ok (.iload_n 2, 1) := by decide +kernel
theorem dX6_reads_91 : decode cX6_reads 91 = .ok (.ifCond .eq 16, 3) := by decide +kernel
theorem dX6_reads_94 : decode cX6_reads 94 = .ok (.aload_n 0, 1) := by decide +kernel
theorem dX6_reads_95 : decode cX6_reads 95 = .ok (.bipush 59, 2) := by decide +kernel
theorem dX6_reads_97 : decode cX6_reads 97 = .ok (.invokevirtual 144, 3) := by decide +kernel
theorem dX6_reads_100 : decode cX6_reads 100 = .ok (.ifCond .eq 7, 3) := by decide +kernel
theorem dX6_reads_103 : decode cX6_reads 103 = .ok (.iconst 1, 1) := by decide +kernel
theorem dX6_reads_104 : decode cX6_reads 104 = .ok (.goto 4, 3) := by decide +kernel
theorem dX6_reads_107 : decode cX6_reads 107 = .ok (.iconst 0, 1) := by decide +kernel
theorem dX6_reads_108 : decode cX6_reads 108 = .ok (.ireturn, 1) := by decide +kernel
theorem dX6_calls_0 : decode cX6_calls 0 = .ok (.aload_n 0, 1) := by decide +kernel
theorem dX6_calls_1 : decode cX6_calls 1 = .ok (.getfield 134, 3) := by decide +kernel
theorem dX6_calls_4 : decode cX6_calls 4 = .ok (.lookupswitch 114 #[(98, 97), (103, 52), (112, 74), (113, 85), (116, 63)], 52) := by decide +kernel
theorem dX6_calls_56 : decode cX6_calls 56 = .ok (.aload_n 0, 1) := by decide +kernel
theorem dX6_calls_57 : decode cX6_calls 57 = .ok (.aload_n 0, 1) := by decide +kernel
theorem dX6_calls_58 : decode cX6_calls 58 = .ok (.getfield 25, 3) := by decide +kernel
theorem dX6_calls_61 : decode cX6_calls 61 = .ok (.iconst 0, 1) := by decide +kernel
theorem dX6_calls_62 : decode cX6_calls 62 = .ok (.iaload, 1) := by decide +kernel
theorem dX6_calls_63 : decode cX6_calls 63 = .ok (.invokevirtual 147, 3) := by decide +kernel
theorem dX6_calls_66 : decode cX6_calls 66 = .ok (.ireturn, 1) := by decide +kernel
theorem dX6_calls_67 : decode cX6_calls 67 = .ok (.aload_n 0, 1) := by decide +kernel
theorem dX6_calls_68 : decode cX6_calls 68 = .ok (.aload_n 0, 1) := by decide +kernel
theorem dX6_calls_69 : decode cX6_calls 69 = .ok (.getfield 25, 3) := by decide +kernel
theorem dX6_calls_72 : decode cX6_calls 72 = .ok (.iconst 0, 1) := by decide +kernel
theorem dX6_calls_73 : decode cX6_calls 73 = .ok (.iaload, 1) := by decide +kernel
theorem dX6_calls_74 : decode cX6_calls 74 = .ok (.invokevirtual 150, 3) := by decide +kernel
theorem dX6_calls_77 : decode cX6_calls 77 = .ok (.ireturn, 1) := by decide +kernel
theorem dX6_calls_78 : decode cX6_calls 78 = .ok (.aload_n 0, 1) := by decide +kernel
theorem dX6_calls_79 : decode cX6_calls 79 = .ok (.aload_n 0, 1) := by decide +kernel
theorem dX6_calls_80 : decode cX6_calls 80 = .ok (.getfield 25, 3) := by decide +kernel
theorem dX6_calls_83 : decode cX6_calls 83 = .ok (.iconst 0, 1) := by decide +kernel
theorem dX6_calls_84 : decode cX6_calls 84 = .ok (.iaload, 1) := by decide +kernel
theorem dX6_calls_85 : decode cX6_calls 85 = .ok (.invokevirtual 153, 3) := by decide +kernel
theorem dX6_calls_88 : decode cX6_calls 88 = .ok (.ireturn, 1) := by decide +kernel
theorem dX6_calls_89 : decode cX6_calls 89 = .ok (.aload_n 0, 1) := by decide +kernel
theorem dX6_calls_90 : decode cX6_calls 90 = .ok (.aload_n 0, 1) := by decide +kernel
theorem dX6_calls_91 : decode cX6_calls 91 = .ok (.getfield 25, 3) := by decide +kernel
theorem dX6_calls_94 : decode cX6_calls 94 = .ok (.iconst 0, 1) := by decide +kernel
theorem dX6_calls_95 : decode cX6_calls 95 = .ok (.iaload, 1) := by decide +kernel
theorem dX6_calls_96 : decode cX6_calls 96 = .ok (.ineg, 1) := by decide +kernel
theorem dX6_calls_97 : decode cX6_calls 97 = .ok (.invokevirtual 153, 3) := by decide +kernel
theorem dX6_calls_100 : decode cX6_calls 100 = .ok (.ireturn, 1) := by decide +kernel
theorem dX6_calls_101 : decode cX6_calls 101 = .ok (.aload_n 0, 1) := by decide +kernel
theorem dX6_calls_102 : decode cX6_calls 102 = .ok (.aload_n 0, 1) := by decide +kernel
theorem dX6_calls_103 : decode cX6_calls 103 = .ok (.getfield 25, 3) := by decide +kernel
theorem dX6_calls_106 : decode cX6_calls 106 = .ok (.iconst 0, 1) := by decide +kernel
theorem dX6_calls_107 : decode cX6_calls 107 = .ok (.iaload, 1) := by decide +kernel
theorem dX6_calls_108 : decode cX6_calls 108 = .ok (.aload_n 0, 1) := by decide +kernel
theorem dX6_calls_109 : decode cX6_calls 109 = .ok (.getfield 25, 3) := by decide +kernel
theorem dX6_calls_112 : decode cX6_calls 112 = .ok (.iconst 1, 1) := by decide +kernel
theorem dX6_calls_113 : decode cX6_calls 113 = .ok (.iaload, 1) := by decide +kernel
theorem dX6_calls_114 : decode cX6_calls 114 = .ok (.invokevirtual 156, 3) := by decide +kernel
theorem dX6_calls_117 : decode cX6_calls 117 = .ok (.ireturn, 1) := by decide +kernel
theorem dX6_calls_118 : decode cX6_calls 118 = .ok (.aload_n 0, 1) := by decide +kernel
theorem dX6_calls_119 : decode cX6_calls 119 = .ok (.aload_n 0, 1) := by decide +kernel
theorem dX6_calls_120 : decode cX6_calls 120 = .ok (.getfield 25, 3) := by decide +kernel
theorem dX6_calls_123 : decode cX6_calls 123 = .ok (.iconst 0, 1) := by decide +kernel
theorem dX6_calls_124 : decode cX6_calls 124 = .ok (.iaload, 1) := by decide +kernel
theorem dX6_calls_125 : decode cX6_calls 125 = .ok (.invokevirtual 159, 3) := by decide +kernel
theorem dX6_calls_128 : decode cX6_calls 128 = .ok (.ireturn, 1) := by decide +kernel
theorem dX6_plays_0 : decode cX6_plays 0 = .ok (.aload_n 0, 1) := by decide +kernel
theorem dX6_plays_1 : decode cX6_plays 1 = .ok (.iconst 1, 1) := by decide +kernel
theorem dX6_plays_2 : decode cX6_plays 2 = .ok (.putfield 29, 3) := by decide +kernel
theorem dX6_plays_5 : decode cX6_plays 5 = .ok (.aload_n 0, 1) := by decide +kernel
theorem dX6_plays_6 : decode cX6_plays 6 = .ok (.iconst 0, 1) := by decide +kernel
theorem dX6_plays_7 : decode cX6_plays 7 = .ok (.putfield 127, 3) := by decide +kernel
theorem dX6_plays_10 : decode cX6_plays 10 = .ok (.aload_n 0, 1) := by decide +kernel
theorem dX6_plays_11 : decode cX6_plays 11 = .ok (.iconst 0, 1) := by decide +kernel
theorem dX6_plays_12 : decode cX6_plays 12 = .ok (.putfield 162, 3) := by decide +kernel
theorem dX6_plays_15 : decode cX6_plays 15 = .ok (.aload_n 0, 1) := by decide +kernel
theorem dX6_plays_16 : decode cX6_plays 16 = .ok (.iconst 0, 1) := by decide +kernel
theorem dX6_plays_17 : decode cX6_plays 17 = .ok (.putfield 165, 3) := by decide +kernel
theorem dX6_plays_20 : decode cX6_plays 20 = .ok (.iconst 1, 1) := by decide +kernel
theorem dX6_plays_21 : decode cX6_plays 21 = .ok (.istore_n 1, 1) := by decide +kernel
theorem dX6_plays_22 : decode cX6_plays 22 = .ok (.aload_n 0, 1) := by decide +kernel
theorem dX6_plays_23 : decode cX6_plays 23 = .ok (.getfield 127, 3) := by decide +kernel
theorem dX6_plays_26 : decode cX6_plays 26 = .ok (.aload_n 0, 1) := by decide +kernel
theorem dX6_plays_27 : decode cX6_plays 27 = .ok (.getfield 124, 3) := by decide +kernel
theorem dX6_plays_30 : decode cX6_plays 30 = .ok (.if_icmp .ge 96, 3) := by decide +kernel
theorem dX6_plays_33 : decode cX6_plays 33 = .ok (.iload_n 1, 1) := by decide +kernel
theorem dX6_plays_34 : decode cX6_plays 34 = .ok (.ifCond .eq 92, 3) := by decide +kernel
theorem dX6_plays_37 : decode cX6_plays 37 = .ok (.aload_n 0, 1) := by decide +kernel
theorem dX6_plays_38 : decode cX6_plays 38 = .ok (.aload_n 0, 1) := by decide +kernel
theorem dX6_plays_39 : decode cX6_plays 39 = .ok (.getfield 127, 3) := by decide +kernel
theorem dX6_plays_42 : decode cX6_plays 42 = .ok (.putfield 162, 3) := by decide +kernel
theorem dX6_plays_45 : decode cX6_plays 45 = .ok (.aload_n 0, 1) := by decide +kernel
theorem dX6_plays_46 : decode cX6_plays 46 = .ok (.invokevirtual 168, 3) := by decide +kernel
theorem dX6_plays_49 : decode cX6_plays 49 = .ok (.istore_n 2, 1) := by decide +kernel
theorem dX6_plays_50 : decode cX6_plays 50 = .ok (.iload_n 2, 1) := by decide +kernel
theorem dX6_plays_51 : decode cX6_plays 51 = .ok (.ifCond .eq 10, 3) := by decide +kernel
theorem dX6_plays_54 : decode cX6_plays 54 = .ok (.aload_n 0, 1) := by decide +kernel
theorem dX6_plays_55 : decode cX6_plays 55 = .ok (.invokevirtual 171, 3) := by decide +kernel
theorem dX6_plays_58 : decode cX6_plays 58 = .ok (.goto 4, 3) := by decide +kernel
theorem dX6_plays_61 : decode cX6_plays 61 = .ok (.iconst 0, 1) := by decide +kernel
theorem dX6_plays_62 : decode cX6_plays 62 = .ok (.istore_n 3, 1) := by decide +kernel
theorem dX6_plays_63 : decode cX6_plays 63 = .ok (.iload_n 2, 1) := by decide +kernel
theorem dX6_plays_64 : decode cX6_plays 64 = .ok (.ifCond .eq 13, 3) := by decide +kernel
theorem dX6_plays_67 : decode cX6_plays 67 = .ok (.iload_n 3, 1) := by decide +kernel
theorem dX6_plays_68 : decode cX6_plays 68 = .ok (.ldc 48, 2) := by decide +kernel
theorem dX6_plays_70 : decode cX6_plays 70 = .ok (.if_icmp .le 7, 3) := by decide +kernel
theorem dX6_plays_73 : decode cX6_plays 73 = .ok (.iconst 1, 1) := by decide +kernel
theorem dX6_plays_74 : decode cX6_plays 74 = .ok (.goto 4, 3) := by decide +kernel
theorem dX6_plays_77 : decode cX6_plays 77 = .ok (.iconst 0, 1) := by decide +kernel
theorem dX6_plays_78 : decode cX6_plays 78 = .ok (.istore_n 1, 1) := by decide +kernel
theorem dX6_plays_79 : decode cX6_plays 79 = .ok (.aload_n 0, 1) := by decide +kernel
theorem dX6_plays_80 : decode cX6_plays 80 = .ok (.iload_n 2, 1) := by decide +kernel
theorem dX6_plays_81 : decode cX6_plays 81 = .ok (.ifCond .eq 7, 3) := by decide +kernel
theorem dX6_plays_84 : decode cX6_plays 84 = .ok (.iconst 2, 1) := by decide +kernel
theorem dX6_plays_85 : decode cX6_plays 85 = .ok (.goto 4, 3) := by decide +kernel
theorem dX6_plays_88 : decode cX6_plays 88 = .ok (.iconst 1, 1) := by decide +kernel
theorem dX6_plays_89 : decode cX6_plays 89 = .ok (.putfield 174, 3) := by decide +kernel
theorem dX6_plays_92 : decode cX6_plays 92 = .ok (.aload_n 0, 1) := by decide +kernel
theorem dX6_plays_93 : decode cX6_plays 93 = .ok (.iload_n 2, 1) := by decide +kernel
theorem dX6_plays_94 : decode cX6_plays 94 = .ok (.ifCond .eq 7, 3) := by decide +kernel
theorem dX6_plays_97 : decode cX6_plays 97 = .ok (.iload_n 3, 1) := by decide +kernel
theorem dX6_plays_98 : decode cX6_plays 98 = .ok (.goto 12, 3) := by decide +kernel
theorem dX6_plays_101 : decode cX6_plays 101 = .ok (.aload_n 0, 1) := by decide +kernel
theorem dX6_plays_102 : decode cX6_plays 102 = .ok (.getfield 127, 3) := by decide +kernel
theorem dX6_plays_105 : decode cX6_plays 105 = .ok (.aload_n 0, 1) := by decide +kernel
theorem dX6_plays_106 : decode cX6_plays 106 = .ok (.getfield 162, 3) := by decide +kernel
theorem dX6_plays_109 : decode cX6_plays 109 = .ok (.isub, 1) := by decide +kernel
theorem dX6_plays_110 : decode cX6_plays 110 = .ok (.putfield 177, 3) := by decide +kernel
theorem dX6_plays_113 : decode cX6_plays 113 = .ok (.aload_n 0, 1) := by decide +kernel
theorem dX6_plays_114 : decode cX6_plays 114 = .ok (.dup, 1) := by decide +kernel
theorem dX6_plays_115 : decode cX6_plays 115 = .ok (.getfield 165, 3) := by decide +kernel
theorem dX6_plays_118 : decode cX6_plays 118 = .ok (.iconst 1, 1) := by decide +kernel
theorem dX6_plays_119 : decode cX6_plays 119 = .ok (.iadd, 1) := by decide +kernel
theorem dX6_plays_120 : decode cX6_plays 120 = .ok (.putfield 165, 3) := by decide +kernel
theorem dX6_plays_123 : decode cX6_plays 123 = .ok (.goto (-101), 3) := by decide +kernel
theorem dX6_plays_126 : decode cX6_plays 126 = .ok (.aload_n 0, 1) := by decide +kernel
theorem dX6_plays_127 : decode cX6_plays 127 = .ok (.iconst 0, 1) := by decide +kernel
theorem dX6_plays_128 : decode cX6_plays 128 = .ok (.putfield 29, 3) := by decide +kernel
theorem dX6_plays_131 : decode cX6_plays 131 = .ok (.iload_n 1, 1) := by decide +kernel
theorem dX6_plays_132 : decode cX6_plays 132 = .ok (.ireturn, 1) := by decide +kernel
theorem dX6_fault_0 : decode cX6_fault 0 = .ok (.iload_n 1, 1) := by decide +kernel
theorem dX6_fault_1 : decode cX6_fault 1 = .ok (.iconst 0, 1) := by decide +kernel
theorem dX6_fault_2 : decode cX6_fault 2 = .ok (.iconst 2, 1) := by decide +kernel
theorem dX6_fault_3 : decode cX6_fault 3 = .ok (.invokestatic 40, 3) := by decide +kernel
theorem dX6_fault_6 : decode cX6_fault 6 = .ok (.ifCond .ne 6, 3) := by decide +kernel
theorem dX6_fault_9 : decode cX6_fault 9 = .ok (.ldc 48, 2) := by decide +kernel
theorem dX6_fault_11 : decode cX6_fault 11 = .ok (.ireturn, 1) := by decide +kernel
theorem dX6_fault_12 : decode cX6_fault 12 = .ok (.aload_n 0, 1) := by decide +kernel
theorem dX6_fault_13 : decode cX6_fault 13 = .ok (.getfield 7, 3) := by decide +kernel
theorem dX6_fault_16 : decode cX6_fault 16 = .ok (.aload_n 0, 1) := by decide +kernel
theorem dX6_fault_17 : decode cX6_fault 17 = .ok (.getfield 16, 3) := by decide +kernel
theorem dX6_fault_20 : decode cX6_fault 20 = .ok (.invokestatic 114, 3) := by decide +kernel
theorem dX6_fault_23 : decode cX6_fault 23 = .ok (.aload_n 0, 1) := by decide +kernel
theorem dX6_fault_24 : decode cX6_fault 24 = .ok (.invokevirtual 180, 3) := by decide +kernel
theorem dX6_fault_27 : decode cX6_fault 27 = .ok (.istore_n 2, 1) := by decide +kernel
theorem dX6_fault_28 : decode cX6_fault 28 = .ok (.aload_n 0, 1) := by decide +kernel
theorem dX6_fault_29 : decode cX6_fault 29 = .ok (.getfield 16, 3) := by decide +kernel
theorem dX6_fault_32 : decode cX6_fault 32 = .ok (.aload_n 0, 1) := by decide +kernel
theorem dX6_fault_33 : decode cX6_fault 33 = .ok (.getfield 7, 3) := by decide +kernel
theorem dX6_fault_36 : decode cX6_fault 36 = .ok (.invokestatic 114, 3) := by decide +kernel
theorem dX6_fault_39 : decode cX6_fault 39 = .ok (.iload_n 2, 1) := by decide +kernel
theorem dX6_fault_40 : decode cX6_fault 40 = .ok (.ifCond .eq 8, 3) := by decide +kernel
theorem dX6_fault_43 : decode cX6_fault 43 = .ok (.ldc 92, 2) := by decide +kernel
theorem dX6_fault_45 : decode cX6_fault 45 = .ok (.goto 30, 3) := by decide +kernel
theorem dX6_fault_48 : decode cX6_fault 48 = .ok (.iload_n 1, 1) := by decide +kernel
theorem dX6_fault_49 : decode cX6_fault 49 = .ok (.ifCond .ne 10, 3) := by decide +kernel
theorem dX6_fault_52 : decode cX6_fault 52 = .ok (.aload_n 0, 1) := by decide +kernel
theorem dX6_fault_53 : decode cX6_fault 53 = .ok (.getfield 162, 3) := by decide +kernel
theorem dX6_fault_56 : decode cX6_fault 56 = .ok (.goto 19, 3) := by decide +kernel
theorem dX6_fault_59 : decode cX6_fault 59 = .ok (.iload_n 1, 1) := by decide +kernel
theorem dX6_fault_60 : decode cX6_fault 60 = .ok (.iconst 1, 1) := by decide +kernel
theorem dX6_fault_61 : decode cX6_fault 61 = .ok (.if_icmp .ne 10, 3) := by decide +kernel
theorem dX6_fault_64 : decode cX6_fault 64 = .ok (.aload_n 0, 1) := by decide +kernel
theorem dX6_fault_65 : decode cX6_fault 65 = .ok (.getfield 174, 3) := by decide +kernel
theorem dX6_fault_68 : decode cX6_fault 68 = .ok (.goto 7, 3) := by decide +kernel
theorem dX6_fault_71 : decode cX6_fault 71 = .ok (.aload_n 0, 1) := by decide +kernel
theorem dX6_fault_72 : decode cX6_fault 72 = .ok (.getfield 177, 3) := by decide +kernel
theorem dX6_fault_75 : decode cX6_fault 75 = .ok (.ireturn, 1) := by decide +kernel
theorem dX6_play_0 : decode cX6_play 0 = .ok (.aload_n 0, 1) := by decide +kernel
theorem dX6_play_1 : decode cX6_play 1 = .ok (.getfield 7, 3) := by decide +kernel
theorem dX6_play_4 : decode cX6_play 4 = .ok (.aload_n 0, 1) := by decide +kernel
theorem dX6_play_5 : decode cX6_play 5 = .ok (.getfield 16, 3) := by decide +kernel
theorem dX6_play_8 : decode cX6_play 8 = .ok (.invokestatic 114, 3) := by decide +kernel
theorem dX6_play_11 : decode cX6_play 11 = .ok (.aload_n 0, 1) := by decide +kernel
theorem dX6_play_12 : decode cX6_play 12 = .ok (.invokevirtual 180, 3) := by decide +kernel
theorem dX6_play_15 : decode cX6_play 15 = .ok (.istore_n 1, 1) := by decide +kernel
theorem dX6_play_16 : decode cX6_play 16 = .ok (.aload_n 0, 1) := by decide +kernel
theorem dX6_play_17 : decode cX6_play 17 = .ok (.getfield 16, 3) := by decide +kernel
theorem dX6_play_20 : decode cX6_play 20 = .ok (.aload_n 0, 1) := by decide +kernel
theorem dX6_play_21 : decode cX6_play 21 = .ok (.getfield 7, 3) := by decide +kernel
theorem dX6_play_24 : decode cX6_play 24 = .ok (.invokestatic 114, 3) := by decide +kernel
theorem dX6_play_27 : decode cX6_play 27 = .ok (.iload_n 1, 1) := by decide +kernel
theorem dX6_play_28 : decode cX6_play 28 = .ok (.ifCond .ne 6, 3) := by decide +kernel
theorem dX6_play_31 : decode cX6_play 31 = .ok (.ldc 110, 2) := by decide +kernel
theorem dX6_play_33 : decode cX6_play 33 = .ok (.ireturn, 1) := by decide +kernel
theorem dX6_play_34 : decode cX6_play 34 = .ok (.aload_n 0, 1) := by decide +kernel
theorem dX6_play_35 : decode cX6_play 35 = .ok (.invokevirtual 37, 3) := by decide +kernel
theorem dX6_play_38 : decode cX6_play 38 = .ok (.aload_n 0, 1) := by decide +kernel
theorem dX6_play_39 : decode cX6_play 39 = .ok (.invokevirtual 180, 3) := by decide +kernel
theorem dX6_play_42 : decode cX6_play 42 = .ok (.ifCond .eq 10, 3) := by decide +kernel
theorem dX6_play_45 : decode cX6_play 45 = .ok (.aload_n 0, 1) := by decide +kernel
theorem dX6_play_46 : decode cX6_play 46 = .ok (.getfield 165, 3) := by decide +kernel
theorem dX6_play_49 : decode cX6_play 49 = .ok (.goto 5, 3) := by decide +kernel
theorem dX6_play_52 : decode cX6_play 52 = .ok (.ldc 92, 2) := by decide +kernel
theorem dX6_play_54 : decode cX6_play 54 = .ok (.ireturn, 1) := by decide +kernel
theorem dJxf58ca_isNaN_12338_0 : decode cJxf58ca_isNaN_12338 0 = .ok (.fload_n 0, 1) := by decide +kernel
theorem dJxf58ca_isNaN_12338_1 : decode cJxf58ca_isNaN_12338 1 = .ok (.fload_n 0, 1) := by decide +kernel
theorem dJxf58ca_isNaN_12338_2 : decode cJxf58ca_isNaN_12338 2 = .ok (.fcmp .l, 1) := by decide +kernel
theorem dJxf58ca_isNaN_12338_3 : decode cJxf58ca_isNaN_12338 3 = .ok (.ifCond .eq 7, 3) := by decide +kernel
theorem dJxf58ca_isNaN_12338_6 : decode cJxf58ca_isNaN_12338 6 = .ok (.iconst 1, 1) := by decide +kernel
theorem dJxf58ca_isNaN_12338_7 : decode cJxf58ca_isNaN_12338 7 = .ok (.goto 4, 3) := by decide +kernel
theorem dJxf58ca_isNaN_12338_10 : decode cJxf58ca_isNaN_12338 10 = .ok (.iconst 0, 1) := by decide +kernel
theorem dJxf58ca_isNaN_12338_11 : decode cJxf58ca_isNaN_12338 11 = .ok (.ireturn, 1) := by decide +kernel
theorem dJxf58ca_floatToIntBits_5c35a_0 : decode cJxf58ca_floatToIntBits_5c35a 0 = .ok (.fload_n 0, 1) := by decide +kernel
theorem dJxf58ca_floatToIntBits_5c35a_1 : decode cJxf58ca_floatToIntBits_5c35a 1 = .ok (.invokestatic 59, 3) := by decide +kernel
theorem dJxf58ca_floatToIntBits_5c35a_4 : decode cJxf58ca_floatToIntBits_5c35a 4 = .ok (.ifCond .ne 8, 3) := by decide +kernel
theorem dJxf58ca_floatToIntBits_5c35a_7 : decode cJxf58ca_floatToIntBits_5c35a 7 = .ok (.fload_n 0, 1) := by decide +kernel
theorem dJxf58ca_floatToIntBits_5c35a_8 : decode cJxf58ca_floatToIntBits_5c35a 8 = .ok (.invokestatic 74, 3) := by decide +kernel
theorem dJxf58ca_floatToIntBits_5c35a_11 : decode cJxf58ca_floatToIntBits_5c35a 11 = .ok (.ireturn, 1) := by decide +kernel
theorem dJxf58ca_floatToIntBits_5c35a_12 : decode cJxf58ca_floatToIntBits_5c35a 12 = .ok (.ldc 77, 2) := by decide +kernel
theorem dJxf58ca_floatToIntBits_5c35a_14 : decode cJxf58ca_floatToIntBits_5c35a 14 = .ok (.ireturn, 1) := by decide +kernel
theorem dJ9_floorDiv_7cf53_0 : decode cJ9_floorDiv_7cf53 0 = .ok (.iload_n 0, 1) := by decide +kernel
theorem dJ9_floorDiv_7cf53_1 : decode cJ9_floorDiv_7cf53 1 = .ok (.iload_n 1, 1) := by decide +kernel
theorem dJ9_floorDiv_7cf53_2 : decode cJ9_floorDiv_7cf53 2 = .ok (.idiv, 1) := by decide +kernel
theorem dJ9_floorDiv_7cf53_3 : decode cJ9_floorDiv_7cf53 3 = .ok (.istore_n 2, 1) := by decide +kernel
theorem dJ9_floorDiv_7cf53_4 : decode cJ9_floorDiv_7cf53 4 = .ok (.iload_n 0, 1) := by decide +kernel
theorem dJ9_floorDiv_7cf53_5 : decode cJ9_floorDiv_7cf53 5 = .ok (.iload_n 1, 1) := by decide +kernel
theorem dJ9_floorDiv_7cf53_6 : decode cJ9_floorDiv_7cf53 6 = .ok (.ixor, 1) := by decide +kernel
theorem dJ9_floorDiv_7cf53_7 : decode cJ9_floorDiv_7cf53 7 = .ok (.ifCond .ge 14, 3) := by decide +kernel
theorem dJ9_floorDiv_7cf53_10 : decode cJ9_floorDiv_7cf53 10 = .ok (.iload_n 2, 1) := by decide +kernel
theorem dJ9_floorDiv_7cf53_11 : decode cJ9_floorDiv_7cf53 11 = .ok (.iload_n 1, 1) := by decide +kernel
theorem dJ9_floorDiv_7cf53_12 : decode cJ9_floorDiv_7cf53 12 = .ok (.imul, 1) := by decide +kernel
theorem dJ9_floorDiv_7cf53_13 : decode cJ9_floorDiv_7cf53 13 = .ok (.iload_n 0, 1) := by decide +kernel
theorem dJ9_floorDiv_7cf53_14 : decode cJ9_floorDiv_7cf53 14 = .ok (.if_icmp .eq 7, 3) := by decide +kernel
theorem dJ9_floorDiv_7cf53_17 : decode cJ9_floorDiv_7cf53 17 = .ok (.iload_n 2, 1) := by decide +kernel
theorem dJ9_floorDiv_7cf53_18 : decode cJ9_floorDiv_7cf53 18 = .ok (.iconst 1, 1) := by decide +kernel
theorem dJ9_floorDiv_7cf53_19 : decode cJ9_floorDiv_7cf53 19 = .ok (.isub, 1) := by decide +kernel
theorem dJ9_floorDiv_7cf53_20 : decode cJ9_floorDiv_7cf53 20 = .ok (.ireturn, 1) := by decide +kernel
theorem dJ9_floorDiv_7cf53_21 : decode cJ9_floorDiv_7cf53 21 = .ok (.iload_n 2, 1) := by decide +kernel
theorem dJ9_floorDiv_7cf53_22 : decode cJ9_floorDiv_7cf53 22 = .ok (.ireturn, 1) := by decide +kernel
theorem dJ9_floorMod_7cf53_0 : decode cJ9_floorMod_7cf53 0 = .ok (.iload_n 0, 1) := by decide +kernel
theorem dJ9_floorMod_7cf53_1 : decode cJ9_floorMod_7cf53 1 = .ok (.iload_n 1, 1) := by decide +kernel
theorem dJ9_floorMod_7cf53_2 : decode cJ9_floorMod_7cf53 2 = .ok (.irem, 1) := by decide +kernel
theorem dJ9_floorMod_7cf53_3 : decode cJ9_floorMod_7cf53 3 = .ok (.istore_n 2, 1) := by decide +kernel
theorem dJ9_floorMod_7cf53_4 : decode cJ9_floorMod_7cf53 4 = .ok (.iload_n 0, 1) := by decide +kernel
theorem dJ9_floorMod_7cf53_5 : decode cJ9_floorMod_7cf53 5 = .ok (.iload_n 1, 1) := by decide +kernel
theorem dJ9_floorMod_7cf53_6 : decode cJ9_floorMod_7cf53 6 = .ok (.ixor, 1) := by decide +kernel
theorem dJ9_floorMod_7cf53_7 : decode cJ9_floorMod_7cf53 7 = .ok (.ifCond .ge 11, 3) := by decide +kernel
theorem dJ9_floorMod_7cf53_10 : decode cJ9_floorMod_7cf53 10 = .ok (.iload_n 2, 1) := by decide +kernel
theorem dJ9_floorMod_7cf53_11 : decode cJ9_floorMod_7cf53 11 = .ok (.ifCond .eq 7, 3) := by decide +kernel
theorem dJ9_floorMod_7cf53_14 : decode cJ9_floorMod_7cf53 14 = .ok (.iload_n 2, 1) := by decide +kernel
theorem dJ9_floorMod_7cf53_15 : decode cJ9_floorMod_7cf53 15 = .ok (.iload_n 1, 1) := by decide +kernel
theorem dJ9_floorMod_7cf53_16 : decode cJ9_floorMod_7cf53 16 = .ok (.iadd, 1) := by decide +kernel
theorem dJ9_floorMod_7cf53_17 : decode cJ9_floorMod_7cf53 17 = .ok (.ireturn, 1) := by decide +kernel
theorem dJ9_floorMod_7cf53_18 : decode cJ9_floorMod_7cf53 18 = .ok (.iload_n 2, 1) := by decide +kernel
theorem dJ9_floorMod_7cf53_19 : decode cJ9_floorMod_7cf53 19 = .ok (.ireturn, 1) := by decide +kernel
theorem dJ9_abs_0f7a4_0 : decode cJ9_abs_0f7a4 0 = .ok (.iload_n 0, 1) := by decide +kernel
theorem dJ9_abs_0f7a4_1 : decode cJ9_abs_0f7a4 1 = .ok (.ifCond .ge 8, 3) := by decide +kernel
theorem dJ9_abs_0f7a4_4 : decode cJ9_abs_0f7a4 4 = .ok (.iload_n 0, 1) := by decide +kernel
theorem dJ9_abs_0f7a4_5 : decode cJ9_abs_0f7a4 5 = .ok (.ineg, 1) := by decide +kernel
theorem dJ9_abs_0f7a4_6 : decode cJ9_abs_0f7a4 6 = .ok (.goto 4, 3) := by decide +kernel
theorem dJ9_abs_0f7a4_9 : decode cJ9_abs_0f7a4 9 = .ok (.iload_n 0, 1) := by decide +kernel
theorem dJ9_abs_0f7a4_10 : decode cJ9_abs_0f7a4 10 = .ok (.ireturn, 1) := by decide +kernel
theorem dJ9_max_7cf53_0 : decode cJ9_max_7cf53 0 = .ok (.iload_n 0, 1) := by decide +kernel
theorem dJ9_max_7cf53_1 : decode cJ9_max_7cf53 1 = .ok (.iload_n 1, 1) := by decide +kernel
theorem dJ9_max_7cf53_2 : decode cJ9_max_7cf53 2 = .ok (.if_icmp .lt 7, 3) := by decide +kernel
theorem dJ9_max_7cf53_5 : decode cJ9_max_7cf53 5 = .ok (.iload_n 0, 1) := by decide +kernel
theorem dJ9_max_7cf53_6 : decode cJ9_max_7cf53 6 = .ok (.goto 4, 3) := by decide +kernel
theorem dJ9_max_7cf53_9 : decode cJ9_max_7cf53 9 = .ok (.iload_n 1, 1) := by decide +kernel
theorem dJ9_max_7cf53_10 : decode cJ9_max_7cf53 10 = .ok (.ireturn, 1) := by decide +kernel
theorem dJ9_min_7cf53_0 : decode cJ9_min_7cf53 0 = .ok (.iload_n 0, 1) := by decide +kernel
theorem dJ9_min_7cf53_1 : decode cJ9_min_7cf53 1 = .ok (.iload_n 1, 1) := by decide +kernel
theorem dJ9_min_7cf53_2 : decode cJ9_min_7cf53 2 = .ok (.if_icmp .gt 7, 3) := by decide +kernel
theorem dJ9_min_7cf53_5 : decode cJ9_min_7cf53 5 = .ok (.iload_n 0, 1) := by decide +kernel
theorem dJ9_min_7cf53_6 : decode cJ9_min_7cf53 6 = .ok (.goto 4, 3) := by decide +kernel
theorem dJ9_min_7cf53_9 : decode cJ9_min_7cf53 9 = .ok (.iload_n 1, 1) := by decide +kernel
theorem dJ9_min_7cf53_10 : decode cJ9_min_7cf53 10 = .ok (.ireturn, 1) := by decide +kernel
theorem dL_law_0 : decode cL_law 0 = .ok (.new 7, 3) := by decide +kernel
theorem dL_law_3 : decode cL_law 3 = .ok (.dup, 1) := by decide +kernel
theorem dL_law_4 : decode cL_law 4 = .ok (.invokespecial 9, 3) := by decide +kernel
theorem dL_law_7 : decode cL_law 7 = .ok (.astore_n 1, 1) := by decide +kernel
theorem dL_law_8 : decode cL_law 8 = .ok (.new 10, 3) := by decide +kernel
theorem dL_law_11 : decode cL_law 11 = .ok (.dup, 1) := by decide +kernel
theorem dL_law_12 : decode cL_law 12 = .ok (.invokespecial 12, 3) := by decide +kernel
theorem dL_law_15 : decode cL_law 15 = .ok (.astore_n 2, 1) := by decide +kernel
theorem dL_law_16 : decode cL_law 16 = .ok (.iconst 0, 1) := by decide +kernel
theorem dL_law_17 : decode cL_law 17 = .ok (.istore_n 3, 1) := by decide +kernel
theorem dL_law_18 : decode cL_law 18 = .ok (.iload_n 3, 1) := by decide +kernel
theorem dL_law_19 : decode cL_law 19 = .ok (.aload_n 0, 1) := by decide +kernel
theorem dL_law_20 : decode cL_law 20 = .ok (.arraylength, 1) := by decide +kernel
theorem dL_law_21 : decode cL_law 21 = .ok (.iconst 3, 1) := by decide +kernel
theorem dL_law_22 : decode cL_law 22 = .ok (.isub, 1) := by decide +kernel
theorem dL_law_23 : decode cL_law 23 = .ok (.if_icmp .gt 662, 3) := by decide +kernel
theorem dL_law_26 : decode cL_law 26 = .ok (.aload_n 0, 1) := by decide +kernel
theorem dL_law_27 : decode cL_law 27 = .ok (.iload_n 3, 1) := by decide +kernel
theorem dL_law_28 : decode cL_law 28 = .ok (.iaload, 1) := by decide +kernel
theorem dL_law_29 : decode cL_law 29 = .ok (.bipush 31, 2) := by decide +kernel
theorem dL_law_31 : decode cL_law 31 = .ok (.iand, 1) := by decide +kernel
theorem dL_law_32 : decode cL_law 32 = .ok (.tableswitch 647 0 22 #[108, 131, 154, 177, 210, 233, 256, 289, 312, 335, 368, 391, 424, 447, 480, 513, 526, 539, 562, 575, 598, 611, 634], 108) := by decide +kernel
theorem dL_law_140 : decode cL_law 140 = .ok (.aload_n 1, 1) := by decide +kernel
theorem dL_law_141 : decode cL_law 141 = .ok (.aload_n 0, 1) := by decide +kernel
theorem dL_law_142 : decode cL_law 142 = .ok (.iload_n 3, 1) := by decide +kernel
theorem dL_law_143 : decode cL_law 143 = .ok (.iconst 1, 1) := by decide +kernel
theorem dL_law_144 : decode cL_law 144 = .ok (.iadd, 1) := by decide +kernel
theorem dL_law_145 : decode cL_law 145 = .ok (.iaload, 1) := by decide +kernel
theorem dL_law_146 : decode cL_law 146 = .ok (.invokevirtual 13, 3) := by decide +kernel
theorem dL_law_149 : decode cL_law 149 = .ok (.aload_n 2, 1) := by decide +kernel
theorem dL_law_150 : decode cL_law 150 = .ok (.aload_n 0, 1) := by decide +kernel
theorem dL_law_151 : decode cL_law 151 = .ok (.iload_n 3, 1) := by decide +kernel
theorem dL_law_152 : decode cL_law 152 = .ok (.iconst 1, 1) := by decide +kernel
theorem dL_law_153 : decode cL_law 153 = .ok (.iadd, 1) := by decide +kernel
theorem dL_law_154 : decode cL_law 154 = .ok (.iaload, 1) := by decide +kernel
theorem dL_law_155 : decode cL_law 155 = .ok (.invokevirtual 17, 3) := by decide +kernel
theorem dL_law_158 : decode cL_law 158 = .ok (.if_icmp .eq 521, 3) := by decide +kernel
theorem dL_law_161 : decode cL_law 161 = .ok (.iconst 0, 1) := by decide +kernel
theorem dL_law_162 : decode cL_law 162 = .ok (.ireturn, 1) := by decide +kernel
theorem dL_law_163 : decode cL_law 163 = .ok (.aload_n 1, 1) := by decide +kernel
theorem dL_law_164 : decode cL_law 164 = .ok (.aload_n 0, 1) := by decide +kernel
theorem dL_law_165 : decode cL_law 165 = .ok (.iload_n 3, 1) := by decide +kernel
theorem dL_law_166 : decode cL_law 166 = .ok (.iconst 1, 1) := by decide +kernel
theorem dL_law_167 : decode cL_law 167 = .ok (.iadd, 1) := by decide +kernel
theorem dL_law_168 : decode cL_law 168 = .ok (.iaload, 1) := by decide +kernel
theorem dL_law_169 : decode cL_law 169 = .ok (.invokevirtual 18, 3) := by decide +kernel
theorem dL_law_172 : decode cL_law 172 = .ok (.aload_n 2, 1) := by decide +kernel
theorem dL_law_173 : decode cL_law 173 = .ok (.aload_n 0, 1) := by decide +kernel
theorem dL_law_174 : decode cL_law 174 = .ok (.iload_n 3, 1) := by decide +kernel
theorem dL_law_175 : decode cL_law 175 = .ok (.iconst 1, 1) := by decide +kernel
theorem dL_law_176 : decode cL_law 176 = .ok (.iadd, 1) := by decide +kernel
theorem dL_law_177 : decode cL_law 177 = .ok (.iaload, 1) := by decide +kernel
theorem dL_law_178 : decode cL_law 178 = .ok (.invokevirtual 21, 3) := by decide +kernel
theorem dL_law_181 : decode cL_law 181 = .ok (.if_icmp .eq 498, 3) := by decide +kernel
theorem dL_law_184 : decode cL_law 184 = .ok (.iconst 0, 1) := by decide +kernel
theorem dL_law_185 : decode cL_law 185 = .ok (.ireturn, 1) := by decide +kernel
theorem dL_law_186 : decode cL_law 186 = .ok (.aload_n 1, 1) := by decide +kernel
theorem dL_law_187 : decode cL_law 187 = .ok (.aload_n 0, 1) := by decide +kernel
theorem dL_law_188 : decode cL_law 188 = .ok (.iload_n 3, 1) := by decide +kernel
theorem dL_law_189 : decode cL_law 189 = .ok (.iconst 1, 1) := by decide +kernel
theorem dL_law_190 : decode cL_law 190 = .ok (.iadd, 1) := by decide +kernel
theorem dL_law_191 : decode cL_law 191 = .ok (.iaload, 1) := by decide +kernel
theorem dL_law_192 : decode cL_law 192 = .ok (.invokevirtual 22, 3) := by decide +kernel
theorem dL_law_195 : decode cL_law 195 = .ok (.aload_n 2, 1) := by decide +kernel
theorem dL_law_196 : decode cL_law 196 = .ok (.aload_n 0, 1) := by decide +kernel
theorem dL_law_197 : decode cL_law 197 = .ok (.iload_n 3, 1) := by decide +kernel
theorem dL_law_198 : decode cL_law 198 = .ok (.iconst 1, 1) := by decide +kernel
theorem dL_law_199 : decode cL_law 199 = .ok (.iadd, 1) := by decide +kernel
theorem dL_law_200 : decode cL_law 200 = .ok (.iaload, 1) := by decide +kernel
theorem dL_law_201 : decode cL_law 201 = .ok (.invokevirtual 25, 3) := by decide +kernel
theorem dL_law_204 : decode cL_law 204 = .ok (.if_icmp .eq 475, 3) := by decide +kernel
theorem dL_law_207 : decode cL_law 207 = .ok (.iconst 0, 1) := by decide +kernel
theorem dL_law_208 : decode cL_law 208 = .ok (.ireturn, 1) := by decide +kernel
theorem dL_law_209 : decode cL_law 209 = .ok (.aload_n 1, 1) := by decide +kernel
theorem dL_law_210 : decode cL_law 210 = .ok (.aload_n 0, 1) := by decide +kernel
theorem dL_law_211 : decode cL_law 211 = .ok (.iload_n 3, 1) := by decide +kernel
theorem dL_law_212 : decode cL_law 212 = .ok (.iconst 1, 1) := by decide +kernel
theorem dL_law_213 : decode cL_law 213 = .ok (.iadd, 1) := by decide +kernel
theorem dL_law_214 : decode cL_law 214 = .ok (.iaload, 1) := by decide +kernel
theorem dL_law_215 : decode cL_law 215 = .ok (.aload_n 0, 1) := by decide +kernel
theorem dL_law_216 : decode cL_law 216 = .ok (.iload_n 3, 1) := by decide +kernel
theorem dL_law_217 : decode cL_law 217 = .ok (.iconst 2, 1) := by decide +kernel
theorem dL_law_218 : decode cL_law 218 = .ok (.iadd, 1) := by decide +kernel
theorem dL_law_219 : decode cL_law 219 = .ok (.iaload, 1) := by decide +kernel
theorem dL_law_220 : decode cL_law 220 = .ok (.invokevirtual 26, 3) := by decide +kernel
theorem dL_law_223 : decode cL_law 223 = .ok (.aload_n 2, 1) := by decide +kernel
theorem dL_law_224 : decode cL_law 224 = .ok (.aload_n 0, 1) := by decide +kernel
theorem dL_law_225 : decode cL_law 225 = .ok (.iload_n 3, 1) := by decide +kernel
theorem dL_law_226 : decode cL_law 226 = .ok (.iconst 1, 1) := by decide +kernel
theorem dL_law_227 : decode cL_law 227 = .ok (.iadd, 1) := by decide +kernel
theorem dL_law_228 : decode cL_law 228 = .ok (.iaload, 1) := by decide +kernel
theorem dL_law_229 : decode cL_law 229 = .ok (.aload_n 0, 1) := by decide +kernel
theorem dL_law_230 : decode cL_law 230 = .ok (.iload_n 3, 1) := by decide +kernel
theorem dL_law_231 : decode cL_law 231 = .ok (.iconst 2, 1) := by decide +kernel
theorem dL_law_232 : decode cL_law 232 = .ok (.iadd, 1) := by decide +kernel
theorem dL_law_233 : decode cL_law 233 = .ok (.iaload, 1) := by decide +kernel
theorem dL_law_234 : decode cL_law 234 = .ok (.invokevirtual 30, 3) := by decide +kernel
theorem dL_law_237 : decode cL_law 237 = .ok (.if_icmp .eq 442, 3) := by decide +kernel
theorem dL_law_240 : decode cL_law 240 = .ok (.iconst 0, 1) := by decide +kernel
theorem dL_law_241 : decode cL_law 241 = .ok (.ireturn, 1) := by decide +kernel
theorem dL_law_242 : decode cL_law 242 = .ok (.aload_n 1, 1) := by decide +kernel
theorem dL_law_243 : decode cL_law 243 = .ok (.aload_n 0, 1) := by decide +kernel
theorem dL_law_244 : decode cL_law 244 = .ok (.iload_n 3, 1) := by decide +kernel
theorem dL_law_245 : decode cL_law 245 = .ok (.iconst 1, 1) := by decide +kernel
theorem dL_law_246 : decode cL_law 246 = .ok (.iadd, 1) := by decide +kernel
theorem dL_law_247 : decode cL_law 247 = .ok (.iaload, 1) := by decide +kernel
theorem dL_law_248 : decode cL_law 248 = .ok (.invokevirtual 31, 3) := by decide +kernel
theorem dL_law_251 : decode cL_law 251 = .ok (.aload_n 2, 1) := by decide +kernel
theorem dL_law_252 : decode cL_law 252 = .ok (.aload_n 0, 1) := by decide +kernel
theorem dL_law_253 : decode cL_law 253 = .ok (.iload_n 3, 1) := by decide +kernel
theorem dL_law_254 : decode cL_law 254 = .ok (.iconst 1, 1) := by decide +kernel
theorem dL_law_255 : decode cL_law 255 = .ok (.iadd, 1) := by decide +kernel
theorem dL_law_256 : decode cL_law 256 = .ok (.iaload, 1) := by decide +kernel
theorem dL_law_257 : decode cL_law 257 = .ok (.invokevirtual 34, 3) := by decide +kernel
theorem dL_law_260 : decode cL_law 260 = .ok (.if_icmp .eq 419, 3) := by decide +kernel
theorem dL_law_263 : decode cL_law 263 = .ok (.iconst 0, 1) := by decide +kernel
theorem dL_law_264 : decode cL_law 264 = .ok (.ireturn, 1) := by decide +kernel
theorem dL_law_265 : decode cL_law 265 = .ok (.aload_n 1, 1) := by decide +kernel
theorem dL_law_266 : decode cL_law 266 = .ok (.aload_n 0, 1) := by decide +kernel
theorem dL_law_267 : decode cL_law 267 = .ok (.iload_n 3, 1) := by decide +kernel
theorem dL_law_268 : decode cL_law 268 = .ok (.iconst 1, 1) := by decide +kernel
theorem dL_law_269 : decode cL_law 269 = .ok (.iadd, 1) := by decide +kernel
theorem dL_law_270 : decode cL_law 270 = .ok (.iaload, 1) := by decide +kernel
theorem dL_law_271 : decode cL_law 271 = .ok (.invokevirtual 35, 3) := by decide +kernel
theorem dL_law_274 : decode cL_law 274 = .ok (.aload_n 2, 1) := by decide +kernel
theorem dL_law_275 : decode cL_law 275 = .ok (.aload_n 0, 1) := by decide +kernel
theorem dL_law_276 : decode cL_law 276 = .ok (.iload_n 3, 1) := by decide +kernel
theorem dL_law_277 : decode cL_law 277 = .ok (.iconst 1, 1) := by decide +kernel
theorem dL_law_278 : decode cL_law 278 = .ok (.iadd, 1) := by decide +kernel
theorem dL_law_279 : decode cL_law 279 = .ok (.iaload, 1) := by decide +kernel
theorem dL_law_280 : decode cL_law 280 = .ok (.invokevirtual 38, 3) := by decide +kernel
theorem dL_law_283 : decode cL_law 283 = .ok (.if_icmp .eq 396, 3) := by decide +kernel
theorem dL_law_286 : decode cL_law 286 = .ok (.iconst 0, 1) := by decide +kernel
theorem dL_law_287 : decode cL_law 287 = .ok (.ireturn, 1) := by decide +kernel
theorem dL_law_288 : decode cL_law 288 = .ok (.aload_n 1, 1) := by decide +kernel
theorem dL_law_289 : decode cL_law 289 = .ok (.aload_n 0, 1) := by decide +kernel
theorem dL_law_290 : decode cL_law 290 = .ok (.iload_n 3, 1) := by decide +kernel
theorem dL_law_291 : decode cL_law 291 = .ok (.iconst 1, 1) := by decide +kernel
theorem dL_law_292 : decode cL_law 292 = .ok (.iadd, 1) := by decide +kernel
theorem dL_law_293 : decode cL_law 293 = .ok (.iaload, 1) := by decide +kernel
theorem dL_law_294 : decode cL_law 294 = .ok (.aload_n 0, 1) := by decide +kernel
theorem dL_law_295 : decode cL_law 295 = .ok (.iload_n 3, 1) := by decide +kernel
theorem dL_law_296 : decode cL_law 296 = .ok (.iconst 2, 1) := by decide +kernel
theorem dL_law_297 : decode cL_law 297 = .ok (.iadd, 1) := by decide +kernel
theorem dL_law_298 : decode cL_law 298 = .ok (.iaload, 1) := by decide +kernel
theorem dL_law_299 : decode cL_law 299 = .ok (.invokevirtual 39, 3) := by decide +kernel
theorem dL_law_302 : decode cL_law 302 = .ok (.aload_n 2, 1) := by decide +kernel
theorem dL_law_303 : decode cL_law 303 = .ok (.aload_n 0, 1) := by decide +kernel
theorem dL_law_304 : decode cL_law 304 = .ok (.iload_n 3, 1) := by decide +kernel
theorem dL_law_305 : decode cL_law 305 = .ok (.iconst 1, 1) := by decide +kernel
theorem dL_law_306 : decode cL_law 306 = .ok (.iadd, 1) := by decide +kernel
theorem dL_law_307 : decode cL_law 307 = .ok (.iaload, 1) := by decide +kernel
theorem dL_law_308 : decode cL_law 308 = .ok (.aload_n 0, 1) := by decide +kernel
theorem dL_law_309 : decode cL_law 309 = .ok (.iload_n 3, 1) := by decide +kernel
theorem dL_law_310 : decode cL_law 310 = .ok (.iconst 2, 1) := by decide +kernel
theorem dL_law_311 : decode cL_law 311 = .ok (.iadd, 1) := by decide +kernel
theorem dL_law_312 : decode cL_law 312 = .ok (.iaload, 1) := by decide +kernel
theorem dL_law_313 : decode cL_law 313 = .ok (.invokevirtual 42, 3) := by decide +kernel
theorem dL_law_316 : decode cL_law 316 = .ok (.if_icmp .eq 363, 3) := by decide +kernel
theorem dL_law_319 : decode cL_law 319 = .ok (.iconst 0, 1) := by decide +kernel
theorem dL_law_320 : decode cL_law 320 = .ok (.ireturn, 1) := by decide +kernel
theorem dL_law_321 : decode cL_law 321 = .ok (.aload_n 1, 1) := by decide +kernel
theorem dL_law_322 : decode cL_law 322 = .ok (.aload_n 0, 1) := by decide +kernel
theorem dL_law_323 : decode cL_law 323 = .ok (.iload_n 3, 1) := by decide +kernel
theorem dL_law_324 : decode cL_law 324 = .ok (.iconst 1, 1) := by decide +kernel
theorem dL_law_325 : decode cL_law 325 = .ok (.iadd, 1) := by decide +kernel
theorem dL_law_326 : decode cL_law 326 = .ok (.iaload, 1) := by decide +kernel
theorem dL_law_327 : decode cL_law 327 = .ok (.invokevirtual 43, 3) := by decide +kernel
theorem dL_law_330 : decode cL_law 330 = .ok (.aload_n 2, 1) := by decide +kernel
theorem dL_law_331 : decode cL_law 331 = .ok (.aload_n 0, 1) := by decide +kernel
theorem dL_law_332 : decode cL_law 332 = .ok (.iload_n 3, 1) := by decide +kernel
theorem dL_law_333 : decode cL_law 333 = .ok (.iconst 1, 1) := by decide +kernel
theorem dL_law_334 : decode cL_law 334 = .ok (.iadd, 1) := by decide +kernel
theorem dL_law_335 : decode cL_law 335 = .ok (.iaload, 1) := by decide +kernel
theorem dL_law_336 : decode cL_law 336 = .ok (.invokevirtual 46, 3) := by decide +kernel
theorem dL_law_339 : decode cL_law 339 = .ok (.if_icmp .eq 340, 3) := by decide +kernel
theorem dL_law_342 : decode cL_law 342 = .ok (.iconst 0, 1) := by decide +kernel
theorem dL_law_343 : decode cL_law 343 = .ok (.ireturn, 1) := by decide +kernel
theorem dL_law_344 : decode cL_law 344 = .ok (.aload_n 1, 1) := by decide +kernel
theorem dL_law_345 : decode cL_law 345 = .ok (.aload_n 0, 1) := by decide +kernel
theorem dL_law_346 : decode cL_law 346 = .ok (.iload_n 3, 1) := by decide +kernel
theorem dL_law_347 : decode cL_law 347 = .ok (.iconst 1, 1) := by decide +kernel
theorem dL_law_348 : decode cL_law 348 = .ok (.iadd, 1) := by decide +kernel
theorem dL_law_349 : decode cL_law 349 = .ok (.iaload, 1) := by decide +kernel
theorem dL_law_350 : decode cL_law 350 = .ok (.invokevirtual 47, 3) := by decide +kernel
theorem dL_law_353 : decode cL_law 353 = .ok (.aload_n 2, 1) := by decide +kernel
theorem dL_law_354 : decode cL_law 354 = .ok (.aload_n 0, 1) := by decide +kernel
theorem dL_law_355 : decode cL_law 355 = .ok (.iload_n 3, 1) := by decide +kernel
theorem dL_law_356 : decode cL_law 356 = .ok (.iconst 1, 1) := by decide +kernel
theorem dL_law_357 : decode cL_law 357 = .ok (.iadd, 1) := by decide +kernel
theorem dL_law_358 : decode cL_law 358 = .ok (.iaload, 1) := by decide +kernel
theorem dL_law_359 : decode cL_law 359 = .ok (.invokevirtual 50, 3) := by decide +kernel
theorem dL_law_362 : decode cL_law 362 = .ok (.if_icmp .eq 317, 3) := by decide +kernel
theorem dL_law_365 : decode cL_law 365 = .ok (.iconst 0, 1) := by decide +kernel
theorem dL_law_366 : decode cL_law 366 = .ok (.ireturn, 1) := by decide +kernel
theorem dL_law_367 : decode cL_law 367 = .ok (.aload_n 1, 1) := by decide +kernel
theorem dL_law_368 : decode cL_law 368 = .ok (.aload_n 0, 1) := by decide +kernel
theorem dL_law_369 : decode cL_law 369 = .ok (.iload_n 3, 1) := by decide +kernel
theorem dL_law_370 : decode cL_law 370 = .ok (.iconst 1, 1) := by decide +kernel
theorem dL_law_371 : decode cL_law 371 = .ok (.iadd, 1) := by decide +kernel
theorem dL_law_372 : decode cL_law 372 = .ok (.iaload, 1) := by decide +kernel
theorem dL_law_373 : decode cL_law 373 = .ok (.aload_n 0, 1) := by decide +kernel
theorem dL_law_374 : decode cL_law 374 = .ok (.iload_n 3, 1) := by decide +kernel
theorem dL_law_375 : decode cL_law 375 = .ok (.iconst 2, 1) := by decide +kernel
theorem dL_law_376 : decode cL_law 376 = .ok (.iadd, 1) := by decide +kernel
theorem dL_law_377 : decode cL_law 377 = .ok (.iaload, 1) := by decide +kernel
theorem dL_law_378 : decode cL_law 378 = .ok (.invokevirtual 51, 3) := by decide +kernel
theorem dL_law_381 : decode cL_law 381 = .ok (.aload_n 2, 1) := by decide +kernel
theorem dL_law_382 : decode cL_law 382 = .ok (.aload_n 0, 1) := by decide +kernel
theorem dL_law_383 : decode cL_law 383 = .ok (.iload_n 3, 1) := by decide +kernel
theorem dL_law_384 : decode cL_law 384 = .ok (.iconst 1, 1) := by decide +kernel
theorem dL_law_385 : decode cL_law 385 = .ok (.iadd, 1) := by decide +kernel
theorem dL_law_386 : decode cL_law 386 = .ok (.iaload, 1) := by decide +kernel
theorem dL_law_387 : decode cL_law 387 = .ok (.aload_n 0, 1) := by decide +kernel
theorem dL_law_388 : decode cL_law 388 = .ok (.iload_n 3, 1) := by decide +kernel
theorem dL_law_389 : decode cL_law 389 = .ok (.iconst 2, 1) := by decide +kernel
theorem dL_law_390 : decode cL_law 390 = .ok (.iadd, 1) := by decide +kernel
theorem dL_law_391 : decode cL_law 391 = .ok (.iaload, 1) := by decide +kernel
theorem dL_law_392 : decode cL_law 392 = .ok (.invokevirtual 54, 3) := by decide +kernel
theorem dL_law_395 : decode cL_law 395 = .ok (.if_icmp .eq 284, 3) := by decide +kernel
theorem dL_law_398 : decode cL_law 398 = .ok (.iconst 0, 1) := by decide +kernel
theorem dL_law_399 : decode cL_law 399 = .ok (.ireturn, 1) := by decide +kernel
theorem dL_law_400 : decode cL_law 400 = .ok (.aload_n 1, 1) := by decide +kernel
theorem dL_law_401 : decode cL_law 401 = .ok (.aload_n 0, 1) := by decide +kernel
theorem dL_law_402 : decode cL_law 402 = .ok (.iload_n 3, 1) := by decide +kernel
theorem dL_law_403 : decode cL_law 403 = .ok (.iconst 1, 1) := by decide +kernel
theorem dL_law_404 : decode cL_law 404 = .ok (.iadd, 1) := by decide +kernel
theorem dL_law_405 : decode cL_law 405 = .ok (.iaload, 1) := by decide +kernel
theorem dL_law_406 : decode cL_law 406 = .ok (.invokevirtual 55, 3) := by decide +kernel
theorem dL_law_409 : decode cL_law 409 = .ok (.aload_n 2, 1) := by decide +kernel
theorem dL_law_410 : decode cL_law 410 = .ok (.aload_n 0, 1) := by decide +kernel
theorem dL_law_411 : decode cL_law 411 = .ok (.iload_n 3, 1) := by decide +kernel
theorem dL_law_412 : decode cL_law 412 = .ok (.iconst 1, 1) := by decide +kernel
theorem dL_law_413 : decode cL_law 413 = .ok (.iadd, 1) := by decide +kernel
theorem dL_law_414 : decode cL_law 414 = .ok (.iaload, 1) := by decide +kernel
theorem dL_law_415 : decode cL_law 415 = .ok (.invokevirtual 58, 3) := by decide +kernel
theorem dL_law_418 : decode cL_law 418 = .ok (.if_icmp .eq 261, 3) := by decide +kernel
theorem dL_law_421 : decode cL_law 421 = .ok (.iconst 0, 1) := by decide +kernel
theorem dL_law_422 : decode cL_law 422 = .ok (.ireturn, 1) := by decide +kernel
theorem dL_law_423 : decode cL_law 423 = .ok (.aload_n 1, 1) := by decide +kernel
theorem dL_law_424 : decode cL_law 424 = .ok (.aload_n 0, 1) := by decide +kernel
theorem dL_law_425 : decode cL_law 425 = .ok (.iload_n 3, 1) := by decide +kernel
theorem dL_law_426 : decode cL_law 426 = .ok (.iconst 1, 1) := by decide +kernel
theorem dL_law_427 : decode cL_law 427 = .ok (.iadd, 1) := by decide +kernel
theorem dL_law_428 : decode cL_law 428 = .ok (.iaload, 1) := by decide +kernel
theorem dL_law_429 : decode cL_law 429 = .ok (.aload_n 0, 1) := by decide +kernel
theorem dL_law_430 : decode cL_law 430 = .ok (.iload_n 3, 1) := by decide +kernel
theorem dL_law_431 : decode cL_law 431 = .ok (.iconst 2, 1) := by decide +kernel
theorem dL_law_432 : decode cL_law 432 = .ok (.iadd, 1) := by decide +kernel
theorem dL_law_433 : decode cL_law 433 = .ok (.iaload, 1) := by decide +kernel
theorem dL_law_434 : decode cL_law 434 = .ok (.invokevirtual 59, 3) := by decide +kernel
theorem dL_law_437 : decode cL_law 437 = .ok (.aload_n 2, 1) := by decide +kernel
theorem dL_law_438 : decode cL_law 438 = .ok (.aload_n 0, 1) := by decide +kernel
theorem dL_law_439 : decode cL_law 439 = .ok (.iload_n 3, 1) := by decide +kernel
theorem dL_law_440 : decode cL_law 440 = .ok (.iconst 1, 1) := by decide +kernel
theorem dL_law_441 : decode cL_law 441 = .ok (.iadd, 1) := by decide +kernel
theorem dL_law_442 : decode cL_law 442 = .ok (.iaload, 1) := by decide +kernel
theorem dL_law_443 : decode cL_law 443 = .ok (.aload_n 0, 1) := by decide +kernel
theorem dL_law_444 : decode cL_law 444 = .ok (.iload_n 3, 1) := by decide +kernel
theorem dL_law_445 : decode cL_law 445 = .ok (.iconst 2, 1) := by decide +kernel
theorem dL_law_446 : decode cL_law 446 = .ok (.iadd, 1) := by decide +kernel
theorem dL_law_447 : decode cL_law 447 = .ok (.iaload, 1) := by decide +kernel
theorem dL_law_448 : decode cL_law 448 = .ok (.invokevirtual 62, 3) := by decide +kernel
theorem dL_law_451 : decode cL_law 451 = .ok (.if_icmp .eq 228, 3) := by decide +kernel
theorem dL_law_454 : decode cL_law 454 = .ok (.iconst 0, 1) := by decide +kernel
theorem dL_law_455 : decode cL_law 455 = .ok (.ireturn, 1) := by decide +kernel
theorem dL_law_456 : decode cL_law 456 = .ok (.aload_n 1, 1) := by decide +kernel
theorem dL_law_457 : decode cL_law 457 = .ok (.aload_n 0, 1) := by decide +kernel
theorem dL_law_458 : decode cL_law 458 = .ok (.iload_n 3, 1) := by decide +kernel
theorem dL_law_459 : decode cL_law 459 = .ok (.iconst 1, 1) := by decide +kernel
theorem dL_law_460 : decode cL_law 460 = .ok (.iadd, 1) := by decide +kernel
theorem dL_law_461 : decode cL_law 461 = .ok (.iaload, 1) := by decide +kernel
theorem dL_law_462 : decode cL_law 462 = .ok (.invokevirtual 63, 3) := by decide +kernel
theorem dL_law_465 : decode cL_law 465 = .ok (.aload_n 2, 1) := by decide +kernel
theorem dL_law_466 : decode cL_law 466 = .ok (.aload_n 0, 1) := by decide +kernel
theorem dL_law_467 : decode cL_law 467 = .ok (.iload_n 3, 1) := by decide +kernel
theorem dL_law_468 : decode cL_law 468 = .ok (.iconst 1, 1) := by decide +kernel
theorem dL_law_469 : decode cL_law 469 = .ok (.iadd, 1) := by decide +kernel
theorem dL_law_470 : decode cL_law 470 = .ok (.iaload, 1) := by decide +kernel
theorem dL_law_471 : decode cL_law 471 = .ok (.invokevirtual 66, 3) := by decide +kernel
theorem dL_law_474 : decode cL_law 474 = .ok (.if_icmp .eq 205, 3) := by decide +kernel
theorem dL_law_477 : decode cL_law 477 = .ok (.iconst 0, 1) := by decide +kernel
theorem dL_law_478 : decode cL_law 478 = .ok (.ireturn, 1) := by decide +kernel
theorem dL_law_479 : decode cL_law 479 = .ok (.aload_n 1, 1) := by decide +kernel
theorem dL_law_480 : decode cL_law 480 = .ok (.aload_n 0, 1) := by decide +kernel
theorem dL_law_481 : decode cL_law 481 = .ok (.iload_n 3, 1) := by decide +kernel
theorem dL_law_482 : decode cL_law 482 = .ok (.iconst 1, 1) := by decide +kernel
theorem dL_law_483 : decode cL_law 483 = .ok (.iadd, 1) := by decide +kernel
theorem dL_law_484 : decode cL_law 484 = .ok (.iaload, 1) := by decide +kernel
theorem dL_law_485 : decode cL_law 485 = .ok (.aload_n 0, 1) := by decide +kernel
theorem dL_law_486 : decode cL_law 486 = .ok (.iload_n 3, 1) := by decide +kernel
theorem dL_law_487 : decode cL_law 487 = .ok (.iconst 2, 1) := by decide +kernel
theorem dL_law_488 : decode cL_law 488 = .ok (.iadd, 1) := by decide +kernel
theorem dL_law_489 : decode cL_law 489 = .ok (.iaload, 1) := by decide +kernel
theorem dL_law_490 : decode cL_law 490 = .ok (.invokevirtual 67, 3) := by decide +kernel
theorem dL_law_493 : decode cL_law 493 = .ok (.aload_n 2, 1) := by decide +kernel
theorem dL_law_494 : decode cL_law 494 = .ok (.aload_n 0, 1) := by decide +kernel
theorem dL_law_495 : decode cL_law 495 = .ok (.iload_n 3, 1) := by decide +kernel
theorem dL_law_496 : decode cL_law 496 = .ok (.iconst 1, 1) := by decide +kernel
theorem dL_law_497 : decode cL_law 497 = .ok (.iadd, 1) := by decide +kernel
theorem dL_law_498 : decode cL_law 498 = .ok (.iaload, 1) := by decide +kernel
theorem dL_law_499 : decode cL_law 499 = .ok (.aload_n 0, 1) := by decide +kernel
theorem dL_law_500 : decode cL_law 500 = .ok (.iload_n 3, 1) := by decide +kernel
theorem dL_law_501 : decode cL_law 501 = .ok (.iconst 2, 1) := by decide +kernel
theorem dL_law_502 : decode cL_law 502 = .ok (.iadd, 1) := by decide +kernel
theorem dL_law_503 : decode cL_law 503 = .ok (.iaload, 1) := by decide +kernel
theorem dL_law_504 : decode cL_law 504 = .ok (.invokevirtual 70, 3) := by decide +kernel
theorem dL_law_507 : decode cL_law 507 = .ok (.if_icmp .eq 172, 3) := by decide +kernel
theorem dL_law_510 : decode cL_law 510 = .ok (.iconst 0, 1) := by decide +kernel
theorem dL_law_511 : decode cL_law 511 = .ok (.ireturn, 1) := by decide +kernel
theorem dL_law_512 : decode cL_law 512 = .ok (.aload_n 1, 1) := by decide +kernel
theorem dL_law_513 : decode cL_law 513 = .ok (.aload_n 0, 1) := by decide +kernel
theorem dL_law_514 : decode cL_law 514 = .ok (.iload_n 3, 1) := by decide +kernel
theorem dL_law_515 : decode cL_law 515 = .ok (.iconst 1, 1) := by decide +kernel
theorem dL_law_516 : decode cL_law 516 = .ok (.iadd, 1) := by decide +kernel
theorem dL_law_517 : decode cL_law 517 = .ok (.iaload, 1) := by decide +kernel
theorem dL_law_518 : decode cL_law 518 = .ok (.aload_n 0, 1) := by decide +kernel
theorem dL_law_519 : decode cL_law 519 = .ok (.iload_n 3, 1) := by decide +kernel
theorem dL_law_520 : decode cL_law 520 = .ok (.iconst 2, 1) := by decide +kernel
theorem dL_law_521 : decode cL_law 521 = .ok (.iadd, 1) := by decide +kernel
theorem dL_law_522 : decode cL_law 522 = .ok (.iaload, 1) := by decide +kernel
theorem dL_law_523 : decode cL_law 523 = .ok (.invokevirtual 71, 3) := by decide +kernel
theorem dL_law_526 : decode cL_law 526 = .ok (.aload_n 2, 1) := by decide +kernel
theorem dL_law_527 : decode cL_law 527 = .ok (.aload_n 0, 1) := by decide +kernel
theorem dL_law_528 : decode cL_law 528 = .ok (.iload_n 3, 1) := by decide +kernel
theorem dL_law_529 : decode cL_law 529 = .ok (.iconst 1, 1) := by decide +kernel
theorem dL_law_530 : decode cL_law 530 = .ok (.iadd, 1) := by decide +kernel
theorem dL_law_531 : decode cL_law 531 = .ok (.iaload, 1) := by decide +kernel
theorem dL_law_532 : decode cL_law 532 = .ok (.aload_n 0, 1) := by decide +kernel
theorem dL_law_533 : decode cL_law 533 = .ok (.iload_n 3, 1) := by decide +kernel
theorem dL_law_534 : decode cL_law 534 = .ok (.iconst 2, 1) := by decide +kernel
theorem dL_law_535 : decode cL_law 535 = .ok (.iadd, 1) := by decide +kernel
theorem dL_law_536 : decode cL_law 536 = .ok (.iaload, 1) := by decide +kernel
theorem dL_law_537 : decode cL_law 537 = .ok (.invokevirtual 74, 3) := by decide +kernel
theorem dL_law_540 : decode cL_law 540 = .ok (.if_icmp .eq 139, 3) := by decide +kernel
theorem dL_law_543 : decode cL_law 543 = .ok (.iconst 0, 1) := by decide +kernel
theorem dL_law_544 : decode cL_law 544 = .ok (.ireturn, 1) := by decide +kernel
theorem dL_law_545 : decode cL_law 545 = .ok (.aload_n 1, 1) := by decide +kernel
theorem dL_law_546 : decode cL_law 546 = .ok (.invokevirtual 75, 3) := by decide +kernel
theorem dL_law_549 : decode cL_law 549 = .ok (.aload_n 2, 1) := by decide +kernel
theorem dL_law_550 : decode cL_law 550 = .ok (.invokevirtual 79, 3) := by decide +kernel
theorem dL_law_553 : decode cL_law 553 = .ok (.if_icmp .eq 126, 3) := by decide +kernel
theorem dL_law_556 : decode cL_law 556 = .ok (.iconst 0, 1) := by decide +kernel
theorem dL_law_557 : decode cL_law 557 = .ok (.ireturn, 1) := by decide +kernel
theorem dL_law_558 : decode cL_law 558 = .ok (.aload_n 1, 1) := by decide +kernel
theorem dL_law_559 : decode cL_law 559 = .ok (.invokevirtual 80, 3) := by decide +kernel
theorem dL_law_562 : decode cL_law 562 = .ok (.aload_n 2, 1) := by decide +kernel
theorem dL_law_563 : decode cL_law 563 = .ok (.invokevirtual 83, 3) := by decide +kernel
theorem dL_law_566 : decode cL_law 566 = .ok (.if_icmp .eq 113, 3) := by decide +kernel
theorem dL_law_569 : decode cL_law 569 = .ok (.iconst 0, 1) := by decide +kernel
theorem dL_law_570 : decode cL_law 570 = .ok (.ireturn, 1) := by decide +kernel
theorem dL_law_571 : decode cL_law 571 = .ok (.aload_n 1, 1) := by decide +kernel
theorem dL_law_572 : decode cL_law 572 = .ok (.aload_n 0, 1) := by decide +kernel
theorem dL_law_573 : decode cL_law 573 = .ok (.iload_n 3, 1) := by decide +kernel
theorem dL_law_574 : decode cL_law 574 = .ok (.iconst 1, 1) := by decide +kernel
theorem dL_law_575 : decode cL_law 575 = .ok (.iadd, 1) := by decide +kernel
theorem dL_law_576 : decode cL_law 576 = .ok (.iaload, 1) := by decide +kernel
theorem dL_law_577 : decode cL_law 577 = .ok (.invokevirtual 84, 3) := by decide +kernel
theorem dL_law_580 : decode cL_law 580 = .ok (.aload_n 2, 1) := by decide +kernel
theorem dL_law_581 : decode cL_law 581 = .ok (.aload_n 0, 1) := by decide +kernel
theorem dL_law_582 : decode cL_law 582 = .ok (.iload_n 3, 1) := by decide +kernel
theorem dL_law_583 : decode cL_law 583 = .ok (.iconst 1, 1) := by decide +kernel
theorem dL_law_584 : decode cL_law 584 = .ok (.iadd, 1) := by decide +kernel
theorem dL_law_585 : decode cL_law 585 = .ok (.iaload, 1) := by decide +kernel
theorem dL_law_586 : decode cL_law 586 = .ok (.invokevirtual 87, 3) := by decide +kernel
theorem dL_law_589 : decode cL_law 589 = .ok (.if_icmp .eq 90, 3) := by decide +kernel
theorem dL_law_592 : decode cL_law 592 = .ok (.iconst 0, 1) := by decide +kernel
theorem dL_law_593 : decode cL_law 593 = .ok (.ireturn, 1) := by decide +kernel
theorem dL_law_594 : decode cL_law 594 = .ok (.aload_n 1, 1) := by decide +kernel
theorem dL_law_595 : decode cL_law 595 = .ok (.invokevirtual 88, 3) := by decide +kernel
theorem dL_law_598 : decode cL_law 598 = .ok (.aload_n 2, 1) := by decide +kernel
theorem dL_law_599 : decode cL_law 599 = .ok (.invokevirtual 91, 3) := by decide +kernel
theorem dL_law_602 : decode cL_law 602 = .ok (.if_icmp .eq 77, 3) := by decide +kernel
theorem dL_law_605 : decode cL_law 605 = .ok (.iconst 0, 1) := by decide +kernel
theorem dL_law_606 : decode cL_law 606 = .ok (.ireturn, 1) := by decide +kernel
theorem dL_law_607 : decode cL_law 607 = .ok (.aload_n 1, 1) := by decide +kernel
theorem dL_law_608 : decode cL_law 608 = .ok (.aload_n 0, 1) := by decide +kernel
theorem dL_law_609 : decode cL_law 609 = .ok (.iload_n 3, 1) := by decide +kernel
theorem dL_law_610 : decode cL_law 610 = .ok (.iconst 1, 1) := by decide +kernel
theorem dL_law_611 : decode cL_law 611 = .ok (.iadd, 1) := by decide +kernel
theorem dL_law_612 : decode cL_law 612 = .ok (.iaload, 1) := by decide +kernel
theorem dL_law_613 : decode cL_law 613 = .ok (.invokevirtual 92, 3) := by decide +kernel
theorem dL_law_616 : decode cL_law 616 = .ok (.aload_n 2, 1) := by decide +kernel
theorem dL_law_617 : decode cL_law 617 = .ok (.aload_n 0, 1) := by decide +kernel
theorem dL_law_618 : decode cL_law 618 = .ok (.iload_n 3, 1) := by decide +kernel
theorem dL_law_619 : decode cL_law 619 = .ok (.iconst 1, 1) := by decide +kernel
theorem dL_law_620 : decode cL_law 620 = .ok (.iadd, 1) := by decide +kernel
theorem dL_law_621 : decode cL_law 621 = .ok (.iaload, 1) := by decide +kernel
theorem dL_law_622 : decode cL_law 622 = .ok (.invokevirtual 95, 3) := by decide +kernel
theorem dL_law_625 : decode cL_law 625 = .ok (.if_icmp .eq 54, 3) := by decide +kernel
theorem dL_law_628 : decode cL_law 628 = .ok (.iconst 0, 1) := by decide +kernel
theorem dL_law_629 : decode cL_law 629 = .ok (.ireturn, 1) := by decide +kernel
theorem dL_law_630 : decode cL_law 630 = .ok (.aload_n 1, 1) := by decide +kernel
theorem dL_law_631 : decode cL_law 631 = .ok (.invokevirtual 96, 3) := by decide +kernel
theorem dL_law_634 : decode cL_law 634 = .ok (.aload_n 2, 1) := by decide +kernel
theorem dL_law_635 : decode cL_law 635 = .ok (.invokevirtual 99, 3) := by decide +kernel
theorem dL_law_638 : decode cL_law 638 = .ok (.if_icmp .eq 41, 3) := by decide +kernel
theorem dL_law_641 : decode cL_law 641 = .ok (.iconst 0, 1) := by decide +kernel
theorem dL_law_642 : decode cL_law 642 = .ok (.ireturn, 1) := by decide +kernel
theorem dL_law_643 : decode cL_law 643 = .ok (.aload_n 1, 1) := by decide +kernel
theorem dL_law_644 : decode cL_law 644 = .ok (.aload_n 0, 1) := by decide +kernel
theorem dL_law_645 : decode cL_law 645 = .ok (.iload_n 3, 1) := by decide +kernel
theorem dL_law_646 : decode cL_law 646 = .ok (.iconst 1, 1) := by decide +kernel
theorem dL_law_647 : decode cL_law 647 = .ok (.iadd, 1) := by decide +kernel
theorem dL_law_648 : decode cL_law 648 = .ok (.iaload, 1) := by decide +kernel
theorem dL_law_649 : decode cL_law 649 = .ok (.invokevirtual 100, 3) := by decide +kernel
theorem dL_law_652 : decode cL_law 652 = .ok (.aload_n 2, 1) := by decide +kernel
theorem dL_law_653 : decode cL_law 653 = .ok (.aload_n 0, 1) := by decide +kernel
theorem dL_law_654 : decode cL_law 654 = .ok (.iload_n 3, 1) := by decide +kernel
theorem dL_law_655 : decode cL_law 655 = .ok (.iconst 1, 1) := by decide +kernel
theorem dL_law_656 : decode cL_law 656 = .ok (.iadd, 1) := by decide +kernel
theorem dL_law_657 : decode cL_law 657 = .ok (.iaload, 1) := by decide +kernel
theorem dL_law_658 : decode cL_law 658 = .ok (.invokevirtual 103, 3) := by decide +kernel
theorem dL_law_661 : decode cL_law 661 = .ok (.if_icmp .eq 18, 3) := by decide +kernel
theorem dL_law_664 : decode cL_law 664 = .ok (.iconst 0, 1) := by decide +kernel
theorem dL_law_665 : decode cL_law 665 = .ok (.ireturn, 1) := by decide +kernel
theorem dL_law_666 : decode cL_law 666 = .ok (.aload_n 1, 1) := by decide +kernel
theorem dL_law_667 : decode cL_law 667 = .ok (.invokevirtual 104, 3) := by decide +kernel
theorem dL_law_670 : decode cL_law 670 = .ok (.aload_n 2, 1) := by decide +kernel
theorem dL_law_671 : decode cL_law 671 = .ok (.invokevirtual 107, 3) := by decide +kernel
theorem dL_law_674 : decode cL_law 674 = .ok (.if_icmp .eq 5, 3) := by decide +kernel
theorem dL_law_677 : decode cL_law 677 = .ok (.iconst 0, 1) := by decide +kernel
theorem dL_law_678 : decode cL_law 678 = .ok (.ireturn, 1) := by decide +kernel
theorem dL_law_679 : decode cL_law 679 = .ok (.iinc 3 3, 3) := by decide +kernel
theorem dL_law_682 : decode cL_law 682 = .ok (.goto (-664), 3) := by decide +kernel
theorem dL_law_685 : decode cL_law 685 = .ok (.iconst 1, 1) := by decide +kernel
theorem dL_law_686 : decode cL_law 686 = .ok (.ireturn, 1) := by decide +kernel
