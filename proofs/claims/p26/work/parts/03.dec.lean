/-! the instructions -/
theorem dX0_init_0 : decode cX0_init 0 = .ok (.aload_n 0, 1) := by decide +kernel
theorem dX0_init_1 : decode cX0_init 1 = .ok (.invokespecial 3, 3) := by decide +kernel
theorem dX0_init_4 : decode cX0_init 4 = .ok (.aload_n 0, 1) := by decide +kernel
theorem dX0_init_5 : decode cX0_init 5 = .ok (.iconst 4, 1) := by decide +kernel
theorem dX0_init_6 : decode cX0_init 6 = .ok (.anewarray 9, 3) := by decide +kernel
theorem dX0_init_9 : decode cX0_init 9 = .ok (.dup, 1) := by decide +kernel
theorem dX0_init_10 : decode cX0_init 10 = .ok (.iconst 0, 1) := by decide +kernel
theorem dX0_init_11 : decode cX0_init 11 = .ok (.new 9, 3) := by decide +kernel
theorem dX0_init_14 : decode cX0_init 14 = .ok (.dup, 1) := by decide +kernel
theorem dX0_init_15 : decode cX0_init 15 = .ok (.invokespecial 11, 3) := by decide +kernel
theorem dX0_init_18 : decode cX0_init 18 = .ok (.aastore, 1) := by decide +kernel
theorem dX0_init_19 : decode cX0_init 19 = .ok (.dup, 1) := by decide +kernel
theorem dX0_init_20 : decode cX0_init 20 = .ok (.iconst 1, 1) := by decide +kernel
theorem dX0_init_21 : decode cX0_init 21 = .ok (.new 9, 3) := by decide +kernel
theorem dX0_init_24 : decode cX0_init 24 = .ok (.dup, 1) := by decide +kernel
theorem dX0_init_25 : decode cX0_init 25 = .ok (.invokespecial 11, 3) := by decide +kernel
theorem dX0_init_28 : decode cX0_init 28 = .ok (.aastore, 1) := by decide +kernel
theorem dX0_init_29 : decode cX0_init 29 = .ok (.dup, 1) := by decide +kernel
theorem dX0_init_30 : decode cX0_init 30 = .ok (.iconst 2, 1) := by decide +kernel
theorem dX0_init_31 : decode cX0_init 31 = .ok (.new 9, 3) := by decide +kernel
theorem dX0_init_34 : decode cX0_init 34 = .ok (.dup, 1) := by decide +kernel
theorem dX0_init_35 : decode cX0_init 35 = .ok (.invokespecial 11, 3) := by decide +kernel
theorem dX0_init_38 : decode cX0_init 38 = .ok (.aastore, 1) := by decide +kernel
theorem dX0_init_39 : decode cX0_init 39 = .ok (.dup, 1) := by decide +kernel
theorem dX0_init_40 : decode cX0_init 40 = .ok (.iconst 3, 1) := by decide +kernel
theorem dX0_init_41 : decode cX0_init 41 = .ok (.new 9, 3) := by decide +kernel
theorem dX0_init_44 : decode cX0_init 44 = .ok (.dup, 1) := by decide +kernel
theorem dX0_init_45 : decode cX0_init 45 = .ok (.invokespecial 11, 3) := by decide +kernel
theorem dX0_init_48 : decode cX0_init 48 = .ok (.aastore, 1) := by decide +kernel
theorem dX0_init_49 : decode cX0_init 49 = .ok (.putfield 12, 3) := by decide +kernel
theorem dX0_init_52 : decode cX0_init 52 = .ok (.return_, 1) := by decide +kernel
theorem dX0_keep_0 : decode cX0_keep 0 = .ok (.aload_n 0, 1) := by decide +kernel
theorem dX0_keep_1 : decode cX0_keep 1 = .ok (.getfield 12, 3) := by decide +kernel
theorem dX0_keep_4 : decode cX0_keep 4 = .ok (.aload_n 0, 1) := by decide +kernel
theorem dX0_keep_5 : decode cX0_keep 5 = .ok (.aload_n 0, 1) := by decide +kernel
theorem dX0_keep_6 : decode cX0_keep 6 = .ok (.getfield 18, 3) := by decide +kernel
theorem dX0_keep_9 : decode cX0_keep 9 = .ok (.invokevirtual 22, 3) := by decide +kernel
theorem dX0_keep_12 : decode cX0_keep 12 = .ok (.aaload, 1) := by decide +kernel
theorem dX0_keep_13 : decode cX0_keep 13 = .ok (.aload_n 1, 1) := by decide +kernel
theorem dX0_keep_14 : decode cX0_keep 14 = .ok (.invokevirtual 26, 3) := by decide +kernel
theorem dX0_keep_17 : decode cX0_keep 17 = .ok (.aload_n 0, 1) := by decide +kernel
theorem dX0_keep_18 : decode cX0_keep 18 = .ok (.getfield 18, 3) := by decide +kernel
theorem dX0_keep_21 : decode cX0_keep 21 = .ok (.iconst 4, 1) := by decide +kernel
theorem dX0_keep_22 : decode cX0_keep 22 = .ok (.if_icmp .ge 16, 3) := by decide +kernel
theorem dX0_keep_25 : decode cX0_keep 25 = .ok (.aload_n 0, 1) := by decide +kernel
theorem dX0_keep_26 : decode cX0_keep 26 = .ok (.dup, 1) := by decide +kernel
theorem dX0_keep_27 : decode cX0_keep 27 = .ok (.getfield 18, 3) := by decide +kernel
theorem dX0_keep_30 : decode cX0_keep 30 = .ok (.iconst 1, 1) := by decide +kernel
theorem dX0_keep_31 : decode cX0_keep 31 = .ok (.iadd, 1) := by decide +kernel
theorem dX0_keep_32 : decode cX0_keep 32 = .ok (.putfield 18, 3) := by decide +kernel
theorem dX0_keep_35 : decode cX0_keep 35 = .ok (.goto 12, 3) := by decide +kernel
theorem dX0_keep_38 : decode cX0_keep 38 = .ok (.aload_n 0, 1) := by decide +kernel
theorem dX0_keep_39 : decode cX0_keep 39 = .ok (.aload_n 0, 1) := by decide +kernel
theorem dX0_keep_40 : decode cX0_keep 40 = .ok (.iconst 1, 1) := by decide +kernel
theorem dX0_keep_41 : decode cX0_keep 41 = .ok (.invokevirtual 22, 3) := by decide +kernel
theorem dX0_keep_44 : decode cX0_keep 44 = .ok (.putfield 30, 3) := by decide +kernel
theorem dX0_keep_47 : decode cX0_keep 47 = .ok (.return_, 1) := by decide +kernel
theorem dX0_rowOf_0 : decode cX0_rowOf 0 = .ok (.aload_n 0, 1) := by decide +kernel
theorem dX0_rowOf_1 : decode cX0_rowOf 1 = .ok (.getfield 30, 3) := by decide +kernel
theorem dX0_rowOf_4 : decode cX0_rowOf 4 = .ok (.iload_n 1, 1) := by decide +kernel
theorem dX0_rowOf_5 : decode cX0_rowOf 5 = .ok (.iadd, 1) := by decide +kernel
theorem dX0_rowOf_6 : decode cX0_rowOf 6 = .ok (.iconst 4, 1) := by decide +kernel
theorem dX0_rowOf_7 : decode cX0_rowOf 7 = .ok (.invokestatic 33, 3) := by decide +kernel
theorem dX0_rowOf_10 : decode cX0_rowOf 10 = .ok (.ireturn, 1) := by decide +kernel
theorem dX1_init_0 : decode cX1_init 0 = .ok (.aload_n 0, 1) := by decide +kernel
theorem dX1_init_1 : decode cX1_init 1 = .ok (.invokespecial 3, 3) := by decide +kernel
theorem dX1_init_4 : decode cX1_init 4 = .ok (.aload_n 0, 1) := by decide +kernel
theorem dX1_init_5 : decode cX1_init 5 = .ok (.ldc 9, 2) := by decide +kernel
theorem dX1_init_7 : decode cX1_init 7 = .ok (.putfield 10, 3) := by decide +kernel
theorem dX1_init_10 : decode cX1_init 10 = .ok (.aload_n 0, 1) := by decide +kernel
theorem dX1_init_11 : decode cX1_init 11 = .ok (.iconst 3, 1) := by decide +kernel
theorem dX1_init_12 : decode cX1_init 12 = .ok (.newarray .int, 2) := by decide +kernel
theorem dX1_init_14 : decode cX1_init 14 = .ok (.dup, 1) := by decide +kernel
theorem dX1_init_15 : decode cX1_init 15 = .ok (.iconst 0, 1) := by decide +kernel
theorem dX1_init_16 : decode cX1_init 16 = .ok (.bipush 120, 2) := by decide +kernel
theorem dX1_init_18 : decode cX1_init 18 = .ok (.iastore, 1) := by decide +kernel
theorem dX1_init_19 : decode cX1_init 19 = .ok (.dup, 1) := by decide +kernel
theorem dX1_init_20 : decode cX1_init 20 = .ok (.iconst 1, 1) := by decide +kernel
theorem dX1_init_21 : decode cX1_init 21 = .ok (.bipush 40, 2) := by decide +kernel
theorem dX1_init_23 : decode cX1_init 23 = .ok (.iastore, 1) := by decide +kernel
theorem dX1_init_24 : decode cX1_init 24 = .ok (.dup, 1) := by decide +kernel
theorem dX1_init_25 : decode cX1_init 25 = .ok (.iconst 2, 1) := by decide +kernel
theorem dX1_init_26 : decode cX1_init 26 = .ok (.sipush 1500, 3) := by decide +kernel
theorem dX1_init_29 : decode cX1_init 29 = .ok (.iastore, 1) := by decide +kernel
theorem dX1_init_30 : decode cX1_init 30 = .ok (.putfield 16, 3) := by decide +kernel
theorem dX1_init_33 : decode cX1_init 33 = .ok (.aload_n 0, 1) := by decide +kernel
theorem dX1_init_34 : decode cX1_init 34 = .ok (.bipush 7, 2) := by decide +kernel
theorem dX1_init_36 : decode cX1_init 36 = .ok (.newarray .int, 2) := by decide +kernel
theorem dX1_init_38 : decode cX1_init 38 = .ok (.putfield 20, 3) := by decide +kernel
theorem dX1_init_41 : decode cX1_init 41 = .ok (.aload_n 0, 1) := by decide +kernel
theorem dX1_init_42 : decode cX1_init 42 = .ok (.bipush 60, 2) := by decide +kernel
theorem dX1_init_44 : decode cX1_init 44 = .ok (.newarray .int, 2) := by decide +kernel
theorem dX1_init_46 : decode cX1_init 46 = .ok (.putfield 23, 3) := by decide +kernel
theorem dX1_init_49 : decode cX1_init 49 = .ok (.return_, 1) := by decide +kernel
theorem dX1_copyFrom_0 : decode cX1_copyFrom 0 = .ok (.aload_n 0, 1) := by decide +kernel
theorem dX1_copyFrom_1 : decode cX1_copyFrom 1 = .ok (.aload_n 1, 1) := by decide +kernel
theorem dX1_copyFrom_2 : decode cX1_copyFrom 2 = .ok (.getfield 26, 3) := by decide +kernel
theorem dX1_copyFrom_5 : decode cX1_copyFrom 5 = .ok (.putfield 26, 3) := by decide +kernel
theorem dX1_copyFrom_8 : decode cX1_copyFrom 8 = .ok (.aload_n 0, 1) := by decide +kernel
theorem dX1_copyFrom_9 : decode cX1_copyFrom 9 = .ok (.aload_n 1, 1) := by decide +kernel
theorem dX1_copyFrom_10 : decode cX1_copyFrom 10 = .ok (.getfield 10, 3) := by decide +kernel
theorem dX1_copyFrom_13 : decode cX1_copyFrom 13 = .ok (.putfield 10, 3) := by decide +kernel
theorem dX1_copyFrom_16 : decode cX1_copyFrom 16 = .ok (.aload_n 0, 1) := by decide +kernel
theorem dX1_copyFrom_17 : decode cX1_copyFrom 17 = .ok (.aload_n 1, 1) := by decide +kernel
theorem dX1_copyFrom_18 : decode cX1_copyFrom 18 = .ok (.getfield 29, 3) := by decide +kernel
theorem dX1_copyFrom_21 : decode cX1_copyFrom 21 = .ok (.putfield 29, 3) := by decide +kernel
theorem dX1_copyFrom_24 : decode cX1_copyFrom 24 = .ok (.aload_n 0, 1) := by decide +kernel
theorem dX1_copyFrom_25 : decode cX1_copyFrom 25 = .ok (.aload_n 1, 1) := by decide +kernel
theorem dX1_copyFrom_26 : decode cX1_copyFrom 26 = .ok (.getfield 32, 3) := by decide +kernel
theorem dX1_copyFrom_29 : decode cX1_copyFrom 29 = .ok (.putfield 32, 3) := by decide +kernel
theorem dX1_copyFrom_32 : decode cX1_copyFrom 32 = .ok (.aload_n 0, 1) := by decide +kernel
theorem dX1_copyFrom_33 : decode cX1_copyFrom 33 = .ok (.aload_n 1, 1) := by decide +kernel
theorem dX1_copyFrom_34 : decode cX1_copyFrom 34 = .ok (.getfield 35, 3) := by decide +kernel
theorem dX1_copyFrom_37 : decode cX1_copyFrom 37 = .ok (.putfield 35, 3) := by decide +kernel
theorem dX1_copyFrom_40 : decode cX1_copyFrom 40 = .ok (.aload_n 0, 1) := by decide +kernel
theorem dX1_copyFrom_41 : decode cX1_copyFrom 41 = .ok (.aload_n 1, 1) := by decide +kernel
theorem dX1_copyFrom_42 : decode cX1_copyFrom 42 = .ok (.getfield 38, 3) := by decide +kernel
theorem dX1_copyFrom_45 : decode cX1_copyFrom 45 = .ok (.putfield 38, 3) := by decide +kernel
theorem dX1_copyFrom_48 : decode cX1_copyFrom 48 = .ok (.aload_n 0, 1) := by decide +kernel
theorem dX1_copyFrom_49 : decode cX1_copyFrom 49 = .ok (.aload_n 1, 1) := by decide +kernel
theorem dX1_copyFrom_50 : decode cX1_copyFrom 50 = .ok (.getfield 41, 3) := by decide +kernel
theorem dX1_copyFrom_53 : decode cX1_copyFrom 53 = .ok (.putfield 41, 3) := by decide +kernel
theorem dX1_copyFrom_56 : decode cX1_copyFrom 56 = .ok (.aload_n 0, 1) := by decide +kernel
theorem dX1_copyFrom_57 : decode cX1_copyFrom 57 = .ok (.aload_n 1, 1) := by decide +kernel
theorem dX1_copyFrom_58 : decode cX1_copyFrom 58 = .ok (.getfield 44, 3) := by decide +kernel
theorem dX1_copyFrom_61 : decode cX1_copyFrom 61 = .ok (.putfield 44, 3) := by decide +kernel
theorem dX1_copyFrom_64 : decode cX1_copyFrom 64 = .ok (.aload_n 1, 1) := by decide +kernel
theorem dX1_copyFrom_65 : decode cX1_copyFrom 65 = .ok (.getfield 16, 3) := by decide +kernel
theorem dX1_copyFrom_68 : decode cX1_copyFrom 68 = .ok (.iconst 0, 1) := by decide +kernel
theorem dX1_copyFrom_69 : decode cX1_copyFrom 69 = .ok (.aload_n 0, 1) := by decide +kernel
theorem dX1_copyFrom_70 : decode cX1_copyFrom 70 = .ok (.getfield 16, 3) := by decide +kernel
theorem dX1_copyFrom_73 : decode cX1_copyFrom 73 = .ok (.iconst 0, 1) := by decide +kernel
theorem dX1_copyFrom_74 : decode cX1_copyFrom 74 = .ok (.iconst 3, 1) := by decide +kernel
theorem dX1_copyFrom_75 : decode cX1_copyFrom 75 = .ok (.invokestatic 47, 3) := by decide +kernel
theorem dX1_copyFrom_78 : decode cX1_copyFrom 78 = .ok (.aload_n 1, 1) := by decide +kernel
theorem dX1_copyFrom_79 : decode cX1_copyFrom 79 = .ok (.getfield 20, 3) := by decide +kernel
theorem dX1_copyFrom_82 : decode cX1_copyFrom 82 = .ok (.iconst 0, 1) := by decide +kernel
theorem dX1_copyFrom_83 : decode cX1_copyFrom 83 = .ok (.aload_n 0, 1) := by decide +kernel
theorem dX1_copyFrom_84 : decode cX1_copyFrom 84 = .ok (.getfield 20, 3) := by decide +kernel
theorem dX1_copyFrom_87 : decode cX1_copyFrom 87 = .ok (.iconst 0, 1) := by decide +kernel
theorem dX1_copyFrom_88 : decode cX1_copyFrom 88 = .ok (.bipush 7, 2) := by decide +kernel
theorem dX1_copyFrom_90 : decode cX1_copyFrom 90 = .ok (.invokestatic 47, 3) := by decide +kernel
theorem dX1_copyFrom_93 : decode cX1_copyFrom 93 = .ok (.aload_n 1, 1) := by decide +kernel
theorem dX1_copyFrom_94 : decode cX1_copyFrom 94 = .ok (.getfield 23, 3) := by decide +kernel
theorem dX1_copyFrom_97 : decode cX1_copyFrom 97 = .ok (.iconst 0, 1) := by decide +kernel
theorem dX1_copyFrom_98 : decode cX1_copyFrom 98 = .ok (.aload_n 0, 1) := by decide +kernel
theorem dX1_copyFrom_99 : decode cX1_copyFrom 99 = .ok (.getfield 23, 3) := by decide +kernel
theorem dX1_copyFrom_102 : decode cX1_copyFrom 102 = .ok (.iconst 0, 1) := by decide +kernel
theorem dX1_copyFrom_103 : decode cX1_copyFrom 103 = .ok (.bipush 60, 2) := by decide +kernel
theorem dX1_copyFrom_105 : decode cX1_copyFrom 105 = .ok (.invokestatic 47, 3) := by decide +kernel
theorem dX1_copyFrom_108 : decode cX1_copyFrom 108 = .ok (.return_, 1) := by decide +kernel
theorem dX1_level_0 : decode cX1_level 0 = .ok (.aload_n 0, 1) := by decide +kernel
theorem dX1_level_1 : decode cX1_level 1 = .ok (.getfield 10, 3) := by decide +kernel
theorem dX1_level_4 : decode cX1_level 4 = .ok (.aload_n 0, 1) := by decide +kernel
theorem dX1_level_5 : decode cX1_level 5 = .ok (.getfield 29, 3) := by decide +kernel
theorem dX1_level_8 : decode cX1_level 8 = .ok (.iadd, 1) := by decide +kernel
theorem dX1_level_9 : decode cX1_level 9 = .ok (.bipush 100, 2) := by decide +kernel
theorem dX1_level_11 : decode cX1_level 11 = .ok (.idiv, 1) := by decide +kernel
theorem dX1_level_12 : decode cX1_level 12 = .ok (.sipush 400, 3) := by decide +kernel
theorem dX1_level_15 : decode cX1_level 15 = .ok (.isub, 1) := by decide +kernel
theorem dX1_level_16 : decode cX1_level 16 = .ok (.ireturn, 1) := by decide +kernel
theorem dX1_head_0 : decode cX1_head 0 = .ok (.aload_n 0, 1) := by decide +kernel
theorem dX1_head_1 : decode cX1_head 1 = .ok (.getfield 26, 3) := by decide +kernel
theorem dX1_head_4 : decode cX1_head 4 = .ok (.invokestatic 53, 3) := by decide +kernel
theorem dX1_head_7 : decode cX1_head 7 = .ok (.aload_n 0, 1) := by decide +kernel
theorem dX1_head_8 : decode cX1_head 8 = .ok (.invokevirtual 57, 3) := by decide +kernel
theorem dX1_head_11 : decode cX1_head 11 = .ok (.isub, 1) := by decide +kernel
theorem dX1_head_12 : decode cX1_head 12 = .ok (.ireturn, 1) := by decide +kernel
theorem dX1_isBirdHour_0 : decode cX1_isBirdHour 0 = .ok (.aload_n 0, 1) := by decide +kernel
theorem dX1_isBirdHour_1 : decode cX1_isBirdHour 1 = .ok (.getfield 26, 3) := by decide +kernel
theorem dX1_isBirdHour_4 : decode cX1_isBirdHour 4 = .ok (.sipush 144, 3) := by decide +kernel
theorem dX1_isBirdHour_7 : decode cX1_isBirdHour 7 = .ok (.irem, 1) := by decide +kernel
theorem dX1_isBirdHour_8 : decode cX1_isBirdHour 8 = .ok (.istore_n 1, 1) := by decide +kernel
theorem dX1_isBirdHour_9 : decode cX1_isBirdHour 9 = .ok (.aload_n 0, 1) := by decide +kernel
theorem dX1_isBirdHour_10 : decode cX1_isBirdHour 10 = .ok (.getfield 41, 3) := by decide +kernel
theorem dX1_isBirdHour_13 : decode cX1_isBirdHour 13 = .ok (.iload_n 1, 1) := by decide +kernel
theorem dX1_isBirdHour_14 : decode cX1_isBirdHour 14 = .ok (.if_icmp .gt 15, 3) := by decide +kernel
theorem dX1_isBirdHour_17 : decode cX1_isBirdHour 17 = .ok (.iload_n 1, 1) := by decide +kernel
theorem dX1_isBirdHour_18 : decode cX1_isBirdHour 18 = .ok (.aload_n 0, 1) := by decide +kernel
theorem dX1_isBirdHour_19 : decode cX1_isBirdHour 19 = .ok (.getfield 44, 3) := by decide +kernel
theorem dX1_isBirdHour_22 : decode cX1_isBirdHour 22 = .ok (.if_icmp .ge 7, 3) := by decide +kernel
theorem dX1_isBirdHour_25 : decode cX1_isBirdHour 25 = .ok (.iconst 1, 1) := by decide +kernel
theorem dX1_isBirdHour_26 : decode cX1_isBirdHour 26 = .ok (.goto 4, 3) := by decide +kernel
theorem dX1_isBirdHour_29 : decode cX1_isBirdHour 29 = .ok (.iconst 0, 1) := by decide +kernel
theorem dX1_isBirdHour_30 : decode cX1_isBirdHour 30 = .ok (.ireturn, 1) := by decide +kernel
theorem dX1_lastDay_0 : decode cX1_lastDay 0 = .ok (.aload_n 0, 1) := by decide +kernel
theorem dX1_lastDay_1 : decode cX1_lastDay 1 = .ok (.getfield 26, 3) := by decide +kernel
theorem dX1_lastDay_4 : decode cX1_lastDay 4 = .ok (.iconst 1, 1) := by decide +kernel
theorem dX1_lastDay_5 : decode cX1_lastDay 5 = .ok (.isub, 1) := by decide +kernel
theorem dX1_lastDay_6 : decode cX1_lastDay 6 = .ok (.sipush 144, 3) := by decide +kernel
theorem dX1_lastDay_9 : decode cX1_lastDay 9 = .ok (.invokestatic 61, 3) := by decide +kernel
theorem dX1_lastDay_12 : decode cX1_lastDay 12 = .ok (.ireturn, 1) := by decide +kernel
theorem dX1_firstDay_0 : decode cX1_firstDay 0 = .ok (.iconst 0, 1) := by decide +kernel
theorem dX1_firstDay_1 : decode cX1_firstDay 1 = .ok (.aload_n 0, 1) := by decide +kernel
theorem dX1_firstDay_2 : decode cX1_firstDay 2 = .ok (.invokevirtual 67, 3) := by decide +kernel
theorem dX1_firstDay_5 : decode cX1_firstDay 5 = .ok (.bipush 10, 2) := by decide +kernel
theorem dX1_firstDay_7 : decode cX1_firstDay 7 = .ok (.isub, 1) := by decide +kernel
theorem dX1_firstDay_8 : decode cX1_firstDay 8 = .ok (.iconst 1, 1) := by decide +kernel
theorem dX1_firstDay_9 : decode cX1_firstDay 9 = .ok (.iadd, 1) := by decide +kernel
theorem dX1_firstDay_10 : decode cX1_firstDay 10 = .ok (.invokestatic 70, 3) := by decide +kernel
theorem dX1_firstDay_13 : decode cX1_firstDay 13 = .ok (.ireturn, 1) := by decide +kernel
theorem dX1_openGates_0 : decode cX1_openGates 0 = .ok (.iload_n 1, 1) := by decide +kernel
theorem dX1_openGates_1 : decode cX1_openGates 1 = .ok (.ifCond .lt 9, 3) := by decide +kernel
theorem dX1_openGates_4 : decode cX1_openGates 4 = .ok (.iload_n 1, 1) := by decide +kernel
theorem dX1_openGates_5 : decode cX1_openGates 5 = .ok (.bipush 8, 2) := by decide +kernel
theorem dX1_openGates_7 : decode cX1_openGates 7 = .ok (.if_icmp .le 6, 3) := by decide +kernel
theorem dX1_openGates_10 : decode cX1_openGates 10 = .ok (.ldc 73, 2) := by decide +kernel
theorem dX1_openGates_12 : decode cX1_openGates 12 = .ok (.ireturn, 1) := by decide +kernel
theorem dX1_openGates_13 : decode cX1_openGates 13 = .ok (.aload_n 0, 1) := by decide +kernel
theorem dX1_openGates_14 : decode cX1_openGates 14 = .ok (.getfield 32, 3) := by decide +kernel
theorem dX1_openGates_17 : decode cX1_openGates 17 = .ok (.istore_n 2, 1) := by decide +kernel
theorem dX1_openGates_18 : decode cX1_openGates 18 = .ok (.aload_n 0, 1) := by decide +kernel
theorem dX1_openGates_19 : decode cX1_openGates 19 = .ok (.iload_n 1, 1) := by decide +kernel
theorem dX1_openGates_20 : decode cX1_openGates 20 = .ok (.putfield 32, 3) := by decide +kernel
theorem dX1_openGates_23 : decode cX1_openGates 23 = .ok (.iload_n 2, 1) := by decide +kernel
theorem dX1_openGates_24 : decode cX1_openGates 24 = .ok (.ireturn, 1) := by decide +kernel
theorem dX1_openTurbines_0 : decode cX1_openTurbines 0 = .ok (.iload_n 1, 1) := by decide +kernel
theorem dX1_openTurbines_1 : decode cX1_openTurbines 1 = .ok (.ifCond .lt 9, 3) := by decide +kernel
theorem dX1_openTurbines_4 : decode cX1_openTurbines 4 = .ok (.iload_n 1, 1) := by decide +kernel
theorem dX1_openTurbines_5 : decode cX1_openTurbines 5 = .ok (.bipush 6, 2) := by decide +kernel
theorem dX1_openTurbines_7 : decode cX1_openTurbines 7 = .ok (.if_icmp .le 6, 3) := by decide +kernel
theorem dX1_openTurbines_10 : decode cX1_openTurbines 10 = .ok (.ldc 73, 2) := by decide +kernel
theorem dX1_openTurbines_12 : decode cX1_openTurbines 12 = .ok (.ireturn, 1) := by decide +kernel
theorem dX1_openTurbines_13 : decode cX1_openTurbines 13 = .ok (.aload_n 0, 1) := by decide +kernel
theorem dX1_openTurbines_14 : decode cX1_openTurbines 14 = .ok (.getfield 35, 3) := by decide +kernel
theorem dX1_openTurbines_17 : decode cX1_openTurbines 17 = .ok (.istore_n 2, 1) := by decide +kernel
theorem dX1_openTurbines_18 : decode cX1_openTurbines 18 = .ok (.aload_n 0, 1) := by decide +kernel
theorem dX1_openTurbines_19 : decode cX1_openTurbines 19 = .ok (.iload_n 1, 1) := by decide +kernel
theorem dX1_openTurbines_20 : decode cX1_openTurbines 20 = .ok (.putfield 35, 3) := by decide +kernel
theorem dX1_openTurbines_23 : decode cX1_openTurbines 23 = .ok (.iload_n 2, 1) := by decide +kernel
theorem dX1_openTurbines_24 : decode cX1_openTurbines 24 = .ok (.ireturn, 1) := by decide +kernel
theorem dX1_setPump_0 : decode cX1_setPump 0 = .ok (.iload_n 1, 1) := by decide +kernel
theorem dX1_setPump_1 : decode cX1_setPump 1 = .ok (.sipush (-500), 3) := by decide +kernel
theorem dX1_setPump_4 : decode cX1_setPump 4 = .ok (.if_icmp .lt 10, 3) := by decide +kernel
theorem dX1_setPump_7 : decode cX1_setPump 7 = .ok (.iload_n 1, 1) := by decide +kernel
theorem dX1_setPump_8 : decode cX1_setPump 8 = .ok (.sipush 500, 3) := by decide +kernel
theorem dX1_setPump_11 : decode cX1_setPump 11 = .ok (.if_icmp .le 6, 3) := by decide +kernel
theorem dX1_setPump_14 : decode cX1_setPump 14 = .ok (.ldc 73, 2) := by decide +kernel
theorem dX1_setPump_16 : decode cX1_setPump 16 = .ok (.ireturn, 1) := by decide +kernel
theorem dX1_setPump_17 : decode cX1_setPump 17 = .ok (.aload_n 0, 1) := by decide +kernel
theorem dX1_setPump_18 : decode cX1_setPump 18 = .ok (.getfield 38, 3) := by decide +kernel
theorem dX1_setPump_21 : decode cX1_setPump 21 = .ok (.istore_n 2, 1) := by decide +kernel
theorem dX1_setPump_22 : decode cX1_setPump 22 = .ok (.aload_n 0, 1) := by decide +kernel
theorem dX1_setPump_23 : decode cX1_setPump 23 = .ok (.iload_n 1, 1) := by decide +kernel
theorem dX1_setPump_24 : decode cX1_setPump 24 = .ok (.putfield 38, 3) := by decide +kernel
theorem dX1_setPump_27 : decode cX1_setPump 27 = .ok (.iload_n 2, 1) := by decide +kernel
theorem dX1_setPump_28 : decode cX1_setPump 28 = .ok (.ireturn, 1) := by decide +kernel
theorem dX1_setBirds_0 : decode cX1_setBirds 0 = .ok (.iload_n 1, 1) := by decide +kernel
theorem dX1_setBirds_1 : decode cX1_setBirds 1 = .ok (.ifCond .lt 21, 3) := by decide +kernel
theorem dX1_setBirds_4 : decode cX1_setBirds 4 = .ok (.iload_n 1, 1) := by decide +kernel
theorem dX1_setBirds_5 : decode cX1_setBirds 5 = .ok (.sipush 144, 3) := by decide +kernel
theorem dX1_setBirds_8 : decode cX1_setBirds 8 = .ok (.if_icmp .ge 14, 3) := by decide +kernel
theorem dX1_setBirds_11 : decode cX1_setBirds 11 = .ok (.iload_n 2, 1) := by decide +kernel
theorem dX1_setBirds_12 : decode cX1_setBirds 12 = .ok (.ifCond .lt 10, 3) := by decide +kernel
theorem dX1_setBirds_15 : decode cX1_setBirds 15 = .ok (.iload_n 2, 1) := by decide +kernel
theorem dX1_setBirds_16 : decode cX1_setBirds 16 = .ok (.sipush 144, 3) := by decide +kernel
theorem dX1_setBirds_19 : decode cX1_setBirds 19 = .ok (.if_icmp .le 6, 3) := by decide +kernel
theorem dX1_setBirds_22 : decode cX1_setBirds 22 = .ok (.ldc 73, 2) := by decide +kernel
theorem dX1_setBirds_24 : decode cX1_setBirds 24 = .ok (.ireturn, 1) := by decide +kernel
theorem dX1_setBirds_25 : decode cX1_setBirds 25 = .ok (.aload_n 0, 1) := by decide +kernel
theorem dX1_setBirds_26 : decode cX1_setBirds 26 = .ok (.iload_n 1, 1) := by decide +kernel
theorem dX1_setBirds_27 : decode cX1_setBirds 27 = .ok (.putfield 41, 3) := by decide +kernel
theorem dX1_setBirds_30 : decode cX1_setBirds 30 = .ok (.aload_n 0, 1) := by decide +kernel
theorem dX1_setBirds_31 : decode cX1_setBirds 31 = .ok (.iload_n 2, 1) := by decide +kernel
theorem dX1_setBirds_32 : decode cX1_setBirds 32 = .ok (.putfield 44, 3) := by decide +kernel
theorem dX1_setBirds_35 : decode cX1_setBirds 35 = .ok (.iconst 0, 1) := by decide +kernel
theorem dX1_setBirds_36 : decode cX1_setBirds 36 = .ok (.iload_n 2, 1) := by decide +kernel
theorem dX1_setBirds_37 : decode cX1_setBirds 37 = .ok (.iload_n 1, 1) := by decide +kernel
theorem dX1_setBirds_38 : decode cX1_setBirds 38 = .ok (.isub, 1) := by decide +kernel
theorem dX1_setBirds_39 : decode cX1_setBirds 39 = .ok (.invokestatic 70, 3) := by decide +kernel
theorem dX1_setBirds_42 : decode cX1_setBirds 42 = .ok (.ireturn, 1) := by decide +kernel
theorem dX1_runTicks_0 : decode cX1_runTicks 0 = .ok (.iload_n 1, 1) := by decide +kernel
theorem dX1_runTicks_1 : decode cX1_runTicks 1 = .ok (.iconst 1, 1) := by decide +kernel
theorem dX1_runTicks_2 : decode cX1_runTicks 2 = .ok (.if_icmp .lt 10, 3) := by decide +kernel
theorem dX1_runTicks_5 : decode cX1_runTicks 5 = .ok (.iload_n 1, 1) := by decide +kernel
theorem dX1_runTicks_6 : decode cX1_runTicks 6 = .ok (.sipush 300, 3) := by decide +kernel
theorem dX1_runTicks_9 : decode cX1_runTicks 9 = .ok (.if_icmp .le 6, 3) := by decide +kernel
theorem dX1_runTicks_12 : decode cX1_runTicks 12 = .ok (.ldc 73, 2) := by decide +kernel
theorem dX1_runTicks_14 : decode cX1_runTicks 14 = .ok (.ireturn, 1) := by decide +kernel
theorem dX1_runTicks_15 : decode cX1_runTicks 15 = .ok (.aload_n 0, 1) := by decide +kernel
theorem dX1_runTicks_16 : decode cX1_runTicks 16 = .ok (.getfield 26, 3) := by decide +kernel
theorem dX1_runTicks_19 : decode cX1_runTicks 19 = .ok (.iload_n 1, 1) := by decide +kernel
theorem dX1_runTicks_20 : decode cX1_runTicks 20 = .ok (.iadd, 1) := by decide +kernel
theorem dX1_runTicks_21 : decode cX1_runTicks 21 = .ok (.sipush 9999, 3) := by decide +kernel
theorem dX1_runTicks_24 : decode cX1_runTicks 24 = .ok (.if_icmp .le 6, 3) := by decide +kernel
theorem dX1_runTicks_27 : decode cX1_runTicks 27 = .ok (.ldc 74, 2) := by decide +kernel
theorem dX1_runTicks_29 : decode cX1_runTicks 29 = .ok (.ireturn, 1) := by decide +kernel
theorem dX1_runTicks_30 : decode cX1_runTicks 30 = .ok (.aload_n 0, 1) := by decide +kernel
theorem dX1_runTicks_31 : decode cX1_runTicks 31 = .ok (.iload_n 1, 1) := by decide +kernel
theorem dX1_runTicks_32 : decode cX1_runTicks 32 = .ok (.aload_n 2, 1) := by decide +kernel
theorem dX1_runTicks_33 : decode cX1_runTicks 33 = .ok (.invokevirtual 75, 3) := by decide +kernel
theorem dX1_runTicks_36 : decode cX1_runTicks 36 = .ok (.aload_n 0, 1) := by decide +kernel
theorem dX1_runTicks_37 : decode cX1_runTicks 37 = .ok (.invokevirtual 57, 3) := by decide +kernel
theorem dX1_runTicks_40 : decode cX1_runTicks 40 = .ok (.ireturn, 1) := by decide +kernel
theorem dX1_dredgeSilt_0 : decode cX1_dredgeSilt 0 = .ok (.iload_n 1, 1) := by decide +kernel
theorem dX1_dredgeSilt_1 : decode cX1_dredgeSilt 1 = .ok (.iconst 1, 1) := by decide +kernel
theorem dX1_dredgeSilt_2 : decode cX1_dredgeSilt 2 = .ok (.if_icmp .lt 10, 3) := by decide +kernel
theorem dX1_dredgeSilt_5 : decode cX1_dredgeSilt 5 = .ok (.iload_n 1, 1) := by decide +kernel
theorem dX1_dredgeSilt_6 : decode cX1_dredgeSilt 6 = .ok (.sipush 20000, 3) := by decide +kernel
theorem dX1_dredgeSilt_9 : decode cX1_dredgeSilt 9 = .ok (.if_icmp .le 6, 3) := by decide +kernel
theorem dX1_dredgeSilt_12 : decode cX1_dredgeSilt 12 = .ok (.ldc 73, 2) := by decide +kernel
theorem dX1_dredgeSilt_14 : decode cX1_dredgeSilt 14 = .ok (.ireturn, 1) := by decide +kernel
theorem dX1_dredgeSilt_15 : decode cX1_dredgeSilt 15 = .ok (.iload_n 1, 1) := by decide +kernel
theorem dX1_dredgeSilt_16 : decode cX1_dredgeSilt 16 = .ok (.aload_n 0, 1) := by decide +kernel
theorem dX1_dredgeSilt_17 : decode cX1_dredgeSilt 17 = .ok (.getfield 29, 3) := by decide +kernel
theorem dX1_dredgeSilt_20 : decode cX1_dredgeSilt 20 = .ok (.if_icmp .le 6, 3) := by decide +kernel
theorem dX1_dredgeSilt_23 : decode cX1_dredgeSilt 23 = .ok (.ldc 79, 2) := by decide +kernel
theorem dX1_dredgeSilt_25 : decode cX1_dredgeSilt 25 = .ok (.ireturn, 1) := by decide +kernel
theorem dX1_dredgeSilt_26 : decode cX1_dredgeSilt 26 = .ok (.aload_n 0, 1) := by decide +kernel
theorem dX1_dredgeSilt_27 : decode cX1_dredgeSilt 27 = .ok (.dup, 1) := by decide +kernel
theorem dX1_dredgeSilt_28 : decode cX1_dredgeSilt 28 = .ok (.getfield 29, 3) := by decide +kernel
theorem dX1_dredgeSilt_31 : decode cX1_dredgeSilt 31 = .ok (.iload_n 1, 1) := by decide +kernel
theorem dX1_dredgeSilt_32 : decode cX1_dredgeSilt 32 = .ok (.isub, 1) := by decide +kernel
theorem dX1_dredgeSilt_33 : decode cX1_dredgeSilt 33 = .ok (.putfield 29, 3) := by decide +kernel
theorem dX1_dredgeSilt_36 : decode cX1_dredgeSilt 36 = .ok (.aload_n 0, 1) := by decide +kernel
theorem dX1_dredgeSilt_37 : decode cX1_dredgeSilt 37 = .ok (.getfield 20, 3) := by decide +kernel
theorem dX1_dredgeSilt_40 : decode cX1_dredgeSilt 40 = .ok (.iconst 4, 1) := by decide +kernel
theorem dX1_dredgeSilt_41 : decode cX1_dredgeSilt 41 = .ok (.dup2, 1) := by decide +kernel
theorem dX1_dredgeSilt_42 : decode cX1_dredgeSilt 42 = .ok (.iaload, 1) := by decide +kernel
theorem dX1_dredgeSilt_43 : decode cX1_dredgeSilt 43 = .ok (.iload_n 1, 1) := by decide +kernel
theorem dX1_dredgeSilt_44 : decode cX1_dredgeSilt 44 = .ok (.iadd, 1) := by decide +kernel
theorem dX1_dredgeSilt_45 : decode cX1_dredgeSilt 45 = .ok (.iastore, 1) := by decide +kernel
theorem dX1_dredgeSilt_46 : decode cX1_dredgeSilt 46 = .ok (.aload_n 0, 1) := by decide +kernel
theorem dX1_dredgeSilt_47 : decode cX1_dredgeSilt 47 = .ok (.getfield 29, 3) := by decide +kernel
theorem dX1_dredgeSilt_50 : decode cX1_dredgeSilt 50 = .ok (.ireturn, 1) := by decide +kernel
theorem dX1_changeSetting_0 : decode cX1_changeSetting 0 = .ok (.iload_n 1, 1) := by decide +kernel
theorem dX1_changeSetting_1 : decode cX1_changeSetting 1 = .ok (.ifCond .lt 8, 3) := by decide +kernel
theorem dX1_changeSetting_4 : decode cX1_changeSetting 4 = .ok (.iload_n 1, 1) := by decide +kernel
theorem dX1_changeSetting_5 : decode cX1_changeSetting 5 = .ok (.iconst 3, 1) := by decide +kernel
theorem dX1_changeSetting_6 : decode cX1_changeSetting 6 = .ok (.if_icmp .lt 6, 3) := by decide +kernel
theorem dX1_changeSetting_9 : decode cX1_changeSetting 9 = .ok (.ldc 73, 2) := by decide +kernel
theorem dX1_changeSetting_11 : decode cX1_changeSetting 11 = .ok (.ireturn, 1) := by decide +kernel
theorem dX1_changeSetting_12 : decode cX1_changeSetting 12 = .ok (.iload_n 2, 1) := by decide +kernel
theorem dX1_changeSetting_13 : decode cX1_changeSetting 13 = .ok (.getstatic 80, 3) := by decide +kernel
theorem dX1_changeSetting_16 : decode cX1_changeSetting 16 = .ok (.iload_n 1, 1) := by decide +kernel
theorem dX1_changeSetting_17 : decode cX1_changeSetting 17 = .ok (.iaload, 1) := by decide +kernel
theorem dX1_changeSetting_18 : decode cX1_changeSetting 18 = .ok (.if_icmp .lt 12, 3) := by decide +kernel
theorem dX1_changeSetting_21 : decode cX1_changeSetting 21 = .ok (.iload_n 2, 1) := by decide +kernel
theorem dX1_changeSetting_22 : decode cX1_changeSetting 22 = .ok (.getstatic 83, 3) := by decide +kernel
theorem dX1_changeSetting_25 : decode cX1_changeSetting 25 = .ok (.iload_n 1, 1) := by decide +kernel
theorem dX1_changeSetting_26 : decode cX1_changeSetting 26 = .ok (.iaload, 1) := by decide +kernel
theorem dX1_changeSetting_27 : decode cX1_changeSetting 27 = .ok (.if_icmp .le 6, 3) := by decide +kernel
theorem dX1_changeSetting_30 : decode cX1_changeSetting 30 = .ok (.ldc 73, 2) := by decide +kernel
theorem dX1_changeSetting_32 : decode cX1_changeSetting 32 = .ok (.ireturn, 1) := by decide +kernel
theorem dX1_changeSetting_33 : decode cX1_changeSetting 33 = .ok (.aload_n 0, 1) := by decide +kernel
theorem dX1_changeSetting_34 : decode cX1_changeSetting 34 = .ok (.getfield 16, 3) := by decide +kernel
theorem dX1_changeSetting_37 : decode cX1_changeSetting 37 = .ok (.iload_n 1, 1) := by decide +kernel
theorem dX1_changeSetting_38 : decode cX1_changeSetting 38 = .ok (.iaload, 1) := by decide +kernel
theorem dX1_changeSetting_39 : decode cX1_changeSetting 39 = .ok (.istore_n 3, 1) := by decide +kernel
theorem dX1_changeSetting_40 : decode cX1_changeSetting 40 = .ok (.aload_n 0, 1) := by decide +kernel
theorem dX1_changeSetting_41 : decode cX1_changeSetting 41 = .ok (.getfield 16, 3) := by decide +kernel
theorem dX1_changeSetting_44 : decode cX1_changeSetting 44 = .ok (.iload_n 1, 1) := by decide +kernel
theorem dX1_changeSetting_45 : decode cX1_changeSetting 45 = .ok (.iload_n 2, 1) := by decide +kernel
theorem dX1_changeSetting_46 : decode cX1_changeSetting 46 = .ok (.iastore, 1) := by decide +kernel
theorem dX1_changeSetting_47 : decode cX1_changeSetting 47 = .ok (.iload_n 3, 1) := by decide +kernel
theorem dX1_changeSetting_48 : decode cX1_changeSetting 48 = .ok (.ireturn, 1) := by decide +kernel
theorem dX1_letPass_0 : decode cX1_letPass 0 = .ok (.iconst 0, 1) := by decide +kernel
theorem dX1_letPass_1 : decode cX1_letPass 1 = .ok (.istore_n 3, 1) := by decide +kernel
theorem dX1_letPass_2 : decode cX1_letPass 2 = .ok (.iload_n 3, 1) := by decide +kernel
theorem dX1_letPass_3 : decode cX1_letPass 3 = .ok (.iload_n 1, 1) := by decide +kernel
theorem dX1_letPass_4 : decode cX1_letPass 4 = .ok (.if_icmp .ge 38, 3) := by decide +kernel
theorem dX1_letPass_7 : decode cX1_letPass 7 = .ok (.aload_n 2, 1) := by decide +kernel
theorem dX1_letPass_8 : decode cX1_letPass 8 = .ok (.aload_n 0, 1) := by decide +kernel
theorem dX1_letPass_9 : decode cX1_letPass 9 = .ok (.aload_n 0, 1) := by decide +kernel
theorem dX1_letPass_10 : decode cX1_letPass 10 = .ok (.invokevirtual 86, 3) := by decide +kernel
theorem dX1_letPass_13 : decode cX1_letPass 13 = .ok (.invokevirtual 89, 3) := by decide +kernel
theorem dX1_letPass_16 : decode cX1_letPass 16 = .ok (.aload_n 0, 1) := by decide +kernel
theorem dX1_letPass_17 : decode cX1_letPass 17 = .ok (.aload_n 2, 1) := by decide +kernel
theorem dX1_letPass_18 : decode cX1_letPass 18 = .ok (.invokevirtual 95, 3) := by decide +kernel
theorem dX1_letPass_21 : decode cX1_letPass 21 = .ok (.aload_n 0, 1) := by decide +kernel
theorem dX1_letPass_22 : decode cX1_letPass 22 = .ok (.aload_n 2, 1) := by decide +kernel
theorem dX1_letPass_23 : decode cX1_letPass 23 = .ok (.invokevirtual 99, 3) := by decide +kernel
theorem dX1_letPass_26 : decode cX1_letPass 26 = .ok (.aload_n 0, 1) := by decide +kernel
theorem dX1_letPass_27 : decode cX1_letPass 27 = .ok (.dup, 1) := by decide +kernel
theorem dX1_letPass_28 : decode cX1_letPass 28 = .ok (.getfield 26, 3) := by decide +kernel
theorem dX1_letPass_31 : decode cX1_letPass 31 = .ok (.iconst 1, 1) := by decide +kernel
theorem dX1_letPass_32 : decode cX1_letPass 32 = .ok (.iadd, 1) := by decide +kernel
theorem dX1_letPass_33 : decode cX1_letPass 33 = .ok (.putfield 26, 3) := by decide +kernel
theorem dX1_letPass_36 : decode cX1_letPass 36 = .ok (.iinc 3 1, 3) := by decide +kernel
theorem dX1_letPass_39 : decode cX1_letPass 39 = .ok (.goto (-37), 3) := by decide +kernel
theorem dX1_letPass_42 : decode cX1_letPass 42 = .ok (.return_, 1) := by decide +kernel
theorem dX1_take_0 : decode cX1_take 0 = .ok (.aload_n 0, 1) := by decide +kernel
theorem dX1_take_1 : decode cX1_take 1 = .ok (.dup, 1) := by decide +kernel
theorem dX1_take_2 : decode cX1_take 2 = .ok (.getfield 10, 3) := by decide +kernel
theorem dX1_take_5 : decode cX1_take 5 = .ok (.aload_n 1, 1) := by decide +kernel
theorem dX1_take_6 : decode cX1_take 6 = .ok (.getfield 102, 3) := by decide +kernel
theorem dX1_take_9 : decode cX1_take 9 = .ok (.iadd, 1) := by decide +kernel
theorem dX1_take_10 : decode cX1_take 10 = .ok (.putfield 10, 3) := by decide +kernel
theorem dX1_take_13 : decode cX1_take 13 = .ok (.aload_n 0, 1) := by decide +kernel
theorem dX1_take_14 : decode cX1_take 14 = .ok (.dup, 1) := by decide +kernel
theorem dX1_take_15 : decode cX1_take 15 = .ok (.getfield 29, 3) := by decide +kernel
theorem dX1_take_18 : decode cX1_take 18 = .ok (.aload_n 1, 1) := by decide +kernel
theorem dX1_take_19 : decode cX1_take 19 = .ok (.getfield 105, 3) := by decide +kernel
theorem dX1_take_22 : decode cX1_take 22 = .ok (.iadd, 1) := by decide +kernel
theorem dX1_take_23 : decode cX1_take 23 = .ok (.putfield 29, 3) := by decide +kernel
theorem dX1_take_26 : decode cX1_take 26 = .ok (.aload_n 0, 1) := by decide +kernel
theorem dX1_take_27 : decode cX1_take 27 = .ok (.getfield 20, 3) := by decide +kernel
theorem dX1_take_30 : decode cX1_take 30 = .ok (.iconst 0, 1) := by decide +kernel
theorem dX1_take_31 : decode cX1_take 31 = .ok (.dup2, 1) := by decide +kernel
theorem dX1_take_32 : decode cX1_take 32 = .ok (.iaload, 1) := by decide +kernel
theorem dX1_take_33 : decode cX1_take 33 = .ok (.aload_n 1, 1) := by decide +kernel
theorem dX1_take_34 : decode cX1_take 34 = .ok (.getfield 108, 3) := by decide +kernel
theorem dX1_take_37 : decode cX1_take 37 = .ok (.iadd, 1) := by decide +kernel
theorem dX1_take_38 : decode cX1_take 38 = .ok (.iastore, 1) := by decide +kernel
theorem dX1_take_39 : decode cX1_take 39 = .ok (.aload_n 0, 1) := by decide +kernel
theorem dX1_take_40 : decode cX1_take 40 = .ok (.getfield 20, 3) := by decide +kernel
theorem dX1_take_43 : decode cX1_take 43 = .ok (.iconst 1, 1) := by decide +kernel
theorem dX1_take_44 : decode cX1_take 44 = .ok (.dup2, 1) := by decide +kernel
theorem dX1_take_45 : decode cX1_take 45 = .ok (.iaload, 1) := by decide +kernel
theorem dX1_take_46 : decode cX1_take 46 = .ok (.aload_n 1, 1) := by decide +kernel
theorem dX1_take_47 : decode cX1_take 47 = .ok (.getfield 111, 3) := by decide +kernel
theorem dX1_take_50 : decode cX1_take 50 = .ok (.iadd, 1) := by decide +kernel
theorem dX1_take_51 : decode cX1_take 51 = .ok (.iastore, 1) := by decide +kernel
theorem dX1_take_52 : decode cX1_take 52 = .ok (.aload_n 0, 1) := by decide +kernel
theorem dX1_take_53 : decode cX1_take 53 = .ok (.getfield 20, 3) := by decide +kernel
theorem dX1_take_56 : decode cX1_take 56 = .ok (.iconst 2, 1) := by decide +kernel
theorem dX1_take_57 : decode cX1_take 57 = .ok (.dup2, 1) := by decide +kernel
theorem dX1_take_58 : decode cX1_take 58 = .ok (.iaload, 1) := by decide +kernel
theorem dX1_take_59 : decode cX1_take 59 = .ok (.iconst 0, 1) := by decide +kernel
theorem dX1_take_60 : decode cX1_take 60 = .ok (.aload_n 1, 1) := by decide +kernel
theorem dX1_take_61 : decode cX1_take 61 = .ok (.getfield 102, 3) := by decide +kernel
theorem dX1_take_64 : decode cX1_take 64 = .ok (.invokestatic 70, 3) := by decide +kernel
theorem dX1_take_67 : decode cX1_take 67 = .ok (.iadd, 1) := by decide +kernel
theorem dX1_take_68 : decode cX1_take 68 = .ok (.iastore, 1) := by decide +kernel
theorem dX1_take_69 : decode cX1_take 69 = .ok (.aload_n 0, 1) := by decide +kernel
theorem dX1_take_70 : decode cX1_take 70 = .ok (.getfield 20, 3) := by decide +kernel
theorem dX1_take_73 : decode cX1_take 73 = .ok (.iconst 3, 1) := by decide +kernel
theorem dX1_take_74 : decode cX1_take 74 = .ok (.dup2, 1) := by decide +kernel
theorem dX1_take_75 : decode cX1_take 75 = .ok (.iaload, 1) := by decide +kernel
theorem dX1_take_76 : decode cX1_take 76 = .ok (.iconst 0, 1) := by decide +kernel
theorem dX1_take_77 : decode cX1_take 77 = .ok (.aload_n 1, 1) := by decide +kernel
theorem dX1_take_78 : decode cX1_take 78 = .ok (.getfield 102, 3) := by decide +kernel
theorem dX1_take_81 : decode cX1_take 81 = .ok (.ineg, 1) := by decide +kernel
theorem dX1_take_82 : decode cX1_take 82 = .ok (.invokestatic 70, 3) := by decide +kernel
theorem dX1_take_85 : decode cX1_take 85 = .ok (.iadd, 1) := by decide +kernel
theorem dX1_take_86 : decode cX1_take 86 = .ok (.iastore, 1) := by decide +kernel
theorem dX1_take_87 : decode cX1_take 87 = .ok (.aload_n 0, 1) := by decide +kernel
theorem dX1_take_88 : decode cX1_take 88 = .ok (.getfield 20, 3) := by decide +kernel
theorem dX1_take_91 : decode cX1_take 91 = .ok (.iconst 5, 1) := by decide +kernel
theorem dX1_take_92 : decode cX1_take 92 = .ok (.dup2, 1) := by decide +kernel
theorem dX1_take_93 : decode cX1_take 93 = .ok (.iaload, 1) := by decide +kernel
theorem dX1_take_94 : decode cX1_take 94 = .ok (.iconst 0, 1) := by decide +kernel
theorem dX1_take_95 : decode cX1_take 95 = .ok (.aload_n 1, 1) := by decide +kernel
theorem dX1_take_96 : decode cX1_take 96 = .ok (.getfield 105, 3) := by decide +kernel
theorem dX1_take_99 : decode cX1_take 99 = .ok (.invokestatic 70, 3) := by decide +kernel
theorem dX1_take_102 : decode cX1_take 102 = .ok (.iadd, 1) := by decide +kernel
theorem dX1_take_103 : decode cX1_take 103 = .ok (.iastore, 1) := by decide +kernel
theorem dX1_take_104 : decode cX1_take 104 = .ok (.aload_n 0, 1) := by decide +kernel
theorem dX1_take_105 : decode cX1_take 105 = .ok (.getfield 20, 3) := by decide +kernel
theorem dX1_take_108 : decode cX1_take 108 = .ok (.bipush 6, 2) := by decide +kernel
theorem dX1_take_110 : decode cX1_take 110 = .ok (.dup2, 1) := by decide +kernel
theorem dX1_take_111 : decode cX1_take 111 = .ok (.iaload, 1) := by decide +kernel
theorem dX1_take_112 : decode cX1_take 112 = .ok (.iconst 0, 1) := by decide +kernel
theorem dX1_take_113 : decode cX1_take 113 = .ok (.aload_n 1, 1) := by decide +kernel
theorem dX1_take_114 : decode cX1_take 114 = .ok (.getfield 105, 3) := by decide +kernel
theorem dX1_take_117 : decode cX1_take 117 = .ok (.ineg, 1) := by decide +kernel
theorem dX1_take_118 : decode cX1_take 118 = .ok (.invokestatic 70, 3) := by decide +kernel
theorem dX1_take_121 : decode cX1_take 121 = .ok (.iadd, 1) := by decide +kernel
theorem dX1_take_122 : decode cX1_take 122 = .ok (.iastore, 1) := by decide +kernel
theorem dX1_take_123 : decode cX1_take 123 = .ok (.return_, 1) := by decide +kernel
theorem dX1_enterRecord_0 : decode cX1_enterRecord 0 = .ok (.aload_n 0, 1) := by decide +kernel
theorem dX1_enterRecord_1 : decode cX1_enterRecord 1 = .ok (.getfield 26, 3) := by decide +kernel
theorem dX1_enterRecord_4 : decode cX1_enterRecord 4 = .ok (.sipush 144, 3) := by decide +kernel
theorem dX1_enterRecord_7 : decode cX1_enterRecord 7 = .ok (.idiv, 1) := by decide +kernel
theorem dX1_enterRecord_8 : decode cX1_enterRecord 8 = .ok (.invokestatic 114, 3) := by decide +kernel
theorem dX1_enterRecord_11 : decode cX1_enterRecord 11 = .ok (.istore_n 2, 1) := by decide +kernel
theorem dX1_enterRecord_12 : decode cX1_enterRecord 12 = .ok (.aload_n 0, 1) := by decide +kernel
theorem dX1_enterRecord_13 : decode cX1_enterRecord 13 = .ok (.invokevirtual 57, 3) := by decide +kernel
theorem dX1_enterRecord_16 : decode cX1_enterRecord 16 = .ok (.istore_n 3, 1) := by decide +kernel
theorem dX1_enterRecord_17 : decode cX1_enterRecord 17 = .ok (.aload_n 0, 1) := by decide +kernel
theorem dX1_enterRecord_18 : decode cX1_enterRecord 18 = .ok (.getfield 26, 3) := by decide +kernel
theorem dX1_enterRecord_21 : decode cX1_enterRecord 21 = .ok (.sipush 144, 3) := by decide +kernel
theorem dX1_enterRecord_24 : decode cX1_enterRecord 24 = .ok (.irem, 1) := by decide +kernel
theorem dX1_enterRecord_25 : decode cX1_enterRecord 25 = .ok (.ifCond .ne 9, 3) := by decide +kernel
theorem dX1_enterRecord_28 : decode cX1_enterRecord 28 = .ok (.aload_n 0, 1) := by decide +kernel
theorem dX1_enterRecord_29 : decode cX1_enterRecord 29 = .ok (.iload_n 2, 1) := by decide +kernel
theorem dX1_enterRecord_30 : decode cX1_enterRecord 30 = .ok (.iload_n 3, 1) := by decide +kernel
theorem dX1_enterRecord_31 : decode cX1_enterRecord 31 = .ok (.invokevirtual 117, 3) := by decide +kernel
theorem dX1_enterRecord_34 : decode cX1_enterRecord 34 = .ok (.aload_n 0, 1) := by decide +kernel
theorem dX1_enterRecord_35 : decode cX1_enterRecord 35 = .ok (.getfield 23, 3) := by decide +kernel
theorem dX1_enterRecord_38 : decode cX1_enterRecord 38 = .ok (.iload_n 2, 1) := by decide +kernel
theorem dX1_enterRecord_39 : decode cX1_enterRecord 39 = .ok (.iconst 0, 1) := by decide +kernel
theorem dX1_enterRecord_40 : decode cX1_enterRecord 40 = .ok (.iadd, 1) := by decide +kernel
theorem dX1_enterRecord_41 : decode cX1_enterRecord 41 = .ok (.dup2, 1) := by decide +kernel
theorem dX1_enterRecord_42 : decode cX1_enterRecord 42 = .ok (.iaload, 1) := by decide +kernel
theorem dX1_enterRecord_43 : decode cX1_enterRecord 43 = .ok (.aload_n 1, 1) := by decide +kernel
theorem dX1_enterRecord_44 : decode cX1_enterRecord 44 = .ok (.getfield 108, 3) := by decide +kernel
theorem dX1_enterRecord_47 : decode cX1_enterRecord 47 = .ok (.iadd, 1) := by decide +kernel
theorem dX1_enterRecord_48 : decode cX1_enterRecord 48 = .ok (.iastore, 1) := by decide +kernel
theorem dX1_enterRecord_49 : decode cX1_enterRecord 49 = .ok (.aload_n 0, 1) := by decide +kernel
theorem dX1_enterRecord_50 : decode cX1_enterRecord 50 = .ok (.getfield 23, 3) := by decide +kernel
theorem dX1_enterRecord_53 : decode cX1_enterRecord 53 = .ok (.iload_n 2, 1) := by decide +kernel
theorem dX1_enterRecord_54 : decode cX1_enterRecord 54 = .ok (.iconst 1, 1) := by decide +kernel
theorem dX1_enterRecord_55 : decode cX1_enterRecord 55 = .ok (.iadd, 1) := by decide +kernel
theorem dX1_enterRecord_56 : decode cX1_enterRecord 56 = .ok (.dup2, 1) := by decide +kernel
theorem dX1_enterRecord_57 : decode cX1_enterRecord 57 = .ok (.iaload, 1) := by decide +kernel
theorem dX1_enterRecord_58 : decode cX1_enterRecord 58 = .ok (.aload_n 1, 1) := by decide +kernel
theorem dX1_enterRecord_59 : decode cX1_enterRecord 59 = .ok (.getfield 111, 3) := by decide +kernel
theorem dX1_enterRecord_62 : decode cX1_enterRecord 62 = .ok (.iadd, 1) := by decide +kernel
theorem dX1_enterRecord_63 : decode cX1_enterRecord 63 = .ok (.iastore, 1) := by decide +kernel
theorem dX1_enterRecord_64 : decode cX1_enterRecord 64 = .ok (.aload_n 0, 1) := by decide +kernel
theorem dX1_enterRecord_65 : decode cX1_enterRecord 65 = .ok (.getfield 23, 3) := by decide +kernel
theorem dX1_enterRecord_68 : decode cX1_enterRecord 68 = .ok (.iload_n 2, 1) := by decide +kernel
theorem dX1_enterRecord_69 : decode cX1_enterRecord 69 = .ok (.iconst 2, 1) := by decide +kernel
theorem dX1_enterRecord_70 : decode cX1_enterRecord 70 = .ok (.iadd, 1) := by decide +kernel
theorem dX1_enterRecord_71 : decode cX1_enterRecord 71 = .ok (.aload_n 0, 1) := by decide +kernel
theorem dX1_enterRecord_72 : decode cX1_enterRecord 72 = .ok (.getfield 23, 3) := by decide +kernel
theorem dX1_enterRecord_75 : decode cX1_enterRecord 75 = .ok (.iload_n 2, 1) := by decide +kernel
theorem dX1_enterRecord_76 : decode cX1_enterRecord 76 = .ok (.iconst 2, 1) := by decide +kernel
theorem dX1_enterRecord_77 : decode cX1_enterRecord 77 = .ok (.iadd, 1) := by decide +kernel
theorem dX1_enterRecord_78 : decode cX1_enterRecord 78 = .ok (.iaload, 1) := by decide +kernel
theorem dX1_enterRecord_79 : decode cX1_enterRecord 79 = .ok (.iload_n 3, 1) := by decide +kernel
theorem dX1_enterRecord_80 : decode cX1_enterRecord 80 = .ok (.invokestatic 70, 3) := by decide +kernel
theorem dX1_enterRecord_83 : decode cX1_enterRecord 83 = .ok (.iastore, 1) := by decide +kernel
theorem dX1_enterRecord_84 : decode cX1_enterRecord 84 = .ok (.aload_n 0, 1) := by decide +kernel
theorem dX1_enterRecord_85 : decode cX1_enterRecord 85 = .ok (.getfield 23, 3) := by decide +kernel
theorem dX1_enterRecord_88 : decode cX1_enterRecord 88 = .ok (.iload_n 2, 1) := by decide +kernel
theorem dX1_enterRecord_89 : decode cX1_enterRecord 89 = .ok (.iconst 3, 1) := by decide +kernel
theorem dX1_enterRecord_90 : decode cX1_enterRecord 90 = .ok (.iadd, 1) := by decide +kernel
theorem dX1_enterRecord_91 : decode cX1_enterRecord 91 = .ok (.aload_n 0, 1) := by decide +kernel
theorem dX1_enterRecord_92 : decode cX1_enterRecord 92 = .ok (.getfield 23, 3) := by decide +kernel
theorem dX1_enterRecord_95 : decode cX1_enterRecord 95 = .ok (.iload_n 2, 1) := by decide +kernel
theorem dX1_enterRecord_96 : decode cX1_enterRecord 96 = .ok (.iconst 3, 1) := by decide +kernel
theorem dX1_enterRecord_97 : decode cX1_enterRecord 97 = .ok (.iadd, 1) := by decide +kernel
theorem dX1_enterRecord_98 : decode cX1_enterRecord 98 = .ok (.iaload, 1) := by decide +kernel
theorem dX1_enterRecord_99 : decode cX1_enterRecord 99 = .ok (.iload_n 3, 1) := by decide +kernel
theorem dX1_enterRecord_100 : decode cX1_enterRecord 100 = .ok (.invokestatic 121, 3) := by decide +kernel
theorem dX1_enterRecord_103 : decode cX1_enterRecord 103 = .ok (.iastore, 1) := by decide +kernel
theorem dX1_enterRecord_104 : decode cX1_enterRecord 104 = .ok (.aload_n 0, 1) := by decide +kernel
theorem dX1_enterRecord_105 : decode cX1_enterRecord 105 = .ok (.getfield 23, 3) := by decide +kernel
theorem dX1_enterRecord_108 : decode cX1_enterRecord 108 = .ok (.iload_n 2, 1) := by decide +kernel
theorem dX1_enterRecord_109 : decode cX1_enterRecord 109 = .ok (.iconst 4, 1) := by decide +kernel
theorem dX1_enterRecord_110 : decode cX1_enterRecord 110 = .ok (.iadd, 1) := by decide +kernel
theorem dX1_enterRecord_111 : decode cX1_enterRecord 111 = .ok (.dup2, 1) := by decide +kernel
theorem dX1_enterRecord_112 : decode cX1_enterRecord 112 = .ok (.iaload, 1) := by decide +kernel
theorem dX1_enterRecord_113 : decode cX1_enterRecord 113 = .ok (.iconst 0, 1) := by decide +kernel
theorem dX1_enterRecord_114 : decode cX1_enterRecord 114 = .ok (.aload_n 1, 1) := by decide +kernel
theorem dX1_enterRecord_115 : decode cX1_enterRecord 115 = .ok (.getfield 102, 3) := by decide +kernel
theorem dX1_enterRecord_118 : decode cX1_enterRecord 118 = .ok (.invokestatic 70, 3) := by decide +kernel
theorem dX1_enterRecord_121 : decode cX1_enterRecord 121 = .ok (.iadd, 1) := by decide +kernel
theorem dX1_enterRecord_122 : decode cX1_enterRecord 122 = .ok (.iastore, 1) := by decide +kernel
theorem dX1_enterRecord_123 : decode cX1_enterRecord 123 = .ok (.aload_n 0, 1) := by decide +kernel
theorem dX1_enterRecord_124 : decode cX1_enterRecord 124 = .ok (.getfield 23, 3) := by decide +kernel
theorem dX1_enterRecord_127 : decode cX1_enterRecord 127 = .ok (.iload_n 2, 1) := by decide +kernel
theorem dX1_enterRecord_128 : decode cX1_enterRecord 128 = .ok (.iconst 5, 1) := by decide +kernel
theorem dX1_enterRecord_129 : decode cX1_enterRecord 129 = .ok (.iadd, 1) := by decide +kernel
theorem dX1_enterRecord_130 : decode cX1_enterRecord 130 = .ok (.dup2, 1) := by decide +kernel
theorem dX1_enterRecord_131 : decode cX1_enterRecord 131 = .ok (.iaload, 1) := by decide +kernel
theorem dX1_enterRecord_132 : decode cX1_enterRecord 132 = .ok (.iconst 0, 1) := by decide +kernel
theorem dX1_enterRecord_133 : decode cX1_enterRecord 133 = .ok (.aload_n 1, 1) := by decide +kernel
theorem dX1_enterRecord_134 : decode cX1_enterRecord 134 = .ok (.getfield 102, 3) := by decide +kernel
theorem dX1_enterRecord_137 : decode cX1_enterRecord 137 = .ok (.ineg, 1) := by decide +kernel
theorem dX1_enterRecord_138 : decode cX1_enterRecord 138 = .ok (.invokestatic 70, 3) := by decide +kernel
theorem dX1_enterRecord_141 : decode cX1_enterRecord 141 = .ok (.iadd, 1) := by decide +kernel
theorem dX1_enterRecord_142 : decode cX1_enterRecord 142 = .ok (.iastore, 1) := by decide +kernel
theorem dX1_enterRecord_143 : decode cX1_enterRecord 143 = .ok (.return_, 1) := by decide +kernel
theorem dX1_beginRecord_0 : decode cX1_beginRecord 0 = .ok (.aload_n 0, 1) := by decide +kernel
theorem dX1_beginRecord_1 : decode cX1_beginRecord 1 = .ok (.getfield 23, 3) := by decide +kernel
theorem dX1_beginRecord_4 : decode cX1_beginRecord 4 = .ok (.iload_n 1, 1) := by decide +kernel
theorem dX1_beginRecord_5 : decode cX1_beginRecord 5 = .ok (.iconst 0, 1) := by decide +kernel
theorem dX1_beginRecord_6 : decode cX1_beginRecord 6 = .ok (.iadd, 1) := by decide +kernel
theorem dX1_beginRecord_7 : decode cX1_beginRecord 7 = .ok (.iconst 0, 1) := by decide +kernel
theorem dX1_beginRecord_8 : decode cX1_beginRecord 8 = .ok (.iastore, 1) := by decide +kernel
theorem dX1_beginRecord_9 : decode cX1_beginRecord 9 = .ok (.aload_n 0, 1) := by decide +kernel
theorem dX1_beginRecord_10 : decode cX1_beginRecord 10 = .ok (.getfield 23, 3) := by decide +kernel
theorem dX1_beginRecord_13 : decode cX1_beginRecord 13 = .ok (.iload_n 1, 1) := by decide +kernel
theorem dX1_beginRecord_14 : decode cX1_beginRecord 14 = .ok (.iconst 1, 1) := by decide +kernel
theorem dX1_beginRecord_15 : decode cX1_beginRecord 15 = .ok (.iadd, 1) := by decide +kernel
theorem dX1_beginRecord_16 : decode cX1_beginRecord 16 = .ok (.iconst 0, 1) := by decide +kernel
theorem dX1_beginRecord_17 : decode cX1_beginRecord 17 = .ok (.iastore, 1) := by decide +kernel
theorem dX1_beginRecord_18 : decode cX1_beginRecord 18 = .ok (.aload_n 0, 1) := by decide +kernel
theorem dX1_beginRecord_19 : decode cX1_beginRecord 19 = .ok (.getfield 23, 3) := by decide +kernel
theorem dX1_beginRecord_22 : decode cX1_beginRecord 22 = .ok (.iload_n 1, 1) := by decide +kernel
theorem dX1_beginRecord_23 : decode cX1_beginRecord 23 = .ok (.iconst 2, 1) := by decide +kernel
theorem dX1_beginRecord_24 : decode cX1_beginRecord 24 = .ok (.iadd, 1) := by decide +kernel
theorem dX1_beginRecord_25 : decode cX1_beginRecord 25 = .ok (.iload_n 2, 1) := by decide +kernel
theorem dX1_beginRecord_26 : decode cX1_beginRecord 26 = .ok (.iastore, 1) := by decide +kernel
theorem dX1_beginRecord_27 : decode cX1_beginRecord 27 = .ok (.aload_n 0, 1) := by decide +kernel
theorem dX1_beginRecord_28 : decode cX1_beginRecord 28 = .ok (.getfield 23, 3) := by decide +kernel
theorem dX1_beginRecord_31 : decode cX1_beginRecord 31 = .ok (.iload_n 1, 1) := by decide +kernel
theorem dX1_beginRecord_32 : decode cX1_beginRecord 32 = .ok (.iconst 3, 1) := by decide +kernel
theorem dX1_beginRecord_33 : decode cX1_beginRecord 33 = .ok (.iadd, 1) := by decide +kernel
theorem dX1_beginRecord_34 : decode cX1_beginRecord 34 = .ok (.iload_n 2, 1) := by decide +kernel
theorem dX1_beginRecord_35 : decode cX1_beginRecord 35 = .ok (.iastore, 1) := by decide +kernel
theorem dX1_beginRecord_36 : decode cX1_beginRecord 36 = .ok (.aload_n 0, 1) := by decide +kernel
theorem dX1_beginRecord_37 : decode cX1_beginRecord 37 = .ok (.getfield 23, 3) := by decide +kernel
theorem dX1_beginRecord_40 : decode cX1_beginRecord 40 = .ok (.iload_n 1, 1) := by decide +kernel
theorem dX1_beginRecord_41 : decode cX1_beginRecord 41 = .ok (.iconst 4, 1) := by decide +kernel
theorem dX1_beginRecord_42 : decode cX1_beginRecord 42 = .ok (.iadd, 1) := by decide +kernel
theorem dX1_beginRecord_43 : decode cX1_beginRecord 43 = .ok (.iconst 0, 1) := by decide +kernel
theorem dX1_beginRecord_44 : decode cX1_beginRecord 44 = .ok (.iastore, 1) := by decide +kernel
theorem dX1_beginRecord_45 : decode cX1_beginRecord 45 = .ok (.aload_n 0, 1) := by decide +kernel
theorem dX1_beginRecord_46 : decode cX1_beginRecord 46 = .ok (.getfield 23, 3) := by decide +kernel
theorem dX1_beginRecord_49 : decode cX1_beginRecord 49 = .ok (.iload_n 1, 1) := by decide +kernel
theorem dX1_beginRecord_50 : decode cX1_beginRecord 50 = .ok (.iconst 5, 1) := by decide +kernel
theorem dX1_beginRecord_51 : decode cX1_beginRecord 51 = .ok (.iadd, 1) := by decide +kernel
theorem dX1_beginRecord_52 : decode cX1_beginRecord 52 = .ok (.iconst 0, 1) := by decide +kernel
theorem dX1_beginRecord_53 : decode cX1_beginRecord 53 = .ok (.iastore, 1) := by decide +kernel
theorem dX1_beginRecord_54 : decode cX1_beginRecord 54 = .ok (.return_, 1) := by decide +kernel
theorem dX2_init_0 : decode cX2_init 0 = .ok (.aload_n 0, 1) := by decide +kernel
theorem dX2_init_1 : decode cX2_init 1 = .ok (.invokespecial 3, 3) := by decide +kernel
theorem dX2_init_4 : decode cX2_init 4 = .ok (.return_, 1) := by decide +kernel
theorem dX3_init_0 : decode cX3_init 0 = .ok (.aload_n 0, 1) := by decide +kernel
theorem dX3_init_1 : decode cX3_init 1 = .ok (.invokespecial 3, 3) := by decide +kernel
theorem dX3_init_4 : decode cX3_init 4 = .ok (.aload_n 0, 1) := by decide +kernel
theorem dX3_init_5 : decode cX3_init 5 = .ok (.bipush 60, 2) := by decide +kernel
theorem dX3_init_7 : decode cX3_init 7 = .ok (.newarray .char, 2) := by decide +kernel
theorem dX3_init_9 : decode cX3_init 9 = .ok (.putfield 9, 3) := by decide +kernel
theorem dX3_init_12 : decode cX3_init 12 = .ok (.return_, 1) := by decide +kernel
theorem dX4_init_0 : decode cX4_init 0 = .ok (.aload_n 0, 1) := by decide +kernel
theorem dX4_init_1 : decode cX4_init 1 = .ok (.invokespecial 3, 3) := by decide +kernel
theorem dX4_init_4 : decode cX4_init 4 = .ok (.return_, 1) := by decide +kernel
theorem dX4_foresee_0 : decode cX4_foresee 0 = .ok (.iload_n 2, 1) := by decide +kernel
theorem dX4_foresee_1 : decode cX4_foresee 1 = .ok (.invokestatic 9, 3) := by decide +kernel
theorem dX4_foresee_4 : decode cX4_foresee 4 = .ok (.istore_n 3, 1) := by decide +kernel
theorem dX4_foresee_5 : decode cX4_foresee 5 = .ok (.aload_n 1, 1) := by decide +kernel
theorem dX4_foresee_6 : decode cX4_foresee 6 = .ok (.invokevirtual 15, 3) := by decide +kernel
theorem dX4_foresee_9 : decode cX4_foresee 9 = .ok (.istore 4, 2) := by decide +kernel
theorem dX4_foresee_11 : decode cX4_foresee 11 = .ok (.aload_n 0, 1) := by decide +kernel
theorem dX4_foresee_12 : decode cX4_foresee 12 = .ok (.iload 4, 2) := by decide +kernel
theorem dX4_foresee_14 : decode cX4_foresee 14 = .ok (.ifCond .eq 7, 3) := by decide +kernel
theorem dX4_foresee_17 : decode cX4_foresee 17 = .ok (.iconst 0, 1) := by decide +kernel
theorem dX4_foresee_18 : decode cX4_foresee 18 = .ok (.goto 11, 3) := by decide +kernel
theorem dX4_foresee_21 : decode cX4_foresee 21 = .ok (.aload_n 1, 1) := by decide +kernel
theorem dX4_foresee_22 : decode cX4_foresee 22 = .ok (.getfield 21, 3) := by decide +kernel
theorem dX4_foresee_25 : decode cX4_foresee 25 = .ok (.iload_n 2, 1) := by decide +kernel
theorem dX4_foresee_26 : decode cX4_foresee 26 = .ok (.imul, 1) := by decide +kernel
theorem dX4_foresee_27 : decode cX4_foresee 27 = .ok (.iconst 2, 1) := by decide +kernel
theorem dX4_foresee_28 : decode cX4_foresee 28 = .ok (.imul, 1) := by decide +kernel
theorem dX4_foresee_29 : decode cX4_foresee 29 = .ok (.putfield 25, 3) := by decide +kernel
theorem dX4_foresee_32 : decode cX4_foresee 32 = .ok (.aload_n 0, 1) := by decide +kernel
theorem dX4_foresee_33 : decode cX4_foresee 33 = .ok (.iload_n 3, 1) := by decide +kernel
theorem dX4_foresee_34 : decode cX4_foresee 34 = .ok (.aload_n 1, 1) := by decide +kernel
theorem dX4_foresee_35 : decode cX4_foresee 35 = .ok (.getfield 30, 3) := by decide +kernel
theorem dX4_foresee_38 : decode cX4_foresee 38 = .ok (.iconst 0, 1) := by decide +kernel
theorem dX4_foresee_39 : decode cX4_foresee 39 = .ok (.iaload, 1) := by decide +kernel
theorem dX4_foresee_40 : decode cX4_foresee 40 = .ok (.if_icmp .lt 12, 3) := by decide +kernel
theorem dX4_foresee_43 : decode cX4_foresee 43 = .ok (.aload_n 1, 1) := by decide +kernel
theorem dX4_foresee_44 : decode cX4_foresee 44 = .ok (.getfield 34, 3) := by decide +kernel
theorem dX4_foresee_47 : decode cX4_foresee 47 = .ok (.iload_n 2, 1) := by decide +kernel
theorem dX4_foresee_48 : decode cX4_foresee 48 = .ok (.imul, 1) := by decide +kernel
theorem dX4_foresee_49 : decode cX4_foresee 49 = .ok (.goto 4, 3) := by decide +kernel
theorem dX4_foresee_52 : decode cX4_foresee 52 = .ok (.iconst 0, 1) := by decide +kernel
theorem dX4_foresee_53 : decode cX4_foresee 53 = .ok (.putfield 37, 3) := by decide +kernel
theorem dX4_foresee_56 : decode cX4_foresee 56 = .ok (.aload_n 0, 1) := by decide +kernel
theorem dX4_foresee_57 : decode cX4_foresee 57 = .ok (.iload 4, 2) := by decide +kernel
theorem dX4_foresee_59 : decode cX4_foresee 59 = .ok (.ifCond .ne 20, 3) := by decide +kernel
theorem dX4_foresee_62 : decode cX4_foresee 62 = .ok (.iload_n 3, 1) := by decide +kernel
theorem dX4_foresee_63 : decode cX4_foresee 63 = .ok (.aload_n 1, 1) := by decide +kernel
theorem dX4_foresee_64 : decode cX4_foresee 64 = .ok (.getfield 30, 3) := by decide +kernel
theorem dX4_foresee_67 : decode cX4_foresee 67 = .ok (.iconst 1, 1) := by decide +kernel
theorem dX4_foresee_68 : decode cX4_foresee 68 = .ok (.iaload, 1) := by decide +kernel
theorem dX4_foresee_69 : decode cX4_foresee 69 = .ok (.if_icmp .gt 10, 3) := by decide +kernel
theorem dX4_foresee_72 : decode cX4_foresee 72 = .ok (.aload_n 1, 1) := by decide +kernel
theorem dX4_foresee_73 : decode cX4_foresee 73 = .ok (.getfield 40, 3) := by decide +kernel
theorem dX4_foresee_76 : decode cX4_foresee 76 = .ok (.goto 4, 3) := by decide +kernel
theorem dX4_foresee_79 : decode cX4_foresee 79 = .ok (.iconst 0, 1) := by decide +kernel
theorem dX4_foresee_80 : decode cX4_foresee 80 = .ok (.putfield 43, 3) := by decide +kernel
theorem dX4_foresee_83 : decode cX4_foresee 83 = .ok (.aload_n 0, 1) := by decide +kernel
theorem dX4_foresee_84 : decode cX4_foresee 84 = .ok (.aload_n 0, 1) := by decide +kernel
theorem dX4_foresee_85 : decode cX4_foresee 85 = .ok (.getfield 37, 3) := by decide +kernel
theorem dX4_foresee_88 : decode cX4_foresee 88 = .ok (.invokestatic 9, 3) := by decide +kernel
theorem dX4_foresee_91 : decode cX4_foresee 91 = .ok (.iload_n 3, 1) := by decide +kernel
theorem dX4_foresee_92 : decode cX4_foresee 92 = .ok (.imul, 1) := by decide +kernel
theorem dX4_foresee_93 : decode cX4_foresee 93 = .ok (.bipush 100, 2) := by decide +kernel
theorem dX4_foresee_95 : decode cX4_foresee 95 = .ok (.idiv, 1) := by decide +kernel
theorem dX4_foresee_96 : decode cX4_foresee 96 = .ok (.putfield 46, 3) := by decide +kernel
theorem dX4_foresee_99 : decode cX4_foresee 99 = .ok (.aload_n 0, 1) := by decide +kernel
theorem dX4_foresee_100 : decode cX4_foresee 100 = .ok (.aload_n 0, 1) := by decide +kernel
theorem dX4_foresee_101 : decode cX4_foresee 101 = .ok (.getfield 43, 3) := by decide +kernel
theorem dX4_foresee_104 : decode cX4_foresee 104 = .ok (.invokestatic 9, 3) := by decide +kernel
theorem dX4_foresee_107 : decode cX4_foresee 107 = .ok (.bipush 20, 2) := by decide +kernel
theorem dX4_foresee_109 : decode cX4_foresee 109 = .ok (.iload_n 3, 1) := by decide +kernel
theorem dX4_foresee_110 : decode cX4_foresee 110 = .ok (.iadd, 1) := by decide +kernel
theorem dX4_foresee_111 : decode cX4_foresee 111 = .ok (.imul, 1) := by decide +kernel
theorem dX4_foresee_112 : decode cX4_foresee 112 = .ok (.bipush 100, 2) := by decide +kernel
theorem dX4_foresee_114 : decode cX4_foresee 114 = .ok (.idiv, 1) := by decide +kernel
theorem dX4_foresee_115 : decode cX4_foresee 115 = .ok (.putfield 49, 3) := by decide +kernel
theorem dX4_foresee_118 : decode cX4_foresee 118 = .ok (.aload_n 0, 1) := by decide +kernel
theorem dX4_foresee_119 : decode cX4_foresee 119 = .ok (.getfield 25, 3) := by decide +kernel
theorem dX4_foresee_122 : decode cX4_foresee 122 = .ok (.aload_n 0, 1) := by decide +kernel
theorem dX4_foresee_123 : decode cX4_foresee 123 = .ok (.getfield 37, 3) := by decide +kernel
theorem dX4_foresee_126 : decode cX4_foresee 126 = .ok (.iadd, 1) := by decide +kernel
theorem dX4_foresee_127 : decode cX4_foresee 127 = .ok (.aload_n 0, 1) := by decide +kernel
theorem dX4_foresee_128 : decode cX4_foresee 128 = .ok (.getfield 43, 3) := by decide +kernel
theorem dX4_foresee_131 : decode cX4_foresee 131 = .ok (.iadd, 1) := by decide +kernel
theorem dX4_foresee_132 : decode cX4_foresee 132 = .ok (.istore 5, 2) := by decide +kernel
theorem dX4_foresee_134 : decode cX4_foresee 134 = .ok (.aload_n 0, 1) := by decide +kernel
theorem dX4_foresee_135 : decode cX4_foresee 135 = .ok (.aload_n 1, 1) := by decide +kernel
theorem dX4_foresee_136 : decode cX4_foresee 136 = .ok (.getfield 52, 3) := by decide +kernel
theorem dX4_foresee_139 : decode cX4_foresee 139 = .ok (.ineg, 1) := by decide +kernel
theorem dX4_foresee_140 : decode cX4_foresee 140 = .ok (.ldc 55, 2) := by decide +kernel
theorem dX4_foresee_142 : decode cX4_foresee 142 = .ok (.aload_n 1, 1) := by decide +kernel
theorem dX4_foresee_143 : decode cX4_foresee 143 = .ok (.getfield 52, 3) := by decide +kernel
theorem dX4_foresee_146 : decode cX4_foresee 146 = .ok (.isub, 1) := by decide +kernel
theorem dX4_foresee_147 : decode cX4_foresee 147 = .ok (.iload 5, 2) := by decide +kernel
theorem dX4_foresee_149 : decode cX4_foresee 149 = .ok (.invokestatic 56, 3) := by decide +kernel
theorem dX4_foresee_152 : decode cX4_foresee 152 = .ok (.invokestatic 60, 3) := by decide +kernel
theorem dX4_foresee_155 : decode cX4_foresee 155 = .ok (.putfield 63, 3) := by decide +kernel
theorem dX4_foresee_158 : decode cX4_foresee 158 = .ok (.aload_n 0, 1) := by decide +kernel
theorem dX4_foresee_159 : decode cX4_foresee 159 = .ok (.aload_n 0, 1) := by decide +kernel
theorem dX4_foresee_160 : decode cX4_foresee 160 = .ok (.aload_n 1, 1) := by decide +kernel
theorem dX4_foresee_161 : decode cX4_foresee 161 = .ok (.invokevirtual 66, 3) := by decide +kernel
theorem dX4_foresee_164 : decode cX4_foresee 164 = .ok (.putfield 70, 3) := by decide +kernel
theorem dX4_foresee_167 : decode cX4_foresee 167 = .ok (.return_, 1) := by decide +kernel
theorem dX4_siltOf_0 : decode cX4_siltOf 0 = .ok (.aload_n 0, 1) := by decide +kernel
theorem dX4_siltOf_1 : decode cX4_siltOf 1 = .ok (.getfield 63, 3) := by decide +kernel
theorem dX4_siltOf_4 : decode cX4_siltOf 4 = .ok (.ifCond .le 22, 3) := by decide +kernel
theorem dX4_siltOf_7 : decode cX4_siltOf 7 = .ok (.aload_n 0, 1) := by decide +kernel
theorem dX4_siltOf_8 : decode cX4_siltOf 8 = .ok (.getfield 63, 3) := by decide +kernel
theorem dX4_siltOf_11 : decode cX4_siltOf 11 = .ok (.bipush 50, 2) := by decide +kernel
theorem dX4_siltOf_13 : decode cX4_siltOf 13 = .ok (.idiv, 1) := by decide +kernel
theorem dX4_siltOf_14 : decode cX4_siltOf 14 = .ok (.sipush 20000, 3) := by decide +kernel
theorem dX4_siltOf_17 : decode cX4_siltOf 17 = .ok (.aload_n 1, 1) := by decide +kernel
theorem dX4_siltOf_18 : decode cX4_siltOf 18 = .ok (.getfield 73, 3) := by decide +kernel
theorem dX4_siltOf_21 : decode cX4_siltOf 21 = .ok (.isub, 1) := by decide +kernel
theorem dX4_siltOf_22 : decode cX4_siltOf 22 = .ok (.invokestatic 56, 3) := by decide +kernel
theorem dX4_siltOf_25 : decode cX4_siltOf 25 = .ok (.ireturn, 1) := by decide +kernel
theorem dX4_siltOf_26 : decode cX4_siltOf 26 = .ok (.aload_n 0, 1) := by decide +kernel
theorem dX4_siltOf_27 : decode cX4_siltOf 27 = .ok (.getfield 63, 3) := by decide +kernel
theorem dX4_siltOf_30 : decode cX4_siltOf 30 = .ok (.aload_n 1, 1) := by decide +kernel
theorem dX4_siltOf_31 : decode cX4_siltOf 31 = .ok (.getfield 30, 3) := by decide +kernel
theorem dX4_siltOf_34 : decode cX4_siltOf 34 = .ok (.iconst 2, 1) := by decide +kernel
theorem dX4_siltOf_35 : decode cX4_siltOf 35 = .ok (.iaload, 1) := by decide +kernel
theorem dX4_siltOf_36 : decode cX4_siltOf 36 = .ok (.ineg, 1) := by decide +kernel
theorem dX4_siltOf_37 : decode cX4_siltOf 37 = .ok (.if_icmp .gt 20, 3) := by decide +kernel
theorem dX4_siltOf_40 : decode cX4_siltOf 40 = .ok (.aload_n 0, 1) := by decide +kernel
theorem dX4_siltOf_41 : decode cX4_siltOf 41 = .ok (.getfield 63, 3) := by decide +kernel
theorem dX4_siltOf_44 : decode cX4_siltOf 44 = .ok (.ineg, 1) := by decide +kernel
theorem dX4_siltOf_45 : decode cX4_siltOf 45 = .ok (.bipush 20, 2) := by decide +kernel
theorem dX4_siltOf_47 : decode cX4_siltOf 47 = .ok (.idiv, 1) := by decide +kernel
theorem dX4_siltOf_48 : decode cX4_siltOf 48 = .ok (.aload_n 1, 1) := by decide +kernel
theorem dX4_siltOf_49 : decode cX4_siltOf 49 = .ok (.getfield 73, 3) := by decide +kernel
theorem dX4_siltOf_52 : decode cX4_siltOf 52 = .ok (.invokestatic 56, 3) := by decide +kernel
theorem dX4_siltOf_55 : decode cX4_siltOf 55 = .ok (.ineg, 1) := by decide +kernel
theorem dX4_siltOf_56 : decode cX4_siltOf 56 = .ok (.ireturn, 1) := by decide +kernel
theorem dX4_siltOf_57 : decode cX4_siltOf 57 = .ok (.iconst 0, 1) := by decide +kernel
theorem dX4_siltOf_58 : decode cX4_siltOf 58 = .ok (.ireturn, 1) := by decide +kernel
theorem dX5_init_0 : decode cX5_init 0 = .ok (.aload_n 0, 1) := by decide +kernel
theorem dX5_init_1 : decode cX5_init 1 = .ok (.invokespecial 1, 3) := by decide +kernel
theorem dX5_init_4 : decode cX5_init 4 = .ok (.aload_n 0, 1) := by decide +kernel
theorem dX5_init_5 : decode cX5_init 5 = .ok (.new 7, 3) := by decide +kernel
theorem dX5_init_8 : decode cX5_init 8 = .ok (.dup, 1) := by decide +kernel
theorem dX5_init_9 : decode cX5_init 9 = .ok (.invokespecial 9, 3) := by decide +kernel
theorem dX5_init_12 : decode cX5_init 12 = .ok (.putfield 10, 3) := by decide +kernel
theorem dX5_init_15 : decode cX5_init 15 = .ok (.aload_n 0, 1) := by decide +kernel
theorem dX5_init_16 : decode cX5_init 16 = .ok (.new 7, 3) := by decide +kernel
theorem dX5_init_19 : decode cX5_init 19 = .ok (.dup, 1) := by decide +kernel
theorem dX5_init_20 : decode cX5_init 20 = .ok (.invokespecial 9, 3) := by decide +kernel
theorem dX5_init_23 : decode cX5_init 23 = .ok (.putfield 16, 3) := by decide +kernel
theorem dX5_init_26 : decode cX5_init 26 = .ok (.aload_n 0, 1) := by decide +kernel
theorem dX5_init_27 : decode cX5_init 27 = .ok (.new 19, 3) := by decide +kernel
theorem dX5_init_30 : decode cX5_init 30 = .ok (.dup, 1) := by decide +kernel
theorem dX5_init_31 : decode cX5_init 31 = .ok (.invokespecial 21, 3) := by decide +kernel
theorem dX5_init_34 : decode cX5_init 34 = .ok (.putfield 22, 3) := by decide +kernel
theorem dX5_init_37 : decode cX5_init 37 = .ok (.aload_n 0, 1) := by decide +kernel
theorem dX5_init_38 : decode cX5_init 38 = .ok (.new 26, 3) := by decide +kernel
theorem dX5_init_41 : decode cX5_init 41 = .ok (.dup, 1) := by decide +kernel
theorem dX5_init_42 : decode cX5_init 42 = .ok (.invokespecial 28, 3) := by decide +kernel
theorem dX5_init_45 : decode cX5_init 45 = .ok (.putfield 29, 3) := by decide +kernel
theorem dX5_init_48 : decode cX5_init 48 = .ok (.aload_n 0, 1) := by decide +kernel
theorem dX5_init_49 : decode cX5_init 49 = .ok (.new 33, 3) := by decide +kernel
theorem dX5_init_52 : decode cX5_init 52 = .ok (.dup, 1) := by decide +kernel
theorem dX5_init_53 : decode cX5_init 53 = .ok (.invokespecial 35, 3) := by decide +kernel
theorem dX5_init_56 : decode cX5_init 56 = .ok (.putfield 36, 3) := by decide +kernel
theorem dX5_init_59 : decode cX5_init 59 = .ok (.aload_n 0, 1) := by decide +kernel
theorem dX5_init_60 : decode cX5_init 60 = .ok (.new 40, 3) := by decide +kernel
theorem dX5_init_63 : decode cX5_init 63 = .ok (.dup, 1) := by decide +kernel
theorem dX5_init_64 : decode cX5_init 64 = .ok (.invokespecial 42, 3) := by decide +kernel
theorem dX5_init_67 : decode cX5_init 67 = .ok (.putfield 43, 3) := by decide +kernel
theorem dX5_init_70 : decode cX5_init 70 = .ok (.return_, 1) := by decide +kernel
theorem dX5_gates_0 : decode cX5_gates 0 = .ok (.aload_n 0, 1) := by decide +kernel
theorem dX5_gates_1 : decode cX5_gates 1 = .ok (.getfield 16, 3) := by decide +kernel
theorem dX5_gates_4 : decode cX5_gates 4 = .ok (.aload_n 0, 1) := by decide +kernel
theorem dX5_gates_5 : decode cX5_gates 5 = .ok (.getfield 10, 3) := by decide +kernel
theorem dX5_gates_8 : decode cX5_gates 8 = .ok (.invokevirtual 47, 3) := by decide +kernel
theorem dX5_gates_11 : decode cX5_gates 11 = .ok (.aload_n 0, 1) := by decide +kernel
theorem dX5_gates_12 : decode cX5_gates 12 = .ok (.aload_n 0, 1) := by decide +kernel
theorem dX5_gates_13 : decode cX5_gates 13 = .ok (.getfield 16, 3) := by decide +kernel
theorem dX5_gates_16 : decode cX5_gates 16 = .ok (.iload_n 1, 1) := by decide +kernel
theorem dX5_gates_17 : decode cX5_gates 17 = .ok (.invokevirtual 51, 3) := by decide +kernel
theorem dX5_gates_20 : decode cX5_gates 20 = .ok (.invokevirtual 55, 3) := by decide +kernel
theorem dX5_gates_23 : decode cX5_gates 23 = .ok (.ireturn, 1) := by decide +kernel
theorem dX5_turbines_0 : decode cX5_turbines 0 = .ok (.aload_n 0, 1) := by decide +kernel
theorem dX5_turbines_1 : decode cX5_turbines 1 = .ok (.getfield 16, 3) := by decide +kernel
theorem dX5_turbines_4 : decode cX5_turbines 4 = .ok (.aload_n 0, 1) := by decide +kernel
theorem dX5_turbines_5 : decode cX5_turbines 5 = .ok (.getfield 10, 3) := by decide +kernel
theorem dX5_turbines_8 : decode cX5_turbines 8 = .ok (.invokevirtual 47, 3) := by decide +kernel
theorem dX5_turbines_11 : decode cX5_turbines 11 = .ok (.aload_n 0, 1) := by decide +kernel
theorem dX5_turbines_12 : decode cX5_turbines 12 = .ok (.aload_n 0, 1) := by decide +kernel
theorem dX5_turbines_13 : decode cX5_turbines 13 = .ok (.getfield 16, 3) := by decide +kernel
theorem dX5_turbines_16 : decode cX5_turbines 16 = .ok (.iload_n 1, 1) := by decide +kernel
theorem dX5_turbines_17 : decode cX5_turbines 17 = .ok (.invokevirtual 58, 3) := by decide +kernel
theorem dX5_turbines_20 : decode cX5_turbines 20 = .ok (.invokevirtual 55, 3) := by decide +kernel
theorem dX5_turbines_23 : decode cX5_turbines 23 = .ok (.ireturn, 1) := by decide +kernel
theorem dX5_pump_0 : decode cX5_pump 0 = .ok (.aload_n 0, 1) := by decide +kernel
theorem dX5_pump_1 : decode cX5_pump 1 = .ok (.getfield 16, 3) := by decide +kernel
theorem dX5_pump_4 : decode cX5_pump 4 = .ok (.aload_n 0, 1) := by decide +kernel
theorem dX5_pump_5 : decode cX5_pump 5 = .ok (.getfield 10, 3) := by decide +kernel
theorem dX5_pump_8 : decode cX5_pump 8 = .ok (.invokevirtual 47, 3) := by decide +kernel
theorem dX5_pump_11 : decode cX5_pump 11 = .ok (.aload_n 0, 1) := by decide +kernel
theorem dX5_pump_12 : decode cX5_pump 12 = .ok (.aload_n 0, 1) := by decide +kernel
theorem dX5_pump_13 : decode cX5_pump 13 = .ok (.getfield 16, 3) := by decide +kernel
theorem dX5_pump_16 : decode cX5_pump 16 = .ok (.iload_n 1, 1) := by decide +kernel
theorem dX5_pump_17 : decode cX5_pump 17 = .ok (.invokevirtual 61, 3) := by decide +kernel
theorem dX5_pump_20 : decode cX5_pump 20 = .ok (.invokevirtual 55, 3) := by decide +kernel
theorem dX5_pump_23 : decode cX5_pump 23 = .ok (.ireturn, 1) := by decide +kernel
theorem dX5_birds_0 : decode cX5_birds 0 = .ok (.aload_n 0, 1) := by decide +kernel
theorem dX5_birds_1 : decode cX5_birds 1 = .ok (.getfield 16, 3) := by decide +kernel
theorem dX5_birds_4 : decode cX5_birds 4 = .ok (.aload_n 0, 1) := by decide +kernel
theorem dX5_birds_5 : decode cX5_birds 5 = .ok (.getfield 10, 3) := by decide +kernel
theorem dX5_birds_8 : decode cX5_birds 8 = .ok (.invokevirtual 47, 3) := by decide +kernel
theorem dX5_birds_11 : decode cX5_birds 11 = .ok (.aload_n 0, 1) := by decide +kernel
theorem dX5_birds_12 : decode cX5_birds 12 = .ok (.aload_n 0, 1) := by decide +kernel
theorem dX5_birds_13 : decode cX5_birds 13 = .ok (.getfield 16, 3) := by decide +kernel
theorem dX5_birds_16 : decode cX5_birds 16 = .ok (.iload_n 1, 1) := by decide +kernel
theorem dX5_birds_17 : decode cX5_birds 17 = .ok (.iload_n 2, 1) := by decide +kernel
theorem dX5_birds_18 : decode cX5_birds 18 = .ok (.invokevirtual 64, 3) := by decide +kernel
theorem dX5_birds_21 : decode cX5_birds 21 = .ok (.invokevirtual 55, 3) := by decide +kernel
theorem dX5_birds_24 : decode cX5_birds 24 = .ok (.ireturn, 1) := by decide +kernel
theorem dX5_run_0 : decode cX5_run 0 = .ok (.aload_n 0, 1) := by decide +kernel
theorem dX5_run_1 : decode cX5_run 1 = .ok (.getfield 16, 3) := by decide +kernel
theorem dX5_run_4 : decode cX5_run 4 = .ok (.aload_n 0, 1) := by decide +kernel
theorem dX5_run_5 : decode cX5_run 5 = .ok (.getfield 10, 3) := by decide +kernel
theorem dX5_run_8 : decode cX5_run 8 = .ok (.invokevirtual 47, 3) := by decide +kernel
theorem dX5_run_11 : decode cX5_run 11 = .ok (.aload_n 0, 1) := by decide +kernel
theorem dX5_run_12 : decode cX5_run 12 = .ok (.aload_n 0, 1) := by decide +kernel
theorem dX5_run_13 : decode cX5_run 13 = .ok (.getfield 16, 3) := by decide +kernel
theorem dX5_run_16 : decode cX5_run 16 = .ok (.iload_n 1, 1) := by decide +kernel
theorem dX5_run_17 : decode cX5_run 17 = .ok (.aload_n 0, 1) := by decide +kernel
theorem dX5_run_18 : decode cX5_run 18 = .ok (.getfield 22, 3) := by decide +kernel
theorem dX5_run_21 : decode cX5_run 21 = .ok (.invokevirtual 68, 3) := by decide +kernel
theorem dX5_run_24 : decode cX5_run 24 = .ok (.invokevirtual 55, 3) := by decide +kernel
theorem dX5_run_27 : decode cX5_run 27 = .ok (.ireturn, 1) := by decide +kernel
theorem dX5_dredge_0 : decode cX5_dredge 0 = .ok (.aload_n 0, 1) := by decide +kernel
theorem dX5_dredge_1 : decode cX5_dredge 1 = .ok (.getfield 16, 3) := by decide +kernel
theorem dX5_dredge_4 : decode cX5_dredge 4 = .ok (.aload_n 0, 1) := by decide +kernel
theorem dX5_dredge_5 : decode cX5_dredge 5 = .ok (.getfield 10, 3) := by decide +kernel
theorem dX5_dredge_8 : decode cX5_dredge 8 = .ok (.invokevirtual 47, 3) := by decide +kernel
theorem dX5_dredge_11 : decode cX5_dredge 11 = .ok (.aload_n 0, 1) := by decide +kernel
theorem dX5_dredge_12 : decode cX5_dredge 12 = .ok (.aload_n 0, 1) := by decide +kernel
theorem dX5_dredge_13 : decode cX5_dredge 13 = .ok (.getfield 16, 3) := by decide +kernel
theorem dX5_dredge_16 : decode cX5_dredge 16 = .ok (.iload_n 1, 1) := by decide +kernel
theorem dX5_dredge_17 : decode cX5_dredge 17 = .ok (.invokevirtual 72, 3) := by decide +kernel
theorem dX5_dredge_20 : decode cX5_dredge 20 = .ok (.invokevirtual 55, 3) := by decide +kernel
theorem dX5_dredge_23 : decode cX5_dredge 23 = .ok (.ireturn, 1) := by decide +kernel
theorem dX5_set_0 : decode cX5_set 0 = .ok (.aload_n 0, 1) := by decide +kernel
theorem dX5_set_1 : decode cX5_set 1 = .ok (.getfield 16, 3) := by decide +kernel
theorem dX5_set_4 : decode cX5_set 4 = .ok (.aload_n 0, 1) := by decide +kernel
theorem dX5_set_5 : decode cX5_set 5 = .ok (.getfield 10, 3) := by decide +kernel
theorem dX5_set_8 : decode cX5_set 8 = .ok (.invokevirtual 47, 3) := by decide +kernel
theorem dX5_set_11 : decode cX5_set 11 = .ok (.aload_n 0, 1) := by decide +kernel
theorem dX5_set_12 : decode cX5_set 12 = .ok (.aload_n 0, 1) := by decide +kernel
theorem dX5_set_13 : decode cX5_set 13 = .ok (.getfield 16, 3) := by decide +kernel
theorem dX5_set_16 : decode cX5_set 16 = .ok (.iload_n 1, 1) := by decide +kernel
theorem dX5_set_17 : decode cX5_set 17 = .ok (.iload_n 2, 1) := by decide +kernel
theorem dX5_set_18 : decode cX5_set 18 = .ok (.invokevirtual 75, 3) := by decide +kernel
theorem dX5_set_21 : decode cX5_set 21 = .ok (.invokevirtual 55, 3) := by decide +kernel
theorem dX5_set_24 : decode cX5_set 24 = .ok (.ireturn, 1) := by decide +kernel
theorem dX5_now_0 : decode cX5_now 0 = .ok (.iload_n 1, 1) := by decide +kernel
theorem dX5_now_1 : decode cX5_now 1 = .ok (.tableswitch 197 0 12 #[67, 75, 87, 99, 110, 118, 126, 134, 142, 150, 158, 166, 182], 67) := by decide +kernel
theorem dX5_now_68 : decode cX5_now 68 = .ok (.aload_n 0, 1) := by decide +kernel
theorem dX5_now_69 : decode cX5_now 69 = .ok (.getfield 10, 3) := by decide +kernel
theorem dX5_now_72 : decode cX5_now 72 = .ok (.getfield 82, 3) := by decide +kernel
theorem dX5_now_75 : decode cX5_now 75 = .ok (.ireturn, 1) := by decide +kernel
theorem dX5_now_76 : decode cX5_now 76 = .ok (.aload_n 0, 1) := by decide +kernel
theorem dX5_now_77 : decode cX5_now 77 = .ok (.getfield 10, 3) := by decide +kernel
theorem dX5_now_80 : decode cX5_now 80 = .ok (.getfield 82, 3) := by decide +kernel
theorem dX5_now_83 : decode cX5_now 83 = .ok (.sipush 144, 3) := by decide +kernel
theorem dX5_now_86 : decode cX5_now 86 = .ok (.idiv, 1) := by decide +kernel
theorem dX5_now_87 : decode cX5_now 87 = .ok (.ireturn, 1) := by decide +kernel
theorem dX5_now_88 : decode cX5_now 88 = .ok (.aload_n 0, 1) := by decide +kernel
theorem dX5_now_89 : decode cX5_now 89 = .ok (.getfield 10, 3) := by decide +kernel
theorem dX5_now_92 : decode cX5_now 92 = .ok (.getfield 82, 3) := by decide +kernel
theorem dX5_now_95 : decode cX5_now 95 = .ok (.sipush 144, 3) := by decide +kernel
theorem dX5_now_98 : decode cX5_now 98 = .ok (.irem, 1) := by decide +kernel
theorem dX5_now_99 : decode cX5_now 99 = .ok (.ireturn, 1) := by decide +kernel
theorem dX5_now_100 : decode cX5_now 100 = .ok (.aload_n 0, 1) := by decide +kernel
theorem dX5_now_101 : decode cX5_now 101 = .ok (.getfield 10, 3) := by decide +kernel
theorem dX5_now_104 : decode cX5_now 104 = .ok (.getfield 82, 3) := by decide +kernel
theorem dX5_now_107 : decode cX5_now 107 = .ok (.invokestatic 79, 3) := by decide +kernel
theorem dX5_now_110 : decode cX5_now 110 = .ok (.ireturn, 1) := by decide +kernel
theorem dX5_now_111 : decode cX5_now 111 = .ok (.aload_n 0, 1) := by decide +kernel
theorem dX5_now_112 : decode cX5_now 112 = .ok (.getfield 10, 3) := by decide +kernel
theorem dX5_now_115 : decode cX5_now 115 = .ok (.invokevirtual 86, 3) := by decide +kernel
theorem dX5_now_118 : decode cX5_now 118 = .ok (.ireturn, 1) := by decide +kernel
theorem dX5_now_119 : decode cX5_now 119 = .ok (.aload_n 0, 1) := by decide +kernel
theorem dX5_now_120 : decode cX5_now 120 = .ok (.getfield 10, 3) := by decide +kernel
theorem dX5_now_123 : decode cX5_now 123 = .ok (.invokevirtual 90, 3) := by decide +kernel
theorem dX5_now_126 : decode cX5_now 126 = .ok (.ireturn, 1) := by decide +kernel
theorem dX5_now_127 : decode cX5_now 127 = .ok (.aload_n 0, 1) := by decide +kernel
theorem dX5_now_128 : decode cX5_now 128 = .ok (.getfield 10, 3) := by decide +kernel
theorem dX5_now_131 : decode cX5_now 131 = .ok (.getfield 93, 3) := by decide +kernel
theorem dX5_now_134 : decode cX5_now 134 = .ok (.ireturn, 1) := by decide +kernel
theorem dX5_now_135 : decode cX5_now 135 = .ok (.aload_n 0, 1) := by decide +kernel
theorem dX5_now_136 : decode cX5_now 136 = .ok (.getfield 10, 3) := by decide +kernel
theorem dX5_now_139 : decode cX5_now 139 = .ok (.getfield 96, 3) := by decide +kernel
theorem dX5_now_142 : decode cX5_now 142 = .ok (.ireturn, 1) := by decide +kernel
theorem dX5_now_143 : decode cX5_now 143 = .ok (.aload_n 0, 1) := by decide +kernel
theorem dX5_now_144 : decode cX5_now 144 = .ok (.getfield 10, 3) := by decide +kernel
theorem dX5_now_147 : decode cX5_now 147 = .ok (.getfield 99, 3) := by decide +kernel
theorem dX5_now_150 : decode cX5_now 150 = .ok (.ireturn, 1) := by decide +kernel
theorem dX5_now_151 : decode cX5_now 151 = .ok (.aload_n 0, 1) := by decide +kernel
theorem dX5_now_152 : decode cX5_now 152 = .ok (.getfield 10, 3) := by decide +kernel
theorem dX5_now_155 : decode cX5_now 155 = .ok (.getfield 102, 3) := by decide +kernel
theorem dX5_now_158 : decode cX5_now 158 = .ok (.ireturn, 1) := by decide +kernel
theorem dX5_now_159 : decode cX5_now 159 = .ok (.aload_n 0, 1) := by decide +kernel
theorem dX5_now_160 : decode cX5_now 160 = .ok (.getfield 10, 3) := by decide +kernel
theorem dX5_now_163 : decode cX5_now 163 = .ok (.getfield 105, 3) := by decide +kernel
theorem dX5_now_166 : decode cX5_now 166 = .ok (.ireturn, 1) := by decide +kernel
theorem dX5_now_167 : decode cX5_now 167 = .ok (.aload_n 0, 1) := by decide +kernel
theorem dX5_now_168 : decode cX5_now 168 = .ok (.getfield 10, 3) := by decide +kernel
theorem dX5_now_171 : decode cX5_now 171 = .ok (.invokevirtual 108, 3) := by decide +kernel
theorem dX5_now_174 : decode cX5_now 174 = .ok (.ifCond .eq 7, 3) := by decide +kernel
theorem dX5_now_177 : decode cX5_now 177 = .ok (.iconst 1, 1) := by decide +kernel
theorem dX5_now_178 : decode cX5_now 178 = .ok (.goto 4, 3) := by decide +kernel
theorem dX5_now_181 : decode cX5_now 181 = .ok (.iconst 0, 1) := by decide +kernel
theorem dX5_now_182 : decode cX5_now 182 = .ok (.ireturn, 1) := by decide +kernel
theorem dX5_now_183 : decode cX5_now 183 = .ok (.aload_n 0, 1) := by decide +kernel
theorem dX5_now_184 : decode cX5_now 184 = .ok (.getfield 10, 3) := by decide +kernel
theorem dX5_now_187 : decode cX5_now 187 = .ok (.getfield 82, 3) := by decide +kernel
theorem dX5_now_190 : decode cX5_now 190 = .ok (.sipush 144, 3) := by decide +kernel
theorem dX5_now_193 : decode cX5_now 193 = .ok (.idiv, 1) := by decide +kernel
theorem dX5_now_194 : decode cX5_now 194 = .ok (.invokestatic 112, 3) := by decide +kernel
theorem dX5_now_197 : decode cX5_now 197 = .ok (.ireturn, 1) := by decide +kernel
theorem dX5_now_198 : decode cX5_now 198 = .ok (.ldc 78, 2) := by decide +kernel
theorem dX5_now_200 : decode cX5_now 200 = .ok (.ireturn, 1) := by decide +kernel
theorem dX5_record_0 : decode cX5_record 0 = .ok (.iload_n 1, 1) := by decide +kernel
theorem dX5_record_1 : decode cX5_record 1 = .ok (.ifCond .lt 13, 3) := by decide +kernel
theorem dX5_record_4 : decode cX5_record 4 = .ok (.iload_n 2, 1) := by decide +kernel
theorem dX5_record_5 : decode cX5_record 5 = .ok (.ifCond .lt 9, 3) := by decide +kernel
theorem dX5_record_8 : decode cX5_record 8 = .ok (.iload_n 2, 1) := by decide +kernel
theorem dX5_record_9 : decode cX5_record 9 = .ok (.bipush 6, 2) := by decide +kernel
theorem dX5_record_11 : decode cX5_record 11 = .ok (.if_icmp .lt 6, 3) := by decide +kernel
theorem dX5_record_14 : decode cX5_record 14 = .ok (.ldc 78, 2) := by decide +kernel
theorem dX5_record_16 : decode cX5_record 16 = .ok (.ireturn, 1) := by decide +kernel
theorem dX5_record_17 : decode cX5_record 17 = .ok (.iload_n 1, 1) := by decide +kernel
theorem dX5_record_18 : decode cX5_record 18 = .ok (.aload_n 0, 1) := by decide +kernel
theorem dX5_record_19 : decode cX5_record 19 = .ok (.getfield 10, 3) := by decide +kernel
theorem dX5_record_22 : decode cX5_record 22 = .ok (.invokevirtual 115, 3) := by decide +kernel
theorem dX5_record_25 : decode cX5_record 25 = .ok (.if_icmp .lt 14, 3) := by decide +kernel
theorem dX5_record_28 : decode cX5_record 28 = .ok (.iload_n 1, 1) := by decide +kernel
theorem dX5_record_29 : decode cX5_record 29 = .ok (.aload_n 0, 1) := by decide +kernel
theorem dX5_record_30 : decode cX5_record 30 = .ok (.getfield 10, 3) := by decide +kernel
theorem dX5_record_33 : decode cX5_record 33 = .ok (.invokevirtual 118, 3) := by decide +kernel
theorem dX5_record_36 : decode cX5_record 36 = .ok (.if_icmp .le 6, 3) := by decide +kernel
theorem dX5_record_39 : decode cX5_record 39 = .ok (.ldc 121, 2) := by decide +kernel
theorem dX5_record_41 : decode cX5_record 41 = .ok (.ireturn, 1) := by decide +kernel
theorem dX5_record_42 : decode cX5_record 42 = .ok (.aload_n 0, 1) := by decide +kernel
theorem dX5_record_43 : decode cX5_record 43 = .ok (.getfield 10, 3) := by decide +kernel
theorem dX5_record_46 : decode cX5_record 46 = .ok (.getfield 122, 3) := by decide +kernel
theorem dX5_record_49 : decode cX5_record 49 = .ok (.iload_n 1, 1) := by decide +kernel
theorem dX5_record_50 : decode cX5_record 50 = .ok (.invokestatic 126, 3) := by decide +kernel
theorem dX5_record_53 : decode cX5_record 53 = .ok (.iload_n 2, 1) := by decide +kernel
theorem dX5_record_54 : decode cX5_record 54 = .ok (.iadd, 1) := by decide +kernel
theorem dX5_record_55 : decode cX5_record 55 = .ok (.iaload, 1) := by decide +kernel
theorem dX5_record_56 : decode cX5_record 56 = .ok (.ireturn, 1) := by decide +kernel
theorem dX5_next_0 : decode cX5_next 0 = .ok (.aload_n 0, 1) := by decide +kernel
theorem dX5_next_1 : decode cX5_next 1 = .ok (.getfield 22, 3) := by decide +kernel
theorem dX5_next_4 : decode cX5_next 4 = .ok (.aload_n 0, 1) := by decide +kernel
theorem dX5_next_5 : decode cX5_next 5 = .ok (.getfield 10, 3) := by decide +kernel
theorem dX5_next_8 : decode cX5_next 8 = .ok (.aload_n 0, 1) := by decide +kernel
theorem dX5_next_9 : decode cX5_next 9 = .ok (.getfield 10, 3) := by decide +kernel
theorem dX5_next_12 : decode cX5_next 12 = .ok (.invokevirtual 90, 3) := by decide +kernel
theorem dX5_next_15 : decode cX5_next 15 = .ok (.invokevirtual 129, 3) := by decide +kernel
theorem dX5_next_18 : decode cX5_next 18 = .ok (.iload_n 1, 1) := by decide +kernel
theorem dX5_next_19 : decode cX5_next 19 = .ok (.tableswitch 97 0 6 #[41, 49, 57, 65, 73, 81, 89], 41) := by decide +kernel
theorem dX5_next_60 : decode cX5_next 60 = .ok (.aload_n 0, 1) := by decide +kernel
theorem dX5_next_61 : decode cX5_next 61 = .ok (.getfield 22, 3) := by decide +kernel
theorem dX5_next_64 : decode cX5_next 64 = .ok (.getfield 133, 3) := by decide +kernel
theorem dX5_next_67 : decode cX5_next 67 = .ok (.ireturn, 1) := by decide +kernel
theorem dX5_next_68 : decode cX5_next 68 = .ok (.aload_n 0, 1) := by decide +kernel
theorem dX5_next_69 : decode cX5_next 69 = .ok (.getfield 22, 3) := by decide +kernel
theorem dX5_next_72 : decode cX5_next 72 = .ok (.getfield 136, 3) := by decide +kernel
theorem dX5_next_75 : decode cX5_next 75 = .ok (.ireturn, 1) := by decide +kernel
theorem dX5_next_76 : decode cX5_next 76 = .ok (.aload_n 0, 1) := by decide +kernel
theorem dX5_next_77 : decode cX5_next 77 = .ok (.getfield 22, 3) := by decide +kernel
theorem dX5_next_80 : decode cX5_next 80 = .ok (.getfield 139, 3) := by decide +kernel
theorem dX5_next_83 : decode cX5_next 83 = .ok (.ireturn, 1) := by decide +kernel
theorem dX5_next_84 : decode cX5_next 84 = .ok (.aload_n 0, 1) := by decide +kernel
theorem dX5_next_85 : decode cX5_next 85 = .ok (.getfield 22, 3) := by decide +kernel
theorem dX5_next_88 : decode cX5_next 88 = .ok (.getfield 142, 3) := by decide +kernel
theorem dX5_next_91 : decode cX5_next 91 = .ok (.ireturn, 1) := by decide +kernel
theorem dX5_next_92 : decode cX5_next 92 = .ok (.aload_n 0, 1) := by decide +kernel
theorem dX5_next_93 : decode cX5_next 93 = .ok (.getfield 22, 3) := by decide +kernel
theorem dX5_next_96 : decode cX5_next 96 = .ok (.getfield 145, 3) := by decide +kernel
theorem dX5_next_99 : decode cX5_next 99 = .ok (.ireturn, 1) := by decide +kernel
theorem dX5_next_100 : decode cX5_next 100 = .ok (.aload_n 0, 1) := by decide +kernel
theorem dX5_next_101 : decode cX5_next 101 = .ok (.getfield 22, 3) := by decide +kernel
theorem dX5_next_104 : decode cX5_next 104 = .ok (.getfield 148, 3) := by decide +kernel
theorem dX5_next_107 : decode cX5_next 107 = .ok (.ireturn, 1) := by decide +kernel
theorem dX5_next_108 : decode cX5_next 108 = .ok (.aload_n 0, 1) := by decide +kernel
theorem dX5_next_109 : decode cX5_next 109 = .ok (.getfield 22, 3) := by decide +kernel
theorem dX5_next_112 : decode cX5_next 112 = .ok (.getfield 151, 3) := by decide +kernel
theorem dX5_next_115 : decode cX5_next 115 = .ok (.ireturn, 1) := by decide +kernel
theorem dX5_next_116 : decode cX5_next 116 = .ok (.ldc 78, 2) := by decide +kernel
theorem dX5_next_118 : decode cX5_next 118 = .ok (.ireturn, 1) := by decide +kernel
theorem dX5_bestDay_0 : decode cX5_bestDay 0 = .ok (.ldc 121, 2) := by decide +kernel
theorem dX5_bestDay_2 : decode cX5_bestDay 2 = .ok (.istore_n 1, 1) := by decide +kernel
theorem dX5_bestDay_3 : decode cX5_bestDay 3 = .ok (.iconst (-1), 1) := by decide +kernel
theorem dX5_bestDay_4 : decode cX5_bestDay 4 = .ok (.istore_n 2, 1) := by decide +kernel
theorem dX5_bestDay_5 : decode cX5_bestDay 5 = .ok (.aload_n 0, 1) := by decide +kernel
theorem dX5_bestDay_6 : decode cX5_bestDay 6 = .ok (.getfield 10, 3) := by decide +kernel
theorem dX5_bestDay_9 : decode cX5_bestDay 9 = .ok (.invokevirtual 118, 3) := by decide +kernel
theorem dX5_bestDay_12 : decode cX5_bestDay 12 = .ok (.istore_n 3, 1) := by decide +kernel
theorem dX5_bestDay_13 : decode cX5_bestDay 13 = .ok (.aload_n 0, 1) := by decide +kernel
theorem dX5_bestDay_14 : decode cX5_bestDay 14 = .ok (.getfield 10, 3) := by decide +kernel
theorem dX5_bestDay_17 : decode cX5_bestDay 17 = .ok (.invokevirtual 115, 3) := by decide +kernel
theorem dX5_bestDay_20 : decode cX5_bestDay 20 = .ok (.istore 4, 2) := by decide +kernel
theorem dX5_bestDay_22 : decode cX5_bestDay 22 = .ok (.iload 4, 2) := by decide +kernel
theorem dX5_bestDay_24 : decode cX5_bestDay 24 = .ok (.iload_n 3, 1) := by decide +kernel
theorem dX5_bestDay_25 : decode cX5_bestDay 25 = .ok (.if_icmp .gt 38, 3) := by decide +kernel
theorem dX5_bestDay_28 : decode cX5_bestDay 28 = .ok (.aload_n 0, 1) := by decide +kernel
theorem dX5_bestDay_29 : decode cX5_bestDay 29 = .ok (.getfield 10, 3) := by decide +kernel
theorem dX5_bestDay_32 : decode cX5_bestDay 32 = .ok (.getfield 122, 3) := by decide +kernel
theorem dX5_bestDay_35 : decode cX5_bestDay 35 = .ok (.iload 4, 2) := by decide +kernel
theorem dX5_bestDay_37 : decode cX5_bestDay 37 = .ok (.invokestatic 126, 3) := by decide +kernel
theorem dX5_bestDay_40 : decode cX5_bestDay 40 = .ok (.iconst 0, 1) := by decide +kernel
theorem dX5_bestDay_41 : decode cX5_bestDay 41 = .ok (.iadd, 1) := by decide +kernel
theorem dX5_bestDay_42 : decode cX5_bestDay 42 = .ok (.iaload, 1) := by decide +kernel
theorem dX5_bestDay_43 : decode cX5_bestDay 43 = .ok (.istore 5, 2) := by decide +kernel
theorem dX5_bestDay_45 : decode cX5_bestDay 45 = .ok (.iload 5, 2) := by decide +kernel
theorem dX5_bestDay_47 : decode cX5_bestDay 47 = .ok (.iload_n 2, 1) := by decide +kernel
theorem dX5_bestDay_48 : decode cX5_bestDay 48 = .ok (.if_icmp .le 9, 3) := by decide +kernel
theorem dX5_bestDay_51 : decode cX5_bestDay 51 = .ok (.iload 4, 2) := by decide +kernel
theorem dX5_bestDay_53 : decode cX5_bestDay 53 = .ok (.istore_n 1, 1) := by decide +kernel
theorem dX5_bestDay_54 : decode cX5_bestDay 54 = .ok (.iload 5, 2) := by decide +kernel
theorem dX5_bestDay_56 : decode cX5_bestDay 56 = .ok (.istore_n 2, 1) := by decide +kernel
theorem dX5_bestDay_57 : decode cX5_bestDay 57 = .ok (.iinc 4 1, 3) := by decide +kernel
theorem dX5_bestDay_60 : decode cX5_bestDay 60 = .ok (.goto (-38), 3) := by decide +kernel
theorem dX5_bestDay_63 : decode cX5_bestDay 63 = .ok (.iload_n 1, 1) := by decide +kernel
theorem dX5_bestDay_64 : decode cX5_bestDay 64 = .ok (.ireturn, 1) := by decide +kernel
theorem dX5_count_0 : decode cX5_count 0 = .ok (.iload_n 1, 1) := by decide +kernel
theorem dX5_count_1 : decode cX5_count 1 = .ok (.ifCond .lt 19, 3) := by decide +kernel
theorem dX5_count_4 : decode cX5_count 4 = .ok (.iload_n 1, 1) := by decide +kernel
theorem dX5_count_5 : decode cX5_count 5 = .ok (.bipush 7, 2) := by decide +kernel
theorem dX5_count_7 : decode cX5_count 7 = .ok (.if_icmp .ge 13, 3) := by decide +kernel
theorem dX5_count_10 : decode cX5_count 10 = .ok (.aload_n 0, 1) := by decide +kernel
theorem dX5_count_11 : decode cX5_count 11 = .ok (.getfield 10, 3) := by decide +kernel
theorem dX5_count_14 : decode cX5_count 14 = .ok (.getfield 158, 3) := by decide +kernel
theorem dX5_count_17 : decode cX5_count 17 = .ok (.iload_n 1, 1) := by decide +kernel
theorem dX5_count_18 : decode cX5_count 18 = .ok (.iaload, 1) := by decide +kernel
theorem dX5_count_19 : decode cX5_count 19 = .ok (.ireturn, 1) := by decide +kernel
theorem dX5_count_20 : decode cX5_count 20 = .ok (.iload_n 1, 1) := by decide +kernel
theorem dX5_count_21 : decode cX5_count 21 = .ok (.bipush 20, 2) := by decide +kernel
theorem dX5_count_23 : decode cX5_count 23 = .ok (.if_icmp .lt 22, 3) := by decide +kernel
theorem dX5_count_26 : decode cX5_count 26 = .ok (.iload_n 1, 1) := by decide +kernel
theorem dX5_count_27 : decode cX5_count 27 = .ok (.bipush 23, 2) := by decide +kernel
theorem dX5_count_29 : decode cX5_count 29 = .ok (.if_icmp .ge 16, 3) := by decide +kernel
theorem dX5_count_32 : decode cX5_count 32 = .ok (.aload_n 0, 1) := by decide +kernel
theorem dX5_count_33 : decode cX5_count 33 = .ok (.getfield 10, 3) := by decide +kernel
theorem dX5_count_36 : decode cX5_count 36 = .ok (.getfield 176, 3) := by decide +kernel
theorem dX5_count_39 : decode cX5_count 39 = .ok (.iload_n 1, 1) := by decide +kernel
theorem dX5_count_40 : decode cX5_count 40 = .ok (.bipush 20, 2) := by decide +kernel
theorem dX5_count_42 : decode cX5_count 42 = .ok (.isub, 1) := by decide +kernel
theorem dX5_count_43 : decode cX5_count 43 = .ok (.iaload, 1) := by decide +kernel
theorem dX5_count_44 : decode cX5_count 44 = .ok (.ireturn, 1) := by decide +kernel
theorem dX5_count_45 : decode cX5_count 45 = .ok (.iload_n 1, 1) := by decide +kernel
theorem dX5_count_46 : decode cX5_count 46 = .ok (.tableswitch 60 7 9 #[26, 44, 52], 26) := by decide +kernel
theorem dX5_count_72 : decode cX5_count 72 = .ok (.aload_n 0, 1) := by decide +kernel
theorem dX5_count_73 : decode cX5_count 73 = .ok (.getfield 10, 3) := by decide +kernel
theorem dX5_count_76 : decode cX5_count 76 = .ok (.invokevirtual 118, 3) := by decide +kernel
theorem dX5_count_79 : decode cX5_count 79 = .ok (.aload_n 0, 1) := by decide +kernel
theorem dX5_count_80 : decode cX5_count 80 = .ok (.getfield 10, 3) := by decide +kernel
theorem dX5_count_83 : decode cX5_count 83 = .ok (.invokevirtual 115, 3) := by decide +kernel
theorem dX5_count_86 : decode cX5_count 86 = .ok (.isub, 1) := by decide +kernel
theorem dX5_count_87 : decode cX5_count 87 = .ok (.iconst 1, 1) := by decide +kernel
theorem dX5_count_88 : decode cX5_count 88 = .ok (.iadd, 1) := by decide +kernel
theorem dX5_count_89 : decode cX5_count 89 = .ok (.ireturn, 1) := by decide +kernel
theorem dX5_count_90 : decode cX5_count 90 = .ok (.aload_n 0, 1) := by decide +kernel
theorem dX5_count_91 : decode cX5_count 91 = .ok (.getfield 29, 3) := by decide +kernel
theorem dX5_count_94 : decode cX5_count 94 = .ok (.getfield 179, 3) := by decide +kernel
theorem dX5_count_97 : decode cX5_count 97 = .ok (.ireturn, 1) := by decide +kernel
theorem dX5_count_98 : decode cX5_count 98 = .ok (.aload_n 0, 1) := by decide +kernel
theorem dX5_count_99 : decode cX5_count 99 = .ok (.getfield 36, 3) := by decide +kernel
theorem dX5_count_102 : decode cX5_count 102 = .ok (.getfield 182, 3) := by decide +kernel
theorem dX5_count_105 : decode cX5_count 105 = .ok (.ireturn, 1) := by decide +kernel
theorem dX5_count_106 : decode cX5_count 106 = .ok (.ldc 78, 2) := by decide +kernel
theorem dX5_count_108 : decode cX5_count 108 = .ok (.ireturn, 1) := by decide +kernel
theorem dX5_settle_0 : decode cX5_settle 0 = .ok (.iload_n 1, 1) := by decide +kernel
theorem dX5_settle_1 : decode cX5_settle 1 = .ok (.invokestatic 210, 3) := by decide +kernel
theorem dX5_settle_4 : decode cX5_settle 4 = .ok (.ifCond .ne 25, 3) := by decide +kernel
theorem dX5_settle_7 : decode cX5_settle 7 = .ok (.aload_n 0, 1) := by decide +kernel
theorem dX5_settle_8 : decode cX5_settle 8 = .ok (.getfield 29, 3) := by decide +kernel
theorem dX5_settle_11 : decode cX5_settle 11 = .ok (.aload_n 0, 1) := by decide +kernel
theorem dX5_settle_12 : decode cX5_settle 12 = .ok (.getfield 10, 3) := by decide +kernel
theorem dX5_settle_15 : decode cX5_settle 15 = .ok (.invokevirtual 214, 3) := by decide +kernel
theorem dX5_settle_18 : decode cX5_settle 18 = .ok (.aload_n 0, 1) := by decide +kernel
theorem dX5_settle_19 : decode cX5_settle 19 = .ok (.getfield 10, 3) := by decide +kernel
theorem dX5_settle_22 : decode cX5_settle 22 = .ok (.aload_n 0, 1) := by decide +kernel
theorem dX5_settle_23 : decode cX5_settle 23 = .ok (.getfield 16, 3) := by decide +kernel
theorem dX5_settle_26 : decode cX5_settle 26 = .ok (.invokevirtual 47, 3) := by decide +kernel
theorem dX5_settle_29 : decode cX5_settle 29 = .ok (.iload_n 1, 1) := by decide +kernel
theorem dX5_settle_30 : decode cX5_settle 30 = .ok (.ireturn, 1) := by decide +kernel
theorem dX5_isError_0 : decode cX5_isError 0 = .ok (.iload_n 0, 1) := by decide +kernel
theorem dX5_isError_1 : decode cX5_isError 1 = .ok (.ldc 78, 2) := by decide +kernel
theorem dX5_isError_3 : decode cX5_isError 3 = .ok (.if_icmp .gt 7, 3) := by decide +kernel
theorem dX5_isError_6 : decode cX5_isError 6 = .ok (.iconst 1, 1) := by decide +kernel
theorem dX5_isError_7 : decode cX5_isError 7 = .ok (.goto 4, 3) := by decide +kernel
theorem dX5_isError_10 : decode cX5_isError 10 = .ok (.iconst 0, 1) := by decide +kernel
theorem dX5_isError_11 : decode cX5_isError 11 = .ok (.ireturn, 1) := by decide +kernel
theorem dX5_tideHeight_0 : decode cX5_tideHeight 0 = .ok (.iload_n 0, 1) := by decide +kernel
theorem dX5_tideHeight_1 : decode cX5_tideHeight 1 = .ok (.bipush 14, 2) := by decide +kernel
theorem dX5_tideHeight_3 : decode cX5_tideHeight 3 = .ok (.irem, 1) := by decide +kernel
theorem dX5_tideHeight_4 : decode cX5_tideHeight 4 = .ok (.bipush 7, 2) := by decide +kernel
theorem dX5_tideHeight_6 : decode cX5_tideHeight 6 = .ok (.isub, 1) := by decide +kernel
theorem dX5_tideHeight_7 : decode cX5_tideHeight 7 = .ok (.istore_n 1, 1) := by decide +kernel
theorem dX5_tideHeight_8 : decode cX5_tideHeight 8 = .ok (.sipush 200, 3) := by decide +kernel
theorem dX5_tideHeight_11 : decode cX5_tideHeight 11 = .ok (.bipush 20, 2) := by decide +kernel
theorem dX5_tideHeight_13 : decode cX5_tideHeight 13 = .ok (.iload_n 1, 1) := by decide +kernel
theorem dX5_tideHeight_14 : decode cX5_tideHeight 14 = .ok (.ifCond .ge 8, 3) := by decide +kernel
theorem dX5_tideHeight_17 : decode cX5_tideHeight 17 = .ok (.iload_n 1, 1) := by decide +kernel
theorem dX5_tideHeight_18 : decode cX5_tideHeight 18 = .ok (.ineg, 1) := by decide +kernel
theorem dX5_tideHeight_19 : decode cX5_tideHeight 19 = .ok (.goto 4, 3) := by decide +kernel
theorem dX5_tideHeight_22 : decode cX5_tideHeight 22 = .ok (.iload_n 1, 1) := by decide +kernel
theorem dX5_tideHeight_23 : decode cX5_tideHeight 23 = .ok (.imul, 1) := by decide +kernel
theorem dX5_tideHeight_24 : decode cX5_tideHeight 24 = .ok (.iadd, 1) := by decide +kernel
theorem dX5_tideHeight_25 : decode cX5_tideHeight 25 = .ok (.ireturn, 1) := by decide +kernel
theorem dX5_seaLevel_0 : decode cX5_seaLevel 0 = .ok (.iload_n 0, 1) := by decide +kernel
theorem dX5_seaLevel_1 : decode cX5_seaLevel 1 = .ok (.sipush 144, 3) := by decide +kernel
theorem dX5_seaLevel_4 : decode cX5_seaLevel 4 = .ok (.idiv, 1) := by decide +kernel
theorem dX5_seaLevel_5 : decode cX5_seaLevel 5 = .ok (.invokestatic 112, 3) := by decide +kernel
theorem dX5_seaLevel_8 : decode cX5_seaLevel 8 = .ok (.istore_n 1, 1) := by decide +kernel
theorem dX5_seaLevel_9 : decode cX5_seaLevel 9 = .ok (.iload_n 0, 1) := by decide +kernel
theorem dX5_seaLevel_10 : decode cX5_seaLevel 10 = .ok (.bipush 74, 2) := by decide +kernel
theorem dX5_seaLevel_12 : decode cX5_seaLevel 12 = .ok (.irem, 1) := by decide +kernel
theorem dX5_seaLevel_13 : decode cX5_seaLevel 13 = .ok (.istore_n 2, 1) := by decide +kernel
theorem dX5_seaLevel_14 : decode cX5_seaLevel 14 = .ok (.iload_n 2, 1) := by decide +kernel
theorem dX5_seaLevel_15 : decode cX5_seaLevel 15 = .ok (.bipush 37, 2) := by decide +kernel
theorem dX5_seaLevel_17 : decode cX5_seaLevel 17 = .ok (.if_icmp .ge 14, 3) := by decide +kernel
theorem dX5_seaLevel_20 : decode cX5_seaLevel 20 = .ok (.iconst 2, 1) := by decide +kernel
theorem dX5_seaLevel_21 : decode cX5_seaLevel 21 = .ok (.iload_n 1, 1) := by decide +kernel
theorem dX5_seaLevel_22 : decode cX5_seaLevel 22 = .ok (.imul, 1) := by decide +kernel
theorem dX5_seaLevel_23 : decode cX5_seaLevel 23 = .ok (.iload_n 2, 1) := by decide +kernel
theorem dX5_seaLevel_24 : decode cX5_seaLevel 24 = .ok (.imul, 1) := by decide +kernel
theorem dX5_seaLevel_25 : decode cX5_seaLevel 25 = .ok (.bipush 37, 2) := by decide +kernel
theorem dX5_seaLevel_27 : decode cX5_seaLevel 27 = .ok (.idiv, 1) := by decide +kernel
theorem dX5_seaLevel_28 : decode cX5_seaLevel 28 = .ok (.iload_n 1, 1) := by decide +kernel
theorem dX5_seaLevel_29 : decode cX5_seaLevel 29 = .ok (.isub, 1) := by decide +kernel
theorem dX5_seaLevel_30 : decode cX5_seaLevel 30 = .ok (.ireturn, 1) := by decide +kernel
theorem dX5_seaLevel_31 : decode cX5_seaLevel 31 = .ok (.iload_n 1, 1) := by decide +kernel
theorem dX5_seaLevel_32 : decode cX5_seaLevel 32 = .ok (.iconst 2, 1) := by decide +kernel
theorem dX5_seaLevel_33 : decode cX5_seaLevel 33 = .ok (.iload_n 1, 1) := by decide +kernel
theorem dX5_seaLevel_34 : decode cX5_seaLevel 34 = .ok (.imul, 1) := by decide +kernel
theorem dX5_seaLevel_35 : decode cX5_seaLevel 35 = .ok (.iload_n 2, 1) := by decide +kernel
theorem dX5_seaLevel_36 : decode cX5_seaLevel 36 = .ok (.bipush 37, 2) := by decide +kernel
theorem dX5_seaLevel_38 : decode cX5_seaLevel 38 = .ok (.isub, 1) := by decide +kernel
theorem dX5_seaLevel_39 : decode cX5_seaLevel 39 = .ok (.imul, 1) := by decide +kernel
theorem dX5_seaLevel_40 : decode cX5_seaLevel 40 = .ok (.bipush 37, 2) := by decide +kernel
theorem dX5_seaLevel_42 : decode cX5_seaLevel 42 = .ok (.idiv, 1) := by decide +kernel
theorem dX5_seaLevel_43 : decode cX5_seaLevel 43 = .ok (.isub, 1) := by decide +kernel
theorem dX5_seaLevel_44 : decode cX5_seaLevel 44 = .ok (.ireturn, 1) := by decide +kernel
theorem dX5_recordStart_0 : decode cX5_recordStart 0 = .ok (.iload_n 0, 1) := by decide +kernel
theorem dX5_recordStart_1 : decode cX5_recordStart 1 = .ok (.bipush 10, 2) := by decide +kernel
theorem dX5_recordStart_3 : decode cX5_recordStart 3 = .ok (.invokestatic 220, 3) := by decide +kernel
theorem dX5_recordStart_6 : decode cX5_recordStart 6 = .ok (.bipush 6, 2) := by decide +kernel
theorem dX5_recordStart_8 : decode cX5_recordStart 8 = .ok (.imul, 1) := by decide +kernel
theorem dX5_recordStart_9 : decode cX5_recordStart 9 = .ok (.ireturn, 1) := by decide +kernel
theorem dJ9_floorDiv_7cf53_0 : decode cJ9_floorDiv_7cf53 0 = .ok (.iload_n 0, 1) := by decide +kernel
theorem dJ9_floorDiv_7cf53_1 : decode cJ9_floorDiv_7cf53 1 = .ok (.iload_n 1, 1) := by decide +kernel
theorem dJ9_floorDiv_7cf53_2 : decode cJ9_floorDiv_7cf53 2 = .ok (.idiv, 1) := by decide +kernel
theorem dJ9_floorDiv_7cf53_3 : decode cJ9_floorDiv_7cf53 3 = .ok (.istore_n 2, 1) := by decide +kernel
theorem dJ9_floorDiv_7cf53_4 : decode cJ9_floorDiv_7cf53 4 = .ok (.iload_n 0, 1) := by decide +kernel
theorem dJ9_floorDiv_7cf53_5 : decode cJ9_floorDiv_7cf53 5 = .ok (.iload_n 1, 1) := by decide +kernel
theorem dJ9_floorDiv_7cf53_6 : decode cJ9_floorDiv_7cf53 6 = .ok (.ixor, 1) := by decide +kernel
theorem dJ9_floorDiv_7cf53_7 : decode cJ9_floorDiv_7cf53 7 = .ok (.ifCond .ge 14, 3) := by decide +kernel
theorem dJ9_floorDiv_7cf53_10 : decode cJ9_floorDiv_7cf53 10 = .ok (.iload_n 2, 1) := by decide +kernel
theorem dJ9_floorDiv_7cf53_11 : decode cJ9_floorDiv_7cf53 11 = .ok (.iload_n 1, 1) := by decide +kernel
theorem dJ9_floorDiv_7cf53_12 : decode cJ9_floorDiv_7cf53 12 = .ok (.imul, 1) := by decide +kernel
theorem dJ9_floorDiv_7cf53_13 : decode cJ9_floorDiv_7cf53 13 = .ok (.iload_n 0, 1) := by decide +kernel
theorem dJ9_floorDiv_7cf53_14 : decode cJ9_floorDiv_7cf53 14 = .ok (.if_icmp .eq 7, 3) := by decide +kernel
theorem dJ9_floorDiv_7cf53_17 : decode cJ9_floorDiv_7cf53 17 = .ok (.iload_n 2, 1) := by decide +kernel
theorem dJ9_floorDiv_7cf53_18 : decode cJ9_floorDiv_7cf53 18 = .ok (.iconst 1, 1) := by decide +kernel
theorem dJ9_floorDiv_7cf53_19 : decode cJ9_floorDiv_7cf53 19 = .ok (.isub, 1) := by decide +kernel
theorem dJ9_floorDiv_7cf53_20 : decode cJ9_floorDiv_7cf53 20 = .ok (.ireturn, 1) := by decide +kernel
theorem dJ9_floorDiv_7cf53_21 : decode cJ9_floorDiv_7cf53 21 = .ok (.iload_n 2, 1) := by decide +kernel
theorem dJ9_floorDiv_7cf53_22 : decode cJ9_floorDiv_7cf53 22 = .ok (.ireturn, 1) := by decide +kernel
theorem dJ9_floorMod_7cf53_0 : decode cJ9_floorMod_7cf53 0 = .ok (.iload_n 0, 1) := by decide +kernel
theorem dJ9_floorMod_7cf53_1 : decode cJ9_floorMod_7cf53 1 = .ok (.iload_n 1, 1) := by decide +kernel
theorem dJ9_floorMod_7cf53_2 : decode cJ9_floorMod_7cf53 2 = .ok (.irem, 1) := by decide +kernel
theorem dJ9_floorMod_7cf53_3 : decode cJ9_floorMod_7cf53 3 = .ok (.istore_n 2, 1) := by decide +kernel
theorem dJ9_floorMod_7cf53_4 : decode cJ9_floorMod_7cf53 4 = .ok (.iload_n 0, 1) := by decide +kernel
theorem dJ9_floorMod_7cf53_5 : decode cJ9_floorMod_7cf53 5 = .ok (.iload_n 1, 1) := by decide +kernel
theorem dJ9_floorMod_7cf53_6 : decode cJ9_floorMod_7cf53 6 = .ok (.ixor, 1) := by decide +kernel
theorem dJ9_floorMod_7cf53_7 : decode cJ9_floorMod_7cf53 7 = .ok (.ifCond .ge 11, 3) := by decide +kernel
theorem dJ9_floorMod_7cf53_10 : decode cJ9_floorMod_7cf53 10 = .ok (.iload_n 2, 1) := by decide +kernel
theorem dJ9_floorMod_7cf53_11 : decode cJ9_floorMod_7cf53 11 = .ok (.ifCond .eq 7, 3) := by decide +kernel
theorem dJ9_floorMod_7cf53_14 : decode cJ9_floorMod_7cf53 14 = .ok (.iload_n 2, 1) := by decide +kernel
theorem dJ9_floorMod_7cf53_15 : decode cJ9_floorMod_7cf53 15 = .ok (.iload_n 1, 1) := by decide +kernel
theorem dJ9_floorMod_7cf53_16 : decode cJ9_floorMod_7cf53 16 = .ok (.iadd, 1) := by decide +kernel
theorem dJ9_floorMod_7cf53_17 : decode cJ9_floorMod_7cf53 17 = .ok (.ireturn, 1) := by decide +kernel
theorem dJ9_floorMod_7cf53_18 : decode cJ9_floorMod_7cf53 18 = .ok (.iload_n 2, 1) := by decide +kernel
theorem dJ9_floorMod_7cf53_19 : decode cJ9_floorMod_7cf53 19 = .ok (.ireturn, 1) := by decide +kernel
theorem dJ9_abs_0f7a4_0 : decode cJ9_abs_0f7a4 0 = .ok (.iload_n 0, 1) := by decide +kernel
theorem dJ9_abs_0f7a4_1 : decode cJ9_abs_0f7a4 1 = .ok (.ifCond .ge 8, 3) := by decide +kernel
theorem dJ9_abs_0f7a4_4 : decode cJ9_abs_0f7a4 4 = .ok (.iload_n 0, 1) := by decide +kernel
theorem dJ9_abs_0f7a4_5 : decode cJ9_abs_0f7a4 5 = .ok (.ineg, 1) := by decide +kernel
theorem dJ9_abs_0f7a4_6 : decode cJ9_abs_0f7a4 6 = .ok (.goto 4, 3) := by decide +kernel
theorem dJ9_abs_0f7a4_9 : decode cJ9_abs_0f7a4 9 = .ok (.iload_n 0, 1) := by decide +kernel
theorem dJ9_abs_0f7a4_10 : decode cJ9_abs_0f7a4 10 = .ok (.ireturn, 1) := by decide +kernel
theorem dJ9_max_7cf53_0 : decode cJ9_max_7cf53 0 = .ok (.iload_n 0, 1) := by decide +kernel
theorem dJ9_max_7cf53_1 : decode cJ9_max_7cf53 1 = .ok (.iload_n 1, 1) := by decide +kernel
theorem dJ9_max_7cf53_2 : decode cJ9_max_7cf53 2 = .ok (.if_icmp .lt 7, 3) := by decide +kernel
theorem dJ9_max_7cf53_5 : decode cJ9_max_7cf53 5 = .ok (.iload_n 0, 1) := by decide +kernel
theorem dJ9_max_7cf53_6 : decode cJ9_max_7cf53 6 = .ok (.goto 4, 3) := by decide +kernel
theorem dJ9_max_7cf53_9 : decode cJ9_max_7cf53 9 = .ok (.iload_n 1, 1) := by decide +kernel
theorem dJ9_max_7cf53_10 : decode cJ9_max_7cf53 10 = .ok (.ireturn, 1) := by decide +kernel
theorem dJ9_min_7cf53_0 : decode cJ9_min_7cf53 0 = .ok (.iload_n 0, 1) := by decide +kernel
theorem dJ9_min_7cf53_1 : decode cJ9_min_7cf53 1 = .ok (.iload_n 1, 1) := by decide +kernel
theorem dJ9_min_7cf53_2 : decode cJ9_min_7cf53 2 = .ok (.if_icmp .gt 7, 3) := by decide +kernel
theorem dJ9_min_7cf53_5 : decode cJ9_min_7cf53 5 = .ok (.iload_n 0, 1) := by decide +kernel
theorem dJ9_min_7cf53_6 : decode cJ9_min_7cf53 6 = .ok (.goto 4, 3) := by decide +kernel
theorem dJ9_min_7cf53_9 : decode cJ9_min_7cf53 9 = .ok (.iload_n 1, 1) := by decide +kernel
theorem dJ9_min_7cf53_10 : decode cJ9_min_7cf53 10 = .ok (.ireturn, 1) := by decide +kernel
theorem dL_cell_0 : decode cL_cell 0 = .ok (.iload_n 1, 1) := by decide +kernel
theorem dL_cell_1 : decode cL_cell 1 = .ok (.aload_n 0, 1) := by decide +kernel
theorem dL_cell_2 : decode cL_cell 2 = .ok (.arraylength, 1) := by decide +kernel
theorem dL_cell_3 : decode cL_cell 3 = .ok (.if_icmp .ge 9, 3) := by decide +kernel
theorem dL_cell_6 : decode cL_cell 6 = .ok (.aload_n 0, 1) := by decide +kernel
theorem dL_cell_7 : decode cL_cell 7 = .ok (.iload_n 1, 1) := by decide +kernel
theorem dL_cell_8 : decode cL_cell 8 = .ok (.iaload, 1) := by decide +kernel
theorem dL_cell_9 : decode cL_cell 9 = .ok (.goto 9, 3) := by decide +kernel
theorem dL_cell_12 : decode cL_cell 12 = .ok (.ldc 7, 2) := by decide +kernel
theorem dL_cell_14 : decode cL_cell 14 = .ok (.iload_n 1, 1) := by decide +kernel
theorem dL_cell_15 : decode cL_cell 15 = .ok (.iconst 3, 1) := by decide +kernel
theorem dL_cell_16 : decode cL_cell 16 = .ok (.iadd, 1) := by decide +kernel
theorem dL_cell_17 : decode cL_cell 17 = .ok (.imul, 1) := by decide +kernel
theorem dL_cell_18 : decode cL_cell 18 = .ok (.ireturn, 1) := by decide +kernel
theorem dL_low_0 : decode cL_low 0 = .ok (.iload_n 0, 1) := by decide +kernel
theorem dL_low_1 : decode cL_low 1 = .ok (.ldc 8, 2) := by decide +kernel
theorem dL_low_3 : decode cL_low 3 = .ok (.iand, 1) := by decide +kernel
theorem dL_low_4 : decode cL_low 4 = .ok (.iload_n 1, 1) := by decide +kernel
theorem dL_low_5 : decode cL_low 5 = .ok (.irem, 1) := by decide +kernel
theorem dL_low_6 : decode cL_low 6 = .ok (.ireturn, 1) := by decide +kernel
theorem dL_sea_0 : decode cL_sea 0 = .ok (.iload_n 0, 1) := by decide +kernel
theorem dL_sea_1 : decode cL_sea 1 = .ok (.sipush 144, 3) := by decide +kernel
theorem dL_sea_4 : decode cL_sea 4 = .ok (.idiv, 1) := by decide +kernel
theorem dL_sea_5 : decode cL_sea 5 = .ok (.bipush 14, 2) := by decide +kernel
theorem dL_sea_7 : decode cL_sea 7 = .ok (.irem, 1) := by decide +kernel
theorem dL_sea_8 : decode cL_sea 8 = .ok (.istore_n 1, 1) := by decide +kernel
theorem dL_sea_9 : decode cL_sea 9 = .ok (.sipush 200, 3) := by decide +kernel
theorem dL_sea_12 : decode cL_sea 12 = .ok (.bipush 20, 2) := by decide +kernel
theorem dL_sea_14 : decode cL_sea 14 = .ok (.iload_n 1, 1) := by decide +kernel
theorem dL_sea_15 : decode cL_sea 15 = .ok (.bipush 7, 2) := by decide +kernel
theorem dL_sea_17 : decode cL_sea 17 = .ok (.if_icmp .le 10, 3) := by decide +kernel
theorem dL_sea_20 : decode cL_sea 20 = .ok (.iload_n 1, 1) := by decide +kernel
theorem dL_sea_21 : decode cL_sea 21 = .ok (.bipush 7, 2) := by decide +kernel
theorem dL_sea_23 : decode cL_sea 23 = .ok (.isub, 1) := by decide +kernel
theorem dL_sea_24 : decode cL_sea 24 = .ok (.goto 7, 3) := by decide +kernel
theorem dL_sea_27 : decode cL_sea 27 = .ok (.bipush 7, 2) := by decide +kernel
theorem dL_sea_29 : decode cL_sea 29 = .ok (.iload_n 1, 1) := by decide +kernel
theorem dL_sea_30 : decode cL_sea 30 = .ok (.isub, 1) := by decide +kernel
theorem dL_sea_31 : decode cL_sea 31 = .ok (.imul, 1) := by decide +kernel
theorem dL_sea_32 : decode cL_sea 32 = .ok (.iadd, 1) := by decide +kernel
theorem dL_sea_33 : decode cL_sea 33 = .ok (.istore_n 2, 1) := by decide +kernel
theorem dL_sea_34 : decode cL_sea 34 = .ok (.iload_n 0, 1) := by decide +kernel
theorem dL_sea_35 : decode cL_sea 35 = .ok (.bipush 74, 2) := by decide +kernel
theorem dL_sea_37 : decode cL_sea 37 = .ok (.irem, 1) := by decide +kernel
theorem dL_sea_38 : decode cL_sea 38 = .ok (.istore_n 3, 1) := by decide +kernel
theorem dL_sea_39 : decode cL_sea 39 = .ok (.iload_n 3, 1) := by decide +kernel
theorem dL_sea_40 : decode cL_sea 40 = .ok (.bipush 37, 2) := by decide +kernel
theorem dL_sea_42 : decode cL_sea 42 = .ok (.if_icmp .ge 16, 3) := by decide +kernel
theorem dL_sea_45 : decode cL_sea 45 = .ok (.iconst 2, 1) := by decide +kernel
theorem dL_sea_46 : decode cL_sea 46 = .ok (.iload_n 2, 1) := by decide +kernel
theorem dL_sea_47 : decode cL_sea 47 = .ok (.imul, 1) := by decide +kernel
theorem dL_sea_48 : decode cL_sea 48 = .ok (.iload_n 3, 1) := by decide +kernel
theorem dL_sea_49 : decode cL_sea 49 = .ok (.imul, 1) := by decide +kernel
theorem dL_sea_50 : decode cL_sea 50 = .ok (.bipush 37, 2) := by decide +kernel
theorem dL_sea_52 : decode cL_sea 52 = .ok (.idiv, 1) := by decide +kernel
theorem dL_sea_53 : decode cL_sea 53 = .ok (.iload_n 2, 1) := by decide +kernel
theorem dL_sea_54 : decode cL_sea 54 = .ok (.isub, 1) := by decide +kernel
theorem dL_sea_55 : decode cL_sea 55 = .ok (.goto 16, 3) := by decide +kernel
theorem dL_sea_58 : decode cL_sea 58 = .ok (.iload_n 2, 1) := by decide +kernel
theorem dL_sea_59 : decode cL_sea 59 = .ok (.iconst 2, 1) := by decide +kernel
theorem dL_sea_60 : decode cL_sea 60 = .ok (.iload_n 2, 1) := by decide +kernel
theorem dL_sea_61 : decode cL_sea 61 = .ok (.imul, 1) := by decide +kernel
theorem dL_sea_62 : decode cL_sea 62 = .ok (.iload_n 3, 1) := by decide +kernel
theorem dL_sea_63 : decode cL_sea 63 = .ok (.bipush 37, 2) := by decide +kernel
theorem dL_sea_65 : decode cL_sea 65 = .ok (.isub, 1) := by decide +kernel
theorem dL_sea_66 : decode cL_sea 66 = .ok (.imul, 1) := by decide +kernel
theorem dL_sea_67 : decode cL_sea 67 = .ok (.bipush 37, 2) := by decide +kernel
theorem dL_sea_69 : decode cL_sea 69 = .ok (.idiv, 1) := by decide +kernel
theorem dL_sea_70 : decode cL_sea 70 = .ok (.isub, 1) := by decide +kernel
theorem dL_sea_71 : decode cL_sea 71 = .ok (.ireturn, 1) := by decide +kernel
theorem dL_level_0 : decode cL_level 0 = .ok (.aload_n 0, 1) := by decide +kernel
theorem dL_level_1 : decode cL_level 1 = .ok (.iconst 1, 1) := by decide +kernel
theorem dL_level_2 : decode cL_level 2 = .ok (.iaload, 1) := by decide +kernel
theorem dL_level_3 : decode cL_level 3 = .ok (.aload_n 0, 1) := by decide +kernel
theorem dL_level_4 : decode cL_level 4 = .ok (.iconst 2, 1) := by decide +kernel
theorem dL_level_5 : decode cL_level 5 = .ok (.iaload, 1) := by decide +kernel
theorem dL_level_6 : decode cL_level 6 = .ok (.iadd, 1) := by decide +kernel
theorem dL_level_7 : decode cL_level 7 = .ok (.bipush 100, 2) := by decide +kernel
theorem dL_level_9 : decode cL_level 9 = .ok (.idiv, 1) := by decide +kernel
theorem dL_level_10 : decode cL_level 10 = .ok (.sipush 400, 3) := by decide +kernel
theorem dL_level_13 : decode cL_level 13 = .ok (.isub, 1) := by decide +kernel
theorem dL_level_14 : decode cL_level 14 = .ok (.ireturn, 1) := by decide +kernel
theorem dL_size_0 : decode cL_size 0 = .ok (.iload_n 0, 1) := by decide +kernel
theorem dL_size_1 : decode cL_size 1 = .ok (.ifCond .le 7, 3) := by decide +kernel
theorem dL_size_4 : decode cL_size 4 = .ok (.iload_n 0, 1) := by decide +kernel
theorem dL_size_5 : decode cL_size 5 = .ok (.goto 5, 3) := by decide +kernel
theorem dL_size_8 : decode cL_size 8 = .ok (.iload_n 0, 1) := by decide +kernel
theorem dL_size_9 : decode cL_size 9 = .ok (.ineg, 1) := by decide +kernel
theorem dL_size_10 : decode cL_size 10 = .ok (.ireturn, 1) := by decide +kernel
theorem dL_birds_0 : decode cL_birds 0 = .ok (.aload_n 0, 1) := by decide +kernel
theorem dL_birds_1 : decode cL_birds 1 = .ok (.iconst 0, 1) := by decide +kernel
theorem dL_birds_2 : decode cL_birds 2 = .ok (.iaload, 1) := by decide +kernel
theorem dL_birds_3 : decode cL_birds 3 = .ok (.sipush 144, 3) := by decide +kernel
theorem dL_birds_6 : decode cL_birds 6 = .ok (.irem, 1) := by decide +kernel
theorem dL_birds_7 : decode cL_birds 7 = .ok (.aload_n 0, 1) := by decide +kernel
theorem dL_birds_8 : decode cL_birds 8 = .ok (.bipush 6, 2) := by decide +kernel
theorem dL_birds_10 : decode cL_birds 10 = .ok (.iaload, 1) := by decide +kernel
theorem dL_birds_11 : decode cL_birds 11 = .ok (.if_icmp .lt 21, 3) := by decide +kernel
theorem dL_birds_14 : decode cL_birds 14 = .ok (.aload_n 0, 1) := by decide +kernel
theorem dL_birds_15 : decode cL_birds 15 = .ok (.iconst 0, 1) := by decide +kernel
theorem dL_birds_16 : decode cL_birds 16 = .ok (.iaload, 1) := by decide +kernel
theorem dL_birds_17 : decode cL_birds 17 = .ok (.sipush 144, 3) := by decide +kernel
theorem dL_birds_20 : decode cL_birds 20 = .ok (.irem, 1) := by decide +kernel
theorem dL_birds_21 : decode cL_birds 21 = .ok (.aload_n 0, 1) := by decide +kernel
theorem dL_birds_22 : decode cL_birds 22 = .ok (.bipush 7, 2) := by decide +kernel
theorem dL_birds_24 : decode cL_birds 24 = .ok (.iaload, 1) := by decide +kernel
theorem dL_birds_25 : decode cL_birds 25 = .ok (.if_icmp .ge 7, 3) := by decide +kernel
theorem dL_birds_28 : decode cL_birds 28 = .ok (.iconst 1, 1) := by decide +kernel
theorem dL_birds_29 : decode cL_birds 29 = .ok (.goto 4, 3) := by decide +kernel
theorem dL_birds_32 : decode cL_birds 32 = .ok (.iconst 0, 1) := by decide +kernel
theorem dL_birds_33 : decode cL_birds 33 = .ok (.ireturn, 1) := by decide +kernel
theorem dL_weigh_0 : decode cL_weigh 0 = .ok (.aload_n 0, 1) := by decide +kernel
theorem dL_weigh_1 : decode cL_weigh 1 = .ok (.iconst 0, 1) := by decide +kernel
theorem dL_weigh_2 : decode cL_weigh 2 = .ok (.iaload, 1) := by decide +kernel
theorem dL_weigh_3 : decode cL_weigh 3 = .ok (.invokestatic 9, 3) := by decide +kernel
theorem dL_weigh_6 : decode cL_weigh 6 = .ok (.aload_n 0, 1) := by decide +kernel
theorem dL_weigh_7 : decode cL_weigh 7 = .ok (.invokestatic 15, 3) := by decide +kernel
theorem dL_weigh_10 : decode cL_weigh 10 = .ok (.isub, 1) := by decide +kernel
theorem dL_weigh_11 : decode cL_weigh 11 = .ok (.istore_n 2, 1) := by decide +kernel
theorem dL_weigh_12 : decode cL_weigh 12 = .ok (.aload_n 1, 1) := by decide +kernel
theorem dL_weigh_13 : decode cL_weigh 13 = .ok (.iconst 0, 1) := by decide +kernel
theorem dL_weigh_14 : decode cL_weigh 14 = .ok (.aload_n 0, 1) := by decide +kernel
theorem dL_weigh_15 : decode cL_weigh 15 = .ok (.invokestatic 19, 3) := by decide +kernel
theorem dL_weigh_18 : decode cL_weigh 18 = .ok (.ifCond .eq 7, 3) := by decide +kernel
theorem dL_weigh_21 : decode cL_weigh 21 = .ok (.iconst 0, 1) := by decide +kernel
theorem dL_weigh_22 : decode cL_weigh 22 = .ok (.goto 10, 3) := by decide +kernel
theorem dL_weigh_25 : decode cL_weigh 25 = .ok (.iconst 2, 1) := by decide +kernel
theorem dL_weigh_26 : decode cL_weigh 26 = .ok (.aload_n 0, 1) := by decide +kernel
theorem dL_weigh_27 : decode cL_weigh 27 = .ok (.iconst 3, 1) := by decide +kernel
theorem dL_weigh_28 : decode cL_weigh 28 = .ok (.iaload, 1) := by decide +kernel
theorem dL_weigh_29 : decode cL_weigh 29 = .ok (.imul, 1) := by decide +kernel
theorem dL_weigh_30 : decode cL_weigh 30 = .ok (.iload_n 2, 1) := by decide +kernel
theorem dL_weigh_31 : decode cL_weigh 31 = .ok (.imul, 1) := by decide +kernel
theorem dL_weigh_32 : decode cL_weigh 32 = .ok (.iastore, 1) := by decide +kernel
theorem dL_weigh_33 : decode cL_weigh 33 = .ok (.aload_n 1, 1) := by decide +kernel
theorem dL_weigh_34 : decode cL_weigh 34 = .ok (.iconst 1, 1) := by decide +kernel
theorem dL_weigh_35 : decode cL_weigh 35 = .ok (.iload_n 2, 1) := by decide +kernel
theorem dL_weigh_36 : decode cL_weigh 36 = .ok (.invokestatic 23, 3) := by decide +kernel
theorem dL_weigh_39 : decode cL_weigh 39 = .ok (.aload_n 0, 1) := by decide +kernel
theorem dL_weigh_40 : decode cL_weigh 40 = .ok (.bipush 8, 2) := by decide +kernel
theorem dL_weigh_42 : decode cL_weigh 42 = .ok (.iaload, 1) := by decide +kernel
theorem dL_weigh_43 : decode cL_weigh 43 = .ok (.if_icmp .ge 7, 3) := by decide +kernel
theorem dL_weigh_46 : decode cL_weigh 46 = .ok (.iconst 0, 1) := by decide +kernel
theorem dL_weigh_47 : decode cL_weigh 47 = .ok (.goto 8, 3) := by decide +kernel
theorem dL_weigh_50 : decode cL_weigh 50 = .ok (.aload_n 0, 1) := by decide +kernel
theorem dL_weigh_51 : decode cL_weigh 51 = .ok (.iconst 4, 1) := by decide +kernel
theorem dL_weigh_52 : decode cL_weigh 52 = .ok (.iaload, 1) := by decide +kernel
theorem dL_weigh_53 : decode cL_weigh 53 = .ok (.iload_n 2, 1) := by decide +kernel
theorem dL_weigh_54 : decode cL_weigh 54 = .ok (.imul, 1) := by decide +kernel
theorem dL_weigh_55 : decode cL_weigh 55 = .ok (.iastore, 1) := by decide +kernel
theorem dL_weigh_56 : decode cL_weigh 56 = .ok (.aload_n 1, 1) := by decide +kernel
theorem dL_weigh_57 : decode cL_weigh 57 = .ok (.iconst 2, 1) := by decide +kernel
theorem dL_weigh_58 : decode cL_weigh 58 = .ok (.aload_n 0, 1) := by decide +kernel
theorem dL_weigh_59 : decode cL_weigh 59 = .ok (.invokestatic 19, 3) := by decide +kernel
theorem dL_weigh_62 : decode cL_weigh 62 = .ok (.ifCond .ne 14, 3) := by decide +kernel
theorem dL_weigh_65 : decode cL_weigh 65 = .ok (.iload_n 2, 1) := by decide +kernel
theorem dL_weigh_66 : decode cL_weigh 66 = .ok (.invokestatic 23, 3) := by decide +kernel
theorem dL_weigh_69 : decode cL_weigh 69 = .ok (.aload_n 0, 1) := by decide +kernel
theorem dL_weigh_70 : decode cL_weigh 70 = .ok (.bipush 9, 2) := by decide +kernel
theorem dL_weigh_72 : decode cL_weigh 72 = .ok (.iaload, 1) := by decide +kernel
theorem dL_weigh_73 : decode cL_weigh 73 = .ok (.if_icmp .le 7, 3) := by decide +kernel
theorem dL_weigh_76 : decode cL_weigh 76 = .ok (.iconst 0, 1) := by decide +kernel
theorem dL_weigh_77 : decode cL_weigh 77 = .ok (.goto 6, 3) := by decide +kernel
theorem dL_weigh_80 : decode cL_weigh 80 = .ok (.aload_n 0, 1) := by decide +kernel
theorem dL_weigh_81 : decode cL_weigh 81 = .ok (.iconst 5, 1) := by decide +kernel
theorem dL_weigh_82 : decode cL_weigh 82 = .ok (.iaload, 1) := by decide +kernel
theorem dL_weigh_83 : decode cL_weigh 83 = .ok (.iastore, 1) := by decide +kernel
theorem dL_weigh_84 : decode cL_weigh 84 = .ok (.aload_n 1, 1) := by decide +kernel
theorem dL_weigh_85 : decode cL_weigh 85 = .ok (.iconst 4, 1) := by decide +kernel
theorem dL_weigh_86 : decode cL_weigh 86 = .ok (.aload_n 1, 1) := by decide +kernel
theorem dL_weigh_87 : decode cL_weigh 87 = .ok (.iconst 1, 1) := by decide +kernel
theorem dL_weigh_88 : decode cL_weigh 88 = .ok (.iaload, 1) := by decide +kernel
theorem dL_weigh_89 : decode cL_weigh 89 = .ok (.invokestatic 23, 3) := by decide +kernel
theorem dL_weigh_92 : decode cL_weigh 92 = .ok (.iload_n 2, 1) := by decide +kernel
theorem dL_weigh_93 : decode cL_weigh 93 = .ok (.invokestatic 23, 3) := by decide +kernel
theorem dL_weigh_96 : decode cL_weigh 96 = .ok (.imul, 1) := by decide +kernel
theorem dL_weigh_97 : decode cL_weigh 97 = .ok (.bipush 100, 2) := by decide +kernel
theorem dL_weigh_99 : decode cL_weigh 99 = .ok (.idiv, 1) := by decide +kernel
theorem dL_weigh_100 : decode cL_weigh 100 = .ok (.iastore, 1) := by decide +kernel
theorem dL_weigh_101 : decode cL_weigh 101 = .ok (.aload_n 1, 1) := by decide +kernel
theorem dL_weigh_102 : decode cL_weigh 102 = .ok (.iconst 5, 1) := by decide +kernel
theorem dL_weigh_103 : decode cL_weigh 103 = .ok (.aload_n 1, 1) := by decide +kernel
theorem dL_weigh_104 : decode cL_weigh 104 = .ok (.iconst 2, 1) := by decide +kernel
theorem dL_weigh_105 : decode cL_weigh 105 = .ok (.iaload, 1) := by decide +kernel
theorem dL_weigh_106 : decode cL_weigh 106 = .ok (.invokestatic 23, 3) := by decide +kernel
theorem dL_weigh_109 : decode cL_weigh 109 = .ok (.bipush 20, 2) := by decide +kernel
theorem dL_weigh_111 : decode cL_weigh 111 = .ok (.iload_n 2, 1) := by decide +kernel
theorem dL_weigh_112 : decode cL_weigh 112 = .ok (.invokestatic 23, 3) := by decide +kernel
theorem dL_weigh_115 : decode cL_weigh 115 = .ok (.iadd, 1) := by decide +kernel
theorem dL_weigh_116 : decode cL_weigh 116 = .ok (.imul, 1) := by decide +kernel
theorem dL_weigh_117 : decode cL_weigh 117 = .ok (.bipush 100, 2) := by decide +kernel
theorem dL_weigh_119 : decode cL_weigh 119 = .ok (.idiv, 1) := by decide +kernel
theorem dL_weigh_120 : decode cL_weigh 120 = .ok (.iastore, 1) := by decide +kernel
theorem dL_weigh_121 : decode cL_weigh 121 = .ok (.aload_n 0, 1) := by decide +kernel
theorem dL_weigh_122 : decode cL_weigh 122 = .ok (.iconst 1, 1) := by decide +kernel
theorem dL_weigh_123 : decode cL_weigh 123 = .ok (.iaload, 1) := by decide +kernel
theorem dL_weigh_124 : decode cL_weigh 124 = .ok (.aload_n 1, 1) := by decide +kernel
theorem dL_weigh_125 : decode cL_weigh 125 = .ok (.iconst 0, 1) := by decide +kernel
theorem dL_weigh_126 : decode cL_weigh 126 = .ok (.iaload, 1) := by decide +kernel
theorem dL_weigh_127 : decode cL_weigh 127 = .ok (.iadd, 1) := by decide +kernel
theorem dL_weigh_128 : decode cL_weigh 128 = .ok (.aload_n 1, 1) := by decide +kernel
theorem dL_weigh_129 : decode cL_weigh 129 = .ok (.iconst 1, 1) := by decide +kernel
theorem dL_weigh_130 : decode cL_weigh 130 = .ok (.iaload, 1) := by decide +kernel
theorem dL_weigh_131 : decode cL_weigh 131 = .ok (.iadd, 1) := by decide +kernel
theorem dL_weigh_132 : decode cL_weigh 132 = .ok (.aload_n 1, 1) := by decide +kernel
theorem dL_weigh_133 : decode cL_weigh 133 = .ok (.iconst 2, 1) := by decide +kernel
theorem dL_weigh_134 : decode cL_weigh 134 = .ok (.iaload, 1) := by decide +kernel
theorem dL_weigh_135 : decode cL_weigh 135 = .ok (.iadd, 1) := by decide +kernel
theorem dL_weigh_136 : decode cL_weigh 136 = .ok (.istore_n 3, 1) := by decide +kernel
theorem dL_weigh_137 : decode cL_weigh 137 = .ok (.aload_n 1, 1) := by decide +kernel
theorem dL_weigh_138 : decode cL_weigh 138 = .ok (.iconst 3, 1) := by decide +kernel
theorem dL_weigh_139 : decode cL_weigh 139 = .ok (.iload_n 3, 1) := by decide +kernel
theorem dL_weigh_140 : decode cL_weigh 140 = .ok (.ldc 26, 2) := by decide +kernel
theorem dL_weigh_142 : decode cL_weigh 142 = .ok (.if_icmp .le 8, 3) := by decide +kernel
theorem dL_weigh_145 : decode cL_weigh 145 = .ok (.ldc 26, 2) := by decide +kernel
theorem dL_weigh_147 : decode cL_weigh 147 = .ok (.goto 12, 3) := by decide +kernel
theorem dL_weigh_150 : decode cL_weigh 150 = .ok (.iload_n 3, 1) := by decide +kernel
theorem dL_weigh_151 : decode cL_weigh 151 = .ok (.ifCond .ge 7, 3) := by decide +kernel
theorem dL_weigh_154 : decode cL_weigh 154 = .ok (.iconst 0, 1) := by decide +kernel
theorem dL_weigh_155 : decode cL_weigh 155 = .ok (.goto 4, 3) := by decide +kernel
theorem dL_weigh_158 : decode cL_weigh 158 = .ok (.iload_n 3, 1) := by decide +kernel
theorem dL_weigh_159 : decode cL_weigh 159 = .ok (.aload_n 0, 1) := by decide +kernel
theorem dL_weigh_160 : decode cL_weigh 160 = .ok (.iconst 1, 1) := by decide +kernel
theorem dL_weigh_161 : decode cL_weigh 161 = .ok (.iaload, 1) := by decide +kernel
theorem dL_weigh_162 : decode cL_weigh 162 = .ok (.isub, 1) := by decide +kernel
theorem dL_weigh_163 : decode cL_weigh 163 = .ok (.iastore, 1) := by decide +kernel
theorem dL_weigh_164 : decode cL_weigh 164 = .ok (.aload_n 1, 1) := by decide +kernel
theorem dL_weigh_165 : decode cL_weigh 165 = .ok (.iconst 3, 1) := by decide +kernel
theorem dL_weigh_166 : decode cL_weigh 166 = .ok (.iaload, 1) := by decide +kernel
theorem dL_weigh_167 : decode cL_weigh 167 = .ok (.bipush 50, 2) := by decide +kernel
theorem dL_weigh_169 : decode cL_weigh 169 = .ok (.idiv, 1) := by decide +kernel
theorem dL_weigh_170 : decode cL_weigh 170 = .ok (.istore 4, 2) := by decide +kernel
theorem dL_weigh_172 : decode cL_weigh 172 = .ok (.aload_n 1, 1) := by decide +kernel
theorem dL_weigh_173 : decode cL_weigh 173 = .ok (.iconst 3, 1) := by decide +kernel
theorem dL_weigh_174 : decode cL_weigh 174 = .ok (.iaload, 1) := by decide +kernel
theorem dL_weigh_175 : decode cL_weigh 175 = .ok (.invokestatic 23, 3) := by decide +kernel
theorem dL_weigh_178 : decode cL_weigh 178 = .ok (.bipush 20, 2) := by decide +kernel
theorem dL_weigh_180 : decode cL_weigh 180 = .ok (.idiv, 1) := by decide +kernel
theorem dL_weigh_181 : decode cL_weigh 181 = .ok (.istore 5, 2) := by decide +kernel
theorem dL_weigh_183 : decode cL_weigh 183 = .ok (.aload_n 1, 1) := by decide +kernel
theorem dL_weigh_184 : decode cL_weigh 184 = .ok (.bipush 6, 2) := by decide +kernel
theorem dL_weigh_186 : decode cL_weigh 186 = .ok (.aload_n 1, 1) := by decide +kernel
theorem dL_weigh_187 : decode cL_weigh 187 = .ok (.iconst 3, 1) := by decide +kernel
theorem dL_weigh_188 : decode cL_weigh 188 = .ok (.iaload, 1) := by decide +kernel
theorem dL_weigh_189 : decode cL_weigh 189 = .ok (.ifCond .le 30, 3) := by decide +kernel
theorem dL_weigh_192 : decode cL_weigh 192 = .ok (.aload_n 0, 1) := by decide +kernel
theorem dL_weigh_193 : decode cL_weigh 193 = .ok (.iconst 2, 1) := by decide +kernel
theorem dL_weigh_194 : decode cL_weigh 194 = .ok (.iaload, 1) := by decide +kernel
theorem dL_weigh_195 : decode cL_weigh 195 = .ok (.iload 4, 2) := by decide +kernel
theorem dL_weigh_197 : decode cL_weigh 197 = .ok (.iadd, 1) := by decide +kernel
theorem dL_weigh_198 : decode cL_weigh 198 = .ok (.sipush 20000, 3) := by decide +kernel
theorem dL_weigh_201 : decode cL_weigh 201 = .ok (.if_icmp .le 13, 3) := by decide +kernel
theorem dL_weigh_204 : decode cL_weigh 204 = .ok (.sipush 20000, 3) := by decide +kernel
theorem dL_weigh_207 : decode cL_weigh 207 = .ok (.aload_n 0, 1) := by decide +kernel
theorem dL_weigh_208 : decode cL_weigh 208 = .ok (.iconst 2, 1) := by decide +kernel
theorem dL_weigh_209 : decode cL_weigh 209 = .ok (.iaload, 1) := by decide +kernel
theorem dL_weigh_210 : decode cL_weigh 210 = .ok (.isub, 1) := by decide +kernel
theorem dL_weigh_211 : decode cL_weigh 211 = .ok (.goto 40, 3) := by decide +kernel
theorem dL_weigh_214 : decode cL_weigh 214 = .ok (.iload 4, 2) := by decide +kernel
theorem dL_weigh_216 : decode cL_weigh 216 = .ok (.goto 35, 3) := by decide +kernel
theorem dL_weigh_219 : decode cL_weigh 219 = .ok (.aload_n 1, 1) := by decide +kernel
theorem dL_weigh_220 : decode cL_weigh 220 = .ok (.iconst 3, 1) := by decide +kernel
theorem dL_weigh_221 : decode cL_weigh 221 = .ok (.iaload, 1) := by decide +kernel
theorem dL_weigh_222 : decode cL_weigh 222 = .ok (.aload_n 0, 1) := by decide +kernel
theorem dL_weigh_223 : decode cL_weigh 223 = .ok (.bipush 10, 2) := by decide +kernel
theorem dL_weigh_225 : decode cL_weigh 225 = .ok (.iaload, 1) := by decide +kernel
theorem dL_weigh_226 : decode cL_weigh 226 = .ok (.ineg, 1) := by decide +kernel
theorem dL_weigh_227 : decode cL_weigh 227 = .ok (.if_icmp .le 7, 3) := by decide +kernel
theorem dL_weigh_230 : decode cL_weigh 230 = .ok (.iconst 0, 1) := by decide +kernel
theorem dL_weigh_231 : decode cL_weigh 231 = .ok (.goto 20, 3) := by decide +kernel
theorem dL_weigh_234 : decode cL_weigh 234 = .ok (.iload 5, 2) := by decide +kernel
theorem dL_weigh_236 : decode cL_weigh 236 = .ok (.aload_n 0, 1) := by decide +kernel
theorem dL_weigh_237 : decode cL_weigh 237 = .ok (.iconst 2, 1) := by decide +kernel
theorem dL_weigh_238 : decode cL_weigh 238 = .ok (.iaload, 1) := by decide +kernel
theorem dL_weigh_239 : decode cL_weigh 239 = .ok (.if_icmp .le 9, 3) := by decide +kernel
theorem dL_weigh_242 : decode cL_weigh 242 = .ok (.aload_n 0, 1) := by decide +kernel
theorem dL_weigh_243 : decode cL_weigh 243 = .ok (.iconst 2, 1) := by decide +kernel
theorem dL_weigh_244 : decode cL_weigh 244 = .ok (.iaload, 1) := by decide +kernel
theorem dL_weigh_245 : decode cL_weigh 245 = .ok (.goto 5, 3) := by decide +kernel
theorem dL_weigh_248 : decode cL_weigh 248 = .ok (.iload 5, 2) := by decide +kernel
theorem dL_weigh_250 : decode cL_weigh 250 = .ok (.ineg, 1) := by decide +kernel
theorem dL_weigh_251 : decode cL_weigh 251 = .ok (.iastore, 1) := by decide +kernel
theorem dL_weigh_252 : decode cL_weigh 252 = .ok (.return_, 1) := by decide +kernel
theorem dL_run_0 : decode cL_run 0 = .ok (.bipush 7, 2) := by decide +kernel
theorem dL_run_2 : decode cL_run 2 = .ok (.newarray .int, 2) := by decide +kernel
theorem dL_run_4 : decode cL_run 4 = .ok (.astore 4, 2) := by decide +kernel
theorem dL_run_6 : decode cL_run 6 = .ok (.iconst 0, 1) := by decide +kernel
theorem dL_run_7 : decode cL_run 7 = .ok (.istore 5, 2) := by decide +kernel
theorem dL_run_9 : decode cL_run 9 = .ok (.iload 5, 2) := by decide +kernel
theorem dL_run_11 : decode cL_run 11 = .ok (.iload_n 3, 1) := by decide +kernel
theorem dL_run_12 : decode cL_run 12 = .ok (.if_icmp .ge 363, 3) := by decide +kernel
theorem dL_run_15 : decode cL_run 15 = .ok (.aload_n 0, 1) := by decide +kernel
theorem dL_run_16 : decode cL_run 16 = .ok (.aload 4, 2) := by decide +kernel
theorem dL_run_18 : decode cL_run 18 = .ok (.invokestatic 27, 3) := by decide +kernel
theorem dL_run_21 : decode cL_run 21 = .ok (.aload_n 0, 1) := by decide +kernel
theorem dL_run_22 : decode cL_run 22 = .ok (.iconst 0, 1) := by decide +kernel
theorem dL_run_23 : decode cL_run 23 = .ok (.iaload, 1) := by decide +kernel
theorem dL_run_24 : decode cL_run 24 = .ok (.sipush 144, 3) := by decide +kernel
theorem dL_run_27 : decode cL_run 27 = .ok (.idiv, 1) := by decide +kernel
theorem dL_run_28 : decode cL_run 28 = .ok (.istore 6, 2) := by decide +kernel
theorem dL_run_30 : decode cL_run 30 = .ok (.iload 6, 2) := by decide +kernel
theorem dL_run_32 : decode cL_run 32 = .ok (.bipush 10, 2) := by decide +kernel
theorem dL_run_34 : decode cL_run 34 = .ok (.irem, 1) := by decide +kernel
theorem dL_run_35 : decode cL_run 35 = .ok (.bipush 6, 2) := by decide +kernel
theorem dL_run_37 : decode cL_run 37 = .ok (.imul, 1) := by decide +kernel
theorem dL_run_38 : decode cL_run 38 = .ok (.istore 7, 2) := by decide +kernel
theorem dL_run_40 : decode cL_run 40 = .ok (.aload_n 0, 1) := by decide +kernel
theorem dL_run_41 : decode cL_run 41 = .ok (.iconst 0, 1) := by decide +kernel
theorem dL_run_42 : decode cL_run 42 = .ok (.dup2, 1) := by decide +kernel
theorem dL_run_43 : decode cL_run 43 = .ok (.iaload, 1) := by decide +kernel
theorem dL_run_44 : decode cL_run 44 = .ok (.iconst 1, 1) := by decide +kernel
theorem dL_run_45 : decode cL_run 45 = .ok (.iadd, 1) := by decide +kernel
theorem dL_run_46 : decode cL_run 46 = .ok (.iastore, 1) := by decide +kernel
theorem dL_run_47 : decode cL_run 47 = .ok (.aload_n 0, 1) := by decide +kernel
theorem dL_run_48 : decode cL_run 48 = .ok (.iconst 1, 1) := by decide +kernel
theorem dL_run_49 : decode cL_run 49 = .ok (.dup2, 1) := by decide +kernel
theorem dL_run_50 : decode cL_run 50 = .ok (.iaload, 1) := by decide +kernel
theorem dL_run_51 : decode cL_run 51 = .ok (.aload 4, 2) := by decide +kernel
theorem dL_run_53 : decode cL_run 53 = .ok (.iconst 3, 1) := by decide +kernel
theorem dL_run_54 : decode cL_run 54 = .ok (.iaload, 1) := by decide +kernel
theorem dL_run_55 : decode cL_run 55 = .ok (.iadd, 1) := by decide +kernel
theorem dL_run_56 : decode cL_run 56 = .ok (.iastore, 1) := by decide +kernel
theorem dL_run_57 : decode cL_run 57 = .ok (.aload_n 0, 1) := by decide +kernel
theorem dL_run_58 : decode cL_run 58 = .ok (.iconst 2, 1) := by decide +kernel
theorem dL_run_59 : decode cL_run 59 = .ok (.dup2, 1) := by decide +kernel
theorem dL_run_60 : decode cL_run 60 = .ok (.iaload, 1) := by decide +kernel
theorem dL_run_61 : decode cL_run 61 = .ok (.aload 4, 2) := by decide +kernel
theorem dL_run_63 : decode cL_run 63 = .ok (.bipush 6, 2) := by decide +kernel
theorem dL_run_65 : decode cL_run 65 = .ok (.iaload, 1) := by decide +kernel
theorem dL_run_66 : decode cL_run 66 = .ok (.iadd, 1) := by decide +kernel
theorem dL_run_67 : decode cL_run 67 = .ok (.iastore, 1) := by decide +kernel
theorem dL_run_68 : decode cL_run 68 = .ok (.aload_n 0, 1) := by decide +kernel
theorem dL_run_69 : decode cL_run 69 = .ok (.bipush 11, 2) := by decide +kernel
theorem dL_run_71 : decode cL_run 71 = .ok (.dup2, 1) := by decide +kernel
theorem dL_run_72 : decode cL_run 72 = .ok (.iaload, 1) := by decide +kernel
theorem dL_run_73 : decode cL_run 73 = .ok (.aload 4, 2) := by decide +kernel
theorem dL_run_75 : decode cL_run 75 = .ok (.iconst 4, 1) := by decide +kernel
theorem dL_run_76 : decode cL_run 76 = .ok (.iaload, 1) := by decide +kernel
theorem dL_run_77 : decode cL_run 77 = .ok (.iadd, 1) := by decide +kernel
theorem dL_run_78 : decode cL_run 78 = .ok (.iastore, 1) := by decide +kernel
theorem dL_run_79 : decode cL_run 79 = .ok (.aload_n 0, 1) := by decide +kernel
theorem dL_run_80 : decode cL_run 80 = .ok (.bipush 12, 2) := by decide +kernel
theorem dL_run_82 : decode cL_run 82 = .ok (.dup2, 1) := by decide +kernel
theorem dL_run_83 : decode cL_run 83 = .ok (.iaload, 1) := by decide +kernel
theorem dL_run_84 : decode cL_run 84 = .ok (.aload 4, 2) := by decide +kernel
theorem dL_run_86 : decode cL_run 86 = .ok (.iconst 5, 1) := by decide +kernel
theorem dL_run_87 : decode cL_run 87 = .ok (.iaload, 1) := by decide +kernel
theorem dL_run_88 : decode cL_run 88 = .ok (.iadd, 1) := by decide +kernel
theorem dL_run_89 : decode cL_run 89 = .ok (.iastore, 1) := by decide +kernel
theorem dL_run_90 : decode cL_run 90 = .ok (.aload_n 0, 1) := by decide +kernel
theorem dL_run_91 : decode cL_run 91 = .ok (.aload 4, 2) := by decide +kernel
theorem dL_run_93 : decode cL_run 93 = .ok (.iconst 3, 1) := by decide +kernel
theorem dL_run_94 : decode cL_run 94 = .ok (.iaload, 1) := by decide +kernel
theorem dL_run_95 : decode cL_run 95 = .ok (.ifCond .le 8, 3) := by decide +kernel
theorem dL_run_98 : decode cL_run 98 = .ok (.bipush 13, 2) := by decide +kernel
theorem dL_run_100 : decode cL_run 100 = .ok (.goto 5, 3) := by decide +kernel
theorem dL_run_103 : decode cL_run 103 = .ok (.bipush 14, 2) := by decide +kernel
theorem dL_run_105 : decode cL_run 105 = .ok (.dup2, 1) := by decide +kernel
theorem dL_run_106 : decode cL_run 106 = .ok (.iaload, 1) := by decide +kernel
theorem dL_run_107 : decode cL_run 107 = .ok (.aload 4, 2) := by decide +kernel
theorem dL_run_109 : decode cL_run 109 = .ok (.iconst 3, 1) := by decide +kernel
theorem dL_run_110 : decode cL_run 110 = .ok (.iaload, 1) := by decide +kernel
theorem dL_run_111 : decode cL_run 111 = .ok (.invokestatic 23, 3) := by decide +kernel
theorem dL_run_114 : decode cL_run 114 = .ok (.iadd, 1) := by decide +kernel
theorem dL_run_115 : decode cL_run 115 = .ok (.iastore, 1) := by decide +kernel
theorem dL_run_116 : decode cL_run 116 = .ok (.aload_n 0, 1) := by decide +kernel
theorem dL_run_117 : decode cL_run 117 = .ok (.aload 4, 2) := by decide +kernel
theorem dL_run_119 : decode cL_run 119 = .ok (.bipush 6, 2) := by decide +kernel
theorem dL_run_121 : decode cL_run 121 = .ok (.iaload, 1) := by decide +kernel
theorem dL_run_122 : decode cL_run 122 = .ok (.ifCond .le 8, 3) := by decide +kernel
theorem dL_run_125 : decode cL_run 125 = .ok (.bipush 16, 2) := by decide +kernel
theorem dL_run_127 : decode cL_run 127 = .ok (.goto 5, 3) := by decide +kernel
theorem dL_run_130 : decode cL_run 130 = .ok (.bipush 17, 2) := by decide +kernel
theorem dL_run_132 : decode cL_run 132 = .ok (.dup2, 1) := by decide +kernel
theorem dL_run_133 : decode cL_run 133 = .ok (.iaload, 1) := by decide +kernel
theorem dL_run_134 : decode cL_run 134 = .ok (.aload 4, 2) := by decide +kernel
theorem dL_run_136 : decode cL_run 136 = .ok (.bipush 6, 2) := by decide +kernel
theorem dL_run_138 : decode cL_run 138 = .ok (.iaload, 1) := by decide +kernel
theorem dL_run_139 : decode cL_run 139 = .ok (.invokestatic 23, 3) := by decide +kernel
theorem dL_run_142 : decode cL_run 142 = .ok (.iadd, 1) := by decide +kernel
theorem dL_run_143 : decode cL_run 143 = .ok (.iastore, 1) := by decide +kernel
theorem dL_run_144 : decode cL_run 144 = .ok (.aload_n 2, 1) := by decide +kernel
theorem dL_run_145 : decode cL_run 145 = .ok (.iload 6, 2) := by decide +kernel
theorem dL_run_147 : decode cL_run 147 = .ok (.bipush 10, 2) := by decide +kernel
theorem dL_run_149 : decode cL_run 149 = .ok (.irem, 1) := by decide +kernel
theorem dL_run_150 : decode cL_run 150 = .ok (.iaload, 1) := by decide +kernel
theorem dL_run_151 : decode cL_run 151 = .ok (.iload 6, 2) := by decide +kernel
theorem dL_run_153 : decode cL_run 153 = .ok (.if_icmp .eq 7, 3) := by decide +kernel
theorem dL_run_156 : decode cL_run 156 = .ok (.iconst 1, 1) := by decide +kernel
theorem dL_run_157 : decode cL_run 157 = .ok (.goto 4, 3) := by decide +kernel
theorem dL_run_160 : decode cL_run 160 = .ok (.iconst 0, 1) := by decide +kernel
theorem dL_run_161 : decode cL_run 161 = .ok (.istore 8, 2) := by decide +kernel
theorem dL_run_163 : decode cL_run 163 = .ok (.aload_n 2, 1) := by decide +kernel
theorem dL_run_164 : decode cL_run 164 = .ok (.iload 6, 2) := by decide +kernel
theorem dL_run_166 : decode cL_run 166 = .ok (.bipush 10, 2) := by decide +kernel
theorem dL_run_168 : decode cL_run 168 = .ok (.irem, 1) := by decide +kernel
theorem dL_run_169 : decode cL_run 169 = .ok (.iload 6, 2) := by decide +kernel
theorem dL_run_171 : decode cL_run 171 = .ok (.iastore, 1) := by decide +kernel
theorem dL_run_172 : decode cL_run 172 = .ok (.aload_n 1, 1) := by decide +kernel
theorem dL_run_173 : decode cL_run 173 = .ok (.iload 7, 2) := by decide +kernel
theorem dL_run_175 : decode cL_run 175 = .ok (.aload 4, 2) := by decide +kernel
theorem dL_run_177 : decode cL_run 177 = .ok (.iconst 4, 1) := by decide +kernel
theorem dL_run_178 : decode cL_run 178 = .ok (.iaload, 1) := by decide +kernel
theorem dL_run_179 : decode cL_run 179 = .ok (.iload 8, 2) := by decide +kernel
theorem dL_run_181 : decode cL_run 181 = .ok (.ifCond .eq 7, 3) := by decide +kernel
theorem dL_run_184 : decode cL_run 184 = .ok (.iconst 0, 1) := by decide +kernel
theorem dL_run_185 : decode cL_run 185 = .ok (.goto 7, 3) := by decide +kernel
theorem dL_run_188 : decode cL_run 188 = .ok (.aload_n 1, 1) := by decide +kernel
theorem dL_run_189 : decode cL_run 189 = .ok (.iload 7, 2) := by decide +kernel
theorem dL_run_191 : decode cL_run 191 = .ok (.iaload, 1) := by decide +kernel
theorem dL_run_192 : decode cL_run 192 = .ok (.iadd, 1) := by decide +kernel
theorem dL_run_193 : decode cL_run 193 = .ok (.iastore, 1) := by decide +kernel
theorem dL_run_194 : decode cL_run 194 = .ok (.aload_n 1, 1) := by decide +kernel
theorem dL_run_195 : decode cL_run 195 = .ok (.iload 7, 2) := by decide +kernel
theorem dL_run_197 : decode cL_run 197 = .ok (.iconst 1, 1) := by decide +kernel
theorem dL_run_198 : decode cL_run 198 = .ok (.iadd, 1) := by decide +kernel
theorem dL_run_199 : decode cL_run 199 = .ok (.aload 4, 2) := by decide +kernel
theorem dL_run_201 : decode cL_run 201 = .ok (.iconst 5, 1) := by decide +kernel
theorem dL_run_202 : decode cL_run 202 = .ok (.iaload, 1) := by decide +kernel
theorem dL_run_203 : decode cL_run 203 = .ok (.iload 8, 2) := by decide +kernel
theorem dL_run_205 : decode cL_run 205 = .ok (.ifCond .eq 7, 3) := by decide +kernel
theorem dL_run_208 : decode cL_run 208 = .ok (.iconst 0, 1) := by decide +kernel
theorem dL_run_209 : decode cL_run 209 = .ok (.goto 9, 3) := by decide +kernel
theorem dL_run_212 : decode cL_run 212 = .ok (.aload_n 1, 1) := by decide +kernel
theorem dL_run_213 : decode cL_run 213 = .ok (.iload 7, 2) := by decide +kernel
theorem dL_run_215 : decode cL_run 215 = .ok (.iconst 1, 1) := by decide +kernel
theorem dL_run_216 : decode cL_run 216 = .ok (.iadd, 1) := by decide +kernel
theorem dL_run_217 : decode cL_run 217 = .ok (.iaload, 1) := by decide +kernel
theorem dL_run_218 : decode cL_run 218 = .ok (.iadd, 1) := by decide +kernel
theorem dL_run_219 : decode cL_run 219 = .ok (.iastore, 1) := by decide +kernel
theorem dL_run_220 : decode cL_run 220 = .ok (.aload_n 1, 1) := by decide +kernel
theorem dL_run_221 : decode cL_run 221 = .ok (.iload 7, 2) := by decide +kernel
theorem dL_run_223 : decode cL_run 223 = .ok (.iconst 2, 1) := by decide +kernel
theorem dL_run_224 : decode cL_run 224 = .ok (.iadd, 1) := by decide +kernel
theorem dL_run_225 : decode cL_run 225 = .ok (.iload 8, 2) := by decide +kernel
theorem dL_run_227 : decode cL_run 227 = .ok (.ifCond .ne 16, 3) := by decide +kernel
theorem dL_run_230 : decode cL_run 230 = .ok (.aload_n 0, 1) := by decide +kernel
theorem dL_run_231 : decode cL_run 231 = .ok (.invokestatic 15, 3) := by decide +kernel
theorem dL_run_234 : decode cL_run 234 = .ok (.aload_n 1, 1) := by decide +kernel
theorem dL_run_235 : decode cL_run 235 = .ok (.iload 7, 2) := by decide +kernel
theorem dL_run_237 : decode cL_run 237 = .ok (.iconst 2, 1) := by decide +kernel
theorem dL_run_238 : decode cL_run 238 = .ok (.iadd, 1) := by decide +kernel
theorem dL_run_239 : decode cL_run 239 = .ok (.iaload, 1) := by decide +kernel
theorem dL_run_240 : decode cL_run 240 = .ok (.if_icmp .le 10, 3) := by decide +kernel
theorem dL_run_243 : decode cL_run 243 = .ok (.aload_n 0, 1) := by decide +kernel
theorem dL_run_244 : decode cL_run 244 = .ok (.invokestatic 15, 3) := by decide +kernel
theorem dL_run_247 : decode cL_run 247 = .ok (.goto 9, 3) := by decide +kernel
theorem dL_run_250 : decode cL_run 250 = .ok (.aload_n 1, 1) := by decide +kernel
theorem dL_run_251 : decode cL_run 251 = .ok (.iload 7, 2) := by decide +kernel
theorem dL_run_253 : decode cL_run 253 = .ok (.iconst 2, 1) := by decide +kernel
theorem dL_run_254 : decode cL_run 254 = .ok (.iadd, 1) := by decide +kernel
theorem dL_run_255 : decode cL_run 255 = .ok (.iaload, 1) := by decide +kernel
theorem dL_run_256 : decode cL_run 256 = .ok (.iastore, 1) := by decide +kernel
theorem dL_run_257 : decode cL_run 257 = .ok (.aload_n 1, 1) := by decide +kernel
theorem dL_run_258 : decode cL_run 258 = .ok (.iload 7, 2) := by decide +kernel
theorem dL_run_260 : decode cL_run 260 = .ok (.iconst 3, 1) := by decide +kernel
theorem dL_run_261 : decode cL_run 261 = .ok (.iadd, 1) := by decide +kernel
theorem dL_run_262 : decode cL_run 262 = .ok (.iload 8, 2) := by decide +kernel
theorem dL_run_264 : decode cL_run 264 = .ok (.ifCond .ne 16, 3) := by decide +kernel
theorem dL_run_267 : decode cL_run 267 = .ok (.aload_n 0, 1) := by decide +kernel
theorem dL_run_268 : decode cL_run 268 = .ok (.invokestatic 15, 3) := by decide +kernel
theorem dL_run_271 : decode cL_run 271 = .ok (.aload_n 1, 1) := by decide +kernel
theorem dL_run_272 : decode cL_run 272 = .ok (.iload 7, 2) := by decide +kernel
theorem dL_run_274 : decode cL_run 274 = .ok (.iconst 3, 1) := by decide +kernel
theorem dL_run_275 : decode cL_run 275 = .ok (.iadd, 1) := by decide +kernel
theorem dL_run_276 : decode cL_run 276 = .ok (.iaload, 1) := by decide +kernel
theorem dL_run_277 : decode cL_run 277 = .ok (.if_icmp .ge 10, 3) := by decide +kernel
theorem dL_run_280 : decode cL_run 280 = .ok (.aload_n 0, 1) := by decide +kernel
theorem dL_run_281 : decode cL_run 281 = .ok (.invokestatic 15, 3) := by decide +kernel
theorem dL_run_284 : decode cL_run 284 = .ok (.goto 9, 3) := by decide +kernel
theorem dL_run_287 : decode cL_run 287 = .ok (.aload_n 1, 1) := by decide +kernel
theorem dL_run_288 : decode cL_run 288 = .ok (.iload 7, 2) := by decide +kernel
theorem dL_run_290 : decode cL_run 290 = .ok (.iconst 3, 1) := by decide +kernel
theorem dL_run_291 : decode cL_run 291 = .ok (.iadd, 1) := by decide +kernel
theorem dL_run_292 : decode cL_run 292 = .ok (.iaload, 1) := by decide +kernel
theorem dL_run_293 : decode cL_run 293 = .ok (.iastore, 1) := by decide +kernel
theorem dL_run_294 : decode cL_run 294 = .ok (.aload_n 1, 1) := by decide +kernel
theorem dL_run_295 : decode cL_run 295 = .ok (.iload 7, 2) := by decide +kernel
theorem dL_run_297 : decode cL_run 297 = .ok (.iconst 4, 1) := by decide +kernel
theorem dL_run_298 : decode cL_run 298 = .ok (.iadd, 1) := by decide +kernel
theorem dL_run_299 : decode cL_run 299 = .ok (.aload 4, 2) := by decide +kernel
theorem dL_run_301 : decode cL_run 301 = .ok (.iconst 3, 1) := by decide +kernel
theorem dL_run_302 : decode cL_run 302 = .ok (.iaload, 1) := by decide +kernel
theorem dL_run_303 : decode cL_run 303 = .ok (.ifCond .le 10, 3) := by decide +kernel
theorem dL_run_306 : decode cL_run 306 = .ok (.aload 4, 2) := by decide +kernel
theorem dL_run_308 : decode cL_run 308 = .ok (.iconst 3, 1) := by decide +kernel
theorem dL_run_309 : decode cL_run 309 = .ok (.iaload, 1) := by decide +kernel
theorem dL_run_310 : decode cL_run 310 = .ok (.goto 4, 3) := by decide +kernel
theorem dL_run_313 : decode cL_run 313 = .ok (.iconst 0, 1) := by decide +kernel
theorem dL_run_314 : decode cL_run 314 = .ok (.iload 8, 2) := by decide +kernel
theorem dL_run_316 : decode cL_run 316 = .ok (.ifCond .eq 7, 3) := by decide +kernel
theorem dL_run_319 : decode cL_run 319 = .ok (.iconst 0, 1) := by decide +kernel
theorem dL_run_320 : decode cL_run 320 = .ok (.goto 9, 3) := by decide +kernel
theorem dL_run_323 : decode cL_run 323 = .ok (.aload_n 1, 1) := by decide +kernel
theorem dL_run_324 : decode cL_run 324 = .ok (.iload 7, 2) := by decide +kernel
theorem dL_run_326 : decode cL_run 326 = .ok (.iconst 4, 1) := by decide +kernel
theorem dL_run_327 : decode cL_run 327 = .ok (.iadd, 1) := by decide +kernel
theorem dL_run_328 : decode cL_run 328 = .ok (.iaload, 1) := by decide +kernel
theorem dL_run_329 : decode cL_run 329 = .ok (.iadd, 1) := by decide +kernel
theorem dL_run_330 : decode cL_run 330 = .ok (.iastore, 1) := by decide +kernel
theorem dL_run_331 : decode cL_run 331 = .ok (.aload_n 1, 1) := by decide +kernel
theorem dL_run_332 : decode cL_run 332 = .ok (.iload 7, 2) := by decide +kernel
theorem dL_run_334 : decode cL_run 334 = .ok (.iconst 5, 1) := by decide +kernel
theorem dL_run_335 : decode cL_run 335 = .ok (.iadd, 1) := by decide +kernel
theorem dL_run_336 : decode cL_run 336 = .ok (.aload 4, 2) := by decide +kernel
theorem dL_run_338 : decode cL_run 338 = .ok (.iconst 3, 1) := by decide +kernel
theorem dL_run_339 : decode cL_run 339 = .ok (.iaload, 1) := by decide +kernel
theorem dL_run_340 : decode cL_run 340 = .ok (.ifCond .ge 11, 3) := by decide +kernel
theorem dL_run_343 : decode cL_run 343 = .ok (.aload 4, 2) := by decide +kernel
theorem dL_run_345 : decode cL_run 345 = .ok (.iconst 3, 1) := by decide +kernel
theorem dL_run_346 : decode cL_run 346 = .ok (.iaload, 1) := by decide +kernel
theorem dL_run_347 : decode cL_run 347 = .ok (.ineg, 1) := by decide +kernel
theorem dL_run_348 : decode cL_run 348 = .ok (.goto 4, 3) := by decide +kernel
theorem dL_run_351 : decode cL_run 351 = .ok (.iconst 0, 1) := by decide +kernel
theorem dL_run_352 : decode cL_run 352 = .ok (.iload 8, 2) := by decide +kernel
theorem dL_run_354 : decode cL_run 354 = .ok (.ifCond .eq 7, 3) := by decide +kernel
theorem dL_run_357 : decode cL_run 357 = .ok (.iconst 0, 1) := by decide +kernel
theorem dL_run_358 : decode cL_run 358 = .ok (.goto 9, 3) := by decide +kernel
theorem dL_run_361 : decode cL_run 361 = .ok (.aload_n 1, 1) := by decide +kernel
theorem dL_run_362 : decode cL_run 362 = .ok (.iload 7, 2) := by decide +kernel
theorem dL_run_364 : decode cL_run 364 = .ok (.iconst 5, 1) := by decide +kernel
theorem dL_run_365 : decode cL_run 365 = .ok (.iadd, 1) := by decide +kernel
theorem dL_run_366 : decode cL_run 366 = .ok (.iaload, 1) := by decide +kernel
theorem dL_run_367 : decode cL_run 367 = .ok (.iadd, 1) := by decide +kernel
theorem dL_run_368 : decode cL_run 368 = .ok (.iastore, 1) := by decide +kernel
theorem dL_run_369 : decode cL_run 369 = .ok (.iinc 5 1, 3) := by decide +kernel
theorem dL_run_372 : decode cL_run 372 = .ok (.goto (-363), 3) := by decide +kernel
theorem dL_run_375 : decode cL_run 375 = .ok (.return_, 1) := by decide +kernel
theorem dL_acts_0 : decode cL_acts 0 = .ok (.iload 4, 2) := by decide +kernel
theorem dL_acts_2 : decode cL_acts 2 = .ok (.iconst 5, 1) := by decide +kernel
theorem dL_acts_3 : decode cL_acts 3 = .ok (.ishr, 1) := by decide +kernel
theorem dL_acts_4 : decode cL_acts 4 = .ok (.ldc 31, 2) := by decide +kernel
theorem dL_acts_6 : decode cL_acts 6 = .ok (.invokestatic 32, 3) := by decide +kernel
theorem dL_acts_9 : decode cL_acts 9 = .ok (.istore 5, 2) := by decide +kernel
theorem dL_acts_11 : decode cL_acts 11 = .ok (.iload 4, 2) := by decide +kernel
theorem dL_acts_13 : decode cL_acts 13 = .ok (.bipush 32, 2) := by decide +kernel
theorem dL_acts_15 : decode cL_acts 15 = .ok (.invokestatic 32, 3) := by decide +kernel
theorem dL_acts_18 : decode cL_acts 18 = .ok (.istore 6, 2) := by decide +kernel
theorem dL_acts_20 : decode cL_acts 20 = .ok (.iload 6, 2) := by decide +kernel
theorem dL_acts_22 : decode cL_acts 22 = .ok (.iconst 5, 1) := by decide +kernel
theorem dL_acts_23 : decode cL_acts 23 = .ok (.if_icmp .ge 34, 3) := by decide +kernel
theorem dL_acts_26 : decode cL_acts 26 = .ok (.aload_n 1, 1) := by decide +kernel
theorem dL_acts_27 : decode cL_acts 27 = .ok (.iconst 3, 1) := by decide +kernel
theorem dL_acts_28 : decode cL_acts 28 = .ok (.iaload, 1) := by decide +kernel
theorem dL_acts_29 : decode cL_acts 29 = .ok (.istore 7, 2) := by decide +kernel
theorem dL_acts_31 : decode cL_acts 31 = .ok (.aload_n 1, 1) := by decide +kernel
theorem dL_acts_32 : decode cL_acts 32 = .ok (.iconst 3, 1) := by decide +kernel
theorem dL_acts_33 : decode cL_acts 33 = .ok (.iload 5, 2) := by decide +kernel
theorem dL_acts_35 : decode cL_acts 35 = .ok (.bipush 9, 2) := by decide +kernel
theorem dL_acts_37 : decode cL_acts 37 = .ok (.irem, 1) := by decide +kernel
theorem dL_acts_38 : decode cL_acts 38 = .ok (.iastore, 1) := by decide +kernel
theorem dL_acts_39 : decode cL_acts 39 = .ok (.aload_n 0, 1) := by decide +kernel
theorem dL_acts_40 : decode cL_acts 40 = .ok (.aload_n 1, 1) := by decide +kernel
theorem dL_acts_41 : decode cL_acts 41 = .ok (.iconst 3, 1) := by decide +kernel
theorem dL_acts_42 : decode cL_acts 42 = .ok (.iaload, 1) := by decide +kernel
theorem dL_acts_43 : decode cL_acts 43 = .ok (.invokevirtual 36, 3) := by decide +kernel
theorem dL_acts_46 : decode cL_acts 46 = .ok (.iload 7, 2) := by decide +kernel
theorem dL_acts_48 : decode cL_acts 48 = .ok (.if_icmp .ne 7, 3) := by decide +kernel
theorem dL_acts_51 : decode cL_acts 51 = .ok (.iconst 1, 1) := by decide +kernel
theorem dL_acts_52 : decode cL_acts 52 = .ok (.goto 4, 3) := by decide +kernel
theorem dL_acts_55 : decode cL_acts 55 = .ok (.iconst 0, 1) := by decide +kernel
theorem dL_acts_56 : decode cL_acts 56 = .ok (.ireturn, 1) := by decide +kernel
theorem dL_acts_57 : decode cL_acts 57 = .ok (.iload 6, 2) := by decide +kernel
theorem dL_acts_59 : decode cL_acts 59 = .ok (.bipush 9, 2) := by decide +kernel
theorem dL_acts_61 : decode cL_acts 61 = .ok (.if_icmp .ge 34, 3) := by decide +kernel
theorem dL_acts_64 : decode cL_acts 64 = .ok (.aload_n 1, 1) := by decide +kernel
theorem dL_acts_65 : decode cL_acts 65 = .ok (.iconst 4, 1) := by decide +kernel
theorem dL_acts_66 : decode cL_acts 66 = .ok (.iaload, 1) := by decide +kernel
theorem dL_acts_67 : decode cL_acts 67 = .ok (.istore 7, 2) := by decide +kernel
theorem dL_acts_69 : decode cL_acts 69 = .ok (.aload_n 1, 1) := by decide +kernel
theorem dL_acts_70 : decode cL_acts 70 = .ok (.iconst 4, 1) := by decide +kernel
theorem dL_acts_71 : decode cL_acts 71 = .ok (.iload 5, 2) := by decide +kernel
theorem dL_acts_73 : decode cL_acts 73 = .ok (.bipush 7, 2) := by decide +kernel
theorem dL_acts_75 : decode cL_acts 75 = .ok (.irem, 1) := by decide +kernel
theorem dL_acts_76 : decode cL_acts 76 = .ok (.iastore, 1) := by decide +kernel
theorem dL_acts_77 : decode cL_acts 77 = .ok (.aload_n 0, 1) := by decide +kernel
theorem dL_acts_78 : decode cL_acts 78 = .ok (.aload_n 1, 1) := by decide +kernel
theorem dL_acts_79 : decode cL_acts 79 = .ok (.iconst 4, 1) := by decide +kernel
theorem dL_acts_80 : decode cL_acts 80 = .ok (.iaload, 1) := by decide +kernel
theorem dL_acts_81 : decode cL_acts 81 = .ok (.invokevirtual 41, 3) := by decide +kernel
theorem dL_acts_84 : decode cL_acts 84 = .ok (.iload 7, 2) := by decide +kernel
theorem dL_acts_86 : decode cL_acts 86 = .ok (.if_icmp .ne 7, 3) := by decide +kernel
theorem dL_acts_89 : decode cL_acts 89 = .ok (.iconst 1, 1) := by decide +kernel
theorem dL_acts_90 : decode cL_acts 90 = .ok (.goto 4, 3) := by decide +kernel
theorem dL_acts_93 : decode cL_acts 93 = .ok (.iconst 0, 1) := by decide +kernel
theorem dL_acts_94 : decode cL_acts 94 = .ok (.ireturn, 1) := by decide +kernel
theorem dL_acts_95 : decode cL_acts 95 = .ok (.iload 6, 2) := by decide +kernel
theorem dL_acts_97 : decode cL_acts 97 = .ok (.bipush 13, 2) := by decide +kernel
theorem dL_acts_99 : decode cL_acts 99 = .ok (.if_icmp .ge 39, 3) := by decide +kernel
theorem dL_acts_102 : decode cL_acts 102 = .ok (.aload_n 1, 1) := by decide +kernel
theorem dL_acts_103 : decode cL_acts 103 = .ok (.iconst 5, 1) := by decide +kernel
theorem dL_acts_104 : decode cL_acts 104 = .ok (.iaload, 1) := by decide +kernel
theorem dL_acts_105 : decode cL_acts 105 = .ok (.istore 7, 2) := by decide +kernel
theorem dL_acts_107 : decode cL_acts 107 = .ok (.aload_n 1, 1) := by decide +kernel
theorem dL_acts_108 : decode cL_acts 108 = .ok (.iconst 5, 1) := by decide +kernel
theorem dL_acts_109 : decode cL_acts 109 = .ok (.iload 5, 2) := by decide +kernel
theorem dL_acts_111 : decode cL_acts 111 = .ok (.sipush 1001, 3) := by decide +kernel
theorem dL_acts_114 : decode cL_acts 114 = .ok (.irem, 1) := by decide +kernel
theorem dL_acts_115 : decode cL_acts 115 = .ok (.sipush 500, 3) := by decide +kernel
theorem dL_acts_118 : decode cL_acts 118 = .ok (.isub, 1) := by decide +kernel
theorem dL_acts_119 : decode cL_acts 119 = .ok (.iastore, 1) := by decide +kernel
theorem dL_acts_120 : decode cL_acts 120 = .ok (.aload_n 0, 1) := by decide +kernel
theorem dL_acts_121 : decode cL_acts 121 = .ok (.aload_n 1, 1) := by decide +kernel
theorem dL_acts_122 : decode cL_acts 122 = .ok (.iconst 5, 1) := by decide +kernel
theorem dL_acts_123 : decode cL_acts 123 = .ok (.iaload, 1) := by decide +kernel
theorem dL_acts_124 : decode cL_acts 124 = .ok (.invokevirtual 44, 3) := by decide +kernel
theorem dL_acts_127 : decode cL_acts 127 = .ok (.iload 7, 2) := by decide +kernel
theorem dL_acts_129 : decode cL_acts 129 = .ok (.if_icmp .ne 7, 3) := by decide +kernel
theorem dL_acts_132 : decode cL_acts 132 = .ok (.iconst 1, 1) := by decide +kernel
theorem dL_acts_133 : decode cL_acts 133 = .ok (.goto 4, 3) := by decide +kernel
theorem dL_acts_136 : decode cL_acts 136 = .ok (.iconst 0, 1) := by decide +kernel
theorem dL_acts_137 : decode cL_acts 137 = .ok (.ireturn, 1) := by decide +kernel
theorem dL_acts_138 : decode cL_acts 138 = .ok (.iload 6, 2) := by decide +kernel
theorem dL_acts_140 : decode cL_acts 140 = .ok (.bipush 16, 2) := by decide +kernel
theorem dL_acts_142 : decode cL_acts 142 = .ok (.if_icmp .ge 72, 3) := by decide +kernel
theorem dL_acts_145 : decode cL_acts 145 = .ok (.aload_n 1, 1) := by decide +kernel
theorem dL_acts_146 : decode cL_acts 146 = .ok (.bipush 6, 2) := by decide +kernel
theorem dL_acts_148 : decode cL_acts 148 = .ok (.iload 5, 2) := by decide +kernel
theorem dL_acts_150 : decode cL_acts 150 = .ok (.sipush 144, 3) := by decide +kernel
theorem dL_acts_153 : decode cL_acts 153 = .ok (.irem, 1) := by decide +kernel
theorem dL_acts_154 : decode cL_acts 154 = .ok (.iastore, 1) := by decide +kernel
theorem dL_acts_155 : decode cL_acts 155 = .ok (.aload_n 1, 1) := by decide +kernel
theorem dL_acts_156 : decode cL_acts 156 = .ok (.bipush 7, 2) := by decide +kernel
theorem dL_acts_158 : decode cL_acts 158 = .ok (.iload 5, 2) := by decide +kernel
theorem dL_acts_160 : decode cL_acts 160 = .ok (.sipush 144, 3) := by decide +kernel
theorem dL_acts_163 : decode cL_acts 163 = .ok (.idiv, 1) := by decide +kernel
theorem dL_acts_164 : decode cL_acts 164 = .ok (.sipush 145, 3) := by decide +kernel
theorem dL_acts_167 : decode cL_acts 167 = .ok (.irem, 1) := by decide +kernel
theorem dL_acts_168 : decode cL_acts 168 = .ok (.iastore, 1) := by decide +kernel
theorem dL_acts_169 : decode cL_acts 169 = .ok (.aload_n 0, 1) := by decide +kernel
theorem dL_acts_170 : decode cL_acts 170 = .ok (.aload_n 1, 1) := by decide +kernel
theorem dL_acts_171 : decode cL_acts 171 = .ok (.bipush 6, 2) := by decide +kernel
theorem dL_acts_173 : decode cL_acts 173 = .ok (.iaload, 1) := by decide +kernel
theorem dL_acts_174 : decode cL_acts 174 = .ok (.aload_n 1, 1) := by decide +kernel
theorem dL_acts_175 : decode cL_acts 175 = .ok (.bipush 7, 2) := by decide +kernel
theorem dL_acts_177 : decode cL_acts 177 = .ok (.iaload, 1) := by decide +kernel
theorem dL_acts_178 : decode cL_acts 178 = .ok (.invokevirtual 47, 3) := by decide +kernel
theorem dL_acts_181 : decode cL_acts 181 = .ok (.aload_n 1, 1) := by decide +kernel
theorem dL_acts_182 : decode cL_acts 182 = .ok (.bipush 6, 2) := by decide +kernel
theorem dL_acts_184 : decode cL_acts 184 = .ok (.iaload, 1) := by decide +kernel
theorem dL_acts_185 : decode cL_acts 185 = .ok (.aload_n 1, 1) := by decide +kernel
theorem dL_acts_186 : decode cL_acts 186 = .ok (.bipush 7, 2) := by decide +kernel
theorem dL_acts_188 : decode cL_acts 188 = .ok (.iaload, 1) := by decide +kernel
theorem dL_acts_189 : decode cL_acts 189 = .ok (.if_icmp .ge 15, 3) := by decide +kernel
theorem dL_acts_192 : decode cL_acts 192 = .ok (.aload_n 1, 1) := by decide +kernel
theorem dL_acts_193 : decode cL_acts 193 = .ok (.bipush 7, 2) := by decide +kernel
theorem dL_acts_195 : decode cL_acts 195 = .ok (.iaload, 1) := by decide +kernel
theorem dL_acts_196 : decode cL_acts 196 = .ok (.aload_n 1, 1) := by decide +kernel
theorem dL_acts_197 : decode cL_acts 197 = .ok (.bipush 6, 2) := by decide +kernel
theorem dL_acts_199 : decode cL_acts 199 = .ok (.iaload, 1) := by decide +kernel
theorem dL_acts_200 : decode cL_acts 200 = .ok (.isub, 1) := by decide +kernel
theorem dL_acts_201 : decode cL_acts 201 = .ok (.goto 4, 3) := by decide +kernel
theorem dL_acts_204 : decode cL_acts 204 = .ok (.iconst 0, 1) := by decide +kernel
theorem dL_acts_205 : decode cL_acts 205 = .ok (.if_icmp .ne 7, 3) := by decide +kernel
theorem dL_acts_208 : decode cL_acts 208 = .ok (.iconst 1, 1) := by decide +kernel
theorem dL_acts_209 : decode cL_acts 209 = .ok (.goto 4, 3) := by decide +kernel
theorem dL_acts_212 : decode cL_acts 212 = .ok (.iconst 0, 1) := by decide +kernel
theorem dL_acts_213 : decode cL_acts 213 = .ok (.ireturn, 1) := by decide +kernel
theorem dL_acts_214 : decode cL_acts 214 = .ok (.iload 6, 2) := by decide +kernel
theorem dL_acts_216 : decode cL_acts 216 = .ok (.bipush 18, 2) := by decide +kernel
theorem dL_acts_218 : decode cL_acts 218 = .ok (.if_icmp .ge 86, 3) := by decide +kernel
theorem dL_acts_221 : decode cL_acts 221 = .ok (.iconst 1, 1) := by decide +kernel
theorem dL_acts_222 : decode cL_acts 222 = .ok (.iload 5, 2) := by decide +kernel
theorem dL_acts_224 : decode cL_acts 224 = .ok (.iload 5, 2) := by decide +kernel
theorem dL_acts_226 : decode cL_acts 226 = .ok (.iconst 3, 1) := by decide +kernel
theorem dL_acts_227 : decode cL_acts 227 = .ok (.irem, 1) := by decide +kernel
theorem dL_acts_228 : decode cL_acts 228 = .ok (.ifCond .ne 9, 3) := by decide +kernel
theorem dL_acts_231 : decode cL_acts 231 = .ok (.sipush 20000, 3) := by decide +kernel
theorem dL_acts_234 : decode cL_acts 234 = .ok (.goto 6, 3) := by decide +kernel
theorem dL_acts_237 : decode cL_acts 237 = .ok (.sipush 300, 3) := by decide +kernel
theorem dL_acts_240 : decode cL_acts 240 = .ok (.irem, 1) := by decide +kernel
theorem dL_acts_241 : decode cL_acts 241 = .ok (.iadd, 1) := by decide +kernel
theorem dL_acts_242 : decode cL_acts 242 = .ok (.istore 7, 2) := by decide +kernel
theorem dL_acts_244 : decode cL_acts 244 = .ok (.iload 7, 2) := by decide +kernel
theorem dL_acts_246 : decode cL_acts 246 = .ok (.aload_n 1, 1) := by decide +kernel
theorem dL_acts_247 : decode cL_acts 247 = .ok (.iconst 2, 1) := by decide +kernel
theorem dL_acts_248 : decode cL_acts 248 = .ok (.iaload, 1) := by decide +kernel
theorem dL_acts_249 : decode cL_acts 249 = .ok (.if_icmp .le 20, 3) := by decide +kernel
theorem dL_acts_252 : decode cL_acts 252 = .ok (.aload_n 0, 1) := by decide +kernel
theorem dL_acts_253 : decode cL_acts 253 = .ok (.iload 7, 2) := by decide +kernel
theorem dL_acts_255 : decode cL_acts 255 = .ok (.invokevirtual 49, 3) := by decide +kernel
theorem dL_acts_258 : decode cL_acts 258 = .ok (.ldc 52, 2) := by decide +kernel
theorem dL_acts_260 : decode cL_acts 260 = .ok (.if_icmp .ne 7, 3) := by decide +kernel
theorem dL_acts_263 : decode cL_acts 263 = .ok (.iconst 1, 1) := by decide +kernel
theorem dL_acts_264 : decode cL_acts 264 = .ok (.goto 4, 3) := by decide +kernel
theorem dL_acts_267 : decode cL_acts 267 = .ok (.iconst 0, 1) := by decide +kernel
theorem dL_acts_268 : decode cL_acts 268 = .ok (.ireturn, 1) := by decide +kernel
theorem dL_acts_269 : decode cL_acts 269 = .ok (.aload_n 1, 1) := by decide +kernel
theorem dL_acts_270 : decode cL_acts 270 = .ok (.iconst 2, 1) := by decide +kernel
theorem dL_acts_271 : decode cL_acts 271 = .ok (.dup2, 1) := by decide +kernel
theorem dL_acts_272 : decode cL_acts 272 = .ok (.iaload, 1) := by decide +kernel
theorem dL_acts_273 : decode cL_acts 273 = .ok (.iload 7, 2) := by decide +kernel
theorem dL_acts_275 : decode cL_acts 275 = .ok (.isub, 1) := by decide +kernel
theorem dL_acts_276 : decode cL_acts 276 = .ok (.iastore, 1) := by decide +kernel
theorem dL_acts_277 : decode cL_acts 277 = .ok (.aload_n 1, 1) := by decide +kernel
theorem dL_acts_278 : decode cL_acts 278 = .ok (.bipush 15, 2) := by decide +kernel
theorem dL_acts_280 : decode cL_acts 280 = .ok (.dup2, 1) := by decide +kernel
theorem dL_acts_281 : decode cL_acts 281 = .ok (.iaload, 1) := by decide +kernel
theorem dL_acts_282 : decode cL_acts 282 = .ok (.iload 7, 2) := by decide +kernel
theorem dL_acts_284 : decode cL_acts 284 = .ok (.iadd, 1) := by decide +kernel
theorem dL_acts_285 : decode cL_acts 285 = .ok (.iastore, 1) := by decide +kernel
theorem dL_acts_286 : decode cL_acts 286 = .ok (.aload_n 0, 1) := by decide +kernel
theorem dL_acts_287 : decode cL_acts 287 = .ok (.iload 7, 2) := by decide +kernel
theorem dL_acts_289 : decode cL_acts 289 = .ok (.invokevirtual 49, 3) := by decide +kernel
theorem dL_acts_292 : decode cL_acts 292 = .ok (.aload_n 1, 1) := by decide +kernel
theorem dL_acts_293 : decode cL_acts 293 = .ok (.iconst 2, 1) := by decide +kernel
theorem dL_acts_294 : decode cL_acts 294 = .ok (.iaload, 1) := by decide +kernel
theorem dL_acts_295 : decode cL_acts 295 = .ok (.if_icmp .ne 7, 3) := by decide +kernel
theorem dL_acts_298 : decode cL_acts 298 = .ok (.iconst 1, 1) := by decide +kernel
theorem dL_acts_299 : decode cL_acts 299 = .ok (.goto 4, 3) := by decide +kernel
theorem dL_acts_302 : decode cL_acts 302 = .ok (.iconst 0, 1) := by decide +kernel
theorem dL_acts_303 : decode cL_acts 303 = .ok (.ireturn, 1) := by decide +kernel
theorem dL_acts_304 : decode cL_acts 304 = .ok (.iload 6, 2) := by decide +kernel
theorem dL_acts_306 : decode cL_acts 306 = .ok (.bipush 21, 2) := by decide +kernel
theorem dL_acts_308 : decode cL_acts 308 = .ok (.if_icmp .ge 107, 3) := by decide +kernel
theorem dL_acts_311 : decode cL_acts 311 = .ok (.iload 5, 2) := by decide +kernel
theorem dL_acts_313 : decode cL_acts 313 = .ok (.iconst 3, 1) := by decide +kernel
theorem dL_acts_314 : decode cL_acts 314 = .ok (.irem, 1) := by decide +kernel
theorem dL_acts_315 : decode cL_acts 315 = .ok (.istore 7, 2) := by decide +kernel
theorem dL_acts_317 : decode cL_acts 317 = .ok (.aload_n 1, 1) := by decide +kernel
theorem dL_acts_318 : decode cL_acts 318 = .ok (.bipush 8, 2) := by decide +kernel
theorem dL_acts_320 : decode cL_acts 320 = .ok (.iload 7, 2) := by decide +kernel
theorem dL_acts_322 : decode cL_acts 322 = .ok (.iadd, 1) := by decide +kernel
theorem dL_acts_323 : decode cL_acts 323 = .ok (.iaload, 1) := by decide +kernel
theorem dL_acts_324 : decode cL_acts 324 = .ok (.istore 8, 2) := by decide +kernel
theorem dL_acts_326 : decode cL_acts 326 = .ok (.aload_n 1, 1) := by decide +kernel
theorem dL_acts_327 : decode cL_acts 327 = .ok (.bipush 8, 2) := by decide +kernel
theorem dL_acts_329 : decode cL_acts 329 = .ok (.iload 7, 2) := by decide +kernel
theorem dL_acts_331 : decode cL_acts 331 = .ok (.iadd, 1) := by decide +kernel
theorem dL_acts_332 : decode cL_acts 332 = .ok (.iload 7, 2) := by decide +kernel
theorem dL_acts_334 : decode cL_acts 334 = .ok (.ifCond .ne 16, 3) := by decide +kernel
theorem dL_acts_337 : decode cL_acts 337 = .ok (.iconst 1, 1) := by decide +kernel
theorem dL_acts_338 : decode cL_acts 338 = .ok (.iload 5, 2) := by decide +kernel
theorem dL_acts_340 : decode cL_acts 340 = .ok (.iconst 3, 1) := by decide +kernel
theorem dL_acts_341 : decode cL_acts 341 = .ok (.idiv, 1) := by decide +kernel
theorem dL_acts_342 : decode cL_acts 342 = .ok (.sipush 400, 3) := by decide +kernel
theorem dL_acts_345 : decode cL_acts 345 = .ok (.irem, 1) := by decide +kernel
theorem dL_acts_346 : decode cL_acts 346 = .ok (.iadd, 1) := by decide +kernel
theorem dL_acts_347 : decode cL_acts 347 = .ok (.goto 43, 3) := by decide +kernel
theorem dL_acts_350 : decode cL_acts 350 = .ok (.iload 7, 2) := by decide +kernel
theorem dL_acts_352 : decode cL_acts 352 = .ok (.iconst 1, 1) := by decide +kernel
theorem dL_acts_353 : decode cL_acts 353 = .ok (.if_icmp .ne 14, 3) := by decide +kernel
theorem dL_acts_356 : decode cL_acts 356 = .ok (.iload 5, 2) := by decide +kernel
theorem dL_acts_358 : decode cL_acts 358 = .ok (.iconst 3, 1) := by decide +kernel
theorem dL_acts_359 : decode cL_acts 359 = .ok (.idiv, 1) := by decide +kernel
theorem dL_acts_360 : decode cL_acts 360 = .ok (.sipush 401, 3) := by decide +kernel
theorem dL_acts_363 : decode cL_acts 363 = .ok (.irem, 1) := by decide +kernel
theorem dL_acts_364 : decode cL_acts 364 = .ok (.goto 26, 3) := by decide +kernel
theorem dL_acts_367 : decode cL_acts 367 = .ok (.iconst 1, 1) := by decide +kernel
theorem dL_acts_368 : decode cL_acts 368 = .ok (.iload 5, 2) := by decide +kernel
theorem dL_acts_370 : decode cL_acts 370 = .ok (.iconst 3, 1) := by decide +kernel
theorem dL_acts_371 : decode cL_acts 371 = .ok (.idiv, 1) := by decide +kernel
theorem dL_acts_372 : decode cL_acts 372 = .ok (.iload 5, 2) := by decide +kernel
theorem dL_acts_374 : decode cL_acts 374 = .ok (.iconst 2, 1) := by decide +kernel
theorem dL_acts_375 : decode cL_acts 375 = .ok (.irem, 1) := by decide +kernel
theorem dL_acts_376 : decode cL_acts 376 = .ok (.ifCond .ne 9, 3) := by decide +kernel
theorem dL_acts_379 : decode cL_acts 379 = .ok (.sipush 9999, 3) := by decide +kernel
theorem dL_acts_382 : decode cL_acts 382 = .ok (.goto 6, 3) := by decide +kernel
theorem dL_acts_385 : decode cL_acts 385 = .ok (.sipush 900, 3) := by decide +kernel
theorem dL_acts_388 : decode cL_acts 388 = .ok (.irem, 1) := by decide +kernel
theorem dL_acts_389 : decode cL_acts 389 = .ok (.iadd, 1) := by decide +kernel
theorem dL_acts_390 : decode cL_acts 390 = .ok (.iastore, 1) := by decide +kernel
theorem dL_acts_391 : decode cL_acts 391 = .ok (.aload_n 0, 1) := by decide +kernel
theorem dL_acts_392 : decode cL_acts 392 = .ok (.iload 7, 2) := by decide +kernel
theorem dL_acts_394 : decode cL_acts 394 = .ok (.aload_n 1, 1) := by decide +kernel
theorem dL_acts_395 : decode cL_acts 395 = .ok (.bipush 8, 2) := by decide +kernel
theorem dL_acts_397 : decode cL_acts 397 = .ok (.iload 7, 2) := by decide +kernel
theorem dL_acts_399 : decode cL_acts 399 = .ok (.iadd, 1) := by decide +kernel
theorem dL_acts_400 : decode cL_acts 400 = .ok (.iaload, 1) := by decide +kernel
theorem dL_acts_401 : decode cL_acts 401 = .ok (.invokevirtual 53, 3) := by decide +kernel
theorem dL_acts_404 : decode cL_acts 404 = .ok (.iload 8, 2) := by decide +kernel
theorem dL_acts_406 : decode cL_acts 406 = .ok (.if_icmp .ne 7, 3) := by decide +kernel
theorem dL_acts_409 : decode cL_acts 409 = .ok (.iconst 1, 1) := by decide +kernel
theorem dL_acts_410 : decode cL_acts 410 = .ok (.goto 4, 3) := by decide +kernel
theorem dL_acts_413 : decode cL_acts 413 = .ok (.iconst 0, 1) := by decide +kernel
theorem dL_acts_414 : decode cL_acts 414 = .ok (.ireturn, 1) := by decide +kernel
theorem dL_acts_415 : decode cL_acts 415 = .ok (.iconst 1, 1) := by decide +kernel
theorem dL_acts_416 : decode cL_acts 416 = .ok (.iload 5, 2) := by decide +kernel
theorem dL_acts_418 : decode cL_acts 418 = .ok (.iload 5, 2) := by decide +kernel
theorem dL_acts_420 : decode cL_acts 420 = .ok (.iconst 4, 1) := by decide +kernel
theorem dL_acts_421 : decode cL_acts 421 = .ok (.irem, 1) := by decide +kernel
theorem dL_acts_422 : decode cL_acts 422 = .ok (.ifCond .ne 9, 3) := by decide +kernel
theorem dL_acts_425 : decode cL_acts 425 = .ok (.sipush 300, 3) := by decide +kernel
theorem dL_acts_428 : decode cL_acts 428 = .ok (.goto 5, 3) := by decide +kernel
theorem dL_acts_431 : decode cL_acts 431 = .ok (.bipush 40, 2) := by decide +kernel
theorem dL_acts_433 : decode cL_acts 433 = .ok (.irem, 1) := by decide +kernel
theorem dL_acts_434 : decode cL_acts 434 = .ok (.iadd, 1) := by decide +kernel
theorem dL_acts_435 : decode cL_acts 435 = .ok (.istore 7, 2) := by decide +kernel
theorem dL_acts_437 : decode cL_acts 437 = .ok (.aload_n 1, 1) := by decide +kernel
theorem dL_acts_438 : decode cL_acts 438 = .ok (.iconst 0, 1) := by decide +kernel
theorem dL_acts_439 : decode cL_acts 439 = .ok (.iaload, 1) := by decide +kernel
theorem dL_acts_440 : decode cL_acts 440 = .ok (.iload 7, 2) := by decide +kernel
theorem dL_acts_442 : decode cL_acts 442 = .ok (.iadd, 1) := by decide +kernel
theorem dL_acts_443 : decode cL_acts 443 = .ok (.sipush 9999, 3) := by decide +kernel
theorem dL_acts_446 : decode cL_acts 446 = .ok (.if_icmp .le 20, 3) := by decide +kernel
theorem dL_acts_449 : decode cL_acts 449 = .ok (.aload_n 0, 1) := by decide +kernel
theorem dL_acts_450 : decode cL_acts 450 = .ok (.iload 7, 2) := by decide +kernel
theorem dL_acts_452 : decode cL_acts 452 = .ok (.invokevirtual 56, 3) := by decide +kernel
theorem dL_acts_455 : decode cL_acts 455 = .ok (.ldc 59, 2) := by decide +kernel
theorem dL_acts_457 : decode cL_acts 457 = .ok (.if_icmp .ne 7, 3) := by decide +kernel
theorem dL_acts_460 : decode cL_acts 460 = .ok (.iconst 1, 1) := by decide +kernel
theorem dL_acts_461 : decode cL_acts 461 = .ok (.goto 4, 3) := by decide +kernel
theorem dL_acts_464 : decode cL_acts 464 = .ok (.iconst 0, 1) := by decide +kernel
theorem dL_acts_465 : decode cL_acts 465 = .ok (.ireturn, 1) := by decide +kernel
theorem dL_acts_466 : decode cL_acts 466 = .ok (.aload_n 1, 1) := by decide +kernel
theorem dL_acts_467 : decode cL_acts 467 = .ok (.aload_n 2, 1) := by decide +kernel
theorem dL_acts_468 : decode cL_acts 468 = .ok (.aload_n 3, 1) := by decide +kernel
theorem dL_acts_469 : decode cL_acts 469 = .ok (.iload 7, 2) := by decide +kernel
theorem dL_acts_471 : decode cL_acts 471 = .ok (.invokestatic 60, 3) := by decide +kernel
theorem dL_acts_474 : decode cL_acts 474 = .ok (.aload_n 0, 1) := by decide +kernel
theorem dL_acts_475 : decode cL_acts 475 = .ok (.iload 7, 2) := by decide +kernel
theorem dL_acts_477 : decode cL_acts 477 = .ok (.invokevirtual 56, 3) := by decide +kernel
theorem dL_acts_480 : decode cL_acts 480 = .ok (.aload_n 1, 1) := by decide +kernel
theorem dL_acts_481 : decode cL_acts 481 = .ok (.invokestatic 15, 3) := by decide +kernel
theorem dL_acts_484 : decode cL_acts 484 = .ok (.if_icmp .ne 7, 3) := by decide +kernel
theorem dL_acts_487 : decode cL_acts 487 = .ok (.iconst 1, 1) := by decide +kernel
theorem dL_acts_488 : decode cL_acts 488 = .ok (.goto 4, 3) := by decide +kernel
theorem dL_acts_491 : decode cL_acts 491 = .ok (.iconst 0, 1) := by decide +kernel
theorem dL_acts_492 : decode cL_acts 492 = .ok (.ireturn, 1) := by decide +kernel
theorem dL_areRecords_0 : decode cL_areRecords 0 = .ok (.aload_n 1, 1) := by decide +kernel
theorem dL_areRecords_1 : decode cL_areRecords 1 = .ok (.iconst 0, 1) := by decide +kernel
theorem dL_areRecords_2 : decode cL_areRecords 2 = .ok (.iaload, 1) := by decide +kernel
theorem dL_areRecords_3 : decode cL_areRecords 3 = .ok (.sipush 144, 3) := by decide +kernel
theorem dL_areRecords_6 : decode cL_areRecords 6 = .ok (.idiv, 1) := by decide +kernel
theorem dL_areRecords_7 : decode cL_areRecords 7 = .ok (.istore 4, 2) := by decide +kernel
theorem dL_areRecords_9 : decode cL_areRecords 9 = .ok (.iconst 0, 1) := by decide +kernel
theorem dL_areRecords_10 : decode cL_areRecords 10 = .ok (.istore 5, 2) := by decide +kernel
theorem dL_areRecords_12 : decode cL_areRecords 12 = .ok (.ldc 63, 2) := by decide +kernel
theorem dL_areRecords_14 : decode cL_areRecords 14 = .ok (.istore 6, 2) := by decide +kernel
theorem dL_areRecords_16 : decode cL_areRecords 16 = .ok (.iconst (-1), 1) := by decide +kernel
theorem dL_areRecords_17 : decode cL_areRecords 17 = .ok (.istore 7, 2) := by decide +kernel
theorem dL_areRecords_19 : decode cL_areRecords 19 = .ok (.aload_n 0, 1) := by decide +kernel
theorem dL_areRecords_20 : decode cL_areRecords 20 = .ok (.iconst (-1), 1) := by decide +kernel
theorem dL_areRecords_21 : decode cL_areRecords 21 = .ok (.iconst 0, 1) := by decide +kernel
theorem dL_areRecords_22 : decode cL_areRecords 22 = .ok (.invokevirtual 64, 3) := by decide +kernel
theorem dL_areRecords_25 : decode cL_areRecords 25 = .ok (.ldc 67, 2) := by decide +kernel
theorem dL_areRecords_27 : decode cL_areRecords 27 = .ok (.if_icmp .ne 19, 3) := by decide +kernel
theorem dL_areRecords_30 : decode cL_areRecords 30 = .ok (.aload_n 0, 1) := by decide +kernel
theorem dL_areRecords_31 : decode cL_areRecords 31 = .ok (.iconst 0, 1) := by decide +kernel
theorem dL_areRecords_32 : decode cL_areRecords 32 = .ok (.bipush 6, 2) := by decide +kernel
theorem dL_areRecords_34 : decode cL_areRecords 34 = .ok (.invokevirtual 64, 3) := by decide +kernel
theorem dL_areRecords_37 : decode cL_areRecords 37 = .ok (.ldc 67, 2) := by decide +kernel
theorem dL_areRecords_39 : decode cL_areRecords 39 = .ok (.if_icmp .ne 7, 3) := by decide +kernel
theorem dL_areRecords_42 : decode cL_areRecords 42 = .ok (.iconst 1, 1) := by decide +kernel
theorem dL_areRecords_43 : decode cL_areRecords 43 = .ok (.goto 4, 3) := by decide +kernel
theorem dL_areRecords_46 : decode cL_areRecords 46 = .ok (.iconst 0, 1) := by decide +kernel
theorem dL_areRecords_47 : decode cL_areRecords 47 = .ok (.istore 8, 2) := by decide +kernel
theorem dL_areRecords_49 : decode cL_areRecords 49 = .ok (.iload 4, 2) := by decide +kernel
theorem dL_areRecords_51 : decode cL_areRecords 51 = .ok (.bipush 11, 2) := by decide +kernel
theorem dL_areRecords_53 : decode cL_areRecords 53 = .ok (.if_icmp .le 11, 3) := by decide +kernel
theorem dL_areRecords_56 : decode cL_areRecords 56 = .ok (.iload 4, 2) := by decide +kernel
theorem dL_areRecords_58 : decode cL_areRecords 58 = .ok (.bipush 11, 2) := by decide +kernel
theorem dL_areRecords_60 : decode cL_areRecords 60 = .ok (.isub, 1) := by decide +kernel
theorem dL_areRecords_61 : decode cL_areRecords 61 = .ok (.goto 4, 3) := by decide +kernel
theorem dL_areRecords_64 : decode cL_areRecords 64 = .ok (.iconst 0, 1) := by decide +kernel
theorem dL_areRecords_65 : decode cL_areRecords 65 = .ok (.istore 9, 2) := by decide +kernel
theorem dL_areRecords_67 : decode cL_areRecords 67 = .ok (.iload 9, 2) := by decide +kernel
theorem dL_areRecords_69 : decode cL_areRecords 69 = .ok (.iload 4, 2) := by decide +kernel
theorem dL_areRecords_71 : decode cL_areRecords 71 = .ok (.iconst 2, 1) := by decide +kernel
theorem dL_areRecords_72 : decode cL_areRecords 72 = .ok (.iadd, 1) := by decide +kernel
theorem dL_areRecords_73 : decode cL_areRecords 73 = .ok (.if_icmp .ge 210, 3) := by decide +kernel
theorem dL_areRecords_76 : decode cL_areRecords 76 = .ok (.iload 8, 2) := by decide +kernel
theorem dL_areRecords_78 : decode cL_areRecords 78 = .ok (.ifCond .eq 205, 3) := by decide +kernel
theorem dL_areRecords_81 : decode cL_areRecords 81 = .ok (.aload_n 3, 1) := by decide +kernel
theorem dL_areRecords_82 : decode cL_areRecords 82 = .ok (.iload 9, 2) := by decide +kernel
theorem dL_areRecords_84 : decode cL_areRecords 84 = .ok (.bipush 10, 2) := by decide +kernel
theorem dL_areRecords_86 : decode cL_areRecords 86 = .ok (.irem, 1) := by decide +kernel
theorem dL_areRecords_87 : decode cL_areRecords 87 = .ok (.iaload, 1) := by decide +kernel
theorem dL_areRecords_88 : decode cL_areRecords 88 = .ok (.iload 9, 2) := by decide +kernel
theorem dL_areRecords_90 : decode cL_areRecords 90 = .ok (.if_icmp .ne 7, 3) := by decide +kernel
theorem dL_areRecords_93 : decode cL_areRecords 93 = .ok (.iconst 1, 1) := by decide +kernel
theorem dL_areRecords_94 : decode cL_areRecords 94 = .ok (.goto 4, 3) := by decide +kernel
theorem dL_areRecords_97 : decode cL_areRecords 97 = .ok (.iconst 0, 1) := by decide +kernel
theorem dL_areRecords_98 : decode cL_areRecords 98 = .ok (.istore 10, 2) := by decide +kernel
theorem dL_areRecords_100 : decode cL_areRecords 100 = .ok (.iload 5, 2) := by decide +kernel
theorem dL_areRecords_102 : decode cL_areRecords 102 = .ok (.iload 10, 2) := by decide +kernel
theorem dL_areRecords_104 : decode cL_areRecords 104 = .ok (.ifCond .eq 7, 3) := by decide +kernel
theorem dL_areRecords_107 : decode cL_areRecords 107 = .ok (.iconst 1, 1) := by decide +kernel
theorem dL_areRecords_108 : decode cL_areRecords 108 = .ok (.goto 4, 3) := by decide +kernel
theorem dL_areRecords_111 : decode cL_areRecords 111 = .ok (.iconst 0, 1) := by decide +kernel
theorem dL_areRecords_112 : decode cL_areRecords 112 = .ok (.iadd, 1) := by decide +kernel
theorem dL_areRecords_113 : decode cL_areRecords 113 = .ok (.istore 5, 2) := by decide +kernel
theorem dL_areRecords_115 : decode cL_areRecords 115 = .ok (.iload 10, 2) := by decide +kernel
theorem dL_areRecords_117 : decode cL_areRecords 117 = .ok (.ifCond .eq 23, 3) := by decide +kernel
theorem dL_areRecords_120 : decode cL_areRecords 120 = .ok (.aload_n 2, 1) := by decide +kernel
theorem dL_areRecords_121 : decode cL_areRecords 121 = .ok (.iload 9, 2) := by decide +kernel
theorem dL_areRecords_123 : decode cL_areRecords 123 = .ok (.bipush 10, 2) := by decide +kernel
theorem dL_areRecords_125 : decode cL_areRecords 125 = .ok (.irem, 1) := by decide +kernel
theorem dL_areRecords_126 : decode cL_areRecords 126 = .ok (.bipush 6, 2) := by decide +kernel
theorem dL_areRecords_128 : decode cL_areRecords 128 = .ok (.imul, 1) := by decide +kernel
theorem dL_areRecords_129 : decode cL_areRecords 129 = .ok (.iaload, 1) := by decide +kernel
theorem dL_areRecords_130 : decode cL_areRecords 130 = .ok (.iload 7, 2) := by decide +kernel
theorem dL_areRecords_132 : decode cL_areRecords 132 = .ok (.if_icmp .le 8, 3) := by decide +kernel
theorem dL_areRecords_135 : decode cL_areRecords 135 = .ok (.iload 9, 2) := by decide +kernel
theorem dL_areRecords_137 : decode cL_areRecords 137 = .ok (.goto 5, 3) := by decide +kernel
theorem dL_areRecords_140 : decode cL_areRecords 140 = .ok (.iload 6, 2) := by decide +kernel
theorem dL_areRecords_142 : decode cL_areRecords 142 = .ok (.istore 6, 2) := by decide +kernel
theorem dL_areRecords_144 : decode cL_areRecords 144 = .ok (.iload 10, 2) := by decide +kernel
theorem dL_areRecords_146 : decode cL_areRecords 146 = .ok (.ifCond .eq 31, 3) := by decide +kernel
theorem dL_areRecords_149 : decode cL_areRecords 149 = .ok (.aload_n 2, 1) := by decide +kernel
theorem dL_areRecords_150 : decode cL_areRecords 150 = .ok (.iload 9, 2) := by decide +kernel
theorem dL_areRecords_152 : decode cL_areRecords 152 = .ok (.bipush 10, 2) := by decide +kernel
theorem dL_areRecords_154 : decode cL_areRecords 154 = .ok (.irem, 1) := by decide +kernel
theorem dL_areRecords_155 : decode cL_areRecords 155 = .ok (.bipush 6, 2) := by decide +kernel
theorem dL_areRecords_157 : decode cL_areRecords 157 = .ok (.imul, 1) := by decide +kernel
theorem dL_areRecords_158 : decode cL_areRecords 158 = .ok (.iaload, 1) := by decide +kernel
theorem dL_areRecords_159 : decode cL_areRecords 159 = .ok (.iload 7, 2) := by decide +kernel
theorem dL_areRecords_161 : decode cL_areRecords 161 = .ok (.if_icmp .le 16, 3) := by decide +kernel
theorem dL_areRecords_164 : decode cL_areRecords 164 = .ok (.aload_n 2, 1) := by decide +kernel
theorem dL_areRecords_165 : decode cL_areRecords 165 = .ok (.iload 9, 2) := by decide +kernel
theorem dL_areRecords_167 : decode cL_areRecords 167 = .ok (.bipush 10, 2) := by decide +kernel
theorem dL_areRecords_169 : decode cL_areRecords 169 = .ok (.irem, 1) := by decide +kernel
theorem dL_areRecords_170 : decode cL_areRecords 170 = .ok (.bipush 6, 2) := by decide +kernel
theorem dL_areRecords_172 : decode cL_areRecords 172 = .ok (.imul, 1) := by decide +kernel
theorem dL_areRecords_173 : decode cL_areRecords 173 = .ok (.iaload, 1) := by decide +kernel
theorem dL_areRecords_174 : decode cL_areRecords 174 = .ok (.goto 5, 3) := by decide +kernel
theorem dL_areRecords_177 : decode cL_areRecords 177 = .ok (.iload 7, 2) := by decide +kernel
theorem dL_areRecords_179 : decode cL_areRecords 179 = .ok (.istore 7, 2) := by decide +kernel
theorem dL_areRecords_181 : decode cL_areRecords 181 = .ok (.iconst 0, 1) := by decide +kernel
theorem dL_areRecords_182 : decode cL_areRecords 182 = .ok (.istore 11, 2) := by decide +kernel
theorem dL_areRecords_184 : decode cL_areRecords 184 = .ok (.iload 11, 2) := by decide +kernel
theorem dL_areRecords_186 : decode cL_areRecords 186 = .ok (.bipush 6, 2) := by decide +kernel
theorem dL_areRecords_188 : decode cL_areRecords 188 = .ok (.if_icmp .ge 55, 3) := by decide +kernel
theorem dL_areRecords_191 : decode cL_areRecords 191 = .ok (.iload 8, 2) := by decide +kernel
theorem dL_areRecords_193 : decode cL_areRecords 193 = .ok (.ifCond .eq 50, 3) := by decide +kernel
theorem dL_areRecords_196 : decode cL_areRecords 196 = .ok (.aload_n 0, 1) := by decide +kernel
theorem dL_areRecords_197 : decode cL_areRecords 197 = .ok (.iload 9, 2) := by decide +kernel
theorem dL_areRecords_199 : decode cL_areRecords 199 = .ok (.iload 11, 2) := by decide +kernel
theorem dL_areRecords_201 : decode cL_areRecords 201 = .ok (.invokevirtual 64, 3) := by decide +kernel
theorem dL_areRecords_204 : decode cL_areRecords 204 = .ok (.iload 10, 2) := by decide +kernel
theorem dL_areRecords_206 : decode cL_areRecords 206 = .ok (.ifCond .eq 19, 3) := by decide +kernel
theorem dL_areRecords_209 : decode cL_areRecords 209 = .ok (.aload_n 2, 1) := by decide +kernel
theorem dL_areRecords_210 : decode cL_areRecords 210 = .ok (.iload 9, 2) := by decide +kernel
theorem dL_areRecords_212 : decode cL_areRecords 212 = .ok (.bipush 10, 2) := by decide +kernel
theorem dL_areRecords_214 : decode cL_areRecords 214 = .ok (.irem, 1) := by decide +kernel
theorem dL_areRecords_215 : decode cL_areRecords 215 = .ok (.bipush 6, 2) := by decide +kernel
theorem dL_areRecords_217 : decode cL_areRecords 217 = .ok (.imul, 1) := by decide +kernel
theorem dL_areRecords_218 : decode cL_areRecords 218 = .ok (.iload 11, 2) := by decide +kernel
theorem dL_areRecords_220 : decode cL_areRecords 220 = .ok (.iadd, 1) := by decide +kernel
theorem dL_areRecords_221 : decode cL_areRecords 221 = .ok (.iaload, 1) := by decide +kernel
theorem dL_areRecords_222 : decode cL_areRecords 222 = .ok (.goto 5, 3) := by decide +kernel
theorem dL_areRecords_225 : decode cL_areRecords 225 = .ok (.ldc 63, 2) := by decide +kernel
theorem dL_areRecords_227 : decode cL_areRecords 227 = .ok (.if_icmp .ne 7, 3) := by decide +kernel
theorem dL_areRecords_230 : decode cL_areRecords 230 = .ok (.iconst 1, 1) := by decide +kernel
theorem dL_areRecords_231 : decode cL_areRecords 231 = .ok (.goto 4, 3) := by decide +kernel
theorem dL_areRecords_234 : decode cL_areRecords 234 = .ok (.iconst 0, 1) := by decide +kernel
theorem dL_areRecords_235 : decode cL_areRecords 235 = .ok (.istore 8, 2) := by decide +kernel
theorem dL_areRecords_237 : decode cL_areRecords 237 = .ok (.iinc 11 1, 3) := by decide +kernel
theorem dL_areRecords_240 : decode cL_areRecords 240 = .ok (.goto (-56), 3) := by decide +kernel
theorem dL_areRecords_243 : decode cL_areRecords 243 = .ok (.iload 8, 2) := by decide +kernel
theorem dL_areRecords_245 : decode cL_areRecords 245 = .ok (.ifCond .eq 29, 3) := by decide +kernel
theorem dL_areRecords_248 : decode cL_areRecords 248 = .ok (.iload 10, 2) := by decide +kernel
theorem dL_areRecords_250 : decode cL_areRecords 250 = .ok (.ifCond .eq 20, 3) := by decide +kernel
theorem dL_areRecords_253 : decode cL_areRecords 253 = .ok (.aload_n 0, 1) := by decide +kernel
theorem dL_areRecords_254 : decode cL_areRecords 254 = .ok (.iload 9, 2) := by decide +kernel
theorem dL_areRecords_256 : decode cL_areRecords 256 = .ok (.iconst 2, 1) := by decide +kernel
theorem dL_areRecords_257 : decode cL_areRecords 257 = .ok (.invokevirtual 64, 3) := by decide +kernel
theorem dL_areRecords_260 : decode cL_areRecords 260 = .ok (.aload_n 0, 1) := by decide +kernel
theorem dL_areRecords_261 : decode cL_areRecords 261 = .ok (.iload 9, 2) := by decide +kernel
theorem dL_areRecords_263 : decode cL_areRecords 263 = .ok (.iconst 3, 1) := by decide +kernel
theorem dL_areRecords_264 : decode cL_areRecords 264 = .ok (.invokevirtual 64, 3) := by decide +kernel
theorem dL_areRecords_267 : decode cL_areRecords 267 = .ok (.if_icmp .lt 7, 3) := by decide +kernel
theorem dL_areRecords_270 : decode cL_areRecords 270 = .ok (.iconst 1, 1) := by decide +kernel
theorem dL_areRecords_271 : decode cL_areRecords 271 = .ok (.goto 4, 3) := by decide +kernel
theorem dL_areRecords_274 : decode cL_areRecords 274 = .ok (.iconst 0, 1) := by decide +kernel
theorem dL_areRecords_275 : decode cL_areRecords 275 = .ok (.istore 8, 2) := by decide +kernel
theorem dL_areRecords_277 : decode cL_areRecords 277 = .ok (.iinc 9 1, 3) := by decide +kernel
theorem dL_areRecords_280 : decode cL_areRecords 280 = .ok (.goto (-213), 3) := by decide +kernel
theorem dL_areRecords_283 : decode cL_areRecords 283 = .ok (.iload 8, 2) := by decide +kernel
theorem dL_areRecords_285 : decode cL_areRecords 285 = .ok (.ifCond .eq 27, 3) := by decide +kernel
theorem dL_areRecords_288 : decode cL_areRecords 288 = .ok (.aload_n 0, 1) := by decide +kernel
theorem dL_areRecords_289 : decode cL_areRecords 289 = .ok (.bipush 7, 2) := by decide +kernel
theorem dL_areRecords_291 : decode cL_areRecords 291 = .ok (.invokevirtual 68, 3) := by decide +kernel
theorem dL_areRecords_294 : decode cL_areRecords 294 = .ok (.iload 5, 2) := by decide +kernel
theorem dL_areRecords_296 : decode cL_areRecords 296 = .ok (.if_icmp .ne 16, 3) := by decide +kernel
theorem dL_areRecords_299 : decode cL_areRecords 299 = .ok (.aload_n 0, 1) := by decide +kernel
theorem dL_areRecords_300 : decode cL_areRecords 300 = .ok (.invokevirtual 71, 3) := by decide +kernel
theorem dL_areRecords_303 : decode cL_areRecords 303 = .ok (.iload 6, 2) := by decide +kernel
theorem dL_areRecords_305 : decode cL_areRecords 305 = .ok (.if_icmp .ne 7, 3) := by decide +kernel
theorem dL_areRecords_308 : decode cL_areRecords 308 = .ok (.iconst 1, 1) := by decide +kernel
theorem dL_areRecords_309 : decode cL_areRecords 309 = .ok (.goto 4, 3) := by decide +kernel
theorem dL_areRecords_312 : decode cL_areRecords 312 = .ok (.iconst 0, 1) := by decide +kernel
theorem dL_areRecords_313 : decode cL_areRecords 313 = .ok (.ireturn, 1) := by decide +kernel
theorem dL_isSo_0 : decode cL_isSo 0 = .ok (.bipush 7, 2) := by decide +kernel
theorem dL_isSo_2 : decode cL_isSo 2 = .ok (.newarray .int, 2) := by decide +kernel
theorem dL_isSo_4 : decode cL_isSo 4 = .ok (.astore 4, 2) := by decide +kernel
theorem dL_isSo_6 : decode cL_isSo 6 = .ok (.aload_n 1, 1) := by decide +kernel
theorem dL_isSo_7 : decode cL_isSo 7 = .ok (.aload 4, 2) := by decide +kernel
theorem dL_isSo_9 : decode cL_isSo 9 = .ok (.invokestatic 27, 3) := by decide +kernel
theorem dL_isSo_12 : decode cL_isSo 12 = .ok (.aload_n 0, 1) := by decide +kernel
theorem dL_isSo_13 : decode cL_isSo 13 = .ok (.aload_n 1, 1) := by decide +kernel
theorem dL_isSo_14 : decode cL_isSo 14 = .ok (.aload_n 2, 1) := by decide +kernel
theorem dL_isSo_15 : decode cL_isSo 15 = .ok (.aload_n 3, 1) := by decide +kernel
theorem dL_isSo_16 : decode cL_isSo 16 = .ok (.invokestatic 75, 3) := by decide +kernel
theorem dL_isSo_19 : decode cL_isSo 19 = .ok (.ifCond .eq 98, 3) := by decide +kernel
theorem dL_isSo_22 : decode cL_isSo 22 = .ok (.aload_n 0, 1) := by decide +kernel
theorem dL_isSo_23 : decode cL_isSo 23 = .ok (.bipush 6, 2) := by decide +kernel
theorem dL_isSo_25 : decode cL_isSo 25 = .ok (.invokevirtual 79, 3) := by decide +kernel
theorem dL_isSo_28 : decode cL_isSo 28 = .ok (.ldc 82, 2) := by decide +kernel
theorem dL_isSo_30 : decode cL_isSo 30 = .ok (.aload_n 0, 1) := by decide +kernel
theorem dL_isSo_31 : decode cL_isSo 31 = .ok (.iconst 2, 1) := by decide +kernel
theorem dL_isSo_32 : decode cL_isSo 32 = .ok (.invokevirtual 68, 3) := by decide +kernel
theorem dL_isSo_35 : decode cL_isSo 35 = .ok (.iadd, 1) := by decide +kernel
theorem dL_isSo_36 : decode cL_isSo 36 = .ok (.aload_n 0, 1) := by decide +kernel
theorem dL_isSo_37 : decode cL_isSo 37 = .ok (.iconst 3, 1) := by decide +kernel
theorem dL_isSo_38 : decode cL_isSo 38 = .ok (.invokevirtual 68, 3) := by decide +kernel
theorem dL_isSo_41 : decode cL_isSo 41 = .ok (.isub, 1) := by decide +kernel
theorem dL_isSo_42 : decode cL_isSo 42 = .ok (.if_icmp .ne 75, 3) := by decide +kernel
theorem dL_isSo_45 : decode cL_isSo 45 = .ok (.aload_n 0, 1) := by decide +kernel
theorem dL_isSo_46 : decode cL_isSo 46 = .ok (.bipush 7, 2) := by decide +kernel
theorem dL_isSo_48 : decode cL_isSo 48 = .ok (.invokevirtual 79, 3) := by decide +kernel
theorem dL_isSo_51 : decode cL_isSo 51 = .ok (.aload_n 0, 1) := by decide +kernel
theorem dL_isSo_52 : decode cL_isSo 52 = .ok (.iconst 5, 1) := by decide +kernel
theorem dL_isSo_53 : decode cL_isSo 53 = .ok (.invokevirtual 68, 3) := by decide +kernel
theorem dL_isSo_56 : decode cL_isSo 56 = .ok (.aload_n 0, 1) := by decide +kernel
theorem dL_isSo_57 : decode cL_isSo 57 = .ok (.bipush 6, 2) := by decide +kernel
theorem dL_isSo_59 : decode cL_isSo 59 = .ok (.invokevirtual 68, 3) := by decide +kernel
theorem dL_isSo_62 : decode cL_isSo 62 = .ok (.isub, 1) := by decide +kernel
theorem dL_isSo_63 : decode cL_isSo 63 = .ok (.aload_n 0, 1) := by decide +kernel
theorem dL_isSo_64 : decode cL_isSo 64 = .ok (.iconst 4, 1) := by decide +kernel
theorem dL_isSo_65 : decode cL_isSo 65 = .ok (.invokevirtual 68, 3) := by decide +kernel
theorem dL_isSo_68 : decode cL_isSo 68 = .ok (.isub, 1) := by decide +kernel
theorem dL_isSo_69 : decode cL_isSo 69 = .ok (.if_icmp .ne 48, 3) := by decide +kernel
theorem dL_isSo_72 : decode cL_isSo 72 = .ok (.aload_n 0, 1) := by decide +kernel
theorem dL_isSo_73 : decode cL_isSo 73 = .ok (.bipush 6, 2) := by decide +kernel
theorem dL_isSo_75 : decode cL_isSo 75 = .ok (.invokevirtual 79, 3) := by decide +kernel
theorem dL_isSo_78 : decode cL_isSo 78 = .ok (.ifCond .lt 39, 3) := by decide +kernel
theorem dL_isSo_81 : decode cL_isSo 81 = .ok (.aload_n 0, 1) := by decide +kernel
theorem dL_isSo_82 : decode cL_isSo 82 = .ok (.bipush 6, 2) := by decide +kernel
theorem dL_isSo_84 : decode cL_isSo 84 = .ok (.invokevirtual 79, 3) := by decide +kernel
theorem dL_isSo_87 : decode cL_isSo 87 = .ok (.ldc 26, 2) := by decide +kernel
theorem dL_isSo_89 : decode cL_isSo 89 = .ok (.if_icmp .gt 28, 3) := by decide +kernel
theorem dL_isSo_92 : decode cL_isSo 92 = .ok (.aload_n 0, 1) := by decide +kernel
theorem dL_isSo_93 : decode cL_isSo 93 = .ok (.bipush 7, 2) := by decide +kernel
theorem dL_isSo_95 : decode cL_isSo 95 = .ok (.invokevirtual 79, 3) := by decide +kernel
theorem dL_isSo_98 : decode cL_isSo 98 = .ok (.ifCond .lt 19, 3) := by decide +kernel
theorem dL_isSo_101 : decode cL_isSo 101 = .ok (.aload_n 0, 1) := by decide +kernel
theorem dL_isSo_102 : decode cL_isSo 102 = .ok (.bipush 7, 2) := by decide +kernel
theorem dL_isSo_104 : decode cL_isSo 104 = .ok (.invokevirtual 79, 3) := by decide +kernel
theorem dL_isSo_107 : decode cL_isSo 107 = .ok (.sipush 20000, 3) := by decide +kernel
theorem dL_isSo_110 : decode cL_isSo 110 = .ok (.if_icmp .gt 7, 3) := by decide +kernel
theorem dL_isSo_113 : decode cL_isSo 113 = .ok (.iconst 1, 1) := by decide +kernel
theorem dL_isSo_114 : decode cL_isSo 114 = .ok (.goto 4, 3) := by decide +kernel
theorem dL_isSo_117 : decode cL_isSo 117 = .ok (.iconst 0, 1) := by decide +kernel
theorem dL_isSo_118 : decode cL_isSo 118 = .ok (.istore 5, 2) := by decide +kernel
theorem dL_isSo_120 : decode cL_isSo 120 = .ok (.iconst 0, 1) := by decide +kernel
theorem dL_isSo_121 : decode cL_isSo 121 = .ok (.istore 6, 2) := by decide +kernel
theorem dL_isSo_123 : decode cL_isSo 123 = .ok (.iload 6, 2) := by decide +kernel
theorem dL_isSo_125 : decode cL_isSo 125 = .ok (.bipush 7, 2) := by decide +kernel
theorem dL_isSo_127 : decode cL_isSo 127 = .ok (.if_icmp .ge 100, 3) := by decide +kernel
theorem dL_isSo_130 : decode cL_isSo 130 = .ok (.iload 5, 2) := by decide +kernel
theorem dL_isSo_132 : decode cL_isSo 132 = .ok (.ifCond .eq 95, 3) := by decide +kernel
theorem dL_isSo_135 : decode cL_isSo 135 = .ok (.aload_n 0, 1) := by decide +kernel
theorem dL_isSo_136 : decode cL_isSo 136 = .ok (.iload 6, 2) := by decide +kernel
theorem dL_isSo_138 : decode cL_isSo 138 = .ok (.invokevirtual 83, 3) := by decide +kernel
theorem dL_isSo_141 : decode cL_isSo 141 = .ok (.aload 4, 2) := by decide +kernel
theorem dL_isSo_143 : decode cL_isSo 143 = .ok (.iload 6, 2) := by decide +kernel
theorem dL_isSo_145 : decode cL_isSo 145 = .ok (.iaload, 1) := by decide +kernel
theorem dL_isSo_146 : decode cL_isSo 146 = .ok (.if_icmp .ne 72, 3) := by decide +kernel
theorem dL_isSo_149 : decode cL_isSo 149 = .ok (.aload_n 0, 1) := by decide +kernel
theorem dL_isSo_150 : decode cL_isSo 150 = .ok (.iload 6, 2) := by decide +kernel
theorem dL_isSo_152 : decode cL_isSo 152 = .ok (.invokevirtual 68, 3) := by decide +kernel
theorem dL_isSo_155 : decode cL_isSo 155 = .ok (.aload_n 1, 1) := by decide +kernel
theorem dL_isSo_156 : decode cL_isSo 156 = .ok (.bipush 11, 2) := by decide +kernel
theorem dL_isSo_158 : decode cL_isSo 158 = .ok (.iload 6, 2) := by decide +kernel
theorem dL_isSo_160 : decode cL_isSo 160 = .ok (.iadd, 1) := by decide +kernel
theorem dL_isSo_161 : decode cL_isSo 161 = .ok (.iaload, 1) := by decide +kernel
theorem dL_isSo_162 : decode cL_isSo 162 = .ok (.if_icmp .ne 56, 3) := by decide +kernel
theorem dL_isSo_165 : decode cL_isSo 165 = .ok (.iload 6, 2) := by decide +kernel
theorem dL_isSo_167 : decode cL_isSo 167 = .ok (.iconst 2, 1) := by decide +kernel
theorem dL_isSo_168 : decode cL_isSo 168 = .ok (.if_icmp .gt 22, 3) := by decide +kernel
theorem dL_isSo_171 : decode cL_isSo 171 = .ok (.aload_n 0, 1) := by decide +kernel
theorem dL_isSo_172 : decode cL_isSo 172 = .ok (.bipush 20, 2) := by decide +kernel
theorem dL_isSo_174 : decode cL_isSo 174 = .ok (.iload 6, 2) := by decide +kernel
theorem dL_isSo_176 : decode cL_isSo 176 = .ok (.iadd, 1) := by decide +kernel
theorem dL_isSo_177 : decode cL_isSo 177 = .ok (.invokevirtual 68, 3) := by decide +kernel
theorem dL_isSo_180 : decode cL_isSo 180 = .ok (.aload_n 1, 1) := by decide +kernel
theorem dL_isSo_181 : decode cL_isSo 181 = .ok (.bipush 8, 2) := by decide +kernel
theorem dL_isSo_183 : decode cL_isSo 183 = .ok (.iload 6, 2) := by decide +kernel
theorem dL_isSo_185 : decode cL_isSo 185 = .ok (.iadd, 1) := by decide +kernel
theorem dL_isSo_186 : decode cL_isSo 186 = .ok (.iaload, 1) := by decide +kernel
theorem dL_isSo_187 : decode cL_isSo 187 = .ok (.if_icmp .ne 31, 3) := by decide +kernel
theorem dL_isSo_190 : decode cL_isSo 190 = .ok (.iload 6, 2) := by decide +kernel
theorem dL_isSo_192 : decode cL_isSo 192 = .ok (.iconst 4, 1) := by decide +kernel
theorem dL_isSo_193 : decode cL_isSo 193 = .ok (.if_icmp .gt 21, 3) := by decide +kernel
theorem dL_isSo_196 : decode cL_isSo 196 = .ok (.aload_n 0, 1) := by decide +kernel
theorem dL_isSo_197 : decode cL_isSo 197 = .ok (.bipush 6, 2) := by decide +kernel
theorem dL_isSo_199 : decode cL_isSo 199 = .ok (.iload 6, 2) := by decide +kernel
theorem dL_isSo_201 : decode cL_isSo 201 = .ok (.iadd, 1) := by decide +kernel
theorem dL_isSo_202 : decode cL_isSo 202 = .ok (.invokevirtual 79, 3) := by decide +kernel
theorem dL_isSo_205 : decode cL_isSo 205 = .ok (.aload_n 1, 1) := by decide +kernel
theorem dL_isSo_206 : decode cL_isSo 206 = .ok (.iconst 1, 1) := by decide +kernel
theorem dL_isSo_207 : decode cL_isSo 207 = .ok (.iload 6, 2) := by decide +kernel
theorem dL_isSo_209 : decode cL_isSo 209 = .ok (.iadd, 1) := by decide +kernel
theorem dL_isSo_210 : decode cL_isSo 210 = .ok (.iaload, 1) := by decide +kernel
theorem dL_isSo_211 : decode cL_isSo 211 = .ok (.if_icmp .ne 7, 3) := by decide +kernel
theorem dL_isSo_214 : decode cL_isSo 214 = .ok (.iconst 1, 1) := by decide +kernel
theorem dL_isSo_215 : decode cL_isSo 215 = .ok (.goto 4, 3) := by decide +kernel
theorem dL_isSo_218 : decode cL_isSo 218 = .ok (.iconst 0, 1) := by decide +kernel
theorem dL_isSo_219 : decode cL_isSo 219 = .ok (.istore 5, 2) := by decide +kernel
theorem dL_isSo_221 : decode cL_isSo 221 = .ok (.iinc 6 1, 3) := by decide +kernel
theorem dL_isSo_224 : decode cL_isSo 224 = .ok (.goto (-101), 3) := by decide +kernel
theorem dL_isSo_227 : decode cL_isSo 227 = .ok (.iload 5, 2) := by decide +kernel
theorem dL_isSo_229 : decode cL_isSo 229 = .ok (.ifCond .eq 177, 3) := by decide +kernel
theorem dL_isSo_232 : decode cL_isSo 232 = .ok (.aload_n 0, 1) := by decide +kernel
theorem dL_isSo_233 : decode cL_isSo 233 = .ok (.iconst 0, 1) := by decide +kernel
theorem dL_isSo_234 : decode cL_isSo 234 = .ok (.invokevirtual 79, 3) := by decide +kernel
theorem dL_isSo_237 : decode cL_isSo 237 = .ok (.aload_n 1, 1) := by decide +kernel
theorem dL_isSo_238 : decode cL_isSo 238 = .ok (.iconst 0, 1) := by decide +kernel
theorem dL_isSo_239 : decode cL_isSo 239 = .ok (.iaload, 1) := by decide +kernel
theorem dL_isSo_240 : decode cL_isSo 240 = .ok (.if_icmp .ne 166, 3) := by decide +kernel
theorem dL_isSo_243 : decode cL_isSo 243 = .ok (.aload_n 0, 1) := by decide +kernel
theorem dL_isSo_244 : decode cL_isSo 244 = .ok (.iconst 1, 1) := by decide +kernel
theorem dL_isSo_245 : decode cL_isSo 245 = .ok (.invokevirtual 79, 3) := by decide +kernel
theorem dL_isSo_248 : decode cL_isSo 248 = .ok (.aload_n 1, 1) := by decide +kernel
theorem dL_isSo_249 : decode cL_isSo 249 = .ok (.iconst 0, 1) := by decide +kernel
theorem dL_isSo_250 : decode cL_isSo 250 = .ok (.iaload, 1) := by decide +kernel
theorem dL_isSo_251 : decode cL_isSo 251 = .ok (.sipush 144, 3) := by decide +kernel
theorem dL_isSo_254 : decode cL_isSo 254 = .ok (.idiv, 1) := by decide +kernel
theorem dL_isSo_255 : decode cL_isSo 255 = .ok (.if_icmp .ne 151, 3) := by decide +kernel
theorem dL_isSo_258 : decode cL_isSo 258 = .ok (.aload_n 0, 1) := by decide +kernel
theorem dL_isSo_259 : decode cL_isSo 259 = .ok (.iconst 2, 1) := by decide +kernel
theorem dL_isSo_260 : decode cL_isSo 260 = .ok (.invokevirtual 79, 3) := by decide +kernel
theorem dL_isSo_263 : decode cL_isSo 263 = .ok (.aload_n 1, 1) := by decide +kernel
theorem dL_isSo_264 : decode cL_isSo 264 = .ok (.iconst 0, 1) := by decide +kernel
theorem dL_isSo_265 : decode cL_isSo 265 = .ok (.iaload, 1) := by decide +kernel
theorem dL_isSo_266 : decode cL_isSo 266 = .ok (.sipush 144, 3) := by decide +kernel
theorem dL_isSo_269 : decode cL_isSo 269 = .ok (.irem, 1) := by decide +kernel
theorem dL_isSo_270 : decode cL_isSo 270 = .ok (.if_icmp .ne 136, 3) := by decide +kernel
theorem dL_isSo_273 : decode cL_isSo 273 = .ok (.aload_n 0, 1) := by decide +kernel
theorem dL_isSo_274 : decode cL_isSo 274 = .ok (.iconst 3, 1) := by decide +kernel
theorem dL_isSo_275 : decode cL_isSo 275 = .ok (.invokevirtual 79, 3) := by decide +kernel
theorem dL_isSo_278 : decode cL_isSo 278 = .ok (.aload_n 1, 1) := by decide +kernel
theorem dL_isSo_279 : decode cL_isSo 279 = .ok (.iconst 0, 1) := by decide +kernel
theorem dL_isSo_280 : decode cL_isSo 280 = .ok (.iaload, 1) := by decide +kernel
theorem dL_isSo_281 : decode cL_isSo 281 = .ok (.invokestatic 9, 3) := by decide +kernel
theorem dL_isSo_284 : decode cL_isSo 284 = .ok (.if_icmp .ne 122, 3) := by decide +kernel
theorem dL_isSo_287 : decode cL_isSo 287 = .ok (.aload_n 0, 1) := by decide +kernel
theorem dL_isSo_288 : decode cL_isSo 288 = .ok (.iconst 4, 1) := by decide +kernel
theorem dL_isSo_289 : decode cL_isSo 289 = .ok (.invokevirtual 79, 3) := by decide +kernel
theorem dL_isSo_292 : decode cL_isSo 292 = .ok (.aload_n 1, 1) := by decide +kernel
theorem dL_isSo_293 : decode cL_isSo 293 = .ok (.invokestatic 15, 3) := by decide +kernel
theorem dL_isSo_296 : decode cL_isSo 296 = .ok (.if_icmp .ne 110, 3) := by decide +kernel
theorem dL_isSo_299 : decode cL_isSo 299 = .ok (.aload_n 0, 1) := by decide +kernel
theorem dL_isSo_300 : decode cL_isSo 300 = .ok (.iconst 5, 1) := by decide +kernel
theorem dL_isSo_301 : decode cL_isSo 301 = .ok (.invokevirtual 79, 3) := by decide +kernel
theorem dL_isSo_304 : decode cL_isSo 304 = .ok (.aload_n 1, 1) := by decide +kernel
theorem dL_isSo_305 : decode cL_isSo 305 = .ok (.iconst 0, 1) := by decide +kernel
theorem dL_isSo_306 : decode cL_isSo 306 = .ok (.iaload, 1) := by decide +kernel
theorem dL_isSo_307 : decode cL_isSo 307 = .ok (.invokestatic 9, 3) := by decide +kernel
theorem dL_isSo_310 : decode cL_isSo 310 = .ok (.aload_n 1, 1) := by decide +kernel
theorem dL_isSo_311 : decode cL_isSo 311 = .ok (.invokestatic 15, 3) := by decide +kernel
theorem dL_isSo_314 : decode cL_isSo 314 = .ok (.isub, 1) := by decide +kernel
theorem dL_isSo_315 : decode cL_isSo 315 = .ok (.if_icmp .ne 91, 3) := by decide +kernel
theorem dL_isSo_318 : decode cL_isSo 318 = .ok (.aload_n 0, 1) := by decide +kernel
theorem dL_isSo_319 : decode cL_isSo 319 = .ok (.bipush 11, 2) := by decide +kernel
theorem dL_isSo_321 : decode cL_isSo 321 = .ok (.invokevirtual 79, 3) := by decide +kernel
theorem dL_isSo_324 : decode cL_isSo 324 = .ok (.aload_n 1, 1) := by decide +kernel
theorem dL_isSo_325 : decode cL_isSo 325 = .ok (.invokestatic 19, 3) := by decide +kernel
theorem dL_isSo_328 : decode cL_isSo 328 = .ok (.ifCond .eq 7, 3) := by decide +kernel
theorem dL_isSo_331 : decode cL_isSo 331 = .ok (.iconst 1, 1) := by decide +kernel
theorem dL_isSo_332 : decode cL_isSo 332 = .ok (.goto 4, 3) := by decide +kernel
theorem dL_isSo_335 : decode cL_isSo 335 = .ok (.iconst 0, 1) := by decide +kernel
theorem dL_isSo_336 : decode cL_isSo 336 = .ok (.if_icmp .ne 70, 3) := by decide +kernel
theorem dL_isSo_339 : decode cL_isSo 339 = .ok (.aload_n 0, 1) := by decide +kernel
theorem dL_isSo_340 : decode cL_isSo 340 = .ok (.bipush 12, 2) := by decide +kernel
theorem dL_isSo_342 : decode cL_isSo 342 = .ok (.invokevirtual 79, 3) := by decide +kernel
theorem dL_isSo_345 : decode cL_isSo 345 = .ok (.sipush 200, 3) := by decide +kernel
theorem dL_isSo_348 : decode cL_isSo 348 = .ok (.bipush 20, 2) := by decide +kernel
theorem dL_isSo_350 : decode cL_isSo 350 = .ok (.aload_n 1, 1) := by decide +kernel
theorem dL_isSo_351 : decode cL_isSo 351 = .ok (.iconst 0, 1) := by decide +kernel
theorem dL_isSo_352 : decode cL_isSo 352 = .ok (.iaload, 1) := by decide +kernel
theorem dL_isSo_353 : decode cL_isSo 353 = .ok (.sipush 144, 3) := by decide +kernel
theorem dL_isSo_356 : decode cL_isSo 356 = .ok (.idiv, 1) := by decide +kernel
theorem dL_isSo_357 : decode cL_isSo 357 = .ok (.bipush 14, 2) := by decide +kernel
theorem dL_isSo_359 : decode cL_isSo 359 = .ok (.irem, 1) := by decide +kernel
theorem dL_isSo_360 : decode cL_isSo 360 = .ok (.bipush 7, 2) := by decide +kernel
theorem dL_isSo_362 : decode cL_isSo 362 = .ok (.isub, 1) := by decide +kernel
theorem dL_isSo_363 : decode cL_isSo 363 = .ok (.invokestatic 23, 3) := by decide +kernel
theorem dL_isSo_366 : decode cL_isSo 366 = .ok (.imul, 1) := by decide +kernel
theorem dL_isSo_367 : decode cL_isSo 367 = .ok (.iadd, 1) := by decide +kernel
theorem dL_isSo_368 : decode cL_isSo 368 = .ok (.if_icmp .ne 38, 3) := by decide +kernel
theorem dL_isSo_371 : decode cL_isSo 371 = .ok (.aload_n 0, 1) := by decide +kernel
theorem dL_isSo_372 : decode cL_isSo 372 = .ok (.bipush 13, 2) := by decide +kernel
theorem dL_isSo_374 : decode cL_isSo 374 = .ok (.invokevirtual 79, 3) := by decide +kernel
theorem dL_isSo_377 : decode cL_isSo 377 = .ok (.ldc 67, 2) := by decide +kernel
theorem dL_isSo_379 : decode cL_isSo 379 = .ok (.if_icmp .ne 27, 3) := by decide +kernel
theorem dL_isSo_382 : decode cL_isSo 382 = .ok (.aload_n 0, 1) := by decide +kernel
theorem dL_isSo_383 : decode cL_isSo 383 = .ok (.bipush 7, 2) := by decide +kernel
theorem dL_isSo_385 : decode cL_isSo 385 = .ok (.invokevirtual 83, 3) := by decide +kernel
theorem dL_isSo_388 : decode cL_isSo 388 = .ok (.ldc 67, 2) := by decide +kernel
theorem dL_isSo_390 : decode cL_isSo 390 = .ok (.if_icmp .ne 16, 3) := by decide +kernel
theorem dL_isSo_393 : decode cL_isSo 393 = .ok (.aload_n 0, 1) := by decide +kernel
theorem dL_isSo_394 : decode cL_isSo 394 = .ok (.bipush 9, 2) := by decide +kernel
theorem dL_isSo_396 : decode cL_isSo 396 = .ok (.invokevirtual 68, 3) := by decide +kernel
theorem dL_isSo_399 : decode cL_isSo 399 = .ok (.ifCond .ne 7, 3) := by decide +kernel
theorem dL_isSo_402 : decode cL_isSo 402 = .ok (.iconst 1, 1) := by decide +kernel
theorem dL_isSo_403 : decode cL_isSo 403 = .ok (.goto 4, 3) := by decide +kernel
theorem dL_isSo_406 : decode cL_isSo 406 = .ok (.iconst 0, 1) := by decide +kernel
theorem dL_isSo_407 : decode cL_isSo 407 = .ok (.ireturn, 1) := by decide +kernel
theorem dL_law_0 : decode cL_law 0 = .ok (.new 37, 3) := by decide +kernel
theorem dL_law_3 : decode cL_law 3 = .ok (.dup, 1) := by decide +kernel
theorem dL_law_4 : decode cL_law 4 = .ok (.invokespecial 86, 3) := by decide +kernel
theorem dL_law_7 : decode cL_law 7 = .ok (.astore_n 1, 1) := by decide +kernel
theorem dL_law_8 : decode cL_law 8 = .ok (.bipush 18, 2) := by decide +kernel
theorem dL_law_10 : decode cL_law 10 = .ok (.newarray .int, 2) := by decide +kernel
theorem dL_law_12 : decode cL_law 12 = .ok (.astore_n 2, 1) := by decide +kernel
theorem dL_law_13 : decode cL_law 13 = .ok (.bipush 60, 2) := by decide +kernel
theorem dL_law_15 : decode cL_law 15 = .ok (.newarray .int, 2) := by decide +kernel
theorem dL_law_17 : decode cL_law 17 = .ok (.astore_n 3, 1) := by decide +kernel
theorem dL_law_18 : decode cL_law 18 = .ok (.bipush 10, 2) := by decide +kernel
theorem dL_law_20 : decode cL_law 20 = .ok (.newarray .int, 2) := by decide +kernel
theorem dL_law_22 : decode cL_law 22 = .ok (.astore 4, 2) := by decide +kernel
theorem dL_law_24 : decode cL_law 24 = .ok (.aload_n 2, 1) := by decide +kernel
theorem dL_law_25 : decode cL_law 25 = .ok (.iconst 1, 1) := by decide +kernel
theorem dL_law_26 : decode cL_law 26 = .ok (.ldc 82, 2) := by decide +kernel
theorem dL_law_28 : decode cL_law 28 = .ok (.iastore, 1) := by decide +kernel
theorem dL_law_29 : decode cL_law 29 = .ok (.aload_n 2, 1) := by decide +kernel
theorem dL_law_30 : decode cL_law 30 = .ok (.bipush 8, 2) := by decide +kernel
theorem dL_law_32 : decode cL_law 32 = .ok (.bipush 120, 2) := by decide +kernel
theorem dL_law_34 : decode cL_law 34 = .ok (.iastore, 1) := by decide +kernel
theorem dL_law_35 : decode cL_law 35 = .ok (.aload_n 2, 1) := by decide +kernel
theorem dL_law_36 : decode cL_law 36 = .ok (.bipush 9, 2) := by decide +kernel
theorem dL_law_38 : decode cL_law 38 = .ok (.bipush 40, 2) := by decide +kernel
theorem dL_law_40 : decode cL_law 40 = .ok (.iastore, 1) := by decide +kernel
theorem dL_law_41 : decode cL_law 41 = .ok (.aload_n 2, 1) := by decide +kernel
theorem dL_law_42 : decode cL_law 42 = .ok (.bipush 10, 2) := by decide +kernel
theorem dL_law_44 : decode cL_law 44 = .ok (.sipush 1500, 3) := by decide +kernel
theorem dL_law_47 : decode cL_law 47 = .ok (.iastore, 1) := by decide +kernel
theorem dL_law_48 : decode cL_law 48 = .ok (.iconst 0, 1) := by decide +kernel
theorem dL_law_49 : decode cL_law 49 = .ok (.istore 5, 2) := by decide +kernel
theorem dL_law_51 : decode cL_law 51 = .ok (.iload 5, 2) := by decide +kernel
theorem dL_law_53 : decode cL_law 53 = .ok (.bipush 10, 2) := by decide +kernel
theorem dL_law_55 : decode cL_law 55 = .ok (.if_icmp .ge 15, 3) := by decide +kernel
theorem dL_law_58 : decode cL_law 58 = .ok (.aload 4, 2) := by decide +kernel
theorem dL_law_60 : decode cL_law 60 = .ok (.iload 5, 2) := by decide +kernel
theorem dL_law_62 : decode cL_law 62 = .ok (.iconst (-1), 1) := by decide +kernel
theorem dL_law_63 : decode cL_law 63 = .ok (.iastore, 1) := by decide +kernel
theorem dL_law_64 : decode cL_law 64 = .ok (.iinc 5 1, 3) := by decide +kernel
theorem dL_law_67 : decode cL_law 67 = .ok (.goto (-16), 3) := by decide +kernel
theorem dL_law_70 : decode cL_law 70 = .ok (.aload_n 1, 1) := by decide +kernel
theorem dL_law_71 : decode cL_law 71 = .ok (.iconst 0, 1) := by decide +kernel
theorem dL_law_72 : decode cL_law 72 = .ok (.invokevirtual 79, 3) := by decide +kernel
theorem dL_law_75 : decode cL_law 75 = .ok (.ifCond .ne 7, 3) := by decide +kernel
theorem dL_law_78 : decode cL_law 78 = .ok (.iconst 1, 1) := by decide +kernel
theorem dL_law_79 : decode cL_law 79 = .ok (.goto 4, 3) := by decide +kernel
theorem dL_law_82 : decode cL_law 82 = .ok (.iconst 0, 1) := by decide +kernel
theorem dL_law_83 : decode cL_law 83 = .ok (.istore 5, 2) := by decide +kernel
theorem dL_law_85 : decode cL_law 85 = .ok (.iconst 0, 1) := by decide +kernel
theorem dL_law_86 : decode cL_law 86 = .ok (.istore 6, 2) := by decide +kernel
theorem dL_law_88 : decode cL_law 88 = .ok (.iload 6, 2) := by decide +kernel
theorem dL_law_90 : decode cL_law 90 = .ok (.iconst 3, 1) := by decide +kernel
theorem dL_law_91 : decode cL_law 91 = .ok (.if_icmp .ge 66, 3) := by decide +kernel
theorem dL_law_94 : decode cL_law 94 = .ok (.iload 5, 2) := by decide +kernel
theorem dL_law_96 : decode cL_law 96 = .ok (.ifCond .eq 61, 3) := by decide +kernel
theorem dL_law_99 : decode cL_law 99 = .ok (.aload_n 1, 1) := by decide +kernel
theorem dL_law_100 : decode cL_law 100 = .ok (.aload_n 2, 1) := by decide +kernel
theorem dL_law_101 : decode cL_law 101 = .ok (.aload_n 3, 1) := by decide +kernel
theorem dL_law_102 : decode cL_law 102 = .ok (.aload 4, 2) := by decide +kernel
theorem dL_law_104 : decode cL_law 104 = .ok (.aload_n 0, 1) := by decide +kernel
theorem dL_law_105 : decode cL_law 105 = .ok (.iconst 1, 1) := by decide +kernel
theorem dL_law_106 : decode cL_law 106 = .ok (.iload 6, 2) := by decide +kernel
theorem dL_law_108 : decode cL_law 108 = .ok (.iadd, 1) := by decide +kernel
theorem dL_law_109 : decode cL_law 109 = .ok (.invokestatic 87, 3) := by decide +kernel
theorem dL_law_112 : decode cL_law 112 = .ok (.ldc 8, 2) := by decide +kernel
theorem dL_law_114 : decode cL_law 114 = .ok (.iand, 1) := by decide +kernel
theorem dL_law_115 : decode cL_law 115 = .ok (.sipush 192, 3) := by decide +kernel
theorem dL_law_118 : decode cL_law 118 = .ok (.idiv, 1) := by decide +kernel
theorem dL_law_119 : decode cL_law 119 = .ok (.sipush 192, 3) := by decide +kernel
theorem dL_law_122 : decode cL_law 122 = .ok (.imul, 1) := by decide +kernel
theorem dL_law_123 : decode cL_law 123 = .ok (.iload 6, 2) := by decide +kernel
theorem dL_law_125 : decode cL_law 125 = .ok (.ifCond .ne 7, 3) := by decide +kernel
theorem dL_law_128 : decode cL_law 128 = .ok (.iconst 0, 1) := by decide +kernel
theorem dL_law_129 : decode cL_law 129 = .ok (.goto 16, 3) := by decide +kernel
theorem dL_law_132 : decode cL_law 132 = .ok (.iload 6, 2) := by decide +kernel
theorem dL_law_134 : decode cL_law 134 = .ok (.iconst 1, 1) := by decide +kernel
theorem dL_law_135 : decode cL_law 135 = .ok (.if_icmp .ne 8, 3) := by decide +kernel
theorem dL_law_138 : decode cL_law 138 = .ok (.bipush 6, 2) := by decide +kernel
theorem dL_law_140 : decode cL_law 140 = .ok (.goto 5, 3) := by decide +kernel
theorem dL_law_143 : decode cL_law 143 = .ok (.bipush 10, 2) := by decide +kernel
theorem dL_law_145 : decode cL_law 145 = .ok (.iadd, 1) := by decide +kernel
theorem dL_law_146 : decode cL_law 146 = .ok (.invokestatic 91, 3) := by decide +kernel
theorem dL_law_149 : decode cL_law 149 = .ok (.istore 5, 2) := by decide +kernel
theorem dL_law_151 : decode cL_law 151 = .ok (.iinc 6 1, 3) := by decide +kernel
theorem dL_law_154 : decode cL_law 154 = .ok (.goto (-66), 3) := by decide +kernel
theorem dL_law_157 : decode cL_law 157 = .ok (.iload 5, 2) := by decide +kernel
theorem dL_law_159 : decode cL_law 159 = .ok (.ifCond .eq 18, 3) := by decide +kernel
theorem dL_law_162 : decode cL_law 162 = .ok (.aload_n 1, 1) := by decide +kernel
theorem dL_law_163 : decode cL_law 163 = .ok (.aload_n 2, 1) := by decide +kernel
theorem dL_law_164 : decode cL_law 164 = .ok (.aload_n 3, 1) := by decide +kernel
theorem dL_law_165 : decode cL_law 165 = .ok (.aload 4, 2) := by decide +kernel
theorem dL_law_167 : decode cL_law 167 = .ok (.invokestatic 95, 3) := by decide +kernel
theorem dL_law_170 : decode cL_law 170 = .ok (.ifCond .eq 7, 3) := by decide +kernel
theorem dL_law_173 : decode cL_law 173 = .ok (.iconst 1, 1) := by decide +kernel
theorem dL_law_174 : decode cL_law 174 = .ok (.goto 4, 3) := by decide +kernel
theorem dL_law_177 : decode cL_law 177 = .ok (.iconst 0, 1) := by decide +kernel
theorem dL_law_178 : decode cL_law 178 = .ok (.istore 5, 2) := by decide +kernel
theorem dL_law_180 : decode cL_law 180 = .ok (.bipush 12, 2) := by decide +kernel
theorem dL_law_182 : decode cL_law 182 = .ok (.aload_n 0, 1) := by decide +kernel
theorem dL_law_183 : decode cL_law 183 = .ok (.iconst 0, 1) := by decide +kernel
theorem dL_law_184 : decode cL_law 184 = .ok (.invokestatic 87, 3) := by decide +kernel
theorem dL_law_187 : decode cL_law 187 = .ok (.bipush 56, 2) := by decide +kernel
theorem dL_law_189 : decode cL_law 189 = .ok (.invokestatic 32, 3) := by decide +kernel
theorem dL_law_192 : decode cL_law 192 = .ok (.iadd, 1) := by decide +kernel
theorem dL_law_193 : decode cL_law 193 = .ok (.istore 6, 2) := by decide +kernel
theorem dL_law_195 : decode cL_law 195 = .ok (.iconst 0, 1) := by decide +kernel
theorem dL_law_196 : decode cL_law 196 = .ok (.istore 7, 2) := by decide +kernel
theorem dL_law_198 : decode cL_law 198 = .ok (.iload 7, 2) := by decide +kernel
theorem dL_law_200 : decode cL_law 200 = .ok (.iload 6, 2) := by decide +kernel
theorem dL_law_202 : decode cL_law 202 = .ok (.if_icmp .ge 58, 3) := by decide +kernel
theorem dL_law_205 : decode cL_law 205 = .ok (.iload 5, 2) := by decide +kernel
theorem dL_law_207 : decode cL_law 207 = .ok (.ifCond .eq 53, 3) := by decide +kernel
theorem dL_law_210 : decode cL_law 210 = .ok (.aload_n 1, 1) := by decide +kernel
theorem dL_law_211 : decode cL_law 211 = .ok (.aload_n 2, 1) := by decide +kernel
theorem dL_law_212 : decode cL_law 212 = .ok (.aload_n 3, 1) := by decide +kernel
theorem dL_law_213 : decode cL_law 213 = .ok (.aload 4, 2) := by decide +kernel
theorem dL_law_215 : decode cL_law 215 = .ok (.aload_n 0, 1) := by decide +kernel
theorem dL_law_216 : decode cL_law 216 = .ok (.iconst 4, 1) := by decide +kernel
theorem dL_law_217 : decode cL_law 217 = .ok (.iload 7, 2) := by decide +kernel
theorem dL_law_219 : decode cL_law 219 = .ok (.iadd, 1) := by decide +kernel
theorem dL_law_220 : decode cL_law 220 = .ok (.invokestatic 87, 3) := by decide +kernel
theorem dL_law_223 : decode cL_law 223 = .ok (.sipush 7919, 3) := by decide +kernel
theorem dL_law_226 : decode cL_law 226 = .ok (.iload 7, 2) := by decide +kernel
theorem dL_law_228 : decode cL_law 228 = .ok (.imul, 1) := by decide +kernel
theorem dL_law_229 : decode cL_law 229 = .ok (.ixor, 1) := by decide +kernel
theorem dL_law_230 : decode cL_law 230 = .ok (.invokestatic 91, 3) := by decide +kernel
theorem dL_law_233 : decode cL_law 233 = .ok (.ifCond .eq 18, 3) := by decide +kernel
theorem dL_law_236 : decode cL_law 236 = .ok (.aload_n 1, 1) := by decide +kernel
theorem dL_law_237 : decode cL_law 237 = .ok (.aload_n 2, 1) := by decide +kernel
theorem dL_law_238 : decode cL_law 238 = .ok (.aload_n 3, 1) := by decide +kernel
theorem dL_law_239 : decode cL_law 239 = .ok (.aload 4, 2) := by decide +kernel
theorem dL_law_241 : decode cL_law 241 = .ok (.invokestatic 95, 3) := by decide +kernel
theorem dL_law_244 : decode cL_law 244 = .ok (.ifCond .eq 7, 3) := by decide +kernel
theorem dL_law_247 : decode cL_law 247 = .ok (.iconst 1, 1) := by decide +kernel
theorem dL_law_248 : decode cL_law 248 = .ok (.goto 4, 3) := by decide +kernel
theorem dL_law_251 : decode cL_law 251 = .ok (.iconst 0, 1) := by decide +kernel
theorem dL_law_252 : decode cL_law 252 = .ok (.istore 5, 2) := by decide +kernel
theorem dL_law_254 : decode cL_law 254 = .ok (.iinc 7 1, 3) := by decide +kernel
theorem dL_law_257 : decode cL_law 257 = .ok (.goto (-59), 3) := by decide +kernel
theorem dL_law_260 : decode cL_law 260 = .ok (.iload 5, 2) := by decide +kernel
theorem dL_law_262 : decode cL_law 262 = .ok (.ifCond .eq 40, 3) := by decide +kernel
theorem dL_law_265 : decode cL_law 265 = .ok (.aload_n 1, 1) := by decide +kernel
theorem dL_law_266 : decode cL_law 266 = .ok (.bipush 10, 2) := by decide +kernel
theorem dL_law_268 : decode cL_law 268 = .ok (.invokevirtual 68, 3) := by decide +kernel
theorem dL_law_271 : decode cL_law 271 = .ok (.ldc 67, 2) := by decide +kernel
theorem dL_law_273 : decode cL_law 273 = .ok (.if_icmp .ne 29, 3) := by decide +kernel
theorem dL_law_276 : decode cL_law 276 = .ok (.aload_n 1, 1) := by decide +kernel
theorem dL_law_277 : decode cL_law 277 = .ok (.bipush 19, 2) := by decide +kernel
theorem dL_law_279 : decode cL_law 279 = .ok (.invokevirtual 68, 3) := by decide +kernel
theorem dL_law_282 : decode cL_law 282 = .ok (.ldc 67, 2) := by decide +kernel
theorem dL_law_284 : decode cL_law 284 = .ok (.if_icmp .ne 18, 3) := by decide +kernel
theorem dL_law_287 : decode cL_law 287 = .ok (.aload_n 1, 1) := by decide +kernel
theorem dL_law_288 : decode cL_law 288 = .ok (.bipush 23, 2) := by decide +kernel
theorem dL_law_290 : decode cL_law 290 = .ok (.invokevirtual 68, 3) := by decide +kernel
theorem dL_law_293 : decode cL_law 293 = .ok (.ldc 67, 2) := by decide +kernel
theorem dL_law_295 : decode cL_law 295 = .ok (.if_icmp .ne 7, 3) := by decide +kernel
theorem dL_law_298 : decode cL_law 298 = .ok (.iconst 1, 1) := by decide +kernel
theorem dL_law_299 : decode cL_law 299 = .ok (.goto 4, 3) := by decide +kernel
theorem dL_law_302 : decode cL_law 302 = .ok (.iconst 0, 1) := by decide +kernel
theorem dL_law_303 : decode cL_law 303 = .ok (.ireturn, 1) := by decide +kernel
