theorem dX3_setCracked_14 : decode cX3_setCracked 14 = .ok (.iload_n 3, 1) := by decide +kernel
theorem dX3_setCracked_15 : decode cX3_setCracked 15 = .ok (.ireturn, 1) := by decide +kernel
set_option maxRecDepth 20000 in
theorem ggX3_passHour_X3_within : GoodIn wsX3_passHour wsX3_within := goodIn_r _ [6, 7, 8, 9, 10, 11, 12, 13] (by decide +kernel) (by decide +kernel)
set_option maxRecDepth 20000 in
theorem gX3_passHour_X3_within : GoodIn wsX3_passHour (va_wsS RX3 22 yX3_within wsX3_within) := goodIn_app (goodIn_of _ (by decide +kernel)) ggX3_passHour_X3_within
theorem dX3_passHour_0 : decode cX3_passHour 0 = .ok (.iload_n 1, 1) := by decide +kernel
theorem dX3_passHour_1 : decode cX3_passHour 1 = .ok (.ifCond .ge 10, 3) := by decide +kernel
theorem dX3_passHour_4 : decode cX3_passHour 4 = .ok (.iload_n 1, 1) := by decide +kernel
theorem dX3_passHour_5 : decode cX3_passHour 5 = .ok (.ineg, 1) := by decide +kernel
theorem dX3_passHour_6 : decode cX3_passHour 6 = .ok (.iconst 4, 1) := by decide +kernel
theorem dX3_passHour_7 : decode cX3_passHour 7 = .ok (.idiv, 1) := by decide +kernel
theorem dX3_passHour_8 : decode cX3_passHour 8 = .ok (.goto 7, 3) := by decide +kernel
theorem dX3_passHour_11 : decode cX3_passHour 11 = .ok (.bipush (-3), 2) := by decide +kernel
theorem dX3_passHour_13 : decode cX3_passHour 13 = .ok (.iload_n 1, 1) := by decide +kernel
theorem dX3_passHour_14 : decode cX3_passHour 14 = .ok (.imul, 1) := by decide +kernel
theorem dX3_passHour_15 : decode cX3_passHour 15 = .ok (.istore_n 2, 1) := by decide +kernel
theorem dX3_passHour_16 : decode cX3_passHour 16 = .ok (.iload_n 1, 1) := by decide +kernel
theorem dX3_passHour_17 : decode cX3_passHour 17 = .ok (.ifCond .ge 11, 3) := by decide +kernel
theorem dX3_passHour_20 : decode cX3_passHour 20 = .ok (.iconst 3, 1) := by decide +kernel
theorem dX3_passHour_21 : decode cX3_passHour 21 = .ok (.iload_n 1, 1) := by decide +kernel
theorem dX3_passHour_22 : decode cX3_passHour 22 = .ok (.isub, 1) := by decide +kernel
theorem dX3_passHour_23 : decode cX3_passHour 23 = .ok (.iconst 4, 1) := by decide +kernel
theorem dX3_passHour_24 : decode cX3_passHour 24 = .ok (.idiv, 1) := by decide +kernel
theorem dX3_passHour_25 : decode cX3_passHour 25 = .ok (.goto 5, 3) := by decide +kernel
theorem dX3_passHour_28 : decode cX3_passHour 28 = .ok (.iload_n 1, 1) := by decide +kernel
theorem dX3_passHour_29 : decode cX3_passHour 29 = .ok (.ineg, 1) := by decide +kernel
theorem dX3_passHour_30 : decode cX3_passHour 30 = .ok (.istore_n 3, 1) := by decide +kernel
theorem dX3_passHour_31 : decode cX3_passHour 31 = .ok (.iconst 0, 1) := by decide +kernel
theorem dX3_passHour_32 : decode cX3_passHour 32 = .ok (.istore 4, 2) := by decide +kernel
theorem dX3_passHour_34 : decode cX3_passHour 34 = .ok (.iload 4, 2) := by decide +kernel
theorem dX3_passHour_36 : decode cX3_passHour 36 = .ok (.sipush 144, 3) := by decide +kernel
theorem dX3_passHour_39 : decode cX3_passHour 39 = .ok (.if_icmp .ge 47, 3) := by decide +kernel
theorem dX3_passHour_42 : decode cX3_passHour 42 = .ok (.aload_n 0, 1) := by decide +kernel
theorem dX3_passHour_43 : decode cX3_passHour 43 = .ok (.getfield 9, 3) := by decide +kernel
theorem dX3_passHour_46 : decode cX3_passHour 46 = .ok (.iload 4, 2) := by decide +kernel
theorem dX3_passHour_48 : decode cX3_passHour 48 = .ok (.aload_n 0, 1) := by decide +kernel
theorem dX3_passHour_49 : decode cX3_passHour 49 = .ok (.getfield 9, 3) := by decide +kernel
theorem dX3_passHour_52 : decode cX3_passHour 52 = .ok (.iload 4, 2) := by decide +kernel
theorem dX3_passHour_54 : decode cX3_passHour 54 = .ok (.iaload, 1) := by decide +kernel
theorem dX3_passHour_55 : decode cX3_passHour 55 = .ok (.iload_n 2, 1) := by decide +kernel
theorem dX3_passHour_56 : decode cX3_passHour 56 = .ok (.iadd, 1) := by decide +kernel
theorem dX3_passHour_57 : decode cX3_passHour 57 = .ok (.invokestatic 22, 3) := by decide +kernel
theorem dX3_passHour_60 : decode cX3_passHour 60 = .ok (.iastore, 1) := by decide +kernel
theorem dX3_passHour_61 : decode cX3_passHour 61 = .ok (.aload_n 0, 1) := by decide +kernel
theorem dX3_passHour_62 : decode cX3_passHour 62 = .ok (.getfield 15, 3) := by decide +kernel
theorem dX3_passHour_65 : decode cX3_passHour 65 = .ok (.iload 4, 2) := by decide +kernel
theorem dX3_passHour_67 : decode cX3_passHour 67 = .ok (.aload_n 0, 1) := by decide +kernel
theorem dX3_passHour_68 : decode cX3_passHour 68 = .ok (.getfield 15, 3) := by decide +kernel
theorem dX3_passHour_71 : decode cX3_passHour 71 = .ok (.iload 4, 2) := by decide +kernel
theorem dX3_passHour_73 : decode cX3_passHour 73 = .ok (.iaload, 1) := by decide +kernel
theorem dX3_passHour_74 : decode cX3_passHour 74 = .ok (.iload_n 3, 1) := by decide +kernel
theorem dX3_passHour_75 : decode cX3_passHour 75 = .ok (.iadd, 1) := by decide +kernel
theorem dX3_passHour_76 : decode cX3_passHour 76 = .ok (.invokestatic 22, 3) := by decide +kernel
theorem dX3_passHour_79 : decode cX3_passHour 79 = .ok (.iastore, 1) := by decide +kernel
theorem dX3_passHour_80 : decode cX3_passHour 80 = .ok (.iinc 4 1, 3) := by decide +kernel
theorem dX3_passHour_83 : decode cX3_passHour 83 = .ok (.goto (-49), 3) := by decide +kernel
theorem dX3_passHour_86 : decode cX3_passHour 86 = .ok (.return_, 1) := by decide +kernel
theorem dX3_within_0 : decode cX3_within 0 = .ok (.iconst 0, 1) := by decide +kernel
theorem dX3_within_1 : decode cX3_within 1 = .ok (.sipush 5000, 3) := by decide +kernel
theorem dX3_within_4 : decode cX3_within 4 = .ok (.iload_n 0, 1) := by decide +kernel
theorem dX3_within_5 : decode cX3_within 5 = .ok (.invokestatic 26, 3) := by decide +kernel
theorem dX3_within_8 : decode cX3_within 8 = .ok (.invokestatic 32, 3) := by decide +kernel
theorem dX3_within_11 : decode cX3_within 11 = .ok (.ireturn, 1) := by decide +kernel
set_option maxRecDepth 20000 in
theorem ggX3_isSafe_X8_isCell : GoodIn wsX3_isSafe wsX8_isCell := goodIn_r _ [5] (by decide +kernel) (by decide +kernel)
set_option maxRecDepth 20000 in
theorem gX3_isSafe_X8_isCell_n35 : GoodIn wsX3_isSafe (wsX8_isCell) := ggX3_isSafe_X8_isCell
theorem dX3_isSafe_0 : decode cX3_isSafe 0 = .ok (.iload_n 1, 1) := by decide +kernel
theorem dX3_isSafe_1 : decode cX3_isSafe 1 = .ok (.invokestatic 35, 3) := by decide +kernel
theorem dX3_isSafe_4 : decode cX3_isSafe 4 = .ok (.ifCond .eq 26, 3) := by decide +kernel
theorem dX3_isSafe_7 : decode cX3_isSafe 7 = .ok (.aload_n 0, 1) := by decide +kernel
theorem dX3_isSafe_8 : decode cX3_isSafe 8 = .ok (.getfield 9, 3) := by decide +kernel
theorem dX3_isSafe_11 : decode cX3_isSafe 11 = .ok (.iload_n 1, 1) := by decide +kernel
theorem dX3_isSafe_12 : decode cX3_isSafe 12 = .ok (.iaload, 1) := by decide +kernel
theorem dX3_isSafe_13 : decode cX3_isSafe 13 = .ok (.iload_n 2, 1) := by decide +kernel
theorem dX3_isSafe_14 : decode cX3_isSafe 14 = .ok (.if_icmp .lt 16, 3) := by decide +kernel
theorem dX3_isSafe_17 : decode cX3_isSafe 17 = .ok (.aload_n 0, 1) := by decide +kernel
theorem dX3_isSafe_18 : decode cX3_isSafe 18 = .ok (.getfield 18, 3) := by decide +kernel
theorem dX3_isSafe_21 : decode cX3_isSafe 21 = .ok (.iload_n 1, 1) := by decide +kernel
theorem dX3_isSafe_22 : decode cX3_isSafe 22 = .ok (.baload, 1) := by decide +kernel
theorem dX3_isSafe_23 : decode cX3_isSafe 23 = .ok (.ifCond .ne 7, 3) := by decide +kernel
theorem dX3_isSafe_26 : decode cX3_isSafe 26 = .ok (.iconst 1, 1) := by decide +kernel
theorem dX3_isSafe_27 : decode cX3_isSafe 27 = .ok (.goto 4, 3) := by decide +kernel
theorem dX3_isSafe_30 : decode cX3_isSafe 30 = .ok (.iconst 0, 1) := by decide +kernel
theorem dX3_isSafe_31 : decode cX3_isSafe 31 = .ok (.ireturn, 1) := by decide +kernel
set_option maxRecDepth 20000 in
theorem ggX3_safeCells_X3_isSafe : GoodIn wsX3_safeCells wsX3_isSafe := goodIn_r _ [5, 6, 7, 8, 9, 10, 11, 12, 13] (by decide +kernel) (by decide +kernel)
set_option maxRecDepth 20000 in
theorem gX3_safeCells_X3_isSafe : GoodIn wsX3_safeCells (wsV RX3 39 RX3 yX3_isSafe wsX3_isSafe) := goodIn_app (goodIn_of _ (by decide +kernel)) ggX3_safeCells_X3_isSafe
theorem dX3_safeCells_0 : decode cX3_safeCells 0 = .ok (.iconst 0, 1) := by decide +kernel
theorem dX3_safeCells_1 : decode cX3_safeCells 1 = .ok (.istore_n 2, 1) := by decide +kernel
theorem dX3_safeCells_2 : decode cX3_safeCells 2 = .ok (.iconst 0, 1) := by decide +kernel
theorem dX3_safeCells_3 : decode cX3_safeCells 3 = .ok (.istore_n 3, 1) := by decide +kernel
theorem dX3_safeCells_4 : decode cX3_safeCells 4 = .ok (.iload_n 3, 1) := by decide +kernel
theorem dX3_safeCells_5 : decode cX3_safeCells 5 = .ok (.sipush 144, 3) := by decide +kernel
theorem dX3_safeCells_8 : decode cX3_safeCells 8 = .ok (.if_icmp .ge 21, 3) := by decide +kernel
theorem dX3_safeCells_11 : decode cX3_safeCells 11 = .ok (.aload_n 0, 1) := by decide +kernel
theorem dX3_safeCells_12 : decode cX3_safeCells 12 = .ok (.iload_n 3, 1) := by decide +kernel
theorem dX3_safeCells_13 : decode cX3_safeCells 13 = .ok (.iload_n 1, 1) := by decide +kernel
theorem dX3_safeCells_14 : decode cX3_safeCells 14 = .ok (.invokevirtual 39, 3) := by decide +kernel
theorem dX3_safeCells_17 : decode cX3_safeCells 17 = .ok (.ifCond .eq 6, 3) := by decide +kernel
theorem dX3_safeCells_20 : decode cX3_safeCells 20 = .ok (.iinc 2 1, 3) := by decide +kernel
theorem dX3_safeCells_23 : decode cX3_safeCells 23 = .ok (.iinc 3 1, 3) := by decide +kernel
theorem dX3_safeCells_26 : decode cX3_safeCells 26 = .ok (.goto (-22), 3) := by decide +kernel
theorem dX3_safeCells_29 : decode cX3_safeCells 29 = .ok (.iload_n 2, 1) := by decide +kernel
theorem dX3_safeCells_30 : decode cX3_safeCells 30 = .ok (.ireturn, 1) := by decide +kernel
set_option maxRecDepth 20000 in
theorem ggX3_safeHours_X3_isSafe : GoodIn wsX3_safeHours wsX3_isSafe := goodIn_r _ [6, 1, 7, 8, 9, 10, 11, 12, 13] (by decide +kernel) (by decide +kernel)
set_option maxRecDepth 20000 in
theorem gX3_safeHours_X3_isSafe : GoodIn wsX3_safeHours (wsV RX3 39 RX3 yX3_isSafe wsX3_isSafe) := goodIn_app (goodIn_of _ (by decide +kernel)) ggX3_safeHours_X3_isSafe
theorem dX3_safeHours_0 : decode cX3_safeHours 0 = .ok (.aload_n 0, 1) := by decide +kernel
theorem dX3_safeHours_1 : decode cX3_safeHours 1 = .ok (.iload_n 1, 1) := by decide +kernel
theorem dX3_safeHours_2 : decode cX3_safeHours 2 = .ok (.iload_n 3, 1) := by decide +kernel
theorem dX3_safeHours_3 : decode cX3_safeHours 3 = .ok (.invokevirtual 39, 3) := by decide +kernel
theorem dX3_safeHours_6 : decode cX3_safeHours 6 = .ok (.ifCond .ne 5, 3) := by decide +kernel
theorem dX3_safeHours_9 : decode cX3_safeHours 9 = .ok (.iconst 0, 1) := by decide +kernel
theorem dX3_safeHours_10 : decode cX3_safeHours 10 = .ok (.ireturn, 1) := by decide +kernel
theorem dX3_safeHours_11 : decode cX3_safeHours 11 = .ok (.iload_n 2, 1) := by decide +kernel
theorem dX3_safeHours_12 : decode cX3_safeHours 12 = .ok (.ifCond .le 7, 3) := by decide +kernel
theorem dX3_safeHours_15 : decode cX3_safeHours 15 = .ok (.iload_n 3, 1) := by decide +kernel
theorem dX3_safeHours_16 : decode cX3_safeHours 16 = .ok (.ifCond .gt 5, 3) := by decide +kernel
theorem dX3_safeHours_19 : decode cX3_safeHours 19 = .ok (.iconst (-1), 1) := by decide +kernel
theorem dX3_safeHours_20 : decode cX3_safeHours 20 = .ok (.ireturn, 1) := by decide +kernel
theorem dX3_safeHours_21 : decode cX3_safeHours 21 = .ok (.aload_n 0, 1) := by decide +kernel
theorem dX3_safeHours_22 : decode cX3_safeHours 22 = .ok (.getfield 9, 3) := by decide +kernel
theorem dX3_safeHours_25 : decode cX3_safeHours 25 = .ok (.iload_n 1, 1) := by decide +kernel
theorem dX3_safeHours_26 : decode cX3_safeHours 26 = .ok (.iaload, 1) := by decide +kernel
theorem dX3_safeHours_27 : decode cX3_safeHours 27 = .ok (.iload_n 3, 1) := by decide +kernel
theorem dX3_safeHours_28 : decode cX3_safeHours 28 = .ok (.isub, 1) := by decide +kernel
theorem dX3_safeHours_29 : decode cX3_safeHours 29 = .ok (.iconst 3, 1) := by decide +kernel
theorem dX3_safeHours_30 : decode cX3_safeHours 30 = .ok (.iload_n 2, 1) := by decide +kernel
theorem dX3_safeHours_31 : decode cX3_safeHours 31 = .ok (.imul, 1) := by decide +kernel
theorem dX3_safeHours_32 : decode cX3_safeHours 32 = .ok (.idiv, 1) := by decide +kernel
theorem dX3_safeHours_33 : decode cX3_safeHours 33 = .ok (.ireturn, 1) := by decide +kernel
set_option maxRecDepth 20000 in
theorem ggX3_reach_X8_cellBeyond : GoodIn wsX3_reach wsX8_cellBeyond := goodIn_r _ [3, 4, 5, 2, 6, 7, 8, 9, 10, 11, 12, 13, 14] (by decide +kernel) (by decide +kernel)
set_option maxRecDepth 20000 in
theorem gX3_reach_X8_cellBeyond_n43 : GoodIn wsX3_reach (wsX8_cellBeyond) := ggX3_reach_X8_cellBeyond
set_option maxRecDepth 20000 in
theorem ggX3_reach_X3_isSafe : GoodIn wsX3_reach wsX3_isSafe := goodIn_r _ [19, 20, 21, 22, 2, 23, 24, 25, 26] (by decide +kernel) (by decide +kernel)
set_option maxRecDepth 20000 in
theorem gX3_reach_X3_isSafe : GoodIn wsX3_reach (wsV RX3 39 RX3 yX3_isSafe wsX3_isSafe) := goodIn_app (goodIn_of _ (by decide +kernel)) ggX3_reach_X3_isSafe
theorem dX3_reach_0 : decode cX3_reach 0 = .ok (.iconst (-1), 1) := by decide +kernel
theorem dX3_reach_1 : decode cX3_reach 1 = .ok (.istore 4, 2) := by decide +kernel
theorem dX3_reach_3 : decode cX3_reach 3 = .ok (.iconst 0, 1) := by decide +kernel
theorem dX3_reach_4 : decode cX3_reach 4 = .ok (.istore 5, 2) := by decide +kernel
theorem dX3_reach_6 : decode cX3_reach 6 = .ok (.iload 5, 2) := by decide +kernel
theorem dX3_reach_8 : decode cX3_reach 8 = .ok (.bipush 12, 2) := by decide +kernel
theorem dX3_reach_10 : decode cX3_reach 10 = .ok (.if_icmp .ge 31, 3) := by decide +kernel
theorem dX3_reach_13 : decode cX3_reach 13 = .ok (.aload_n 0, 1) := by decide +kernel
theorem dX3_reach_14 : decode cX3_reach 14 = .ok (.iload_n 1, 1) := by decide +kernel
theorem dX3_reach_15 : decode cX3_reach 15 = .ok (.iload_n 2, 1) := by decide +kernel
theorem dX3_reach_16 : decode cX3_reach 16 = .ok (.iload 5, 2) := by decide +kernel
theorem dX3_reach_18 : decode cX3_reach 18 = .ok (.invokestatic 43, 3) := by decide +kernel
theorem dX3_reach_21 : decode cX3_reach 21 = .ok (.iload_n 3, 1) := by decide +kernel
theorem dX3_reach_22 : decode cX3_reach 22 = .ok (.invokevirtual 39, 3) := by decide +kernel
theorem dX3_reach_25 : decode cX3_reach 25 = .ok (.ifCond .ne 6, 3) := by decide +kernel
theorem dX3_reach_28 : decode cX3_reach 28 = .ok (.iload 4, 2) := by decide +kernel
theorem dX3_reach_30 : decode cX3_reach 30 = .ok (.ireturn, 1) := by decide +kernel
theorem dX3_reach_31 : decode cX3_reach 31 = .ok (.iload 5, 2) := by decide +kernel
theorem dX3_reach_33 : decode cX3_reach 33 = .ok (.istore 4, 2) := by decide +kernel
theorem dX3_reach_35 : decode cX3_reach 35 = .ok (.iinc 5 1, 3) := by decide +kernel
theorem dX3_reach_38 : decode cX3_reach 38 = .ok (.goto (-32), 3) := by decide +kernel
theorem dX3_reach_41 : decode cX3_reach 41 = .ok (.iload 4, 2) := by decide +kernel
theorem dX3_reach_43 : decode cX3_reach 43 = .ok (.ireturn, 1) := by decide +kernel
theorem dX4_init_0 : decode cX4_init 0 = .ok (.aload_n 0, 1) := by decide +kernel
theorem dX4_init_1 : decode cX4_init 1 = .ok (.invokespecial 3, 3) := by decide +kernel
theorem dX4_init_4 : decode cX4_init 4 = .ok (.aload_n 0, 1) := by decide +kernel
theorem dX4_init_5 : decode cX4_init 5 = .ok (.bipush 20, 2) := by decide +kernel
theorem dX4_init_7 : decode cX4_init 7 = .ok (.newarray .int, 2) := by decide +kernel
theorem dX4_init_9 : decode cX4_init 9 = .ok (.putfield 9, 3) := by decide +kernel
theorem dX4_init_12 : decode cX4_init 12 = .ok (.aload_n 0, 1) := by decide +kernel
theorem dX4_init_13 : decode cX4_init 13 = .ok (.iconst 0, 1) := by decide +kernel
theorem dX4_init_14 : decode cX4_init 14 = .ok (.putfield 15, 3) := by decide +kernel
theorem dX4_init_17 : decode cX4_init 17 = .ok (.aload_n 0, 1) := by decide +kernel
theorem dX4_init_18 : decode cX4_init 18 = .ok (.bipush 16, 2) := by decide +kernel
theorem dX4_init_20 : decode cX4_init 20 = .ok (.newarray .int, 2) := by decide +kernel
theorem dX4_init_22 : decode cX4_init 22 = .ok (.putfield 19, 3) := by decide +kernel
theorem dX4_init_25 : decode cX4_init 25 = .ok (.aload_n 0, 1) := by decide +kernel
theorem dX4_init_26 : decode cX4_init 26 = .ok (.iconst 0, 1) := by decide +kernel
theorem dX4_init_27 : decode cX4_init 27 = .ok (.putfield 22, 3) := by decide +kernel
theorem dX4_init_30 : decode cX4_init 30 = .ok (.return_, 1) := by decide +kernel
theorem dX4_addNoise_0 : decode cX4_addNoise 0 = .ok (.aload_n 0, 1) := by decide +kernel
theorem dX4_addNoise_1 : decode cX4_addNoise 1 = .ok (.getfield 15, 3) := by decide +kernel
theorem dX4_addNoise_4 : decode cX4_addNoise 4 = .ok (.bipush 20, 2) := by decide +kernel
theorem dX4_addNoise_6 : decode cX4_addNoise 6 = .ok (.if_icmp .lt 5, 3) := by decide +kernel
theorem dX4_addNoise_9 : decode cX4_addNoise 9 = .ok (.iconst (-1), 1) := by decide +kernel
theorem dX4_addNoise_10 : decode cX4_addNoise 10 = .ok (.ireturn, 1) := by decide +kernel
theorem dX4_addNoise_11 : decode cX4_addNoise 11 = .ok (.aload_n 0, 1) := by decide +kernel
theorem dX4_addNoise_12 : decode cX4_addNoise 12 = .ok (.getfield 9, 3) := by decide +kernel
theorem dX4_addNoise_15 : decode cX4_addNoise 15 = .ok (.aload_n 0, 1) := by decide +kernel
theorem dX4_addNoise_16 : decode cX4_addNoise 16 = .ok (.getfield 15, 3) := by decide +kernel
theorem dX4_addNoise_19 : decode cX4_addNoise 19 = .ok (.iload_n 1, 1) := by decide +kernel
theorem dX4_addNoise_20 : decode cX4_addNoise 20 = .ok (.iastore, 1) := by decide +kernel
theorem dX4_addNoise_21 : decode cX4_addNoise 21 = .ok (.aload_n 0, 1) := by decide +kernel
theorem dX4_addNoise_22 : decode cX4_addNoise 22 = .ok (.dup, 1) := by decide +kernel
theorem dX4_addNoise_23 : decode cX4_addNoise 23 = .ok (.getfield 15, 3) := by decide +kernel
theorem dX4_addNoise_26 : decode cX4_addNoise 26 = .ok (.iconst 1, 1) := by decide +kernel
theorem dX4_addNoise_27 : decode cX4_addNoise 27 = .ok (.iadd, 1) := by decide +kernel
theorem dX4_addNoise_28 : decode cX4_addNoise 28 = .ok (.putfield 15, 3) := by decide +kernel
theorem dX4_addNoise_31 : decode cX4_addNoise 31 = .ok (.aload_n 0, 1) := by decide +kernel
theorem dX4_addNoise_32 : decode cX4_addNoise 32 = .ok (.getfield 15, 3) := by decide +kernel
theorem dX4_addNoise_35 : decode cX4_addNoise 35 = .ok (.ireturn, 1) := by decide +kernel
set_option maxRecDepth 20000 in
theorem ggX4_drawRow_X4_changePlaces : GoodIn wsX4_drawRow wsX4_changePlaces := goodIn_r _ [10, 2, 11, 12, 13, 14, 15, 16, 17] (by decide +kernel) (by decide +kernel)
set_option maxRecDepth 20000 in
theorem gX4_drawRow_X4_changePlaces : GoodIn wsX4_drawRow (wsV RX4 27 RX4 yX4_changePlaces wsX4_changePlaces) := goodIn_app (goodIn_of _ (by decide +kernel)) ggX4_drawRow_X4_changePlaces
theorem dX4_drawRow_0 : decode cX4_drawRow 0 = .ok (.iload_n 1, 1) := by decide +kernel
theorem dX4_drawRow_1 : decode cX4_drawRow 1 = .ok (.ifCond .le 19, 3) := by decide +kernel
theorem dX4_drawRow_4 : decode cX4_drawRow 4 = .ok (.iload_n 1, 1) := by decide +kernel
theorem dX4_drawRow_5 : decode cX4_drawRow 5 = .ok (.bipush 16, 2) := by decide +kernel
theorem dX4_drawRow_7 : decode cX4_drawRow 7 = .ok (.if_icmp .gt 13, 3) := by decide +kernel
theorem dX4_drawRow_10 : decode cX4_drawRow 10 = .ok (.aload_n 0, 1) := by decide +kernel
theorem dX4_drawRow_11 : decode cX4_drawRow 11 = .ok (.getfield 15, 3) := by decide +kernel
theorem dX4_drawRow_14 : decode cX4_drawRow 14 = .ok (.iload_n 1, 1) := by decide +kernel
theorem dX4_drawRow_15 : decode cX4_drawRow 15 = .ok (.iconst 1, 1) := by decide +kernel
theorem dX4_drawRow_16 : decode cX4_drawRow 16 = .ok (.isub, 1) := by decide +kernel
theorem dX4_drawRow_17 : decode cX4_drawRow 17 = .ok (.if_icmp .ge 5, 3) := by decide +kernel
theorem dX4_drawRow_20 : decode cX4_drawRow 20 = .ok (.iconst (-1), 1) := by decide +kernel
theorem dX4_drawRow_21 : decode cX4_drawRow 21 = .ok (.ireturn, 1) := by decide +kernel
theorem dX4_drawRow_22 : decode cX4_drawRow 22 = .ok (.iconst 0, 1) := by decide +kernel
theorem dX4_drawRow_23 : decode cX4_drawRow 23 = .ok (.istore_n 2, 1) := by decide +kernel
theorem dX4_drawRow_24 : decode cX4_drawRow 24 = .ok (.iload_n 2, 1) := by decide +kernel
theorem dX4_drawRow_25 : decode cX4_drawRow 25 = .ok (.iload_n 1, 1) := by decide +kernel
theorem dX4_drawRow_26 : decode cX4_drawRow 26 = .ok (.if_icmp .ge 16, 3) := by decide +kernel
theorem dX4_drawRow_29 : decode cX4_drawRow 29 = .ok (.aload_n 0, 1) := by decide +kernel
theorem dX4_drawRow_30 : decode cX4_drawRow 30 = .ok (.getfield 19, 3) := by decide +kernel
theorem dX4_drawRow_33 : decode cX4_drawRow 33 = .ok (.iload_n 2, 1) := by decide +kernel
theorem dX4_drawRow_34 : decode cX4_drawRow 34 = .ok (.iload_n 2, 1) := by decide +kernel
theorem dX4_drawRow_35 : decode cX4_drawRow 35 = .ok (.iastore, 1) := by decide +kernel
theorem dX4_drawRow_36 : decode cX4_drawRow 36 = .ok (.iinc 2 1, 3) := by decide +kernel
theorem dX4_drawRow_39 : decode cX4_drawRow 39 = .ok (.goto (-15), 3) := by decide +kernel
theorem dX4_drawRow_42 : decode cX4_drawRow 42 = .ok (.iload_n 1, 1) := by decide +kernel
theorem dX4_drawRow_43 : decode cX4_drawRow 43 = .ok (.iconst 1, 1) := by decide +kernel
theorem dX4_drawRow_44 : decode cX4_drawRow 44 = .ok (.isub, 1) := by decide +kernel
theorem dX4_drawRow_45 : decode cX4_drawRow 45 = .ok (.istore_n 2, 1) := by decide +kernel
theorem dX4_drawRow_46 : decode cX4_drawRow 46 = .ok (.iload_n 2, 1) := by decide +kernel
theorem dX4_drawRow_47 : decode cX4_drawRow 47 = .ok (.ifCond .le 37, 3) := by decide +kernel
theorem dX4_drawRow_50 : decode cX4_drawRow 50 = .ok (.aload_n 0, 1) := by decide +kernel
theorem dX4_drawRow_51 : decode cX4_drawRow 51 = .ok (.getfield 9, 3) := by decide +kernel
theorem dX4_drawRow_54 : decode cX4_drawRow 54 = .ok (.iload_n 1, 1) := by decide +kernel
theorem dX4_drawRow_55 : decode cX4_drawRow 55 = .ok (.iconst 1, 1) := by decide +kernel
theorem dX4_drawRow_56 : decode cX4_drawRow 56 = .ok (.isub, 1) := by decide +kernel
theorem dX4_drawRow_57 : decode cX4_drawRow 57 = .ok (.iload_n 2, 1) := by decide +kernel
theorem dX4_drawRow_58 : decode cX4_drawRow 58 = .ok (.isub, 1) := by decide +kernel
theorem dX4_drawRow_59 : decode cX4_drawRow 59 = .ok (.iaload, 1) := by decide +kernel
theorem dX4_drawRow_60 : decode cX4_drawRow 60 = .ok (.i2l, 1) := by decide +kernel
theorem dX4_drawRow_61 : decode cX4_drawRow 61 = .ok (.ldc2_w 25, 3) := by decide +kernel
theorem dX4_drawRow_64 : decode cX4_drawRow 64 = .ok (.land, 1) := by decide +kernel
theorem dX4_drawRow_65 : decode cX4_drawRow 65 = .ok (.lstore_n 3, 1) := by decide +kernel
theorem dX4_drawRow_66 : decode cX4_drawRow 66 = .ok (.aload_n 0, 1) := by decide +kernel
theorem dX4_drawRow_67 : decode cX4_drawRow 67 = .ok (.iload_n 2, 1) := by decide +kernel
theorem dX4_drawRow_68 : decode cX4_drawRow 68 = .ok (.lload_n 3, 1) := by decide +kernel
theorem dX4_drawRow_69 : decode cX4_drawRow 69 = .ok (.iload_n 2, 1) := by decide +kernel
theorem dX4_drawRow_70 : decode cX4_drawRow 70 = .ok (.iconst 1, 1) := by decide +kernel
theorem dX4_drawRow_71 : decode cX4_drawRow 71 = .ok (.iadd, 1) := by decide +kernel
theorem dX4_drawRow_72 : decode cX4_drawRow 72 = .ok (.i2l, 1) := by decide +kernel
theorem dX4_drawRow_73 : decode cX4_drawRow 73 = .ok (.lrem, 1) := by decide +kernel
theorem dX4_drawRow_74 : decode cX4_drawRow 74 = .ok (.l2i, 1) := by decide +kernel
theorem dX4_drawRow_75 : decode cX4_drawRow 75 = .ok (.invokevirtual 27, 3) := by decide +kernel
theorem dX4_drawRow_78 : decode cX4_drawRow 78 = .ok (.iinc 2 (-1), 3) := by decide +kernel
theorem dX4_drawRow_81 : decode cX4_drawRow 81 = .ok (.goto (-35), 3) := by decide +kernel
theorem dX4_drawRow_84 : decode cX4_drawRow 84 = .ok (.aload_n 0, 1) := by decide +kernel
theorem dX4_drawRow_85 : decode cX4_drawRow 85 = .ok (.iconst 0, 1) := by decide +kernel
theorem dX4_drawRow_86 : decode cX4_drawRow 86 = .ok (.putfield 15, 3) := by decide +kernel
theorem dX4_drawRow_89 : decode cX4_drawRow 89 = .ok (.aload_n 0, 1) := by decide +kernel
theorem dX4_drawRow_90 : decode cX4_drawRow 90 = .ok (.iload_n 1, 1) := by decide +kernel
theorem dX4_drawRow_91 : decode cX4_drawRow 91 = .ok (.putfield 22, 3) := by decide +kernel
theorem dX4_drawRow_94 : decode cX4_drawRow 94 = .ok (.iload_n 1, 1) := by decide +kernel
theorem dX4_drawRow_95 : decode cX4_drawRow 95 = .ok (.ireturn, 1) := by decide +kernel
set_option maxRecDepth 20000 in
theorem ggX4_changePlaces_X8_isBoatNumber : GoodIn wsX4_changePlaces wsX8_isBoatNumber := goodIn_r _ [4] (by decide +kernel) (by decide +kernel)
set_option maxRecDepth 20000 in
theorem gX4_changePlaces_X8_isBoatNumber_n31 : GoodIn wsX4_changePlaces (wsX8_isBoatNumber) := ggX4_changePlaces_X8_isBoatNumber
theorem dX4_changePlaces_0 : decode cX4_changePlaces 0 = .ok (.iload_n 1, 1) := by decide +kernel
theorem dX4_changePlaces_1 : decode cX4_changePlaces 1 = .ok (.invokestatic 31, 3) := by decide +kernel
theorem dX4_changePlaces_4 : decode cX4_changePlaces 4 = .ok (.ifCond .eq 10, 3) := by decide +kernel
theorem dX4_changePlaces_7 : decode cX4_changePlaces 7 = .ok (.iload_n 2, 1) := by decide +kernel
theorem dX4_changePlaces_8 : decode cX4_changePlaces 8 = .ok (.invokestatic 31, 3) := by decide +kernel
theorem dX4_changePlaces_11 : decode cX4_changePlaces 11 = .ok (.ifCond .ne 4, 3) := by decide +kernel
theorem dX4_changePlaces_14 : decode cX4_changePlaces 14 = .ok (.return_, 1) := by decide +kernel
theorem dX4_changePlaces_15 : decode cX4_changePlaces 15 = .ok (.aload_n 0, 1) := by decide +kernel
theorem dX4_changePlaces_16 : decode cX4_changePlaces 16 = .ok (.getfield 19, 3) := by decide +kernel
theorem dX4_changePlaces_19 : decode cX4_changePlaces 19 = .ok (.iload_n 1, 1) := by decide +kernel
theorem dX4_changePlaces_20 : decode cX4_changePlaces 20 = .ok (.iaload, 1) := by decide +kernel
theorem dX4_changePlaces_21 : decode cX4_changePlaces 21 = .ok (.istore_n 3, 1) := by decide +kernel
theorem dX4_changePlaces_22 : decode cX4_changePlaces 22 = .ok (.aload_n 0, 1) := by decide +kernel
theorem dX4_changePlaces_23 : decode cX4_changePlaces 23 = .ok (.getfield 19, 3) := by decide +kernel
theorem dX4_changePlaces_26 : decode cX4_changePlaces 26 = .ok (.iload_n 1, 1) := by decide +kernel
theorem dX4_changePlaces_27 : decode cX4_changePlaces 27 = .ok (.aload_n 0, 1) := by decide +kernel
theorem dX4_changePlaces_28 : decode cX4_changePlaces 28 = .ok (.getfield 19, 3) := by decide +kernel
theorem dX4_changePlaces_31 : decode cX4_changePlaces 31 = .ok (.iload_n 2, 1) := by decide +kernel
theorem dX4_changePlaces_32 : decode cX4_changePlaces 32 = .ok (.iaload, 1) := by decide +kernel
theorem dX4_changePlaces_33 : decode cX4_changePlaces 33 = .ok (.iastore, 1) := by decide +kernel
theorem dX4_changePlaces_34 : decode cX4_changePlaces 34 = .ok (.aload_n 0, 1) := by decide +kernel
theorem dX4_changePlaces_35 : decode cX4_changePlaces 35 = .ok (.getfield 19, 3) := by decide +kernel
theorem dX4_changePlaces_38 : decode cX4_changePlaces 38 = .ok (.iload_n 2, 1) := by decide +kernel
theorem dX4_changePlaces_39 : decode cX4_changePlaces 39 = .ok (.iload_n 3, 1) := by decide +kernel
theorem dX4_changePlaces_40 : decode cX4_changePlaces 40 = .ok (.iastore, 1) := by decide +kernel
theorem dX4_changePlaces_41 : decode cX4_changePlaces 41 = .ok (.return_, 1) := by decide +kernel
theorem dX5_init_0 : decode cX5_init 0 = .ok (.aload_n 0, 1) := by decide +kernel
theorem dX5_init_1 : decode cX5_init 1 = .ok (.invokespecial 3, 3) := by decide +kernel
theorem dX5_init_4 : decode cX5_init 4 = .ok (.aload_n 0, 1) := by decide +kernel
theorem dX5_init_5 : decode cX5_init 5 = .ok (.sipush 320, 3) := by decide +kernel
theorem dX5_init_8 : decode cX5_init 8 = .ok (.newarray .int, 2) := by decide +kernel
theorem dX5_init_10 : decode cX5_init 10 = .ok (.putfield 9, 3) := by decide +kernel
theorem dX5_init_13 : decode cX5_init 13 = .ok (.aload_n 0, 1) := by decide +kernel
theorem dX5_init_14 : decode cX5_init 14 = .ok (.iconst 0, 1) := by decide +kernel
theorem dX5_init_15 : decode cX5_init 15 = .ok (.putfield 15, 3) := by decide +kernel
theorem dX5_init_18 : decode cX5_init 18 = .ok (.aload_n 0, 1) := by decide +kernel
theorem dX5_init_19 : decode cX5_init 19 = .ok (.bipush 16, 2) := by decide +kernel
theorem dX5_init_21 : decode cX5_init 21 = .ok (.newarray .int, 2) := by decide +kernel
theorem dX5_init_23 : decode cX5_init 23 = .ok (.putfield 19, 3) := by decide +kernel
theorem dX5_init_26 : decode cX5_init 26 = .ok (.aload_n 0, 1) := by decide +kernel
theorem dX5_init_27 : decode cX5_init 27 = .ok (.iconst 0, 1) := by decide +kernel
theorem dX5_init_28 : decode cX5_init 28 = .ok (.putfield 22, 3) := by decide +kernel
theorem dX5_init_31 : decode cX5_init 31 = .ok (.aload_n 0, 1) := by decide +kernel
theorem dX5_init_32 : decode cX5_init 32 = .ok (.bipush 18, 2) := by decide +kernel
theorem dX5_init_34 : decode cX5_init 34 = .ok (.newarray .int, 2) := by decide +kernel
theorem dX5_init_36 : decode cX5_init 36 = .ok (.putfield 25, 3) := by decide +kernel
theorem dX5_init_39 : decode cX5_init 39 = .ok (.aload_n 0, 1) := by decide +kernel
theorem dX5_init_40 : decode cX5_init 40 = .ok (.bipush 16, 2) := by decide +kernel
theorem dX5_init_42 : decode cX5_init 42 = .ok (.newarray .int, 2) := by decide +kernel
theorem dX5_init_44 : decode cX5_init 44 = .ok (.putfield 28, 3) := by decide +kernel
theorem dX5_init_47 : decode cX5_init 47 = .ok (.aload_n 0, 1) := by decide +kernel
theorem dX5_init_48 : decode cX5_init 48 = .ok (.bipush 16, 2) := by decide +kernel
theorem dX5_init_50 : decode cX5_init 50 = .ok (.newarray .int, 2) := by decide +kernel
theorem dX5_init_52 : decode cX5_init 52 = .ok (.putfield 31, 3) := by decide +kernel
theorem dX5_init_55 : decode cX5_init 55 = .ok (.return_, 1) := by decide +kernel
theorem dX5_takeFinish_0 : decode cX5_takeFinish 0 = .ok (.aload_n 0, 1) := by decide +kernel
theorem dX5_takeFinish_1 : decode cX5_takeFinish 1 = .ok (.getfield 15, 3) := by decide +kernel
theorem dX5_takeFinish_4 : decode cX5_takeFinish 4 = .ok (.bipush 20, 2) := by decide +kernel
theorem dX5_takeFinish_6 : decode cX5_takeFinish 6 = .ok (.if_icmp .lt 6, 3) := by decide +kernel
theorem dX5_takeFinish_9 : decode cX5_takeFinish 9 = .ok (.bipush (-2), 2) := by decide +kernel
theorem dX5_takeFinish_11 : decode cX5_takeFinish 11 = .ok (.ireturn, 1) := by decide +kernel
theorem dX5_takeFinish_12 : decode cX5_takeFinish 12 = .ok (.aload_n 0, 1) := by decide +kernel
theorem dX5_takeFinish_13 : decode cX5_takeFinish 13 = .ok (.getfield 19, 3) := by decide +kernel
theorem dX5_takeFinish_16 : decode cX5_takeFinish 16 = .ok (.iload_n 1, 1) := by decide +kernel
theorem dX5_takeFinish_17 : decode cX5_takeFinish 17 = .ok (.iaload, 1) := by decide +kernel
theorem dX5_takeFinish_18 : decode cX5_takeFinish 18 = .ok (.ifCond .eq 5, 3) := by decide +kernel
theorem dX5_takeFinish_21 : decode cX5_takeFinish 21 = .ok (.iconst (-1), 1) := by decide +kernel
theorem dX5_takeFinish_22 : decode cX5_takeFinish 22 = .ok (.ireturn, 1) := by decide +kernel
theorem dX5_takeFinish_23 : decode cX5_takeFinish 23 = .ok (.aload_n 0, 1) := by decide +kernel
theorem dX5_takeFinish_24 : decode cX5_takeFinish 24 = .ok (.dup, 1) := by decide +kernel
theorem dX5_takeFinish_25 : decode cX5_takeFinish 25 = .ok (.getfield 22, 3) := by decide +kernel
theorem dX5_takeFinish_28 : decode cX5_takeFinish 28 = .ok (.iconst 1, 1) := by decide +kernel
theorem dX5_takeFinish_29 : decode cX5_takeFinish 29 = .ok (.iadd, 1) := by decide +kernel
theorem dX5_takeFinish_30 : decode cX5_takeFinish 30 = .ok (.putfield 22, 3) := by decide +kernel
theorem dX5_takeFinish_33 : decode cX5_takeFinish 33 = .ok (.aload_n 0, 1) := by decide +kernel
theorem dX5_takeFinish_34 : decode cX5_takeFinish 34 = .ok (.getfield 19, 3) := by decide +kernel
theorem dX5_takeFinish_37 : decode cX5_takeFinish 37 = .ok (.iload_n 1, 1) := by decide +kernel
theorem dX5_takeFinish_38 : decode cX5_takeFinish 38 = .ok (.aload_n 0, 1) := by decide +kernel
theorem dX5_takeFinish_39 : decode cX5_takeFinish 39 = .ok (.getfield 22, 3) := by decide +kernel
theorem dX5_takeFinish_42 : decode cX5_takeFinish 42 = .ok (.iastore, 1) := by decide +kernel
theorem dX5_takeFinish_43 : decode cX5_takeFinish 43 = .ok (.aload_n 0, 1) := by decide +kernel
theorem dX5_takeFinish_44 : decode cX5_takeFinish 44 = .ok (.getfield 22, 3) := by decide +kernel
theorem dX5_takeFinish_47 : decode cX5_takeFinish 47 = .ok (.ireturn, 1) := by decide +kernel
theorem dX5_endRace_0 : decode cX5_endRace 0 = .ok (.aload_n 0, 1) := by decide +kernel
theorem dX5_endRace_1 : decode cX5_endRace 1 = .ok (.getfield 15, 3) := by decide +kernel
theorem dX5_endRace_4 : decode cX5_endRace 4 = .ok (.bipush 20, 2) := by decide +kernel
theorem dX5_endRace_6 : decode cX5_endRace 6 = .ok (.if_icmp .ge 7, 3) := by decide +kernel
theorem dX5_endRace_9 : decode cX5_endRace 9 = .ok (.iload_n 1, 1) := by decide +kernel
theorem dX5_endRace_10 : decode cX5_endRace 10 = .ok (.ifCond .gt 5, 3) := by decide +kernel
theorem dX5_endRace_13 : decode cX5_endRace 13 = .ok (.iconst (-1), 1) := by decide +kernel
theorem dX5_endRace_14 : decode cX5_endRace 14 = .ok (.ireturn, 1) := by decide +kernel
theorem dX5_endRace_15 : decode cX5_endRace 15 = .ok (.iconst 0, 1) := by decide +kernel
theorem dX5_endRace_16 : decode cX5_endRace 16 = .ok (.istore_n 2, 1) := by decide +kernel
theorem dX5_endRace_17 : decode cX5_endRace 17 = .ok (.iload_n 2, 1) := by decide +kernel
theorem dX5_endRace_18 : decode cX5_endRace 18 = .ok (.bipush 16, 2) := by decide +kernel
theorem dX5_endRace_20 : decode cX5_endRace 20 = .ok (.if_icmp .ge 51, 3) := by decide +kernel
theorem dX5_endRace_23 : decode cX5_endRace 23 = .ok (.aload_n 0, 1) := by decide +kernel
theorem dX5_endRace_24 : decode cX5_endRace 24 = .ok (.getfield 9, 3) := by decide +kernel
theorem dX5_endRace_27 : decode cX5_endRace 27 = .ok (.bipush 16, 2) := by decide +kernel
theorem dX5_endRace_29 : decode cX5_endRace 29 = .ok (.aload_n 0, 1) := by decide +kernel
theorem dX5_endRace_30 : decode cX5_endRace 30 = .ok (.getfield 15, 3) := by decide +kernel
theorem dX5_endRace_33 : decode cX5_endRace 33 = .ok (.imul, 1) := by decide +kernel
theorem dX5_endRace_34 : decode cX5_endRace 34 = .ok (.iload_n 2, 1) := by decide +kernel
theorem dX5_endRace_35 : decode cX5_endRace 35 = .ok (.iadd, 1) := by decide +kernel
theorem dX5_endRace_36 : decode cX5_endRace 36 = .ok (.aload_n 0, 1) := by decide +kernel
theorem dX5_endRace_37 : decode cX5_endRace 37 = .ok (.getfield 19, 3) := by decide +kernel
theorem dX5_endRace_40 : decode cX5_endRace 40 = .ok (.iload_n 2, 1) := by decide +kernel
theorem dX5_endRace_41 : decode cX5_endRace 41 = .ok (.iaload, 1) := by decide +kernel
theorem dX5_endRace_42 : decode cX5_endRace 42 = .ok (.ifCond .eq 12, 3) := by decide +kernel
theorem dX5_endRace_45 : decode cX5_endRace 45 = .ok (.aload_n 0, 1) := by decide +kernel
theorem dX5_endRace_46 : decode cX5_endRace 46 = .ok (.getfield 19, 3) := by decide +kernel
theorem dX5_endRace_49 : decode cX5_endRace 49 = .ok (.iload_n 2, 1) := by decide +kernel
theorem dX5_endRace_50 : decode cX5_endRace 50 = .ok (.iaload, 1) := by decide +kernel
theorem dX5_endRace_51 : decode cX5_endRace 51 = .ok (.goto 6, 3) := by decide +kernel
theorem dX5_endRace_54 : decode cX5_endRace 54 = .ok (.iload_n 1, 1) := by decide +kernel
theorem dX5_endRace_55 : decode cX5_endRace 55 = .ok (.iconst 1, 1) := by decide +kernel
theorem dX5_endRace_56 : decode cX5_endRace 56 = .ok (.iadd, 1) := by decide +kernel
theorem dX5_endRace_57 : decode cX5_endRace 57 = .ok (.iastore, 1) := by decide +kernel
theorem dX5_endRace_58 : decode cX5_endRace 58 = .ok (.aload_n 0, 1) := by decide +kernel
theorem dX5_endRace_59 : decode cX5_endRace 59 = .ok (.getfield 19, 3) := by decide +kernel
theorem dX5_endRace_62 : decode cX5_endRace 62 = .ok (.iload_n 2, 1) := by decide +kernel
theorem dX5_endRace_63 : decode cX5_endRace 63 = .ok (.iconst 0, 1) := by decide +kernel
theorem dX5_endRace_64 : decode cX5_endRace 64 = .ok (.iastore, 1) := by decide +kernel
theorem dX5_endRace_65 : decode cX5_endRace 65 = .ok (.iinc 2 1, 3) := by decide +kernel
theorem dX5_endRace_68 : decode cX5_endRace 68 = .ok (.goto (-51), 3) := by decide +kernel
theorem dX5_endRace_71 : decode cX5_endRace 71 = .ok (.aload_n 0, 1) := by decide +kernel
theorem dX5_endRace_72 : decode cX5_endRace 72 = .ok (.iconst 0, 1) := by decide +kernel
theorem dX5_endRace_73 : decode cX5_endRace 73 = .ok (.putfield 22, 3) := by decide +kernel
theorem dX5_endRace_76 : decode cX5_endRace 76 = .ok (.aload_n 0, 1) := by decide +kernel
theorem dX5_endRace_77 : decode cX5_endRace 77 = .ok (.dup, 1) := by decide +kernel
theorem dX5_endRace_78 : decode cX5_endRace 78 = .ok (.getfield 15, 3) := by decide +kernel
theorem dX5_endRace_81 : decode cX5_endRace 81 = .ok (.iconst 1, 1) := by decide +kernel
theorem dX5_endRace_82 : decode cX5_endRace 82 = .ok (.iadd, 1) := by decide +kernel
theorem dX5_endRace_83 : decode cX5_endRace 83 = .ok (.putfield 15, 3) := by decide +kernel
theorem dX5_endRace_86 : decode cX5_endRace 86 = .ok (.aload_n 0, 1) := by decide +kernel
theorem dX5_endRace_87 : decode cX5_endRace 87 = .ok (.getfield 15, 3) := by decide +kernel
theorem dX5_endRace_90 : decode cX5_endRace 90 = .ok (.iconst 1, 1) := by decide +kernel
theorem dX5_endRace_91 : decode cX5_endRace 91 = .ok (.isub, 1) := by decide +kernel
theorem dX5_endRace_92 : decode cX5_endRace 92 = .ok (.ireturn, 1) := by decide +kernel
theorem dX5_pointsOf_0 : decode cX5_pointsOf 0 = .ok (.bipush 16, 2) := by decide +kernel
theorem dX5_pointsOf_2 : decode cX5_pointsOf 2 = .ok (.iload_n 2, 1) := by decide +kernel
theorem dX5_pointsOf_3 : decode cX5_pointsOf 3 = .ok (.imul, 1) := by decide +kernel
theorem dX5_pointsOf_4 : decode cX5_pointsOf 4 = .ok (.iload_n 1, 1) := by decide +kernel
theorem dX5_pointsOf_5 : decode cX5_pointsOf 5 = .ok (.iadd, 1) := by decide +kernel
theorem dX5_pointsOf_6 : decode cX5_pointsOf 6 = .ok (.istore_n 3, 1) := by decide +kernel
theorem dX5_pointsOf_7 : decode cX5_pointsOf 7 = .ok (.iload_n 3, 1) := by decide +kernel
theorem dX5_pointsOf_8 : decode cX5_pointsOf 8 = .ok (.ifCond .lt 21, 3) := by decide +kernel
theorem dX5_pointsOf_11 : decode cX5_pointsOf 11 = .ok (.iload_n 3, 1) := by decide +kernel
theorem dX5_pointsOf_12 : decode cX5_pointsOf 12 = .ok (.aload_n 0, 1) := by decide +kernel
theorem dX5_pointsOf_13 : decode cX5_pointsOf 13 = .ok (.getfield 9, 3) := by decide +kernel
theorem dX5_pointsOf_16 : decode cX5_pointsOf 16 = .ok (.arraylength, 1) := by decide +kernel
theorem dX5_pointsOf_17 : decode cX5_pointsOf 17 = .ok (.if_icmp .ge 12, 3) := by decide +kernel
theorem dX5_pointsOf_20 : decode cX5_pointsOf 20 = .ok (.aload_n 0, 1) := by decide +kernel
theorem dX5_pointsOf_21 : decode cX5_pointsOf 21 = .ok (.getfield 9, 3) := by decide +kernel
theorem dX5_pointsOf_24 : decode cX5_pointsOf 24 = .ok (.iload_n 3, 1) := by decide +kernel
theorem dX5_pointsOf_25 : decode cX5_pointsOf 25 = .ok (.iaload, 1) := by decide +kernel
theorem dX5_pointsOf_26 : decode cX5_pointsOf 26 = .ok (.goto 4, 3) := by decide +kernel
theorem dX5_pointsOf_29 : decode cX5_pointsOf 29 = .ok (.iconst 0, 1) := by decide +kernel
theorem dX5_pointsOf_30 : decode cX5_pointsOf 30 = .ok (.ireturn, 1) := by decide +kernel
set_option maxRecDepth 20000 in
theorem ggX5_scoreOf_X5_pointsOf : GoodIn wsX5_scoreOf wsX5_pointsOf := goodIn_r _ [6, 7, 25, 26, 27, 28, 29, 30, 31] (by decide +kernel) (by decide +kernel)
set_option maxRecDepth 20000 in
theorem gX5_scoreOf_X5_pointsOf : GoodIn wsX5_scoreOf (wsV RX5 34 RX5 yX5_pointsOf wsX5_pointsOf) := goodIn_app (goodIn_of _ (by decide +kernel)) ggX5_scoreOf_X5_pointsOf
set_option maxRecDepth 20000 in
theorem ggX5_scoreOf_X6_dropsAfter : GoodIn wsX5_scoreOf wsX6_dropsAfter := goodIn_r _ [12, 13, 14, 15, 16, 17, 18, 32, 33, 34, 35, 36, 37] (by decide +kernel) (by decide +kernel)
set_option maxRecDepth 20000 in
theorem gX5_scoreOf_X6_dropsAfter : GoodIn wsX5_scoreOf (wsV RX5 38 RX6 yX6_dropsAfter wsX6_dropsAfter) := goodIn_app (goodIn_of _ (by decide +kernel)) ggX5_scoreOf_X6_dropsAfter
set_option maxRecDepth 20000 in
theorem ggX5_scoreOf_X5_worstOf : GoodIn wsX5_scoreOf wsX5_worstOf := goodIn_r _ [22, 23, 1, 24, 16, 17, 18, 2, 3, 4, 5, 6, 7, 25, 26, 27, 28, 29, 30, 31] (by decide +kernel) (by decide +kernel)
set_option maxRecDepth 20000 in
theorem gX5_scoreOf_X5_worstOf : GoodIn wsX5_scoreOf (wsV RX5 44 RX5 yX5_worstOf wsX5_worstOf) := goodIn_app (goodIn_of _ (by decide +kernel)) ggX5_scoreOf_X5_worstOf
theorem dX5_scoreOf_0 : decode cX5_scoreOf 0 = .ok (.iconst 0, 1) := by decide +kernel
theorem dX5_scoreOf_1 : decode cX5_scoreOf 1 = .ok (.istore_n 3, 1) := by decide +kernel
theorem dX5_scoreOf_2 : decode cX5_scoreOf 2 = .ok (.iconst 0, 1) := by decide +kernel
theorem dX5_scoreOf_3 : decode cX5_scoreOf 3 = .ok (.istore 4, 2) := by decide +kernel
theorem dX5_scoreOf_5 : decode cX5_scoreOf 5 = .ok (.iload 4, 2) := by decide +kernel
theorem dX5_scoreOf_7 : decode cX5_scoreOf 7 = .ok (.aload_n 0, 1) := by decide +kernel
theorem dX5_scoreOf_8 : decode cX5_scoreOf 8 = .ok (.getfield 15, 3) := by decide +kernel
theorem dX5_scoreOf_11 : decode cX5_scoreOf 11 = .ok (.if_icmp .ge 19, 3) := by decide +kernel
theorem dX5_scoreOf_14 : decode cX5_scoreOf 14 = .ok (.iload_n 3, 1) := by decide +kernel
theorem dX5_scoreOf_15 : decode cX5_scoreOf 15 = .ok (.aload_n 0, 1) := by decide +kernel
theorem dX5_scoreOf_16 : decode cX5_scoreOf 16 = .ok (.iload_n 1, 1) := by decide +kernel
theorem dX5_scoreOf_17 : decode cX5_scoreOf 17 = .ok (.iload 4, 2) := by decide +kernel
theorem dX5_scoreOf_19 : decode cX5_scoreOf 19 = .ok (.invokevirtual 34, 3) := by decide +kernel
theorem dX5_scoreOf_22 : decode cX5_scoreOf 22 = .ok (.iadd, 1) := by decide +kernel
theorem dX5_scoreOf_23 : decode cX5_scoreOf 23 = .ok (.istore_n 3, 1) := by decide +kernel
theorem dX5_scoreOf_24 : decode cX5_scoreOf 24 = .ok (.iinc 4 1, 3) := by decide +kernel
theorem dX5_scoreOf_27 : decode cX5_scoreOf 27 = .ok (.goto (-22), 3) := by decide +kernel
theorem dX5_scoreOf_30 : decode cX5_scoreOf 30 = .ok (.aload_n 2, 1) := by decide +kernel
theorem dX5_scoreOf_31 : decode cX5_scoreOf 31 = .ok (.aload_n 0, 1) := by decide +kernel
theorem dX5_scoreOf_32 : decode cX5_scoreOf 32 = .ok (.getfield 15, 3) := by decide +kernel
theorem dX5_scoreOf_35 : decode cX5_scoreOf 35 = .ok (.invokevirtual 38, 3) := by decide +kernel
theorem dX5_scoreOf_38 : decode cX5_scoreOf 38 = .ok (.istore 4, 2) := by decide +kernel
theorem dX5_scoreOf_40 : decode cX5_scoreOf 40 = .ok (.iload 4, 2) := by decide +kernel
theorem dX5_scoreOf_42 : decode cX5_scoreOf 42 = .ok (.ifCond .ne 7, 3) := by decide +kernel
theorem dX5_scoreOf_45 : decode cX5_scoreOf 45 = .ok (.iload_n 3, 1) := by decide +kernel
theorem dX5_scoreOf_46 : decode cX5_scoreOf 46 = .ok (.goto 12, 3) := by decide +kernel
theorem dX5_scoreOf_49 : decode cX5_scoreOf 49 = .ok (.iload_n 3, 1) := by decide +kernel
theorem dX5_scoreOf_50 : decode cX5_scoreOf 50 = .ok (.aload_n 0, 1) := by decide +kernel
theorem dX5_scoreOf_51 : decode cX5_scoreOf 51 = .ok (.iload_n 1, 1) := by decide +kernel
theorem dX5_scoreOf_52 : decode cX5_scoreOf 52 = .ok (.iload 4, 2) := by decide +kernel
theorem dX5_scoreOf_54 : decode cX5_scoreOf 54 = .ok (.invokevirtual 44, 3) := by decide +kernel
theorem dX5_scoreOf_57 : decode cX5_scoreOf 57 = .ok (.isub, 1) := by decide +kernel
theorem dX5_scoreOf_58 : decode cX5_scoreOf 58 = .ok (.ireturn, 1) := by decide +kernel
set_option maxRecDepth 20000 in
theorem ggX5_worstOf_X5_pointsOf : GoodIn wsX5_worstOf wsX5_pointsOf := goodIn_r _ [11, 12, 13, 14, 15, 16, 17, 18, 19] (by decide +kernel) (by decide +kernel)
set_option maxRecDepth 20000 in
theorem gX5_worstOf_X5_pointsOf : GoodIn wsX5_worstOf (wsV RX5 34 RX5 yX5_pointsOf wsX5_pointsOf) := goodIn_app (goodIn_of _ (by decide +kernel)) ggX5_worstOf_X5_pointsOf
theorem dX5_worstOf_0 : decode cX5_worstOf 0 = .ok (.iconst 0, 1) := by decide +kernel
theorem dX5_worstOf_1 : decode cX5_worstOf 1 = .ok (.istore_n 3, 1) := by decide +kernel
theorem dX5_worstOf_2 : decode cX5_worstOf 2 = .ok (.iload_n 3, 1) := by decide +kernel
theorem dX5_worstOf_3 : decode cX5_worstOf 3 = .ok (.bipush 17, 2) := by decide +kernel
theorem dX5_worstOf_5 : decode cX5_worstOf 5 = .ok (.if_icmp .gt 16, 3) := by decide +kernel
theorem dX5_worstOf_8 : decode cX5_worstOf 8 = .ok (.aload_n 0, 1) := by decide +kernel
theorem dX5_worstOf_9 : decode cX5_worstOf 9 = .ok (.getfield 25, 3) := by decide +kernel
theorem dX5_worstOf_12 : decode cX5_worstOf 12 = .ok (.iload_n 3, 1) := by decide +kernel
theorem dX5_worstOf_13 : decode cX5_worstOf 13 = .ok (.iconst 0, 1) := by decide +kernel
theorem dX5_worstOf_14 : decode cX5_worstOf 14 = .ok (.iastore, 1) := by decide +kernel
theorem dX5_worstOf_15 : decode cX5_worstOf 15 = .ok (.iinc 3 1, 3) := by decide +kernel
theorem dX5_worstOf_18 : decode cX5_worstOf 18 = .ok (.goto (-16), 3) := by decide +kernel
theorem dX5_worstOf_21 : decode cX5_worstOf 21 = .ok (.iconst 0, 1) := by decide +kernel
theorem dX5_worstOf_22 : decode cX5_worstOf 22 = .ok (.istore_n 3, 1) := by decide +kernel
theorem dX5_worstOf_23 : decode cX5_worstOf 23 = .ok (.iload_n 3, 1) := by decide +kernel
theorem dX5_worstOf_24 : decode cX5_worstOf 24 = .ok (.aload_n 0, 1) := by decide +kernel
theorem dX5_worstOf_25 : decode cX5_worstOf 25 = .ok (.getfield 15, 3) := by decide +kernel
theorem dX5_worstOf_28 : decode cX5_worstOf 28 = .ok (.if_icmp .ge 40, 3) := by decide +kernel
theorem dX5_worstOf_31 : decode cX5_worstOf 31 = .ok (.aload_n 0, 1) := by decide +kernel
theorem dX5_worstOf_32 : decode cX5_worstOf 32 = .ok (.iload_n 1, 1) := by decide +kernel
theorem dX5_worstOf_33 : decode cX5_worstOf 33 = .ok (.iload_n 3, 1) := by decide +kernel
theorem dX5_worstOf_34 : decode cX5_worstOf 34 = .ok (.invokevirtual 34, 3) := by decide +kernel
theorem dX5_worstOf_37 : decode cX5_worstOf 37 = .ok (.istore 4, 2) := by decide +kernel
theorem dX5_worstOf_39 : decode cX5_worstOf 39 = .ok (.iload 4, 2) := by decide +kernel
theorem dX5_worstOf_41 : decode cX5_worstOf 41 = .ok (.ifCond .lt 21, 3) := by decide +kernel
theorem dX5_worstOf_44 : decode cX5_worstOf 44 = .ok (.iload 4, 2) := by decide +kernel
theorem dX5_worstOf_46 : decode cX5_worstOf 46 = .ok (.bipush 17, 2) := by decide +kernel
theorem dX5_worstOf_48 : decode cX5_worstOf 48 = .ok (.if_icmp .gt 14, 3) := by decide +kernel
theorem dX5_worstOf_51 : decode cX5_worstOf 51 = .ok (.aload_n 0, 1) := by decide +kernel
theorem dX5_worstOf_52 : decode cX5_worstOf 52 = .ok (.getfield 25, 3) := by decide +kernel
theorem dX5_worstOf_55 : decode cX5_worstOf 55 = .ok (.iload 4, 2) := by decide +kernel
theorem dX5_worstOf_57 : decode cX5_worstOf 57 = .ok (.dup2, 1) := by decide +kernel
theorem dX5_worstOf_58 : decode cX5_worstOf 58 = .ok (.iaload, 1) := by decide +kernel
theorem dX5_worstOf_59 : decode cX5_worstOf 59 = .ok (.iconst 1, 1) := by decide +kernel
theorem dX5_worstOf_60 : decode cX5_worstOf 60 = .ok (.iadd, 1) := by decide +kernel
theorem dX5_worstOf_61 : decode cX5_worstOf 61 = .ok (.iastore, 1) := by decide +kernel
theorem dX5_worstOf_62 : decode cX5_worstOf 62 = .ok (.iinc 3 1, 3) := by decide +kernel
theorem dX5_worstOf_65 : decode cX5_worstOf 65 = .ok (.goto (-42), 3) := by decide +kernel
theorem dX5_worstOf_68 : decode cX5_worstOf 68 = .ok (.iload_n 2, 1) := by decide +kernel
theorem dX5_worstOf_69 : decode cX5_worstOf 69 = .ok (.istore_n 3, 1) := by decide +kernel
theorem dX5_worstOf_70 : decode cX5_worstOf 70 = .ok (.iconst 0, 1) := by decide +kernel
theorem dX5_worstOf_71 : decode cX5_worstOf 71 = .ok (.istore 4, 2) := by decide +kernel
theorem dX5_worstOf_73 : decode cX5_worstOf 73 = .ok (.bipush 17, 2) := by decide +kernel
theorem dX5_worstOf_75 : decode cX5_worstOf 75 = .ok (.istore 5, 2) := by decide +kernel
theorem dX5_worstOf_77 : decode cX5_worstOf 77 = .ok (.iload 5, 2) := by decide +kernel
theorem dX5_worstOf_79 : decode cX5_worstOf 79 = .ok (.ifCond .le 41, 3) := by decide +kernel
theorem dX5_worstOf_82 : decode cX5_worstOf 82 = .ok (.iload_n 3, 1) := by decide +kernel
theorem dX5_worstOf_83 : decode cX5_worstOf 83 = .ok (.ifCond .le 37, 3) := by decide +kernel
theorem dX5_worstOf_86 : decode cX5_worstOf 86 = .ok (.iload_n 3, 1) := by decide +kernel
theorem dX5_worstOf_87 : decode cX5_worstOf 87 = .ok (.aload_n 0, 1) := by decide +kernel
theorem dX5_worstOf_88 : decode cX5_worstOf 88 = .ok (.getfield 25, 3) := by decide +kernel
theorem dX5_worstOf_91 : decode cX5_worstOf 91 = .ok (.iload 5, 2) := by decide +kernel
theorem dX5_worstOf_93 : decode cX5_worstOf 93 = .ok (.iaload, 1) := by decide +kernel
theorem dX5_worstOf_94 : decode cX5_worstOf 94 = .ok (.invokestatic 47, 3) := by decide +kernel
theorem dX5_worstOf_97 : decode cX5_worstOf 97 = .ok (.istore 6, 2) := by decide +kernel
theorem dX5_worstOf_99 : decode cX5_worstOf 99 = .ok (.iload 4, 2) := by decide +kernel
theorem dX5_worstOf_101 : decode cX5_worstOf 101 = .ok (.iload 6, 2) := by decide +kernel
theorem dX5_worstOf_103 : decode cX5_worstOf 103 = .ok (.iload 5, 2) := by decide +kernel
theorem dX5_worstOf_105 : decode cX5_worstOf 105 = .ok (.imul, 1) := by decide +kernel
theorem dX5_worstOf_106 : decode cX5_worstOf 106 = .ok (.iadd, 1) := by decide +kernel
theorem dX5_worstOf_107 : decode cX5_worstOf 107 = .ok (.istore 4, 2) := by decide +kernel
theorem dX5_worstOf_109 : decode cX5_worstOf 109 = .ok (.iload_n 3, 1) := by decide +kernel
theorem dX5_worstOf_110 : decode cX5_worstOf 110 = .ok (.iload 6, 2) := by decide +kernel
theorem dX5_worstOf_112 : decode cX5_worstOf 112 = .ok (.isub, 1) := by decide +kernel
theorem dX5_worstOf_113 : decode cX5_worstOf 113 = .ok (.istore_n 3, 1) := by decide +kernel
theorem dX5_worstOf_114 : decode cX5_worstOf 114 = .ok (.iinc 5 (-1), 3) := by decide +kernel
theorem dX5_worstOf_117 : decode cX5_worstOf 117 = .ok (.goto (-40), 3) := by decide +kernel
theorem dX5_worstOf_120 : decode cX5_worstOf 120 = .ok (.iload 4, 2) := by decide +kernel
theorem dX5_worstOf_122 : decode cX5_worstOf 122 = .ok (.ireturn, 1) := by decide +kernel
set_option maxRecDepth 20000 in
theorem ggX5_rankBoats_X5_scoreOf : GoodIn wsX5_rankBoats wsX5_scoreOf := goodIn_r _ [11, 12, 13, 14, 15, 10, 16, 17, 18, 19, 20, 21, 22, 23, 24, 25, 2, 3, 4, 26, 27, 28, 29, 30, 1, 42, 43, 44, 45, 46, 47, 48, 49, 50, 51, 52, 53, 54] (by decide +kernel) (by decide +kernel)
set_option maxRecDepth 20000 in
theorem gX5_rankBoats_X5_scoreOf : GoodIn wsX5_rankBoats (wsV RX5 52 RX5 yX5_scoreOf wsX5_scoreOf) := goodIn_app (goodIn_of _ (by decide +kernel)) ggX5_rankBoats_X5_scoreOf
set_option maxRecDepth 20000 in
theorem ggX5_rankBoats_X5_isBetter : GoodIn wsX5_rankBoats wsX5_isBetter := goodIn_r _ [34, 12, 35, 36, 37, 10, 38, 5, 39, 40, 41, 13, 14, 15, 16, 17, 42, 43, 44, 45, 46, 47, 48] (by decide +kernel) (by decide +kernel)
set_option maxRecDepth 20000 in
theorem gX5_rankBoats_X5_isBetter : GoodIn wsX5_rankBoats (wsV RX5 56 RX5 yX5_isBetter wsX5_isBetter) := goodIn_app (goodIn_of _ (by decide +kernel)) ggX5_rankBoats_X5_isBetter
theorem dX5_rankBoats_0 : decode cX5_rankBoats 0 = .ok (.iload_n 1, 1) := by decide +kernel
theorem dX5_rankBoats_1 : decode cX5_rankBoats 1 = .ok (.bipush 16, 2) := by decide +kernel
theorem dX5_rankBoats_3 : decode cX5_rankBoats 3 = .ok (.invokestatic 47, 3) := by decide +kernel
theorem dX5_rankBoats_6 : decode cX5_rankBoats 6 = .ok (.istore_n 3, 1) := by decide +kernel
theorem dX5_rankBoats_7 : decode cX5_rankBoats 7 = .ok (.iconst 0, 1) := by decide +kernel
theorem dX5_rankBoats_8 : decode cX5_rankBoats 8 = .ok (.istore 4, 2) := by decide +kernel
theorem dX5_rankBoats_10 : decode cX5_rankBoats 10 = .ok (.iload 4, 2) := by decide +kernel
theorem dX5_rankBoats_12 : decode cX5_rankBoats 12 = .ok (.iload_n 3, 1) := by decide +kernel
theorem dX5_rankBoats_13 : decode cX5_rankBoats 13 = .ok (.if_icmp .ge 81, 3) := by decide +kernel
theorem dX5_rankBoats_16 : decode cX5_rankBoats 16 = .ok (.aload_n 0, 1) := by decide +kernel
theorem dX5_rankBoats_17 : decode cX5_rankBoats 17 = .ok (.getfield 28, 3) := by decide +kernel
theorem dX5_rankBoats_20 : decode cX5_rankBoats 20 = .ok (.iload 4, 2) := by decide +kernel
theorem dX5_rankBoats_22 : decode cX5_rankBoats 22 = .ok (.aload_n 0, 1) := by decide +kernel
theorem dX5_rankBoats_23 : decode cX5_rankBoats 23 = .ok (.iload 4, 2) := by decide +kernel
theorem dX5_rankBoats_25 : decode cX5_rankBoats 25 = .ok (.aload_n 2, 1) := by decide +kernel
theorem dX5_rankBoats_26 : decode cX5_rankBoats 26 = .ok (.invokevirtual 52, 3) := by decide +kernel
theorem dX5_rankBoats_29 : decode cX5_rankBoats 29 = .ok (.iastore, 1) := by decide +kernel
theorem dX5_rankBoats_30 : decode cX5_rankBoats 30 = .ok (.iload 4, 2) := by decide +kernel
theorem dX5_rankBoats_32 : decode cX5_rankBoats 32 = .ok (.istore 5, 2) := by decide +kernel
theorem dX5_rankBoats_34 : decode cX5_rankBoats 34 = .ok (.iload 5, 2) := by decide +kernel
theorem dX5_rankBoats_36 : decode cX5_rankBoats 36 = .ok (.ifCond .le 43, 3) := by decide +kernel
theorem dX5_rankBoats_39 : decode cX5_rankBoats 39 = .ok (.aload_n 0, 1) := by decide +kernel
theorem dX5_rankBoats_40 : decode cX5_rankBoats 40 = .ok (.iload 4, 2) := by decide +kernel
theorem dX5_rankBoats_42 : decode cX5_rankBoats 42 = .ok (.aload_n 0, 1) := by decide +kernel
theorem dX5_rankBoats_43 : decode cX5_rankBoats 43 = .ok (.getfield 31, 3) := by decide +kernel
theorem dX5_rankBoats_46 : decode cX5_rankBoats 46 = .ok (.iload 5, 2) := by decide +kernel
theorem dX5_rankBoats_48 : decode cX5_rankBoats 48 = .ok (.iconst 1, 1) := by decide +kernel
theorem dX5_rankBoats_49 : decode cX5_rankBoats 49 = .ok (.isub, 1) := by decide +kernel
theorem dX5_rankBoats_50 : decode cX5_rankBoats 50 = .ok (.iaload, 1) := by decide +kernel
theorem dX5_rankBoats_51 : decode cX5_rankBoats 51 = .ok (.invokevirtual 56, 3) := by decide +kernel
theorem dX5_rankBoats_54 : decode cX5_rankBoats 54 = .ok (.ifCond .eq 25, 3) := by decide +kernel
theorem dX5_rankBoats_57 : decode cX5_rankBoats 57 = .ok (.aload_n 0, 1) := by decide +kernel
theorem dX5_rankBoats_58 : decode cX5_rankBoats 58 = .ok (.getfield 31, 3) := by decide +kernel
theorem dX5_rankBoats_61 : decode cX5_rankBoats 61 = .ok (.iload 5, 2) := by decide +kernel
theorem dX5_rankBoats_63 : decode cX5_rankBoats 63 = .ok (.aload_n 0, 1) := by decide +kernel
theorem dX5_rankBoats_64 : decode cX5_rankBoats 64 = .ok (.getfield 31, 3) := by decide +kernel
theorem dX5_rankBoats_67 : decode cX5_rankBoats 67 = .ok (.iload 5, 2) := by decide +kernel
theorem dX5_rankBoats_69 : decode cX5_rankBoats 69 = .ok (.iconst 1, 1) := by decide +kernel
theorem dX5_rankBoats_70 : decode cX5_rankBoats 70 = .ok (.isub, 1) := by decide +kernel
theorem dX5_rankBoats_71 : decode cX5_rankBoats 71 = .ok (.iaload, 1) := by decide +kernel
theorem dX5_rankBoats_72 : decode cX5_rankBoats 72 = .ok (.iastore, 1) := by decide +kernel
theorem dX5_rankBoats_73 : decode cX5_rankBoats 73 = .ok (.iinc 5 (-1), 3) := by decide +kernel
theorem dX5_rankBoats_76 : decode cX5_rankBoats 76 = .ok (.goto (-42), 3) := by decide +kernel
theorem dX5_rankBoats_79 : decode cX5_rankBoats 79 = .ok (.aload_n 0, 1) := by decide +kernel
theorem dX5_rankBoats_80 : decode cX5_rankBoats 80 = .ok (.getfield 31, 3) := by decide +kernel
theorem dX5_rankBoats_83 : decode cX5_rankBoats 83 = .ok (.iload 5, 2) := by decide +kernel
theorem dX5_rankBoats_85 : decode cX5_rankBoats 85 = .ok (.iload 4, 2) := by decide +kernel
theorem dX5_rankBoats_87 : decode cX5_rankBoats 87 = .ok (.iastore, 1) := by decide +kernel
theorem dX5_rankBoats_88 : decode cX5_rankBoats 88 = .ok (.iinc 4 1, 3) := by decide +kernel
theorem dX5_rankBoats_91 : decode cX5_rankBoats 91 = .ok (.goto (-81), 3) := by decide +kernel
theorem dX5_rankBoats_94 : decode cX5_rankBoats 94 = .ok (.return_, 1) := by decide +kernel
set_option maxRecDepth 20000 in
theorem ggX5_isBetter_X5_scoreAt : GoodIn wsX5_isBetter wsX5_scoreAt := goodIn_r _ [6, 7, 8, 9, 10, 16, 17, 18, 19, 20, 21, 22] (by decide +kernel) (by decide +kernel)
set_option maxRecDepth 20000 in
theorem gX5_isBetter_X5_scoreAt : GoodIn wsX5_isBetter (wsV RX5 60 RX5 yX5_scoreAt wsX5_scoreAt) := goodIn_app (goodIn_of _ (by decide +kernel)) ggX5_isBetter_X5_scoreAt
set_option maxRecDepth 20000 in
theorem ggX5_isBetter_X5_pointsOf : GoodIn wsX5_isBetter wsX5_pointsOf := goodIn_r _ [14, 15, 16, 17, 18, 19, 20, 21, 22] (by decide +kernel) (by decide +kernel)
set_option maxRecDepth 20000 in
theorem gX5_isBetter_X5_pointsOf : GoodIn wsX5_isBetter (wsV RX5 34 RX5 yX5_pointsOf wsX5_pointsOf) := goodIn_app (goodIn_of _ (by decide +kernel)) ggX5_isBetter_X5_pointsOf
theorem dX5_isBetter_0 : decode cX5_isBetter 0 = .ok (.aload_n 0, 1) := by decide +kernel
theorem dX5_isBetter_1 : decode cX5_isBetter 1 = .ok (.iload_n 1, 1) := by decide +kernel
theorem dX5_isBetter_2 : decode cX5_isBetter 2 = .ok (.invokevirtual 60, 3) := by decide +kernel
theorem dX5_isBetter_5 : decode cX5_isBetter 5 = .ok (.istore_n 3, 1) := by decide +kernel
theorem dX5_isBetter_6 : decode cX5_isBetter 6 = .ok (.aload_n 0, 1) := by decide +kernel
theorem dX5_isBetter_7 : decode cX5_isBetter 7 = .ok (.iload_n 2, 1) := by decide +kernel
theorem dX5_isBetter_8 : decode cX5_isBetter 8 = .ok (.invokevirtual 60, 3) := by decide +kernel
theorem dX5_isBetter_11 : decode cX5_isBetter 11 = .ok (.istore 4, 2) := by decide +kernel
theorem dX5_isBetter_13 : decode cX5_isBetter 13 = .ok (.iload_n 3, 1) := by decide +kernel
theorem dX5_isBetter_14 : decode cX5_isBetter 14 = .ok (.iload 4, 2) := by decide +kernel
theorem dX5_isBetter_16 : decode cX5_isBetter 16 = .ok (.if_icmp .eq 15, 3) := by decide +kernel
theorem dX5_isBetter_19 : decode cX5_isBetter 19 = .ok (.iload_n 3, 1) := by decide +kernel
theorem dX5_isBetter_20 : decode cX5_isBetter 20 = .ok (.iload 4, 2) := by decide +kernel
theorem dX5_isBetter_22 : decode cX5_isBetter 22 = .ok (.if_icmp .ge 7, 3) := by decide +kernel
theorem dX5_isBetter_25 : decode cX5_isBetter 25 = .ok (.iconst 1, 1) := by decide +kernel
theorem dX5_isBetter_26 : decode cX5_isBetter 26 = .ok (.goto 4, 3) := by decide +kernel
theorem dX5_isBetter_29 : decode cX5_isBetter 29 = .ok (.iconst 0, 1) := by decide +kernel
theorem dX5_isBetter_30 : decode cX5_isBetter 30 = .ok (.ireturn, 1) := by decide +kernel
theorem dX5_isBetter_31 : decode cX5_isBetter 31 = .ok (.aload_n 0, 1) := by decide +kernel
theorem dX5_isBetter_32 : decode cX5_isBetter 32 = .ok (.getfield 15, 3) := by decide +kernel
theorem dX5_isBetter_35 : decode cX5_isBetter 35 = .ok (.iconst 1, 1) := by decide +kernel
theorem dX5_isBetter_36 : decode cX5_isBetter 36 = .ok (.isub, 1) := by decide +kernel
theorem dX5_isBetter_37 : decode cX5_isBetter 37 = .ok (.istore 5, 2) := by decide +kernel
theorem dX5_isBetter_39 : decode cX5_isBetter 39 = .ok (.iload 5, 2) := by decide +kernel
theorem dX5_isBetter_41 : decode cX5_isBetter 41 = .ok (.ifCond .lt 47, 3) := by decide +kernel
theorem dX5_isBetter_44 : decode cX5_isBetter 44 = .ok (.aload_n 0, 1) := by decide +kernel
theorem dX5_isBetter_45 : decode cX5_isBetter 45 = .ok (.iload_n 1, 1) := by decide +kernel
theorem dX5_isBetter_46 : decode cX5_isBetter 46 = .ok (.iload 5, 2) := by decide +kernel
theorem dX5_isBetter_48 : decode cX5_isBetter 48 = .ok (.invokevirtual 34, 3) := by decide +kernel
theorem dX5_isBetter_51 : decode cX5_isBetter 51 = .ok (.istore 6, 2) := by decide +kernel
theorem dX5_isBetter_53 : decode cX5_isBetter 53 = .ok (.aload_n 0, 1) := by decide +kernel
theorem dX5_isBetter_54 : decode cX5_isBetter 54 = .ok (.iload_n 2, 1) := by decide +kernel
theorem dX5_isBetter_55 : decode cX5_isBetter 55 = .ok (.iload 5, 2) := by decide +kernel
theorem dX5_isBetter_57 : decode cX5_isBetter 57 = .ok (.invokevirtual 34, 3) := by decide +kernel
theorem dX5_isBetter_60 : decode cX5_isBetter 60 = .ok (.istore 7, 2) := by decide +kernel
theorem dX5_isBetter_62 : decode cX5_isBetter 62 = .ok (.iload 6, 2) := by decide +kernel
theorem dX5_isBetter_64 : decode cX5_isBetter 64 = .ok (.iload 7, 2) := by decide +kernel
theorem dX5_isBetter_66 : decode cX5_isBetter 66 = .ok (.if_icmp .eq 16, 3) := by decide +kernel
theorem dX5_isBetter_69 : decode cX5_isBetter 69 = .ok (.iload 6, 2) := by decide +kernel
theorem dX5_isBetter_71 : decode cX5_isBetter 71 = .ok (.iload 7, 2) := by decide +kernel
theorem dX5_isBetter_73 : decode cX5_isBetter 73 = .ok (.if_icmp .ge 7, 3) := by decide +kernel
theorem dX5_isBetter_76 : decode cX5_isBetter 76 = .ok (.iconst 1, 1) := by decide +kernel
theorem dX5_isBetter_77 : decode cX5_isBetter 77 = .ok (.goto 4, 3) := by decide +kernel
theorem dX5_isBetter_80 : decode cX5_isBetter 80 = .ok (.iconst 0, 1) := by decide +kernel
theorem dX5_isBetter_81 : decode cX5_isBetter 81 = .ok (.ireturn, 1) := by decide +kernel
theorem dX5_isBetter_82 : decode cX5_isBetter 82 = .ok (.iinc 5 (-1), 3) := by decide +kernel
theorem dX5_isBetter_85 : decode cX5_isBetter 85 = .ok (.goto (-46), 3) := by decide +kernel
theorem dX5_isBetter_88 : decode cX5_isBetter 88 = .ok (.iload_n 1, 1) := by decide +kernel
theorem dX5_isBetter_89 : decode cX5_isBetter 89 = .ok (.iload_n 2, 1) := by decide +kernel
theorem dX5_isBetter_90 : decode cX5_isBetter 90 = .ok (.if_icmp .ge 7, 3) := by decide +kernel
theorem dX5_isBetter_93 : decode cX5_isBetter 93 = .ok (.iconst 1, 1) := by decide +kernel
theorem dX5_isBetter_94 : decode cX5_isBetter 94 = .ok (.goto 4, 3) := by decide +kernel
theorem dX5_isBetter_97 : decode cX5_isBetter 97 = .ok (.iconst 0, 1) := by decide +kernel
theorem dX5_isBetter_98 : decode cX5_isBetter 98 = .ok (.ireturn, 1) := by decide +kernel
set_option maxRecDepth 20000 in
theorem ggX5_scoreAt_X8_isBoatNumber : GoodIn wsX5_scoreAt wsX8_isBoatNumber := goodIn_r _ [4] (by decide +kernel) (by decide +kernel)
set_option maxRecDepth 20000 in
theorem gX5_scoreAt_X8_isBoatNumber_n63 : GoodIn wsX5_scoreAt (wsX8_isBoatNumber) := ggX5_scoreAt_X8_isBoatNumber
theorem dX5_scoreAt_0 : decode cX5_scoreAt 0 = .ok (.iload_n 1, 1) := by decide +kernel
theorem dX5_scoreAt_1 : decode cX5_scoreAt 1 = .ok (.invokestatic 63, 3) := by decide +kernel
theorem dX5_scoreAt_4 : decode cX5_scoreAt 4 = .ok (.ifCond .eq 12, 3) := by decide +kernel
theorem dX5_scoreAt_7 : decode cX5_scoreAt 7 = .ok (.aload_n 0, 1) := by decide +kernel
theorem dX5_scoreAt_8 : decode cX5_scoreAt 8 = .ok (.getfield 28, 3) := by decide +kernel
theorem dX5_scoreAt_11 : decode cX5_scoreAt 11 = .ok (.iload_n 1, 1) := by decide +kernel
theorem dX5_scoreAt_12 : decode cX5_scoreAt 12 = .ok (.iaload, 1) := by decide +kernel
theorem dX5_scoreAt_13 : decode cX5_scoreAt 13 = .ok (.goto 4, 3) := by decide +kernel
theorem dX5_scoreAt_16 : decode cX5_scoreAt 16 = .ok (.iconst 0, 1) := by decide +kernel
theorem dX5_scoreAt_17 : decode cX5_scoreAt 17 = .ok (.ireturn, 1) := by decide +kernel
theorem dX6_init_0 : decode cX6_init 0 = .ok (.aload_n 0, 1) := by decide +kernel
theorem dX6_init_1 : decode cX6_init 1 = .ok (.invokespecial 3, 3) := by decide +kernel
theorem dX6_init_4 : decode cX6_init 4 = .ok (.aload_n 0, 1) := by decide +kernel
theorem dX6_init_5 : decode cX6_init 5 = .ok (.iconst 0, 1) := by decide +kernel
theorem dX6_init_6 : decode cX6_init 6 = .ok (.putfield 9, 3) := by decide +kernel
theorem dX6_init_9 : decode cX6_init 9 = .ok (.aload_n 0, 1) := by decide +kernel
theorem dX6_init_10 : decode cX6_init 10 = .ok (.sipush 150, 3) := by decide +kernel
theorem dX6_init_13 : decode cX6_init 13 = .ok (.putfield 15, 3) := by decide +kernel
theorem dX6_init_16 : decode cX6_init 16 = .ok (.aload_n 0, 1) := by decide +kernel
theorem dX6_init_17 : decode cX6_init 17 = .ok (.iconst 0, 1) := by decide +kernel
theorem dX6_init_18 : decode cX6_init 18 = .ok (.putfield 18, 3) := by decide +kernel
theorem dX6_init_21 : decode cX6_init 21 = .ok (.aload_n 0, 1) := by decide +kernel
theorem dX6_init_22 : decode cX6_init 22 = .ok (.iconst 0, 1) := by decide +kernel
theorem dX6_init_23 : decode cX6_init 23 = .ok (.putfield 21, 3) := by decide +kernel
theorem dX6_init_26 : decode cX6_init 26 = .ok (.aload_n 0, 1) := by decide +kernel
theorem dX6_init_27 : decode cX6_init 27 = .ok (.iconst 3, 1) := by decide +kernel
theorem dX6_init_28 : decode cX6_init 28 = .ok (.newarray .int, 2) := by decide +kernel
theorem dX6_init_30 : decode cX6_init 30 = .ok (.putfield 24, 3) := by decide +kernel
theorem dX6_init_33 : decode cX6_init 33 = .ok (.aload_n 0, 1) := by decide +kernel
theorem dX6_init_34 : decode cX6_init 34 = .ok (.iconst 0, 1) := by decide +kernel
theorem dX6_init_35 : decode cX6_init 35 = .ok (.putfield 28, 3) := by decide +kernel
theorem dX6_init_38 : decode cX6_init 38 = .ok (.return_, 1) := by decide +kernel
theorem dX6_forget_0 : decode cX6_forget 0 = .ok (.aload_n 0, 1) := by decide +kernel
theorem dX6_forget_1 : decode cX6_forget 1 = .ok (.iconst 0, 1) := by decide +kernel
theorem dX6_forget_2 : decode cX6_forget 2 = .ok (.putfield 9, 3) := by decide +kernel
theorem dX6_forget_5 : decode cX6_forget 5 = .ok (.aload_n 0, 1) := by decide +kernel
theorem dX6_forget_6 : decode cX6_forget 6 = .ok (.sipush 150, 3) := by decide +kernel
theorem dX6_forget_9 : decode cX6_forget 9 = .ok (.putfield 15, 3) := by decide +kernel
theorem dX6_forget_12 : decode cX6_forget 12 = .ok (.aload_n 0, 1) := by decide +kernel
theorem dX6_forget_13 : decode cX6_forget 13 = .ok (.iconst 0, 1) := by decide +kernel
theorem dX6_forget_14 : decode cX6_forget 14 = .ok (.putfield 18, 3) := by decide +kernel
theorem dX6_forget_17 : decode cX6_forget 17 = .ok (.aload_n 0, 1) := by decide +kernel
theorem dX6_forget_18 : decode cX6_forget 18 = .ok (.iconst 0, 1) := by decide +kernel
theorem dX6_forget_19 : decode cX6_forget 19 = .ok (.putfield 21, 3) := by decide +kernel
theorem dX6_forget_22 : decode cX6_forget 22 = .ok (.aload_n 0, 1) := by decide +kernel
theorem dX6_forget_23 : decode cX6_forget 23 = .ok (.iconst 0, 1) := by decide +kernel
theorem dX6_forget_24 : decode cX6_forget 24 = .ok (.putfield 28, 3) := by decide +kernel
theorem dX6_forget_27 : decode cX6_forget 27 = .ok (.return_, 1) := by decide +kernel
theorem dX6_takeOver_0 : decode cX6_takeOver 0 = .ok (.aload_n 0, 1) := by decide +kernel
theorem dX6_takeOver_1 : decode cX6_takeOver 1 = .ok (.aload_n 1, 1) := by decide +kernel
theorem dX6_takeOver_2 : decode cX6_takeOver 2 = .ok (.getfield 9, 3) := by decide +kernel
theorem dX6_takeOver_5 : decode cX6_takeOver 5 = .ok (.putfield 9, 3) := by decide +kernel
theorem dX6_takeOver_8 : decode cX6_takeOver 8 = .ok (.aload_n 0, 1) := by decide +kernel
theorem dX6_takeOver_9 : decode cX6_takeOver 9 = .ok (.aload_n 1, 1) := by decide +kernel
theorem dX6_takeOver_10 : decode cX6_takeOver 10 = .ok (.getfield 15, 3) := by decide +kernel
theorem dX6_takeOver_13 : decode cX6_takeOver 13 = .ok (.putfield 15, 3) := by decide +kernel
theorem dX6_takeOver_16 : decode cX6_takeOver 16 = .ok (.aload_n 0, 1) := by decide +kernel
theorem dX6_takeOver_17 : decode cX6_takeOver 17 = .ok (.aload_n 1, 1) := by decide +kernel
theorem dX6_takeOver_18 : decode cX6_takeOver 18 = .ok (.getfield 18, 3) := by decide +kernel
theorem dX6_takeOver_21 : decode cX6_takeOver 21 = .ok (.putfield 18, 3) := by decide +kernel
theorem dX6_takeOver_24 : decode cX6_takeOver 24 = .ok (.aload_n 0, 1) := by decide +kernel
theorem dX6_takeOver_25 : decode cX6_takeOver 25 = .ok (.aload_n 1, 1) := by decide +kernel
theorem dX6_takeOver_26 : decode cX6_takeOver 26 = .ok (.getfield 21, 3) := by decide +kernel
theorem dX6_takeOver_29 : decode cX6_takeOver 29 = .ok (.putfield 21, 3) := by decide +kernel
theorem dX6_takeOver_32 : decode cX6_takeOver 32 = .ok (.aload_n 0, 1) := by decide +kernel
theorem dX6_takeOver_33 : decode cX6_takeOver 33 = .ok (.aload_n 1, 1) := by decide +kernel
theorem dX6_takeOver_34 : decode cX6_takeOver 34 = .ok (.getfield 28, 3) := by decide +kernel
theorem dX6_takeOver_37 : decode cX6_takeOver 37 = .ok (.putfield 28, 3) := by decide +kernel
theorem dX6_takeOver_40 : decode cX6_takeOver 40 = .ok (.iconst 0, 1) := by decide +kernel
theorem dX6_takeOver_41 : decode cX6_takeOver 41 = .ok (.istore_n 2, 1) := by decide +kernel
theorem dX6_takeOver_42 : decode cX6_takeOver 42 = .ok (.iload_n 2, 1) := by decide +kernel
theorem dX6_takeOver_43 : decode cX6_takeOver 43 = .ok (.iconst 3, 1) := by decide +kernel
theorem dX6_takeOver_44 : decode cX6_takeOver 44 = .ok (.if_icmp .ge 21, 3) := by decide +kernel
theorem dX6_takeOver_47 : decode cX6_takeOver 47 = .ok (.aload_n 0, 1) := by decide +kernel
theorem dX6_takeOver_48 : decode cX6_takeOver 48 = .ok (.getfield 24, 3) := by decide +kernel
theorem dX6_takeOver_51 : decode cX6_takeOver 51 = .ok (.iload_n 2, 1) := by decide +kernel
theorem dX6_takeOver_52 : decode cX6_takeOver 52 = .ok (.aload_n 1, 1) := by decide +kernel
theorem dX6_takeOver_53 : decode cX6_takeOver 53 = .ok (.getfield 24, 3) := by decide +kernel
theorem dX6_takeOver_56 : decode cX6_takeOver 56 = .ok (.iload_n 2, 1) := by decide +kernel
theorem dX6_takeOver_57 : decode cX6_takeOver 57 = .ok (.iaload, 1) := by decide +kernel
theorem dX6_takeOver_58 : decode cX6_takeOver 58 = .ok (.iastore, 1) := by decide +kernel
theorem dX6_takeOver_59 : decode cX6_takeOver 59 = .ok (.iinc 2 1, 3) := by decide +kernel
theorem dX6_takeOver_62 : decode cX6_takeOver 62 = .ok (.goto (-20), 3) := by decide +kernel
theorem dX6_takeOver_65 : decode cX6_takeOver 65 = .ok (.return_, 1) := by decide +kernel
theorem dX6_addRight_0 : decode cX6_addRight 0 = .ok (.iconst 0, 1) := by decide +kernel
theorem dX6_addRight_1 : decode cX6_addRight 1 = .ok (.istore_n 2, 1) := by decide +kernel
theorem dX6_addRight_2 : decode cX6_addRight 2 = .ok (.iload_n 2, 1) := by decide +kernel
theorem dX6_addRight_3 : decode cX6_addRight 3 = .ok (.aload_n 0, 1) := by decide +kernel
theorem dX6_addRight_4 : decode cX6_addRight 4 = .ok (.getfield 28, 3) := by decide +kernel
theorem dX6_addRight_7 : decode cX6_addRight 7 = .ok (.if_icmp .ge 21, 3) := by decide +kernel
theorem dX6_addRight_10 : decode cX6_addRight 10 = .ok (.aload_n 0, 1) := by decide +kernel
theorem dX6_addRight_11 : decode cX6_addRight 11 = .ok (.getfield 24, 3) := by decide +kernel
theorem dX6_addRight_14 : decode cX6_addRight 14 = .ok (.iload_n 2, 1) := by decide +kernel
theorem dX6_addRight_15 : decode cX6_addRight 15 = .ok (.iaload, 1) := by decide +kernel
theorem dX6_addRight_16 : decode cX6_addRight 16 = .ok (.iload_n 1, 1) := by decide +kernel
theorem dX6_addRight_17 : decode cX6_addRight 17 = .ok (.if_icmp .ne 5, 3) := by decide +kernel
theorem dX6_addRight_20 : decode cX6_addRight 20 = .ok (.iconst 0, 1) := by decide +kernel
theorem dX6_addRight_21 : decode cX6_addRight 21 = .ok (.ireturn, 1) := by decide +kernel
theorem dX6_addRight_22 : decode cX6_addRight 22 = .ok (.iinc 2 1, 3) := by decide +kernel
theorem dX6_addRight_25 : decode cX6_addRight 25 = .ok (.goto (-23), 3) := by decide +kernel
theorem dX6_addRight_28 : decode cX6_addRight 28 = .ok (.aload_n 0, 1) := by decide +kernel
theorem dX6_addRight_29 : decode cX6_addRight 29 = .ok (.getfield 28, 3) := by decide +kernel
theorem dX6_addRight_32 : decode cX6_addRight 32 = .ok (.iconst 3, 1) := by decide +kernel
theorem dX6_addRight_33 : decode cX6_addRight 33 = .ok (.if_icmp .lt 5, 3) := by decide +kernel
theorem dX6_addRight_36 : decode cX6_addRight 36 = .ok (.iconst 0, 1) := by decide +kernel
theorem dX6_addRight_37 : decode cX6_addRight 37 = .ok (.ireturn, 1) := by decide +kernel
theorem dX6_addRight_38 : decode cX6_addRight 38 = .ok (.aload_n 0, 1) := by decide +kernel
theorem dX6_addRight_39 : decode cX6_addRight 39 = .ok (.getfield 24, 3) := by decide +kernel
theorem dX6_addRight_42 : decode cX6_addRight 42 = .ok (.aload_n 0, 1) := by decide +kernel
theorem dX6_addRight_43 : decode cX6_addRight 43 = .ok (.getfield 28, 3) := by decide +kernel
theorem dX6_addRight_46 : decode cX6_addRight 46 = .ok (.iload_n 1, 1) := by decide +kernel
theorem dX6_addRight_47 : decode cX6_addRight 47 = .ok (.iastore, 1) := by decide +kernel
theorem dX6_addRight_48 : decode cX6_addRight 48 = .ok (.aload_n 0, 1) := by decide +kernel
theorem dX6_addRight_49 : decode cX6_addRight 49 = .ok (.dup, 1) := by decide +kernel
theorem dX6_addRight_50 : decode cX6_addRight 50 = .ok (.getfield 28, 3) := by decide +kernel
theorem dX6_addRight_53 : decode cX6_addRight 53 = .ok (.iconst 1, 1) := by decide +kernel
theorem dX6_addRight_54 : decode cX6_addRight 54 = .ok (.iadd, 1) := by decide +kernel
theorem dX6_addRight_55 : decode cX6_addRight 55 = .ok (.putfield 28, 3) := by decide +kernel
theorem dX6_addRight_58 : decode cX6_addRight 58 = .ok (.iconst 1, 1) := by decide +kernel
theorem dX6_addRight_59 : decode cX6_addRight 59 = .ok (.ireturn, 1) := by decide +kernel
theorem dX6_dropsAfter_0 : decode cX6_dropsAfter 0 = .ok (.iload_n 1, 1) := by decide +kernel
theorem dX6_dropsAfter_1 : decode cX6_dropsAfter 1 = .ok (.aload_n 0, 1) := by decide +kernel
theorem dX6_dropsAfter_2 : decode cX6_dropsAfter 2 = .ok (.getfield 21, 3) := by decide +kernel
