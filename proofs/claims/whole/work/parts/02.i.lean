theorem dX9_boat_39 : decode cX9_boat 39 = .ok (.aload_n 0, 1) := by decide +kernel
theorem dX9_boat_40 : decode cX9_boat 40 = .ok (.getfield 55, 3) := by decide +kernel
theorem dX9_boat_43 : decode cX9_boat 43 = .ok (.bipush 16, 2) := by decide +kernel
theorem dX9_boat_45 : decode cX9_boat 45 = .ok (.iload_n 1, 1) := by decide +kernel
theorem dX9_boat_46 : decode cX9_boat 46 = .ok (.imul, 1) := by decide +kernel
theorem dX9_boat_47 : decode cX9_boat 47 = .ok (.aload_n 0, 1) := by decide +kernel
theorem dX9_boat_48 : decode cX9_boat 48 = .ok (.getfield 224, 3) := by decide +kernel
theorem dX9_boat_51 : decode cX9_boat 51 = .ok (.iadd, 1) := by decide +kernel
theorem dX9_boat_52 : decode cX9_boat 52 = .ok (.aload_n 0, 1) := by decide +kernel
theorem dX9_boat_53 : decode cX9_boat 53 = .ok (.getfield 58, 3) := by decide +kernel
theorem dX9_boat_56 : decode cX9_boat 56 = .ok (.iload_n 1, 1) := by decide +kernel
theorem dX9_boat_57 : decode cX9_boat 57 = .ok (.iaload, 1) := by decide +kernel
theorem dX9_boat_58 : decode cX9_boat 58 = .ok (.iconst 1, 1) := by decide +kernel
theorem dX9_boat_59 : decode cX9_boat 59 = .ok (.iadd, 1) := by decide +kernel
theorem dX9_boat_60 : decode cX9_boat 60 = .ok (.iastore, 1) := by decide +kernel
theorem dX9_boat_61 : decode cX9_boat 61 = .ok (.iinc 1 1, 3) := by decide +kernel
theorem dX9_boat_64 : decode cX9_boat 64 = .ok (.goto (-33), 3) := by decide +kernel
theorem dX9_boat_67 : decode cX9_boat 67 = .ok (.aload_n 0, 1) := by decide +kernel
theorem dX9_boat_68 : decode cX9_boat 68 = .ok (.dup, 1) := by decide +kernel
theorem dX9_boat_69 : decode cX9_boat 69 = .ok (.getfield 224, 3) := by decide +kernel
theorem dX9_boat_72 : decode cX9_boat 72 = .ok (.iconst 1, 1) := by decide +kernel
theorem dX9_boat_73 : decode cX9_boat 73 = .ok (.iadd, 1) := by decide +kernel
theorem dX9_boat_74 : decode cX9_boat 74 = .ok (.putfield 224, 3) := by decide +kernel
theorem dX9_boat_77 : decode cX9_boat 77 = .ok (.aload_n 0, 1) := by decide +kernel
theorem dX9_boat_78 : decode cX9_boat 78 = .ok (.getfield 224, 3) := by decide +kernel
theorem dX9_boat_81 : decode cX9_boat 81 = .ok (.iconst 1, 1) := by decide +kernel
theorem dX9_boat_82 : decode cX9_boat 82 = .ok (.isub, 1) := by decide +kernel
theorem dX9_boat_83 : decode cX9_boat 83 = .ok (.ireturn, 1) := by decide +kernel
theorem dX9_isBoat_0 : decode cX9_isBoat 0 = .ok (.iload_n 1, 1) := by decide +kernel
theorem dX9_isBoat_1 : decode cX9_isBoat 1 = .ok (.ifCond .lt 15, 3) := by decide +kernel
theorem dX9_isBoat_4 : decode cX9_isBoat 4 = .ok (.iload_n 1, 1) := by decide +kernel
theorem dX9_isBoat_5 : decode cX9_isBoat 5 = .ok (.aload_n 0, 1) := by decide +kernel
theorem dX9_isBoat_6 : decode cX9_isBoat 6 = .ok (.getfield 224, 3) := by decide +kernel
theorem dX9_isBoat_9 : decode cX9_isBoat 9 = .ok (.if_icmp .ge 7, 3) := by decide +kernel
theorem dX9_isBoat_12 : decode cX9_isBoat 12 = .ok (.iconst 1, 1) := by decide +kernel
theorem dX9_isBoat_13 : decode cX9_isBoat 13 = .ok (.goto 4, 3) := by decide +kernel
theorem dX9_isBoat_16 : decode cX9_isBoat 16 = .ok (.iconst 0, 1) := by decide +kernel
theorem dX9_isBoat_17 : decode cX9_isBoat 17 = .ok (.ireturn, 1) := by decide +kernel
theorem dX9_tackOf_0 : decode cX9_tackOf 0 = .ok (.aload_n 0, 1) := by decide +kernel
theorem dX9_tackOf_1 : decode cX9_tackOf 1 = .ok (.getfield 117, 3) := by decide +kernel
theorem dX9_tackOf_4 : decode cX9_tackOf 4 = .ok (.aload_n 0, 1) := by decide +kernel
theorem dX9_tackOf_5 : decode cX9_tackOf 5 = .ok (.getfield 52, 3) := by decide +kernel
theorem dX9_tackOf_8 : decode cX9_tackOf 8 = .ok (.iload_n 1, 1) := by decide +kernel
theorem dX9_tackOf_9 : decode cX9_tackOf 9 = .ok (.iaload, 1) := by decide +kernel
theorem dX9_tackOf_10 : decode cX9_tackOf 10 = .ok (.isub, 1) := by decide +kernel
theorem dX9_tackOf_11 : decode cX9_tackOf 11 = .ok (.bipush 8, 2) := by decide +kernel
theorem dX9_tackOf_13 : decode cX9_tackOf 13 = .ok (.iadd, 1) := by decide +kernel
theorem dX9_tackOf_14 : decode cX9_tackOf 14 = .ok (.bipush 8, 2) := by decide +kernel
theorem dX9_tackOf_16 : decode cX9_tackOf 16 = .ok (.irem, 1) := by decide +kernel
theorem dX9_tackOf_17 : decode cX9_tackOf 17 = .ok (.istore_n 2, 1) := by decide +kernel
theorem dX9_tackOf_18 : decode cX9_tackOf 18 = .ok (.iload_n 2, 1) := by decide +kernel
theorem dX9_tackOf_19 : decode cX9_tackOf 19 = .ok (.ifCond .eq 8, 3) := by decide +kernel
theorem dX9_tackOf_22 : decode cX9_tackOf 22 = .ok (.iload_n 2, 1) := by decide +kernel
theorem dX9_tackOf_23 : decode cX9_tackOf 23 = .ok (.iconst 4, 1) := by decide +kernel
theorem dX9_tackOf_24 : decode cX9_tackOf 24 = .ok (.if_icmp .ne 7, 3) := by decide +kernel
theorem dX9_tackOf_27 : decode cX9_tackOf 27 = .ok (.iconst 0, 1) := by decide +kernel
theorem dX9_tackOf_28 : decode cX9_tackOf 28 = .ok (.goto 13, 3) := by decide +kernel
theorem dX9_tackOf_31 : decode cX9_tackOf 31 = .ok (.iload_n 2, 1) := by decide +kernel
theorem dX9_tackOf_32 : decode cX9_tackOf 32 = .ok (.iconst 4, 1) := by decide +kernel
theorem dX9_tackOf_33 : decode cX9_tackOf 33 = .ok (.if_icmp .ge 7, 3) := by decide +kernel
theorem dX9_tackOf_36 : decode cX9_tackOf 36 = .ok (.iconst 1, 1) := by decide +kernel
theorem dX9_tackOf_37 : decode cX9_tackOf 37 = .ok (.goto 4, 3) := by decide +kernel
theorem dX9_tackOf_40 : decode cX9_tackOf 40 = .ok (.iconst 2, 1) := by decide +kernel
theorem dX9_tackOf_41 : decode cX9_tackOf 41 = .ok (.ireturn, 1) := by decide +kernel
theorem dX9_isPoint_0 : decode cX9_isPoint 0 = .ok (.iload_n 0, 1) := by decide +kernel
theorem dX9_isPoint_1 : decode cX9_isPoint 1 = .ok (.ifCond .lt 14, 3) := by decide +kernel
theorem dX9_isPoint_4 : decode cX9_isPoint 4 = .ok (.iload_n 0, 1) := by decide +kernel
theorem dX9_isPoint_5 : decode cX9_isPoint 5 = .ok (.sipush 1000, 3) := by decide +kernel
theorem dX9_isPoint_8 : decode cX9_isPoint 8 = .ok (.if_icmp .gt 7, 3) := by decide +kernel
theorem dX9_isPoint_11 : decode cX9_isPoint 11 = .ok (.iconst 1, 1) := by decide +kernel
theorem dX9_isPoint_12 : decode cX9_isPoint 12 = .ok (.goto 4, 3) := by decide +kernel
theorem dX9_isPoint_15 : decode cX9_isPoint 15 = .ok (.iconst 0, 1) := by decide +kernel
theorem dX9_isPoint_16 : decode cX9_isPoint 16 = .ok (.ireturn, 1) := by decide +kernel
set_option maxRecDepth 20000 in
theorem ggX9_place_X9_isBoat : GoodIn wsX9_place wsX9_isBoat := goodIn_r _ [9, 10, 26, 27, 28, 29, 30, 31, 32, 33, 34, 35, 36, 37, 38, 39, 40, 41, 42, 43, 44, 45, 46, 47, 48, 49, 50, 51, 52, 53, 54, 55, 56, 57, 58, 59, 60, 61, 62, 63, 64, 65, 66] (by decide +kernel) (by decide +kernel)
set_option maxRecDepth 20000 in
theorem gX9_place_X9_isBoat : GoodIn wsX9_place (wsV RX9 230 RX9 yX9_isBoat wsX9_isBoat) := goodIn_app (goodIn_of _ (by decide +kernel)) ggX9_place_X9_isBoat
set_option maxRecDepth 20000 in
theorem ggX9_place_X9_bad : GoodIn wsX9_place wsX9_bad := goodIn_r _ [14, 1, 26, 27, 28, 29, 30, 31, 32, 33, 34, 35, 36, 37, 38, 39, 40, 41, 42, 43, 44, 45, 46, 47, 48, 49, 50, 51, 52, 53, 54, 55, 56, 57, 58, 59, 60, 61, 62, 63, 64, 65, 66] (by decide +kernel) (by decide +kernel)
set_option maxRecDepth 20000 in
theorem gX9_place_X9_bad : GoodIn wsX9_place (wsV RX9 96 RX9 yX9_bad wsX9_bad) := goodIn_app (goodIn_of _ (by decide +kernel)) ggX9_place_X9_bad
set_option maxRecDepth 20000 in
theorem ggX9_place_X9_isPoint : GoodIn wsX9_place wsX9_isPoint := goodIn_r _ [17] (by decide +kernel) (by decide +kernel)
set_option maxRecDepth 20000 in
theorem gX9_place_X9_isPoint : GoodIn wsX9_place (va_wsS RX9 233 yX9_isPoint wsX9_isPoint) := goodIn_app (goodIn_of _ (by decide +kernel)) ggX9_place_X9_isPoint
set_option maxRecDepth 20000 in
theorem ggX9_place_X9_isWay : GoodIn wsX9_place wsX9_isWay := goodIn_r _ [20] (by decide +kernel) (by decide +kernel)
set_option maxRecDepth 20000 in
theorem gX9_place_X9_isWay : GoodIn wsX9_place (va_wsS RX9 114 yX9_isWay wsX9_isWay) := goodIn_app (goodIn_of _ (by decide +kernel)) ggX9_place_X9_isWay
set_option maxRecDepth 20000 in
theorem ggX9_place_X9_tackOf : GoodIn wsX9_place wsX9_tackOf := goodIn_r _ [24, 25, 4, 26, 27, 28, 29, 30, 31, 32, 33, 34, 35, 36, 37, 38, 39, 40, 41, 42, 43, 44, 45, 46, 47, 48, 49, 50, 51, 52, 53, 54, 55, 56, 57, 58, 59, 60, 61, 62, 63, 64, 65, 66] (by decide +kernel) (by decide +kernel)
set_option maxRecDepth 20000 in
theorem gX9_place_X9_tackOf : GoodIn wsX9_place (wsV RX9 236 RX9 yX9_tackOf wsX9_tackOf) := goodIn_app (goodIn_of _ (by decide +kernel)) ggX9_place_X9_tackOf
theorem dX9_place_0 : decode cX9_place 0 = .ok (.aload_n 0, 1) := by decide +kernel
theorem dX9_place_1 : decode cX9_place 1 = .ok (.iconst 0, 1) := by decide +kernel
theorem dX9_place_2 : decode cX9_place 2 = .ok (.putfield 82, 3) := by decide +kernel
theorem dX9_place_5 : decode cX9_place 5 = .ok (.aload_n 0, 1) := by decide +kernel
theorem dX9_place_6 : decode cX9_place 6 = .ok (.aload_n 0, 1) := by decide +kernel
theorem dX9_place_7 : decode cX9_place 7 = .ok (.iload_n 1, 1) := by decide +kernel
theorem dX9_place_8 : decode cX9_place 8 = .ok (.invokevirtual 230, 3) := by decide +kernel
theorem dX9_place_11 : decode cX9_place 11 = .ok (.ifCond .ne 7, 3) := by decide +kernel
theorem dX9_place_14 : decode cX9_place 14 = .ok (.iconst 1, 1) := by decide +kernel
theorem dX9_place_15 : decode cX9_place 15 = .ok (.goto 4, 3) := by decide +kernel
theorem dX9_place_18 : decode cX9_place 18 = .ok (.iconst 0, 1) := by decide +kernel
theorem dX9_place_19 : decode cX9_place 19 = .ok (.iconst 1, 1) := by decide +kernel
theorem dX9_place_20 : decode cX9_place 20 = .ok (.invokevirtual 96, 3) := by decide +kernel
theorem dX9_place_23 : decode cX9_place 23 = .ok (.ifCond .ne 38, 3) := by decide +kernel
theorem dX9_place_26 : decode cX9_place 26 = .ok (.aload_n 0, 1) := by decide +kernel
theorem dX9_place_27 : decode cX9_place 27 = .ok (.iload_n 2, 1) := by decide +kernel
theorem dX9_place_28 : decode cX9_place 28 = .ok (.invokestatic 233, 3) := by decide +kernel
theorem dX9_place_31 : decode cX9_place 31 = .ok (.ifCond .eq 18, 3) := by decide +kernel
theorem dX9_place_34 : decode cX9_place 34 = .ok (.iload_n 3, 1) := by decide +kernel
theorem dX9_place_35 : decode cX9_place 35 = .ok (.invokestatic 233, 3) := by decide +kernel
theorem dX9_place_38 : decode cX9_place 38 = .ok (.ifCond .eq 11, 3) := by decide +kernel
theorem dX9_place_41 : decode cX9_place 41 = .ok (.iload 4, 2) := by decide +kernel
theorem dX9_place_43 : decode cX9_place 43 = .ok (.invokestatic 114, 3) := by decide +kernel
theorem dX9_place_46 : decode cX9_place 46 = .ok (.ifCond .ne 7, 3) := by decide +kernel
theorem dX9_place_49 : decode cX9_place 49 = .ok (.iconst 1, 1) := by decide +kernel
theorem dX9_place_50 : decode cX9_place 50 = .ok (.goto 4, 3) := by decide +kernel
theorem dX9_place_53 : decode cX9_place 53 = .ok (.iconst 0, 1) := by decide +kernel
theorem dX9_place_54 : decode cX9_place 54 = .ok (.iconst 2, 1) := by decide +kernel
theorem dX9_place_55 : decode cX9_place 55 = .ok (.invokevirtual 96, 3) := by decide +kernel
theorem dX9_place_58 : decode cX9_place 58 = .ok (.ifCond .eq 5, 3) := by decide +kernel
theorem dX9_place_61 : decode cX9_place 61 = .ok (.iconst 0, 1) := by decide +kernel
theorem dX9_place_62 : decode cX9_place 62 = .ok (.ireturn, 1) := by decide +kernel
theorem dX9_place_63 : decode cX9_place 63 = .ok (.aload_n 0, 1) := by decide +kernel
theorem dX9_place_64 : decode cX9_place 64 = .ok (.getfield 46, 3) := by decide +kernel
theorem dX9_place_67 : decode cX9_place 67 = .ok (.iload_n 1, 1) := by decide +kernel
theorem dX9_place_68 : decode cX9_place 68 = .ok (.iload_n 2, 1) := by decide +kernel
theorem dX9_place_69 : decode cX9_place 69 = .ok (.iastore, 1) := by decide +kernel
theorem dX9_place_70 : decode cX9_place 70 = .ok (.aload_n 0, 1) := by decide +kernel
theorem dX9_place_71 : decode cX9_place 71 = .ok (.getfield 49, 3) := by decide +kernel
theorem dX9_place_74 : decode cX9_place 74 = .ok (.iload_n 1, 1) := by decide +kernel
theorem dX9_place_75 : decode cX9_place 75 = .ok (.iload_n 3, 1) := by decide +kernel
theorem dX9_place_76 : decode cX9_place 76 = .ok (.iastore, 1) := by decide +kernel
theorem dX9_place_77 : decode cX9_place 77 = .ok (.aload_n 0, 1) := by decide +kernel
theorem dX9_place_78 : decode cX9_place 78 = .ok (.getfield 52, 3) := by decide +kernel
theorem dX9_place_81 : decode cX9_place 81 = .ok (.iload_n 1, 1) := by decide +kernel
theorem dX9_place_82 : decode cX9_place 82 = .ok (.iload 4, 2) := by decide +kernel
theorem dX9_place_84 : decode cX9_place 84 = .ok (.iastore, 1) := by decide +kernel
theorem dX9_place_85 : decode cX9_place 85 = .ok (.aload_n 0, 1) := by decide +kernel
theorem dX9_place_86 : decode cX9_place 86 = .ok (.iload_n 1, 1) := by decide +kernel
theorem dX9_place_87 : decode cX9_place 87 = .ok (.invokevirtual 236, 3) := by decide +kernel
theorem dX9_place_90 : decode cX9_place 90 = .ok (.ireturn, 1) := by decide +kernel
set_option maxRecDepth 20000 in
theorem ggX9_far_X9_wayX : GoodIn wsX9_far wsX9_wayX := goodIn_r _ [6] (by decide +kernel) (by decide +kernel)
set_option maxRecDepth 20000 in
theorem gX9_far_X9_wayX : GoodIn wsX9_far (va_wsS RX9 120 yX9_wayX wsX9_wayX) := goodIn_app (goodIn_of _ (by decide +kernel)) ggX9_far_X9_wayX
set_option maxRecDepth 20000 in
theorem ggX9_far_X9_wayY : GoodIn wsX9_far wsX9_wayY := goodIn_r _ [9] (by decide +kernel) (by decide +kernel)
set_option maxRecDepth 20000 in
theorem gX9_far_X9_wayY : GoodIn wsX9_far (va_wsS RX9 123 yX9_wayY wsX9_wayY) := goodIn_app (goodIn_of _ (by decide +kernel)) ggX9_far_X9_wayY
theorem dX9_far_0 : decode cX9_far 0 = .ok (.aload_n 0, 1) := by decide +kernel
theorem dX9_far_1 : decode cX9_far 1 = .ok (.getfield 46, 3) := by decide +kernel
theorem dX9_far_4 : decode cX9_far 4 = .ok (.iload_n 1, 1) := by decide +kernel
theorem dX9_far_5 : decode cX9_far 5 = .ok (.iaload, 1) := by decide +kernel
theorem dX9_far_6 : decode cX9_far 6 = .ok (.iload_n 2, 1) := by decide +kernel
theorem dX9_far_7 : decode cX9_far 7 = .ok (.invokestatic 120, 3) := by decide +kernel
theorem dX9_far_10 : decode cX9_far 10 = .ok (.imul, 1) := by decide +kernel
theorem dX9_far_11 : decode cX9_far 11 = .ok (.aload_n 0, 1) := by decide +kernel
theorem dX9_far_12 : decode cX9_far 12 = .ok (.getfield 49, 3) := by decide +kernel
theorem dX9_far_15 : decode cX9_far 15 = .ok (.iload_n 1, 1) := by decide +kernel
theorem dX9_far_16 : decode cX9_far 16 = .ok (.iaload, 1) := by decide +kernel
theorem dX9_far_17 : decode cX9_far 17 = .ok (.iload_n 2, 1) := by decide +kernel
theorem dX9_far_18 : decode cX9_far 18 = .ok (.invokestatic 123, 3) := by decide +kernel
theorem dX9_far_21 : decode cX9_far 21 = .ok (.imul, 1) := by decide +kernel
theorem dX9_far_22 : decode cX9_far 22 = .ok (.iadd, 1) := by decide +kernel
theorem dX9_far_23 : decode cX9_far 23 = .ok (.ireturn, 1) := by decide +kernel
set_option maxRecDepth 20000 in
theorem ggX9_clear_X9_isBoat : GoodIn wsX9_clear wsX9_isBoat := goodIn_r _ [10, 11, 32, 33, 34, 35, 36, 37, 38, 39, 40, 41, 42, 43, 44, 45, 46, 47, 48, 49, 50, 51, 52, 53, 54, 55, 56, 57, 58, 59, 60, 61, 62, 63, 64, 65, 66, 67, 68, 69, 70, 71, 72] (by decide +kernel) (by decide +kernel)
set_option maxRecDepth 20000 in
theorem gX9_clear_X9_isBoat : GoodIn wsX9_clear (wsV RX9 230 RX9 yX9_isBoat wsX9_isBoat) := goodIn_app (goodIn_of _ (by decide +kernel)) ggX9_clear_X9_isBoat
set_option maxRecDepth 20000 in
theorem ggX9_clear_X9_bad : GoodIn wsX9_clear wsX9_bad := goodIn_r _ [15, 1, 32, 33, 34, 35, 36, 37, 38, 39, 40, 41, 42, 43, 44, 45, 46, 47, 48, 49, 50, 51, 52, 53, 54, 55, 56, 57, 58, 59, 60, 61, 62, 63, 64, 65, 66, 67, 68, 69, 70, 71, 72] (by decide +kernel) (by decide +kernel)
set_option maxRecDepth 20000 in
theorem gX9_clear_X9_bad : GoodIn wsX9_clear (wsV RX9 96 RX9 yX9_bad wsX9_bad) := goodIn_app (goodIn_of _ (by decide +kernel)) ggX9_clear_X9_bad
set_option maxRecDepth 20000 in
theorem ggX9_clear_X9_tackOf : GoodIn wsX9_clear wsX9_tackOf := goodIn_r _ [19, 4, 5, 32, 33, 34, 35, 36, 37, 38, 39, 40, 41, 42, 43, 44, 45, 46, 47, 48, 49, 50, 51, 52, 53, 54, 55, 56, 57, 58, 59, 60, 61, 62, 63, 64, 65, 66, 67, 68, 69, 70, 71, 72] (by decide +kernel) (by decide +kernel)
set_option maxRecDepth 20000 in
theorem gX9_clear_X9_tackOf : GoodIn wsX9_clear (wsV RX9 236 RX9 yX9_tackOf wsX9_tackOf) := goodIn_app (goodIn_of _ (by decide +kernel)) ggX9_clear_X9_tackOf
set_option maxRecDepth 20000 in
theorem ggX9_clear_X9_far : GoodIn wsX9_clear wsX9_far := goodIn_r _ [23, 24, 25, 26, 27, 9, 28, 29, 30, 31, 32, 33, 34, 35, 36, 37, 38, 39, 40, 41, 42, 43, 44, 45, 46, 47, 48, 49, 50, 51, 52, 53, 54, 55, 56, 57, 58, 59, 60, 61, 62, 63, 64, 65, 66, 67, 68, 69, 70, 71, 72] (by decide +kernel) (by decide +kernel)
set_option maxRecDepth 20000 in
theorem gX9_clear_X9_far : GoodIn wsX9_clear (wsV RX9 239 RX9 yX9_far wsX9_far) := goodIn_app (goodIn_of _ (by decide +kernel)) ggX9_clear_X9_far
theorem dX9_clear_0 : decode cX9_clear 0 = .ok (.aload_n 0, 1) := by decide +kernel
theorem dX9_clear_1 : decode cX9_clear 1 = .ok (.iconst 0, 1) := by decide +kernel
theorem dX9_clear_2 : decode cX9_clear 2 = .ok (.putfield 82, 3) := by decide +kernel
theorem dX9_clear_5 : decode cX9_clear 5 = .ok (.aload_n 0, 1) := by decide +kernel
theorem dX9_clear_6 : decode cX9_clear 6 = .ok (.aload_n 0, 1) := by decide +kernel
theorem dX9_clear_7 : decode cX9_clear 7 = .ok (.iload_n 1, 1) := by decide +kernel
theorem dX9_clear_8 : decode cX9_clear 8 = .ok (.invokevirtual 230, 3) := by decide +kernel
theorem dX9_clear_11 : decode cX9_clear 11 = .ok (.ifCond .eq 11, 3) := by decide +kernel
theorem dX9_clear_14 : decode cX9_clear 14 = .ok (.aload_n 0, 1) := by decide +kernel
theorem dX9_clear_15 : decode cX9_clear 15 = .ok (.iload_n 2, 1) := by decide +kernel
theorem dX9_clear_16 : decode cX9_clear 16 = .ok (.invokevirtual 230, 3) := by decide +kernel
theorem dX9_clear_19 : decode cX9_clear 19 = .ok (.ifCond .ne 7, 3) := by decide +kernel
theorem dX9_clear_22 : decode cX9_clear 22 = .ok (.iconst 1, 1) := by decide +kernel
theorem dX9_clear_23 : decode cX9_clear 23 = .ok (.goto 4, 3) := by decide +kernel
theorem dX9_clear_26 : decode cX9_clear 26 = .ok (.iconst 0, 1) := by decide +kernel
theorem dX9_clear_27 : decode cX9_clear 27 = .ok (.iconst 1, 1) := by decide +kernel
theorem dX9_clear_28 : decode cX9_clear 28 = .ok (.invokevirtual 96, 3) := by decide +kernel
theorem dX9_clear_31 : decode cX9_clear 31 = .ok (.ifCond .eq 5, 3) := by decide +kernel
theorem dX9_clear_34 : decode cX9_clear 34 = .ok (.iconst 0, 1) := by decide +kernel
theorem dX9_clear_35 : decode cX9_clear 35 = .ok (.ireturn, 1) := by decide +kernel
theorem dX9_clear_36 : decode cX9_clear 36 = .ok (.iload_n 1, 1) := by decide +kernel
theorem dX9_clear_37 : decode cX9_clear 37 = .ok (.iload_n 2, 1) := by decide +kernel
theorem dX9_clear_38 : decode cX9_clear 38 = .ok (.if_icmp .ne 5, 3) := by decide +kernel
theorem dX9_clear_41 : decode cX9_clear 41 = .ok (.iconst (-1), 1) := by decide +kernel
theorem dX9_clear_42 : decode cX9_clear 42 = .ok (.ireturn, 1) := by decide +kernel
theorem dX9_clear_43 : decode cX9_clear 43 = .ok (.iconst 0, 1) := by decide +kernel
theorem dX9_clear_44 : decode cX9_clear 44 = .ok (.istore_n 3, 1) := by decide +kernel
theorem dX9_clear_45 : decode cX9_clear 45 = .ok (.iload_n 3, 1) := by decide +kernel
theorem dX9_clear_46 : decode cX9_clear 46 = .ok (.aload_n 0, 1) := by decide +kernel
theorem dX9_clear_47 : decode cX9_clear 47 = .ok (.getfield 218, 3) := by decide +kernel
theorem dX9_clear_50 : decode cX9_clear 50 = .ok (.if_icmp .ge 202, 3) := by decide +kernel
theorem dX9_clear_53 : decode cX9_clear 53 = .ok (.aload_n 0, 1) := by decide +kernel
theorem dX9_clear_54 : decode cX9_clear 54 = .ok (.iload_n 1, 1) := by decide +kernel
theorem dX9_clear_55 : decode cX9_clear 55 = .ok (.invokevirtual 236, 3) := by decide +kernel
theorem dX9_clear_58 : decode cX9_clear 58 = .ok (.istore 4, 2) := by decide +kernel
theorem dX9_clear_60 : decode cX9_clear 60 = .ok (.aload_n 0, 1) := by decide +kernel
theorem dX9_clear_61 : decode cX9_clear 61 = .ok (.iload_n 2, 1) := by decide +kernel
theorem dX9_clear_62 : decode cX9_clear 62 = .ok (.invokevirtual 236, 3) := by decide +kernel
theorem dX9_clear_65 : decode cX9_clear 65 = .ok (.istore 5, 2) := by decide +kernel
theorem dX9_clear_67 : decode cX9_clear 67 = .ok (.aload_n 0, 1) := by decide +kernel
theorem dX9_clear_68 : decode cX9_clear 68 = .ok (.getfield 40, 3) := by decide +kernel
theorem dX9_clear_71 : decode cX9_clear 71 = .ok (.iload_n 3, 1) := by decide +kernel
theorem dX9_clear_72 : decode cX9_clear 72 = .ok (.iaload, 1) := by decide +kernel
theorem dX9_clear_73 : decode cX9_clear 73 = .ok (.ifCond .ne 32, 3) := by decide +kernel
theorem dX9_clear_76 : decode cX9_clear 76 = .ok (.iload 4, 2) := by decide +kernel
theorem dX9_clear_78 : decode cX9_clear 78 = .ok (.ifCond .le 168, 3) := by decide +kernel
theorem dX9_clear_81 : decode cX9_clear 81 = .ok (.iload 5, 2) := by decide +kernel
theorem dX9_clear_83 : decode cX9_clear 83 = .ok (.ifCond .le 163, 3) := by decide +kernel
theorem dX9_clear_86 : decode cX9_clear 86 = .ok (.iload 4, 2) := by decide +kernel
theorem dX9_clear_88 : decode cX9_clear 88 = .ok (.iload 5, 2) := by decide +kernel
theorem dX9_clear_90 : decode cX9_clear 90 = .ok (.if_icmp .eq 156, 3) := by decide +kernel
theorem dX9_clear_93 : decode cX9_clear 93 = .ok (.iload 4, 2) := by decide +kernel
theorem dX9_clear_95 : decode cX9_clear 95 = .ok (.iconst 2, 1) := by decide +kernel
theorem dX9_clear_96 : decode cX9_clear 96 = .ok (.if_icmp .ne 7, 3) := by decide +kernel
theorem dX9_clear_99 : decode cX9_clear 99 = .ok (.iload_n 1, 1) := by decide +kernel
theorem dX9_clear_100 : decode cX9_clear 100 = .ok (.goto 4, 3) := by decide +kernel
theorem dX9_clear_103 : decode cX9_clear 103 = .ok (.iload_n 2, 1) := by decide +kernel
theorem dX9_clear_104 : decode cX9_clear 104 = .ok (.ireturn, 1) := by decide +kernel
theorem dX9_clear_105 : decode cX9_clear 105 = .ok (.aload_n 0, 1) := by decide +kernel
theorem dX9_clear_106 : decode cX9_clear 106 = .ok (.getfield 40, 3) := by decide +kernel
theorem dX9_clear_109 : decode cX9_clear 109 = .ok (.iload_n 3, 1) := by decide +kernel
theorem dX9_clear_110 : decode cX9_clear 110 = .ok (.iaload, 1) := by decide +kernel
theorem dX9_clear_111 : decode cX9_clear 111 = .ok (.iconst 1, 1) := by decide +kernel
theorem dX9_clear_112 : decode cX9_clear 112 = .ok (.if_icmp .ne 63, 3) := by decide +kernel
theorem dX9_clear_115 : decode cX9_clear 115 = .ok (.iload 4, 2) := by decide +kernel
theorem dX9_clear_117 : decode cX9_clear 117 = .ok (.ifCond .le 129, 3) := by decide +kernel
theorem dX9_clear_120 : decode cX9_clear 120 = .ok (.iload 4, 2) := by decide +kernel
theorem dX9_clear_122 : decode cX9_clear 122 = .ok (.iload 5, 2) := by decide +kernel
theorem dX9_clear_124 : decode cX9_clear 124 = .ok (.if_icmp .ne 122, 3) := by decide +kernel
theorem dX9_clear_127 : decode cX9_clear 127 = .ok (.aload_n 0, 1) := by decide +kernel
theorem dX9_clear_128 : decode cX9_clear 128 = .ok (.iload_n 1, 1) := by decide +kernel
theorem dX9_clear_129 : decode cX9_clear 129 = .ok (.aload_n 0, 1) := by decide +kernel
theorem dX9_clear_130 : decode cX9_clear 130 = .ok (.getfield 117, 3) := by decide +kernel
theorem dX9_clear_133 : decode cX9_clear 133 = .ok (.invokevirtual 239, 3) := by decide +kernel
theorem dX9_clear_136 : decode cX9_clear 136 = .ok (.aload_n 0, 1) := by decide +kernel
theorem dX9_clear_137 : decode cX9_clear 137 = .ok (.iload_n 2, 1) := by decide +kernel
theorem dX9_clear_138 : decode cX9_clear 138 = .ok (.aload_n 0, 1) := by decide +kernel
theorem dX9_clear_139 : decode cX9_clear 139 = .ok (.getfield 117, 3) := by decide +kernel
theorem dX9_clear_142 : decode cX9_clear 142 = .ok (.invokevirtual 239, 3) := by decide +kernel
theorem dX9_clear_145 : decode cX9_clear 145 = .ok (.if_icmp .eq 101, 3) := by decide +kernel
theorem dX9_clear_148 : decode cX9_clear 148 = .ok (.aload_n 0, 1) := by decide +kernel
theorem dX9_clear_149 : decode cX9_clear 149 = .ok (.iload_n 1, 1) := by decide +kernel
theorem dX9_clear_150 : decode cX9_clear 150 = .ok (.aload_n 0, 1) := by decide +kernel
theorem dX9_clear_151 : decode cX9_clear 151 = .ok (.getfield 117, 3) := by decide +kernel
theorem dX9_clear_154 : decode cX9_clear 154 = .ok (.invokevirtual 239, 3) := by decide +kernel
theorem dX9_clear_157 : decode cX9_clear 157 = .ok (.aload_n 0, 1) := by decide +kernel
theorem dX9_clear_158 : decode cX9_clear 158 = .ok (.iload_n 2, 1) := by decide +kernel
theorem dX9_clear_159 : decode cX9_clear 159 = .ok (.aload_n 0, 1) := by decide +kernel
theorem dX9_clear_160 : decode cX9_clear 160 = .ok (.getfield 117, 3) := by decide +kernel
theorem dX9_clear_163 : decode cX9_clear 163 = .ok (.invokevirtual 239, 3) := by decide +kernel
theorem dX9_clear_166 : decode cX9_clear 166 = .ok (.if_icmp .le 7, 3) := by decide +kernel
theorem dX9_clear_169 : decode cX9_clear 169 = .ok (.iload_n 1, 1) := by decide +kernel
theorem dX9_clear_170 : decode cX9_clear 170 = .ok (.goto 4, 3) := by decide +kernel
theorem dX9_clear_173 : decode cX9_clear 173 = .ok (.iload_n 2, 1) := by decide +kernel
theorem dX9_clear_174 : decode cX9_clear 174 = .ok (.ireturn, 1) := by decide +kernel
theorem dX9_clear_175 : decode cX9_clear 175 = .ok (.aload_n 0, 1) := by decide +kernel
theorem dX9_clear_176 : decode cX9_clear 176 = .ok (.getfield 52, 3) := by decide +kernel
theorem dX9_clear_179 : decode cX9_clear 179 = .ok (.iload_n 1, 1) := by decide +kernel
theorem dX9_clear_180 : decode cX9_clear 180 = .ok (.iaload, 1) := by decide +kernel
theorem dX9_clear_181 : decode cX9_clear 181 = .ok (.aload_n 0, 1) := by decide +kernel
theorem dX9_clear_182 : decode cX9_clear 182 = .ok (.getfield 52, 3) := by decide +kernel
theorem dX9_clear_185 : decode cX9_clear 185 = .ok (.iload_n 2, 1) := by decide +kernel
theorem dX9_clear_186 : decode cX9_clear 186 = .ok (.iaload, 1) := by decide +kernel
theorem dX9_clear_187 : decode cX9_clear 187 = .ok (.if_icmp .ne 59, 3) := by decide +kernel
theorem dX9_clear_190 : decode cX9_clear 190 = .ok (.aload_n 0, 1) := by decide +kernel
theorem dX9_clear_191 : decode cX9_clear 191 = .ok (.iload_n 1, 1) := by decide +kernel
theorem dX9_clear_192 : decode cX9_clear 192 = .ok (.aload_n 0, 1) := by decide +kernel
theorem dX9_clear_193 : decode cX9_clear 193 = .ok (.getfield 52, 3) := by decide +kernel
theorem dX9_clear_196 : decode cX9_clear 196 = .ok (.iload_n 1, 1) := by decide +kernel
theorem dX9_clear_197 : decode cX9_clear 197 = .ok (.iaload, 1) := by decide +kernel
theorem dX9_clear_198 : decode cX9_clear 198 = .ok (.invokevirtual 239, 3) := by decide +kernel
theorem dX9_clear_201 : decode cX9_clear 201 = .ok (.aload_n 0, 1) := by decide +kernel
theorem dX9_clear_202 : decode cX9_clear 202 = .ok (.iload_n 2, 1) := by decide +kernel
theorem dX9_clear_203 : decode cX9_clear 203 = .ok (.aload_n 0, 1) := by decide +kernel
theorem dX9_clear_204 : decode cX9_clear 204 = .ok (.getfield 52, 3) := by decide +kernel
theorem dX9_clear_207 : decode cX9_clear 207 = .ok (.iload_n 1, 1) := by decide +kernel
theorem dX9_clear_208 : decode cX9_clear 208 = .ok (.iaload, 1) := by decide +kernel
theorem dX9_clear_209 : decode cX9_clear 209 = .ok (.invokevirtual 239, 3) := by decide +kernel
theorem dX9_clear_212 : decode cX9_clear 212 = .ok (.if_icmp .eq 34, 3) := by decide +kernel
theorem dX9_clear_215 : decode cX9_clear 215 = .ok (.aload_n 0, 1) := by decide +kernel
theorem dX9_clear_216 : decode cX9_clear 216 = .ok (.iload_n 1, 1) := by decide +kernel
theorem dX9_clear_217 : decode cX9_clear 217 = .ok (.aload_n 0, 1) := by decide +kernel
theorem dX9_clear_218 : decode cX9_clear 218 = .ok (.getfield 52, 3) := by decide +kernel
theorem dX9_clear_221 : decode cX9_clear 221 = .ok (.iload_n 1, 1) := by decide +kernel
theorem dX9_clear_222 : decode cX9_clear 222 = .ok (.iaload, 1) := by decide +kernel
theorem dX9_clear_223 : decode cX9_clear 223 = .ok (.invokevirtual 239, 3) := by decide +kernel
theorem dX9_clear_226 : decode cX9_clear 226 = .ok (.aload_n 0, 1) := by decide +kernel
theorem dX9_clear_227 : decode cX9_clear 227 = .ok (.iload_n 2, 1) := by decide +kernel
theorem dX9_clear_228 : decode cX9_clear 228 = .ok (.aload_n 0, 1) := by decide +kernel
theorem dX9_clear_229 : decode cX9_clear 229 = .ok (.getfield 52, 3) := by decide +kernel
theorem dX9_clear_232 : decode cX9_clear 232 = .ok (.iload_n 1, 1) := by decide +kernel
theorem dX9_clear_233 : decode cX9_clear 233 = .ok (.iaload, 1) := by decide +kernel
theorem dX9_clear_234 : decode cX9_clear 234 = .ok (.invokevirtual 239, 3) := by decide +kernel
theorem dX9_clear_237 : decode cX9_clear 237 = .ok (.if_icmp .ge 7, 3) := by decide +kernel
theorem dX9_clear_240 : decode cX9_clear 240 = .ok (.iload_n 1, 1) := by decide +kernel
theorem dX9_clear_241 : decode cX9_clear 241 = .ok (.goto 4, 3) := by decide +kernel
theorem dX9_clear_244 : decode cX9_clear 244 = .ok (.iload_n 2, 1) := by decide +kernel
theorem dX9_clear_245 : decode cX9_clear 245 = .ok (.ireturn, 1) := by decide +kernel
theorem dX9_clear_246 : decode cX9_clear 246 = .ok (.iinc 3 1, 3) := by decide +kernel
theorem dX9_clear_249 : decode cX9_clear 249 = .ok (.goto (-204), 3) := by decide +kernel
theorem dX9_clear_252 : decode cX9_clear 252 = .ok (.iconst (-1), 1) := by decide +kernel
theorem dX9_clear_253 : decode cX9_clear 253 = .ok (.ireturn, 1) := by decide +kernel
set_option maxRecDepth 20000 in
theorem ggX9_finish_X9_isBoat : GoodIn wsX9_finish wsX9_isBoat := goodIn_r _ [9, 10, 15, 16, 17, 18, 19, 20, 21, 22, 23, 24, 25, 26, 27, 28, 29, 30, 31, 32, 33, 34, 35, 36, 37, 38, 39, 40, 41, 42, 43, 44, 45, 46, 47, 48, 49, 50, 51, 52, 53, 54, 55] (by decide +kernel) (by decide +kernel)
set_option maxRecDepth 20000 in
theorem gX9_finish_X9_isBoat : GoodIn wsX9_finish (wsV RX9 230 RX9 yX9_isBoat wsX9_isBoat) := goodIn_app (goodIn_of _ (by decide +kernel)) ggX9_finish_X9_isBoat
set_option maxRecDepth 20000 in
theorem ggX9_finish_X9_bad : GoodIn wsX9_finish wsX9_bad := goodIn_r _ [14, 1, 15, 16, 17, 18, 19, 20, 21, 22, 23, 24, 25, 26, 27, 28, 29, 30, 31, 32, 33, 34, 35, 36, 37, 38, 39, 40, 41, 42, 43, 44, 45, 46, 47, 48, 49, 50, 51, 52, 53, 54, 55] (by decide +kernel) (by decide +kernel)
set_option maxRecDepth 20000 in
theorem gX9_finish_X9_bad : GoodIn wsX9_finish (wsV RX9 96 RX9 yX9_bad wsX9_bad) := goodIn_app (goodIn_of _ (by decide +kernel)) ggX9_finish_X9_bad
theorem dX9_finish_0 : decode cX9_finish 0 = .ok (.aload_n 0, 1) := by decide +kernel
theorem dX9_finish_1 : decode cX9_finish 1 = .ok (.iconst 0, 1) := by decide +kernel
theorem dX9_finish_2 : decode cX9_finish 2 = .ok (.putfield 82, 3) := by decide +kernel
theorem dX9_finish_5 : decode cX9_finish 5 = .ok (.aload_n 0, 1) := by decide +kernel
theorem dX9_finish_6 : decode cX9_finish 6 = .ok (.aload_n 0, 1) := by decide +kernel
theorem dX9_finish_7 : decode cX9_finish 7 = .ok (.iload_n 1, 1) := by decide +kernel
theorem dX9_finish_8 : decode cX9_finish 8 = .ok (.invokevirtual 230, 3) := by decide +kernel
theorem dX9_finish_11 : decode cX9_finish 11 = .ok (.ifCond .ne 7, 3) := by decide +kernel
theorem dX9_finish_14 : decode cX9_finish 14 = .ok (.iconst 1, 1) := by decide +kernel
theorem dX9_finish_15 : decode cX9_finish 15 = .ok (.goto 4, 3) := by decide +kernel
theorem dX9_finish_18 : decode cX9_finish 18 = .ok (.iconst 0, 1) := by decide +kernel
theorem dX9_finish_19 : decode cX9_finish 19 = .ok (.iconst 1, 1) := by decide +kernel
theorem dX9_finish_20 : decode cX9_finish 20 = .ok (.invokevirtual 96, 3) := by decide +kernel
theorem dX9_finish_23 : decode cX9_finish 23 = .ok (.ifCond .eq 5, 3) := by decide +kernel
theorem dX9_finish_26 : decode cX9_finish 26 = .ok (.iconst 0, 1) := by decide +kernel
theorem dX9_finish_27 : decode cX9_finish 27 = .ok (.ireturn, 1) := by decide +kernel
theorem dX9_finish_28 : decode cX9_finish 28 = .ok (.aload_n 0, 1) := by decide +kernel
theorem dX9_finish_29 : decode cX9_finish 29 = .ok (.getfield 61, 3) := by decide +kernel
theorem dX9_finish_32 : decode cX9_finish 32 = .ok (.iload_n 1, 1) := by decide +kernel
theorem dX9_finish_33 : decode cX9_finish 33 = .ok (.iaload, 1) := by decide +kernel
theorem dX9_finish_34 : decode cX9_finish 34 = .ok (.ifCond .le 5, 3) := by decide +kernel
theorem dX9_finish_37 : decode cX9_finish 37 = .ok (.iconst (-1), 1) := by decide +kernel
theorem dX9_finish_38 : decode cX9_finish 38 = .ok (.ireturn, 1) := by decide +kernel
theorem dX9_finish_39 : decode cX9_finish 39 = .ok (.aload_n 0, 1) := by decide +kernel
theorem dX9_finish_40 : decode cX9_finish 40 = .ok (.getfield 227, 3) := by decide +kernel
theorem dX9_finish_43 : decode cX9_finish 43 = .ok (.bipush 20, 2) := by decide +kernel
theorem dX9_finish_45 : decode cX9_finish 45 = .ok (.if_icmp .ne 6, 3) := by decide +kernel
theorem dX9_finish_48 : decode cX9_finish 48 = .ok (.bipush (-2), 2) := by decide +kernel
theorem dX9_finish_50 : decode cX9_finish 50 = .ok (.ireturn, 1) := by decide +kernel
theorem dX9_finish_51 : decode cX9_finish 51 = .ok (.aload_n 0, 1) := by decide +kernel
theorem dX9_finish_52 : decode cX9_finish 52 = .ok (.dup, 1) := by decide +kernel
theorem dX9_finish_53 : decode cX9_finish 53 = .ok (.getfield 242, 3) := by decide +kernel
theorem dX9_finish_56 : decode cX9_finish 56 = .ok (.iconst 1, 1) := by decide +kernel
theorem dX9_finish_57 : decode cX9_finish 57 = .ok (.iadd, 1) := by decide +kernel
theorem dX9_finish_58 : decode cX9_finish 58 = .ok (.putfield 242, 3) := by decide +kernel
theorem dX9_finish_61 : decode cX9_finish 61 = .ok (.aload_n 0, 1) := by decide +kernel
theorem dX9_finish_62 : decode cX9_finish 62 = .ok (.getfield 61, 3) := by decide +kernel
theorem dX9_finish_65 : decode cX9_finish 65 = .ok (.iload_n 1, 1) := by decide +kernel
theorem dX9_finish_66 : decode cX9_finish 66 = .ok (.aload_n 0, 1) := by decide +kernel
theorem dX9_finish_67 : decode cX9_finish 67 = .ok (.getfield 242, 3) := by decide +kernel
theorem dX9_finish_70 : decode cX9_finish 70 = .ok (.iastore, 1) := by decide +kernel
theorem dX9_finish_71 : decode cX9_finish 71 = .ok (.aload_n 0, 1) := by decide +kernel
theorem dX9_finish_72 : decode cX9_finish 72 = .ok (.getfield 242, 3) := by decide +kernel
theorem dX9_finish_75 : decode cX9_finish 75 = .ok (.ireturn, 1) := by decide +kernel
theorem dX9_end_0 : decode cX9_end 0 = .ok (.aload_n 0, 1) := by decide +kernel
theorem dX9_end_1 : decode cX9_end 1 = .ok (.iconst 0, 1) := by decide +kernel
theorem dX9_end_2 : decode cX9_end 2 = .ok (.putfield 82, 3) := by decide +kernel
theorem dX9_end_5 : decode cX9_end 5 = .ok (.aload_n 0, 1) := by decide +kernel
theorem dX9_end_6 : decode cX9_end 6 = .ok (.getfield 227, 3) := by decide +kernel
theorem dX9_end_9 : decode cX9_end 9 = .ok (.bipush 20, 2) := by decide +kernel
theorem dX9_end_11 : decode cX9_end 11 = .ok (.if_icmp .eq 10, 3) := by decide +kernel
theorem dX9_end_14 : decode cX9_end 14 = .ok (.aload_n 0, 1) := by decide +kernel
theorem dX9_end_15 : decode cX9_end 15 = .ok (.getfield 224, 3) := by decide +kernel
theorem dX9_end_18 : decode cX9_end 18 = .ok (.ifCond .ne 5, 3) := by decide +kernel
theorem dX9_end_21 : decode cX9_end 21 = .ok (.iconst (-1), 1) := by decide +kernel
theorem dX9_end_22 : decode cX9_end 22 = .ok (.ireturn, 1) := by decide +kernel
theorem dX9_end_23 : decode cX9_end 23 = .ok (.iconst 0, 1) := by decide +kernel
theorem dX9_end_24 : decode cX9_end 24 = .ok (.istore_n 1, 1) := by decide +kernel
theorem dX9_end_25 : decode cX9_end 25 = .ok (.iload_n 1, 1) := by decide +kernel
theorem dX9_end_26 : decode cX9_end 26 = .ok (.aload_n 0, 1) := by decide +kernel
theorem dX9_end_27 : decode cX9_end 27 = .ok (.getfield 224, 3) := by decide +kernel
theorem dX9_end_30 : decode cX9_end 30 = .ok (.if_icmp .ge 54, 3) := by decide +kernel
theorem dX9_end_33 : decode cX9_end 33 = .ok (.aload_n 0, 1) := by decide +kernel
theorem dX9_end_34 : decode cX9_end 34 = .ok (.getfield 55, 3) := by decide +kernel
theorem dX9_end_37 : decode cX9_end 37 = .ok (.bipush 16, 2) := by decide +kernel
theorem dX9_end_39 : decode cX9_end 39 = .ok (.aload_n 0, 1) := by decide +kernel
theorem dX9_end_40 : decode cX9_end 40 = .ok (.getfield 227, 3) := by decide +kernel
theorem dX9_end_43 : decode cX9_end 43 = .ok (.imul, 1) := by decide +kernel
theorem dX9_end_44 : decode cX9_end 44 = .ok (.iload_n 1, 1) := by decide +kernel
theorem dX9_end_45 : decode cX9_end 45 = .ok (.iadd, 1) := by decide +kernel
theorem dX9_end_46 : decode cX9_end 46 = .ok (.aload_n 0, 1) := by decide +kernel
theorem dX9_end_47 : decode cX9_end 47 = .ok (.getfield 61, 3) := by decide +kernel
theorem dX9_end_50 : decode cX9_end 50 = .ok (.iload_n 1, 1) := by decide +kernel
theorem dX9_end_51 : decode cX9_end 51 = .ok (.iaload, 1) := by decide +kernel
theorem dX9_end_52 : decode cX9_end 52 = .ok (.ifCond .le 12, 3) := by decide +kernel
theorem dX9_end_55 : decode cX9_end 55 = .ok (.aload_n 0, 1) := by decide +kernel
theorem dX9_end_56 : decode cX9_end 56 = .ok (.getfield 61, 3) := by decide +kernel
theorem dX9_end_59 : decode cX9_end 59 = .ok (.iload_n 1, 1) := by decide +kernel
theorem dX9_end_60 : decode cX9_end 60 = .ok (.iaload, 1) := by decide +kernel
theorem dX9_end_61 : decode cX9_end 61 = .ok (.goto 9, 3) := by decide +kernel
theorem dX9_end_64 : decode cX9_end 64 = .ok (.aload_n 0, 1) := by decide +kernel
theorem dX9_end_65 : decode cX9_end 65 = .ok (.getfield 224, 3) := by decide +kernel
theorem dX9_end_68 : decode cX9_end 68 = .ok (.iconst 1, 1) := by decide +kernel
theorem dX9_end_69 : decode cX9_end 69 = .ok (.iadd, 1) := by decide +kernel
theorem dX9_end_70 : decode cX9_end 70 = .ok (.iastore, 1) := by decide +kernel
theorem dX9_end_71 : decode cX9_end 71 = .ok (.aload_n 0, 1) := by decide +kernel
theorem dX9_end_72 : decode cX9_end 72 = .ok (.getfield 61, 3) := by decide +kernel
theorem dX9_end_75 : decode cX9_end 75 = .ok (.iload_n 1, 1) := by decide +kernel
theorem dX9_end_76 : decode cX9_end 76 = .ok (.iconst 0, 1) := by decide +kernel
theorem dX9_end_77 : decode cX9_end 77 = .ok (.iastore, 1) := by decide +kernel
theorem dX9_end_78 : decode cX9_end 78 = .ok (.iinc 1 1, 3) := by decide +kernel
theorem dX9_end_81 : decode cX9_end 81 = .ok (.goto (-56), 3) := by decide +kernel
theorem dX9_end_84 : decode cX9_end 84 = .ok (.aload_n 0, 1) := by decide +kernel
theorem dX9_end_85 : decode cX9_end 85 = .ok (.getfield 58, 3) := by decide +kernel
theorem dX9_end_88 : decode cX9_end 88 = .ok (.aload_n 0, 1) := by decide +kernel
theorem dX9_end_89 : decode cX9_end 89 = .ok (.getfield 227, 3) := by decide +kernel
theorem dX9_end_92 : decode cX9_end 92 = .ok (.aload_n 0, 1) := by decide +kernel
theorem dX9_end_93 : decode cX9_end 93 = .ok (.getfield 224, 3) := by decide +kernel
theorem dX9_end_96 : decode cX9_end 96 = .ok (.iastore, 1) := by decide +kernel
theorem dX9_end_97 : decode cX9_end 97 = .ok (.aload_n 0, 1) := by decide +kernel
theorem dX9_end_98 : decode cX9_end 98 = .ok (.iconst 0, 1) := by decide +kernel
theorem dX9_end_99 : decode cX9_end 99 = .ok (.putfield 242, 3) := by decide +kernel
theorem dX9_end_102 : decode cX9_end 102 = .ok (.aload_n 0, 1) := by decide +kernel
theorem dX9_end_103 : decode cX9_end 103 = .ok (.dup, 1) := by decide +kernel
theorem dX9_end_104 : decode cX9_end 104 = .ok (.getfield 227, 3) := by decide +kernel
theorem dX9_end_107 : decode cX9_end 107 = .ok (.iconst 1, 1) := by decide +kernel
theorem dX9_end_108 : decode cX9_end 108 = .ok (.iadd, 1) := by decide +kernel
theorem dX9_end_109 : decode cX9_end 109 = .ok (.putfield 227, 3) := by decide +kernel
theorem dX9_end_112 : decode cX9_end 112 = .ok (.aload_n 0, 1) := by decide +kernel
theorem dX9_end_113 : decode cX9_end 113 = .ok (.getfield 227, 3) := by decide +kernel
theorem dX9_end_116 : decode cX9_end 116 = .ok (.iconst 1, 1) := by decide +kernel
theorem dX9_end_117 : decode cX9_end 117 = .ok (.isub, 1) := by decide +kernel
theorem dX9_end_118 : decode cX9_end 118 = .ok (.ireturn, 1) := by decide +kernel
set_option maxRecDepth 20000 in
theorem ggX9_points_X9_isBoat : GoodIn wsX9_points wsX9_isBoat := goodIn_r _ [8, 9, 14, 15, 16, 17, 18, 19, 20, 21, 22, 23, 24, 25, 26, 27, 28, 29, 30, 31, 32, 33, 34, 35, 36, 37, 38, 39, 40, 41, 42, 43, 44, 45, 46, 47, 48, 49, 50, 51, 52, 53, 54] (by decide +kernel) (by decide +kernel)
set_option maxRecDepth 20000 in
theorem gX9_points_X9_isBoat : GoodIn wsX9_points (wsV RX9 230 RX9 yX9_isBoat wsX9_isBoat) := goodIn_app (goodIn_of _ (by decide +kernel)) ggX9_points_X9_isBoat
set_option maxRecDepth 20000 in
theorem ggX9_points_X9_bad : GoodIn wsX9_points wsX9_bad := goodIn_r _ [13, 1, 14, 15, 16, 17, 18, 19, 20, 21, 22, 23, 24, 25, 26, 27, 28, 29, 30, 31, 32, 33, 34, 35, 36, 37, 38, 39, 40, 41, 42, 43, 44, 45, 46, 47, 48, 49, 50, 51, 52, 53, 54] (by decide +kernel) (by decide +kernel)
set_option maxRecDepth 20000 in
theorem gX9_points_X9_bad : GoodIn wsX9_points (wsV RX9 96 RX9 yX9_bad wsX9_bad) := goodIn_app (goodIn_of _ (by decide +kernel)) ggX9_points_X9_bad
theorem dX9_points_0 : decode cX9_points 0 = .ok (.aload_n 0, 1) := by decide +kernel
theorem dX9_points_1 : decode cX9_points 1 = .ok (.iconst 0, 1) := by decide +kernel
theorem dX9_points_2 : decode cX9_points 2 = .ok (.putfield 82, 3) := by decide +kernel
theorem dX9_points_5 : decode cX9_points 5 = .ok (.aload_n 0, 1) := by decide +kernel
theorem dX9_points_6 : decode cX9_points 6 = .ok (.aload_n 0, 1) := by decide +kernel
theorem dX9_points_7 : decode cX9_points 7 = .ok (.iload_n 1, 1) := by decide +kernel
theorem dX9_points_8 : decode cX9_points 8 = .ok (.invokevirtual 230, 3) := by decide +kernel
theorem dX9_points_11 : decode cX9_points 11 = .ok (.ifCond .eq 15, 3) := by decide +kernel
theorem dX9_points_14 : decode cX9_points 14 = .ok (.iload_n 2, 1) := by decide +kernel
theorem dX9_points_15 : decode cX9_points 15 = .ok (.ifCond .lt 11, 3) := by decide +kernel
theorem dX9_points_18 : decode cX9_points 18 = .ok (.iload_n 2, 1) := by decide +kernel
theorem dX9_points_19 : decode cX9_points 19 = .ok (.aload_n 0, 1) := by decide +kernel
theorem dX9_points_20 : decode cX9_points 20 = .ok (.getfield 227, 3) := by decide +kernel
theorem dX9_points_23 : decode cX9_points 23 = .ok (.if_icmp .lt 7, 3) := by decide +kernel
theorem dX9_points_26 : decode cX9_points 26 = .ok (.iconst 1, 1) := by decide +kernel
theorem dX9_points_27 : decode cX9_points 27 = .ok (.goto 4, 3) := by decide +kernel
theorem dX9_points_30 : decode cX9_points 30 = .ok (.iconst 0, 1) := by decide +kernel
theorem dX9_points_31 : decode cX9_points 31 = .ok (.iconst 1, 1) := by decide +kernel
theorem dX9_points_32 : decode cX9_points 32 = .ok (.invokevirtual 96, 3) := by decide +kernel
theorem dX9_points_35 : decode cX9_points 35 = .ok (.ifCond .eq 5, 3) := by decide +kernel
theorem dX9_points_38 : decode cX9_points 38 = .ok (.iconst 0, 1) := by decide +kernel
theorem dX9_points_39 : decode cX9_points 39 = .ok (.ireturn, 1) := by decide +kernel
theorem dX9_points_40 : decode cX9_points 40 = .ok (.aload_n 0, 1) := by decide +kernel
theorem dX9_points_41 : decode cX9_points 41 = .ok (.getfield 55, 3) := by decide +kernel
theorem dX9_points_44 : decode cX9_points 44 = .ok (.bipush 16, 2) := by decide +kernel
theorem dX9_points_46 : decode cX9_points 46 = .ok (.iload_n 2, 1) := by decide +kernel
theorem dX9_points_47 : decode cX9_points 47 = .ok (.imul, 1) := by decide +kernel
theorem dX9_points_48 : decode cX9_points 48 = .ok (.iload_n 1, 1) := by decide +kernel
theorem dX9_points_49 : decode cX9_points 49 = .ok (.iadd, 1) := by decide +kernel
theorem dX9_points_50 : decode cX9_points 50 = .ok (.iaload, 1) := by decide +kernel
theorem dX9_points_51 : decode cX9_points 51 = .ok (.ireturn, 1) := by decide +kernel
theorem dX9_scoreOf_0 : decode cX9_scoreOf 0 = .ok (.iconst 0, 1) := by decide +kernel
theorem dX9_scoreOf_1 : decode cX9_scoreOf 1 = .ok (.istore_n 2, 1) := by decide +kernel
theorem dX9_scoreOf_2 : decode cX9_scoreOf 2 = .ok (.iconst 0, 1) := by decide +kernel
theorem dX9_scoreOf_3 : decode cX9_scoreOf 3 = .ok (.istore_n 3, 1) := by decide +kernel
theorem dX9_scoreOf_4 : decode cX9_scoreOf 4 = .ok (.iload_n 3, 1) := by decide +kernel
theorem dX9_scoreOf_5 : decode cX9_scoreOf 5 = .ok (.aload_n 0, 1) := by decide +kernel
theorem dX9_scoreOf_6 : decode cX9_scoreOf 6 = .ok (.getfield 227, 3) := by decide +kernel
theorem dX9_scoreOf_9 : decode cX9_scoreOf 9 = .ok (.if_icmp .ge 155, 3) := by decide +kernel
theorem dX9_scoreOf_12 : decode cX9_scoreOf 12 = .ok (.iconst 0, 1) := by decide +kernel
theorem dX9_scoreOf_13 : decode cX9_scoreOf 13 = .ok (.istore 4, 2) := by decide +kernel
theorem dX9_scoreOf_15 : decode cX9_scoreOf 15 = .ok (.iconst 0, 1) := by decide +kernel
theorem dX9_scoreOf_16 : decode cX9_scoreOf 16 = .ok (.istore 5, 2) := by decide +kernel
theorem dX9_scoreOf_18 : decode cX9_scoreOf 18 = .ok (.iload 5, 2) := by decide +kernel
theorem dX9_scoreOf_20 : decode cX9_scoreOf 20 = .ok (.aload_n 0, 1) := by decide +kernel
theorem dX9_scoreOf_21 : decode cX9_scoreOf 21 = .ok (.getfield 227, 3) := by decide +kernel
theorem dX9_scoreOf_24 : decode cX9_scoreOf 24 = .ok (.if_icmp .ge 77, 3) := by decide +kernel
theorem dX9_scoreOf_27 : decode cX9_scoreOf 27 = .ok (.iload 4, 2) := by decide +kernel
theorem dX9_scoreOf_29 : decode cX9_scoreOf 29 = .ok (.aload_n 0, 1) := by decide +kernel
theorem dX9_scoreOf_30 : decode cX9_scoreOf 30 = .ok (.getfield 55, 3) := by decide +kernel
theorem dX9_scoreOf_33 : decode cX9_scoreOf 33 = .ok (.bipush 16, 2) := by decide +kernel
theorem dX9_scoreOf_35 : decode cX9_scoreOf 35 = .ok (.iload 5, 2) := by decide +kernel
theorem dX9_scoreOf_37 : decode cX9_scoreOf 37 = .ok (.imul, 1) := by decide +kernel
theorem dX9_scoreOf_38 : decode cX9_scoreOf 38 = .ok (.iload_n 1, 1) := by decide +kernel
theorem dX9_scoreOf_39 : decode cX9_scoreOf 39 = .ok (.iadd, 1) := by decide +kernel
theorem dX9_scoreOf_40 : decode cX9_scoreOf 40 = .ok (.iaload, 1) := by decide +kernel
theorem dX9_scoreOf_41 : decode cX9_scoreOf 41 = .ok (.aload_n 0, 1) := by decide +kernel
theorem dX9_scoreOf_42 : decode cX9_scoreOf 42 = .ok (.getfield 55, 3) := by decide +kernel
theorem dX9_scoreOf_45 : decode cX9_scoreOf 45 = .ok (.bipush 16, 2) := by decide +kernel
theorem dX9_scoreOf_47 : decode cX9_scoreOf 47 = .ok (.iload_n 3, 1) := by decide +kernel
theorem dX9_scoreOf_48 : decode cX9_scoreOf 48 = .ok (.imul, 1) := by decide +kernel
theorem dX9_scoreOf_49 : decode cX9_scoreOf 49 = .ok (.iload_n 1, 1) := by decide +kernel
theorem dX9_scoreOf_50 : decode cX9_scoreOf 50 = .ok (.iadd, 1) := by decide +kernel
theorem dX9_scoreOf_51 : decode cX9_scoreOf 51 = .ok (.iaload, 1) := by decide +kernel
theorem dX9_scoreOf_52 : decode cX9_scoreOf 52 = .ok (.if_icmp .gt 35, 3) := by decide +kernel
theorem dX9_scoreOf_55 : decode cX9_scoreOf 55 = .ok (.aload_n 0, 1) := by decide +kernel
theorem dX9_scoreOf_56 : decode cX9_scoreOf 56 = .ok (.getfield 55, 3) := by decide +kernel
theorem dX9_scoreOf_59 : decode cX9_scoreOf 59 = .ok (.bipush 16, 2) := by decide +kernel
theorem dX9_scoreOf_61 : decode cX9_scoreOf 61 = .ok (.iload 5, 2) := by decide +kernel
theorem dX9_scoreOf_63 : decode cX9_scoreOf 63 = .ok (.imul, 1) := by decide +kernel
theorem dX9_scoreOf_64 : decode cX9_scoreOf 64 = .ok (.iload_n 1, 1) := by decide +kernel
theorem dX9_scoreOf_65 : decode cX9_scoreOf 65 = .ok (.iadd, 1) := by decide +kernel
theorem dX9_scoreOf_66 : decode cX9_scoreOf 66 = .ok (.iaload, 1) := by decide +kernel
theorem dX9_scoreOf_67 : decode cX9_scoreOf 67 = .ok (.aload_n 0, 1) := by decide +kernel
theorem dX9_scoreOf_68 : decode cX9_scoreOf 68 = .ok (.getfield 55, 3) := by decide +kernel
theorem dX9_scoreOf_71 : decode cX9_scoreOf 71 = .ok (.bipush 16, 2) := by decide +kernel
theorem dX9_scoreOf_73 : decode cX9_scoreOf 73 = .ok (.iload_n 3, 1) := by decide +kernel
theorem dX9_scoreOf_74 : decode cX9_scoreOf 74 = .ok (.imul, 1) := by decide +kernel
theorem dX9_scoreOf_75 : decode cX9_scoreOf 75 = .ok (.iload_n 1, 1) := by decide +kernel
theorem dX9_scoreOf_76 : decode cX9_scoreOf 76 = .ok (.iadd, 1) := by decide +kernel
theorem dX9_scoreOf_77 : decode cX9_scoreOf 77 = .ok (.iaload, 1) := by decide +kernel
theorem dX9_scoreOf_78 : decode cX9_scoreOf 78 = .ok (.if_icmp .ne 13, 3) := by decide +kernel
theorem dX9_scoreOf_81 : decode cX9_scoreOf 81 = .ok (.iload 5, 2) := by decide +kernel
theorem dX9_scoreOf_83 : decode cX9_scoreOf 83 = .ok (.iload_n 3, 1) := by decide +kernel
theorem dX9_scoreOf_84 : decode cX9_scoreOf 84 = .ok (.if_icmp .ge 7, 3) := by decide +kernel
theorem dX9_scoreOf_87 : decode cX9_scoreOf 87 = .ok (.iconst 1, 1) := by decide +kernel
theorem dX9_scoreOf_88 : decode cX9_scoreOf 88 = .ok (.goto 4, 3) := by decide +kernel
theorem dX9_scoreOf_91 : decode cX9_scoreOf 91 = .ok (.iconst 0, 1) := by decide +kernel
theorem dX9_scoreOf_92 : decode cX9_scoreOf 92 = .ok (.iadd, 1) := by decide +kernel
theorem dX9_scoreOf_93 : decode cX9_scoreOf 93 = .ok (.istore 4, 2) := by decide +kernel
theorem dX9_scoreOf_95 : decode cX9_scoreOf 95 = .ok (.iinc 5 1, 3) := by decide +kernel
theorem dX9_scoreOf_98 : decode cX9_scoreOf 98 = .ok (.goto (-80), 3) := by decide +kernel
theorem dX9_scoreOf_101 : decode cX9_scoreOf 101 = .ok (.aload_n 0, 1) := by decide +kernel
theorem dX9_scoreOf_102 : decode cX9_scoreOf 102 = .ok (.getfield 37, 3) := by decide +kernel
theorem dX9_scoreOf_105 : decode cX9_scoreOf 105 = .ok (.ifCond .lt 27, 3) := by decide +kernel
theorem dX9_scoreOf_108 : decode cX9_scoreOf 108 = .ok (.aload_n 0, 1) := by decide +kernel
theorem dX9_scoreOf_109 : decode cX9_scoreOf 109 = .ok (.getfield 227, 3) := by decide +kernel
theorem dX9_scoreOf_112 : decode cX9_scoreOf 112 = .ok (.aload_n 0, 1) := by decide +kernel
theorem dX9_scoreOf_113 : decode cX9_scoreOf 113 = .ok (.getfield 37, 3) := by decide +kernel
theorem dX9_scoreOf_116 : decode cX9_scoreOf 116 = .ok (.if_icmp .lt 16, 3) := by decide +kernel
theorem dX9_scoreOf_119 : decode cX9_scoreOf 119 = .ok (.iload 4, 2) := by decide +kernel
theorem dX9_scoreOf_121 : decode cX9_scoreOf 121 = .ok (.aload_n 0, 1) := by decide +kernel
theorem dX9_scoreOf_122 : decode cX9_scoreOf 122 = .ok (.getfield 215, 3) := by decide +kernel
theorem dX9_scoreOf_125 : decode cX9_scoreOf 125 = .ok (.if_icmp .ge 7, 3) := by decide +kernel
theorem dX9_scoreOf_128 : decode cX9_scoreOf 128 = .ok (.iconst 1, 1) := by decide +kernel
theorem dX9_scoreOf_129 : decode cX9_scoreOf 129 = .ok (.goto 4, 3) := by decide +kernel
theorem dX9_scoreOf_132 : decode cX9_scoreOf 132 = .ok (.iconst 0, 1) := by decide +kernel
theorem dX9_scoreOf_133 : decode cX9_scoreOf 133 = .ok (.istore 5, 2) := by decide +kernel
theorem dX9_scoreOf_135 : decode cX9_scoreOf 135 = .ok (.iload_n 2, 1) := by decide +kernel
theorem dX9_scoreOf_136 : decode cX9_scoreOf 136 = .ok (.iload 5, 2) := by decide +kernel
theorem dX9_scoreOf_138 : decode cX9_scoreOf 138 = .ok (.ifCond .eq 7, 3) := by decide +kernel
theorem dX9_scoreOf_141 : decode cX9_scoreOf 141 = .ok (.iconst 0, 1) := by decide +kernel
theorem dX9_scoreOf_142 : decode cX9_scoreOf 142 = .ok (.goto 14, 3) := by decide +kernel
theorem dX9_scoreOf_145 : decode cX9_scoreOf 145 = .ok (.aload_n 0, 1) := by decide +kernel
theorem dX9_scoreOf_146 : decode cX9_scoreOf 146 = .ok (.getfield 55, 3) := by decide +kernel
theorem dX9_scoreOf_149 : decode cX9_scoreOf 149 = .ok (.bipush 16, 2) := by decide +kernel
theorem dX9_scoreOf_151 : decode cX9_scoreOf 151 = .ok (.iload_n 3, 1) := by decide +kernel
theorem dX9_scoreOf_152 : decode cX9_scoreOf 152 = .ok (.imul, 1) := by decide +kernel
theorem dX9_scoreOf_153 : decode cX9_scoreOf 153 = .ok (.iload_n 1, 1) := by decide +kernel
theorem dX9_scoreOf_154 : decode cX9_scoreOf 154 = .ok (.iadd, 1) := by decide +kernel
theorem dX9_scoreOf_155 : decode cX9_scoreOf 155 = .ok (.iaload, 1) := by decide +kernel
theorem dX9_scoreOf_156 : decode cX9_scoreOf 156 = .ok (.iadd, 1) := by decide +kernel
theorem dX9_scoreOf_157 : decode cX9_scoreOf 157 = .ok (.istore_n 2, 1) := by decide +kernel
theorem dX9_scoreOf_158 : decode cX9_scoreOf 158 = .ok (.iinc 3 1, 3) := by decide +kernel
theorem dX9_scoreOf_161 : decode cX9_scoreOf 161 = .ok (.goto (-157), 3) := by decide +kernel
theorem dX9_scoreOf_164 : decode cX9_scoreOf 164 = .ok (.iload_n 2, 1) := by decide +kernel
theorem dX9_scoreOf_165 : decode cX9_scoreOf 165 = .ok (.ireturn, 1) := by decide +kernel
set_option maxRecDepth 20000 in
theorem ggX9_score_X9_isBoat : GoodIn wsX9_score wsX9_isBoat := goodIn_r _ [6, 7, 20, 21, 22, 23, 24, 25, 26, 27, 28, 29, 30, 31, 32, 33, 34, 35, 36, 37, 38, 39, 40, 41, 42, 43, 44, 45, 46, 47, 48, 49, 50, 51, 52, 53, 54, 55, 56, 57, 58, 59, 60] (by decide +kernel) (by decide +kernel)
set_option maxRecDepth 20000 in
theorem gX9_score_X9_isBoat : GoodIn wsX9_score (wsV RX9 230 RX9 yX9_isBoat wsX9_isBoat) := goodIn_app (goodIn_of _ (by decide +kernel)) ggX9_score_X9_isBoat
set_option maxRecDepth 20000 in
theorem ggX9_score_X9_bad : GoodIn wsX9_score wsX9_bad := goodIn_r _ [11, 1, 20, 21, 22, 23, 24, 25, 26, 27, 28, 29, 30, 31, 32, 33, 34, 35, 36, 37, 38, 39, 40, 41, 42, 43, 44, 45, 46, 47, 48, 49, 50, 51, 52, 53, 54, 55, 56, 57, 58, 59, 60] (by decide +kernel) (by decide +kernel)
set_option maxRecDepth 20000 in
theorem gX9_score_X9_bad : GoodIn wsX9_score (wsV RX9 96 RX9 yX9_bad wsX9_bad) := goodIn_app (goodIn_of _ (by decide +kernel)) ggX9_score_X9_bad
set_option maxRecDepth 20000 in
theorem ggX9_score_X9_scoreOf : GoodIn wsX9_score wsX9_scoreOf := goodIn_r _ [15, 16, 17, 18, 19, 20, 21, 22, 23, 24, 25, 26, 27, 28, 29, 30, 31, 32, 33, 34, 35, 36, 37, 38, 39, 40, 41, 42, 43, 44, 45, 46, 47, 48, 49, 50, 51, 52, 53, 54, 55, 56, 57, 58, 59, 60] (by decide +kernel) (by decide +kernel)
set_option maxRecDepth 20000 in
theorem gX9_score_X9_scoreOf : GoodIn wsX9_score (wsV RX9 245 RX9 yX9_scoreOf wsX9_scoreOf) := goodIn_app (goodIn_of _ (by decide +kernel)) ggX9_score_X9_scoreOf
theorem dX9_score_0 : decode cX9_score 0 = .ok (.aload_n 0, 1) := by decide +kernel
theorem dX9_score_1 : decode cX9_score 1 = .ok (.iconst 0, 1) := by decide +kernel
theorem dX9_score_2 : decode cX9_score 2 = .ok (.putfield 82, 3) := by decide +kernel
theorem dX9_score_5 : decode cX9_score 5 = .ok (.aload_n 0, 1) := by decide +kernel
theorem dX9_score_6 : decode cX9_score 6 = .ok (.aload_n 0, 1) := by decide +kernel
theorem dX9_score_7 : decode cX9_score 7 = .ok (.iload_n 1, 1) := by decide +kernel
theorem dX9_score_8 : decode cX9_score 8 = .ok (.invokevirtual 230, 3) := by decide +kernel
theorem dX9_score_11 : decode cX9_score 11 = .ok (.ifCond .ne 7, 3) := by decide +kernel
theorem dX9_score_14 : decode cX9_score 14 = .ok (.iconst 1, 1) := by decide +kernel
theorem dX9_score_15 : decode cX9_score 15 = .ok (.goto 4, 3) := by decide +kernel
theorem dX9_score_18 : decode cX9_score 18 = .ok (.iconst 0, 1) := by decide +kernel
theorem dX9_score_19 : decode cX9_score 19 = .ok (.iconst 1, 1) := by decide +kernel
theorem dX9_score_20 : decode cX9_score 20 = .ok (.invokevirtual 96, 3) := by decide +kernel
theorem dX9_score_23 : decode cX9_score 23 = .ok (.ifCond .eq 7, 3) := by decide +kernel
theorem dX9_score_26 : decode cX9_score 26 = .ok (.iconst 0, 1) := by decide +kernel
theorem dX9_score_27 : decode cX9_score 27 = .ok (.goto 8, 3) := by decide +kernel
theorem dX9_score_30 : decode cX9_score 30 = .ok (.aload_n 0, 1) := by decide +kernel
theorem dX9_score_31 : decode cX9_score 31 = .ok (.iload_n 1, 1) := by decide +kernel
theorem dX9_score_32 : decode cX9_score 32 = .ok (.invokevirtual 245, 3) := by decide +kernel
theorem dX9_score_35 : decode cX9_score 35 = .ok (.ireturn, 1) := by decide +kernel
theorem dX9_isAhead_0 : decode cX9_isAhead 0 = .ok (.aload_n 0, 1) := by decide +kernel
theorem dX9_isAhead_1 : decode cX9_isAhead 1 = .ok (.getfield 64, 3) := by decide +kernel
theorem dX9_isAhead_4 : decode cX9_isAhead 4 = .ok (.iload_n 1, 1) := by decide +kernel
theorem dX9_isAhead_5 : decode cX9_isAhead 5 = .ok (.iaload, 1) := by decide +kernel
theorem dX9_isAhead_6 : decode cX9_isAhead 6 = .ok (.aload_n 0, 1) := by decide +kernel
theorem dX9_isAhead_7 : decode cX9_isAhead 7 = .ok (.getfield 64, 3) := by decide +kernel
theorem dX9_isAhead_10 : decode cX9_isAhead 10 = .ok (.iload_n 2, 1) := by decide +kernel
theorem dX9_isAhead_11 : decode cX9_isAhead 11 = .ok (.iaload, 1) := by decide +kernel
theorem dX9_isAhead_12 : decode cX9_isAhead 12 = .ok (.if_icmp .eq 24, 3) := by decide +kernel
theorem dX9_isAhead_15 : decode cX9_isAhead 15 = .ok (.aload_n 0, 1) := by decide +kernel
theorem dX9_isAhead_16 : decode cX9_isAhead 16 = .ok (.getfield 64, 3) := by decide +kernel
theorem dX9_isAhead_19 : decode cX9_isAhead 19 = .ok (.iload_n 1, 1) := by decide +kernel
theorem dX9_isAhead_20 : decode cX9_isAhead 20 = .ok (.iaload, 1) := by decide +kernel
theorem dX9_isAhead_21 : decode cX9_isAhead 21 = .ok (.aload_n 0, 1) := by decide +kernel
theorem dX9_isAhead_22 : decode cX9_isAhead 22 = .ok (.getfield 64, 3) := by decide +kernel
theorem dX9_isAhead_25 : decode cX9_isAhead 25 = .ok (.iload_n 2, 1) := by decide +kernel
theorem dX9_isAhead_26 : decode cX9_isAhead 26 = .ok (.iaload, 1) := by decide +kernel
theorem dX9_isAhead_27 : decode cX9_isAhead 27 = .ok (.if_icmp .ge 7, 3) := by decide +kernel
theorem dX9_isAhead_30 : decode cX9_isAhead 30 = .ok (.iconst 1, 1) := by decide +kernel
theorem dX9_isAhead_31 : decode cX9_isAhead 31 = .ok (.goto 4, 3) := by decide +kernel
theorem dX9_isAhead_34 : decode cX9_isAhead 34 = .ok (.iconst 0, 1) := by decide +kernel
theorem dX9_isAhead_35 : decode cX9_isAhead 35 = .ok (.ireturn, 1) := by decide +kernel
theorem dX9_isAhead_36 : decode cX9_isAhead 36 = .ok (.aload_n 0, 1) := by decide +kernel
theorem dX9_isAhead_37 : decode cX9_isAhead 37 = .ok (.getfield 227, 3) := by decide +kernel
theorem dX9_isAhead_40 : decode cX9_isAhead 40 = .ok (.iconst 1, 1) := by decide +kernel
theorem dX9_isAhead_41 : decode cX9_isAhead 41 = .ok (.isub, 1) := by decide +kernel
theorem dX9_isAhead_42 : decode cX9_isAhead 42 = .ok (.istore_n 3, 1) := by decide +kernel
theorem dX9_isAhead_43 : decode cX9_isAhead 43 = .ok (.iload_n 3, 1) := by decide +kernel
theorem dX9_isAhead_44 : decode cX9_isAhead 44 = .ok (.ifCond .lt 55, 3) := by decide +kernel
theorem dX9_isAhead_47 : decode cX9_isAhead 47 = .ok (.aload_n 0, 1) := by decide +kernel
theorem dX9_isAhead_48 : decode cX9_isAhead 48 = .ok (.getfield 55, 3) := by decide +kernel
theorem dX9_isAhead_51 : decode cX9_isAhead 51 = .ok (.bipush 16, 2) := by decide +kernel
theorem dX9_isAhead_53 : decode cX9_isAhead 53 = .ok (.iload_n 3, 1) := by decide +kernel
theorem dX9_isAhead_54 : decode cX9_isAhead 54 = .ok (.imul, 1) := by decide +kernel
theorem dX9_isAhead_55 : decode cX9_isAhead 55 = .ok (.iload_n 1, 1) := by decide +kernel
theorem dX9_isAhead_56 : decode cX9_isAhead 56 = .ok (.iadd, 1) := by decide +kernel
theorem dX9_isAhead_57 : decode cX9_isAhead 57 = .ok (.iaload, 1) := by decide +kernel
theorem dX9_isAhead_58 : decode cX9_isAhead 58 = .ok (.istore 4, 2) := by decide +kernel
theorem dX9_isAhead_60 : decode cX9_isAhead 60 = .ok (.aload_n 0, 1) := by decide +kernel
theorem dX9_isAhead_61 : decode cX9_isAhead 61 = .ok (.getfield 55, 3) := by decide +kernel
theorem dX9_isAhead_64 : decode cX9_isAhead 64 = .ok (.bipush 16, 2) := by decide +kernel
theorem dX9_isAhead_66 : decode cX9_isAhead 66 = .ok (.iload_n 3, 1) := by decide +kernel
theorem dX9_isAhead_67 : decode cX9_isAhead 67 = .ok (.imul, 1) := by decide +kernel
theorem dX9_isAhead_68 : decode cX9_isAhead 68 = .ok (.iload_n 2, 1) := by decide +kernel
theorem dX9_isAhead_69 : decode cX9_isAhead 69 = .ok (.iadd, 1) := by decide +kernel
theorem dX9_isAhead_70 : decode cX9_isAhead 70 = .ok (.iaload, 1) := by decide +kernel
theorem dX9_isAhead_71 : decode cX9_isAhead 71 = .ok (.istore 5, 2) := by decide +kernel
theorem dX9_isAhead_73 : decode cX9_isAhead 73 = .ok (.iload 4, 2) := by decide +kernel
theorem dX9_isAhead_75 : decode cX9_isAhead 75 = .ok (.iload 5, 2) := by decide +kernel
theorem dX9_isAhead_77 : decode cX9_isAhead 77 = .ok (.if_icmp .eq 16, 3) := by decide +kernel
theorem dX9_isAhead_80 : decode cX9_isAhead 80 = .ok (.iload 4, 2) := by decide +kernel
theorem dX9_isAhead_82 : decode cX9_isAhead 82 = .ok (.iload 5, 2) := by decide +kernel
theorem dX9_isAhead_84 : decode cX9_isAhead 84 = .ok (.if_icmp .ge 7, 3) := by decide +kernel
theorem dX9_isAhead_87 : decode cX9_isAhead 87 = .ok (.iconst 1, 1) := by decide +kernel
theorem dX9_isAhead_88 : decode cX9_isAhead 88 = .ok (.goto 4, 3) := by decide +kernel
theorem dX9_isAhead_91 : decode cX9_isAhead 91 = .ok (.iconst 0, 1) := by decide +kernel
theorem dX9_isAhead_92 : decode cX9_isAhead 92 = .ok (.ireturn, 1) := by decide +kernel
theorem dX9_isAhead_93 : decode cX9_isAhead 93 = .ok (.iinc 3 (-1), 3) := by decide +kernel
theorem dX9_isAhead_96 : decode cX9_isAhead 96 = .ok (.goto (-53), 3) := by decide +kernel
theorem dX9_isAhead_99 : decode cX9_isAhead 99 = .ok (.iload_n 1, 1) := by decide +kernel
theorem dX9_isAhead_100 : decode cX9_isAhead 100 = .ok (.iload_n 2, 1) := by decide +kernel
theorem dX9_isAhead_101 : decode cX9_isAhead 101 = .ok (.if_icmp .ge 7, 3) := by decide +kernel
theorem dX9_isAhead_104 : decode cX9_isAhead 104 = .ok (.iconst 1, 1) := by decide +kernel
theorem dX9_isAhead_105 : decode cX9_isAhead 105 = .ok (.goto 4, 3) := by decide +kernel
theorem dX9_isAhead_108 : decode cX9_isAhead 108 = .ok (.iconst 0, 1) := by decide +kernel
theorem dX9_isAhead_109 : decode cX9_isAhead 109 = .ok (.ireturn, 1) := by decide +kernel
set_option maxRecDepth 20000 in
theorem ggX9_ranked_X9_scoreOf : GoodIn wsX9_ranked wsX9_scoreOf := goodIn_r _ [8, 9, 10, 11, 12, 17, 18, 19, 20, 21, 22, 23, 24, 25, 26, 27, 28, 29, 30, 31, 32, 33, 34, 35, 36, 37, 38, 39, 40, 41, 42, 43, 44, 45, 46, 47, 48, 49, 50, 51, 52, 53, 54, 55, 56, 57] (by decide +kernel) (by decide +kernel)
set_option maxRecDepth 20000 in
theorem gX9_ranked_X9_scoreOf : GoodIn wsX9_ranked (wsV RX9 245 RX9 yX9_scoreOf wsX9_scoreOf) := goodIn_app (goodIn_of _ (by decide +kernel)) ggX9_ranked_X9_scoreOf
set_option maxRecDepth 20000 in
theorem ggX9_ranked_X9_isAhead : GoodIn wsX9_ranked wsX9_isAhead := goodIn_r _ [16, 2, 9, 10, 17, 18, 19, 20, 21, 22, 23, 24, 25, 26, 27, 28, 29, 30, 31, 32, 33, 34, 35, 36, 37, 38, 39, 40, 41, 42, 43, 44, 45, 46, 47, 48, 49, 50, 51, 52, 53, 54, 55, 56, 57] (by decide +kernel) (by decide +kernel)
set_option maxRecDepth 20000 in
theorem gX9_ranked_X9_isAhead : GoodIn wsX9_ranked (wsV RX9 248 RX9 yX9_isAhead wsX9_isAhead) := goodIn_app (goodIn_of _ (by decide +kernel)) ggX9_ranked_X9_isAhead
theorem dX9_ranked_0 : decode cX9_ranked 0 = .ok (.iconst 0, 1) := by decide +kernel
theorem dX9_ranked_1 : decode cX9_ranked 1 = .ok (.istore_n 1, 1) := by decide +kernel
theorem dX9_ranked_2 : decode cX9_ranked 2 = .ok (.iload_n 1, 1) := by decide +kernel
theorem dX9_ranked_3 : decode cX9_ranked 3 = .ok (.aload_n 0, 1) := by decide +kernel
theorem dX9_ranked_4 : decode cX9_ranked 4 = .ok (.getfield 224, 3) := by decide +kernel
theorem dX9_ranked_7 : decode cX9_ranked 7 = .ok (.if_icmp .ge 20, 3) := by decide +kernel
theorem dX9_ranked_10 : decode cX9_ranked 10 = .ok (.aload_n 0, 1) := by decide +kernel
theorem dX9_ranked_11 : decode cX9_ranked 11 = .ok (.getfield 64, 3) := by decide +kernel
theorem dX9_ranked_14 : decode cX9_ranked 14 = .ok (.iload_n 1, 1) := by decide +kernel
theorem dX9_ranked_15 : decode cX9_ranked 15 = .ok (.aload_n 0, 1) := by decide +kernel
theorem dX9_ranked_16 : decode cX9_ranked 16 = .ok (.iload_n 1, 1) := by decide +kernel
theorem dX9_ranked_17 : decode cX9_ranked 17 = .ok (.invokevirtual 245, 3) := by decide +kernel
theorem dX9_ranked_20 : decode cX9_ranked 20 = .ok (.iastore, 1) := by decide +kernel
theorem dX9_ranked_21 : decode cX9_ranked 21 = .ok (.iinc 1 1, 3) := by decide +kernel
theorem dX9_ranked_24 : decode cX9_ranked 24 = .ok (.goto (-22), 3) := by decide +kernel
theorem dX9_ranked_27 : decode cX9_ranked 27 = .ok (.iconst 0, 1) := by decide +kernel
theorem dX9_ranked_28 : decode cX9_ranked 28 = .ok (.istore_n 1, 1) := by decide +kernel
theorem dX9_ranked_29 : decode cX9_ranked 29 = .ok (.iload_n 1, 1) := by decide +kernel
theorem dX9_ranked_30 : decode cX9_ranked 30 = .ok (.aload_n 0, 1) := by decide +kernel
theorem dX9_ranked_31 : decode cX9_ranked 31 = .ok (.getfield 224, 3) := by decide +kernel
theorem dX9_ranked_34 : decode cX9_ranked 34 = .ok (.if_icmp .ge 56, 3) := by decide +kernel
theorem dX9_ranked_37 : decode cX9_ranked 37 = .ok (.iconst 0, 1) := by decide +kernel
theorem dX9_ranked_38 : decode cX9_ranked 38 = .ok (.istore_n 2, 1) := by decide +kernel
theorem dX9_ranked_39 : decode cX9_ranked 39 = .ok (.iconst 0, 1) := by decide +kernel
theorem dX9_ranked_40 : decode cX9_ranked 40 = .ok (.istore_n 3, 1) := by decide +kernel
theorem dX9_ranked_41 : decode cX9_ranked 41 = .ok (.iload_n 3, 1) := by decide +kernel
theorem dX9_ranked_42 : decode cX9_ranked 42 = .ok (.aload_n 0, 1) := by decide +kernel
theorem dX9_ranked_43 : decode cX9_ranked 43 = .ok (.getfield 224, 3) := by decide +kernel
theorem dX9_ranked_46 : decode cX9_ranked 46 = .ok (.if_icmp .ge 31, 3) := by decide +kernel
theorem dX9_ranked_49 : decode cX9_ranked 49 = .ok (.iload_n 2, 1) := by decide +kernel
theorem dX9_ranked_50 : decode cX9_ranked 50 = .ok (.iload_n 3, 1) := by decide +kernel
theorem dX9_ranked_51 : decode cX9_ranked 51 = .ok (.iload_n 1, 1) := by decide +kernel
theorem dX9_ranked_52 : decode cX9_ranked 52 = .ok (.if_icmp .eq 16, 3) := by decide +kernel
theorem dX9_ranked_55 : decode cX9_ranked 55 = .ok (.aload_n 0, 1) := by decide +kernel
theorem dX9_ranked_56 : decode cX9_ranked 56 = .ok (.iload_n 3, 1) := by decide +kernel
theorem dX9_ranked_57 : decode cX9_ranked 57 = .ok (.iload_n 1, 1) := by decide +kernel
theorem dX9_ranked_58 : decode cX9_ranked 58 = .ok (.invokevirtual 248, 3) := by decide +kernel
theorem dX9_ranked_61 : decode cX9_ranked 61 = .ok (.ifCond .eq 7, 3) := by decide +kernel
theorem dX9_ranked_64 : decode cX9_ranked 64 = .ok (.iconst 1, 1) := by decide +kernel
theorem dX9_ranked_65 : decode cX9_ranked 65 = .ok (.goto 4, 3) := by decide +kernel
theorem dX9_ranked_68 : decode cX9_ranked 68 = .ok (.iconst 0, 1) := by decide +kernel
theorem dX9_ranked_69 : decode cX9_ranked 69 = .ok (.iadd, 1) := by decide +kernel
theorem dX9_ranked_70 : decode cX9_ranked 70 = .ok (.istore_n 2, 1) := by decide +kernel
theorem dX9_ranked_71 : decode cX9_ranked 71 = .ok (.iinc 3 1, 3) := by decide +kernel
theorem dX9_ranked_74 : decode cX9_ranked 74 = .ok (.goto (-33), 3) := by decide +kernel
theorem dX9_ranked_77 : decode cX9_ranked 77 = .ok (.aload_n 0, 1) := by decide +kernel
theorem dX9_ranked_78 : decode cX9_ranked 78 = .ok (.getfield 67, 3) := by decide +kernel
theorem dX9_ranked_81 : decode cX9_ranked 81 = .ok (.iload_n 2, 1) := by decide +kernel
theorem dX9_ranked_82 : decode cX9_ranked 82 = .ok (.iload_n 1, 1) := by decide +kernel
theorem dX9_ranked_83 : decode cX9_ranked 83 = .ok (.iastore, 1) := by decide +kernel
theorem dX9_ranked_84 : decode cX9_ranked 84 = .ok (.iinc 1 1, 3) := by decide +kernel
theorem dX9_ranked_87 : decode cX9_ranked 87 = .ok (.goto (-58), 3) := by decide +kernel
theorem dX9_ranked_90 : decode cX9_ranked 90 = .ok (.return_, 1) := by decide +kernel
set_option maxRecDepth 20000 in
theorem ggX9_rank_X9_ranked : GoodIn wsX9_rank wsX9_ranked := goodIn_r _ [7, 8, 9, 2, 10, 11, 12, 6, 13, 14, 15, 16, 17, 18, 19, 20, 21, 26, 27, 28, 29, 30, 31, 32, 33, 34, 35, 36, 37, 38, 39, 40, 41, 42, 43, 44, 45, 46, 47, 48, 49, 50, 51, 52, 53, 54, 55, 56, 57, 58, 59, 60, 61, 62, 63, 64, 65, 66] (by decide +kernel) (by decide +kernel)
set_option maxRecDepth 20000 in
theorem gX9_rank_X9_ranked : GoodIn wsX9_rank (wsV RX9 252 RX9 yX9_ranked wsX9_ranked) := goodIn_app (goodIn_of _ (by decide +kernel)) ggX9_rank_X9_ranked
set_option maxRecDepth 20000 in
theorem ggX9_rank_X9_isBoat : GoodIn wsX9_rank wsX9_isBoat := goodIn_r _ [25, 8, 26, 27, 28, 29, 30, 31, 32, 33, 34, 35, 36, 37, 38, 39, 40, 41, 42, 43, 44, 45, 46, 47, 48, 49, 50, 51, 52, 53, 54, 55, 56, 57, 58, 59, 60, 61, 62, 63, 64, 65, 66] (by decide +kernel) (by decide +kernel)
set_option maxRecDepth 20000 in
theorem gX9_rank_X9_isBoat : GoodIn wsX9_rank (wsV RX9 230 RX9 yX9_isBoat wsX9_isBoat) := goodIn_app (goodIn_of _ (by decide +kernel)) ggX9_rank_X9_isBoat
theorem dX9_rank_0 : decode cX9_rank 0 = .ok (.aload_n 0, 1) := by decide +kernel
theorem dX9_rank_1 : decode cX9_rank 1 = .ok (.iconst 0, 1) := by decide +kernel
theorem dX9_rank_2 : decode cX9_rank 2 = .ok (.putfield 82, 3) := by decide +kernel
theorem dX9_rank_5 : decode cX9_rank 5 = .ok (.aload_n 0, 1) := by decide +kernel
theorem dX9_rank_6 : decode cX9_rank 6 = .ok (.invokevirtual 252, 3) := by decide +kernel
theorem dX9_rank_9 : decode cX9_rank 9 = .ok (.aload_n 0, 1) := by decide +kernel
theorem dX9_rank_10 : decode cX9_rank 10 = .ok (.iload_n 1, 1) := by decide +kernel
theorem dX9_rank_11 : decode cX9_rank 11 = .ok (.invokevirtual 230, 3) := by decide +kernel
theorem dX9_rank_14 : decode cX9_rank 14 = .ok (.ifCond .eq 12, 3) := by decide +kernel
theorem dX9_rank_17 : decode cX9_rank 17 = .ok (.aload_n 0, 1) := by decide +kernel
theorem dX9_rank_18 : decode cX9_rank 18 = .ok (.getfield 67, 3) := by decide +kernel
theorem dX9_rank_21 : decode cX9_rank 21 = .ok (.iload_n 1, 1) := by decide +kernel
theorem dX9_rank_22 : decode cX9_rank 22 = .ok (.iaload, 1) := by decide +kernel
theorem dX9_rank_23 : decode cX9_rank 23 = .ok (.goto 4, 3) := by decide +kernel
theorem dX9_rank_26 : decode cX9_rank 26 = .ok (.iconst (-1), 1) := by decide +kernel
theorem dX9_rank_27 : decode cX9_rank 27 = .ok (.ireturn, 1) := by decide +kernel
set_option maxRecDepth 20000 in
theorem ggX9_part_X9_bad : GoodIn wsX9_part wsX9_bad := goodIn_r _ [9, 1, 27, 28, 29, 30, 31, 32, 33, 34, 35, 36, 37, 38, 39, 40, 41, 42, 43, 44, 45, 46, 47, 48, 49, 50, 51, 52, 53, 54, 55, 56, 57, 58, 59, 60, 61, 62, 63, 64, 65, 66, 67] (by decide +kernel) (by decide +kernel)
set_option maxRecDepth 20000 in
theorem gX9_part_X9_bad : GoodIn wsX9_part (wsV RX9 96 RX9 yX9_bad wsX9_bad) := goodIn_app (goodIn_of _ (by decide +kernel)) ggX9_part_X9_bad
set_option maxRecDepth 20000 in
theorem ggX9_part_X9_ranked : GoodIn wsX9_part wsX9_ranked := goodIn_r _ [13, 2, 14, 4, 15, 16, 17, 8, 18, 19, 20, 21, 22, 23, 24, 25, 26, 27, 28, 29, 30, 31, 32, 33, 34, 35, 36, 37, 38, 39, 40, 41, 42, 43, 44, 45, 46, 47, 48, 49, 50, 51, 52, 53, 54, 55, 56, 57, 58, 59, 60, 61, 62, 63, 64, 65, 66, 67] (by decide +kernel) (by decide +kernel)
set_option maxRecDepth 20000 in
theorem gX9_part_X9_ranked : GoodIn wsX9_part (wsV RX9 252 RX9 yX9_ranked wsX9_ranked) := goodIn_app (goodIn_of _ (by decide +kernel)) ggX9_part_X9_ranked
theorem dX9_part_0 : decode cX9_part 0 = .ok (.aload_n 0, 1) := by decide +kernel
theorem dX9_part_1 : decode cX9_part 1 = .ok (.iconst 0, 1) := by decide +kernel
theorem dX9_part_2 : decode cX9_part 2 = .ok (.putfield 82, 3) := by decide +kernel
theorem dX9_part_5 : decode cX9_part 5 = .ok (.aload_n 0, 1) := by decide +kernel
theorem dX9_part_6 : decode cX9_part 6 = .ok (.iload_n 1, 1) := by decide +kernel
theorem dX9_part_7 : decode cX9_part 7 = .ok (.ifCond .lt 9, 3) := by decide +kernel
theorem dX9_part_10 : decode cX9_part 10 = .ok (.iload_n 1, 1) := by decide +kernel
theorem dX9_part_11 : decode cX9_part 11 = .ok (.bipush 16, 2) := by decide +kernel
theorem dX9_part_13 : decode cX9_part 13 = .ok (.if_icmp .le 7, 3) := by decide +kernel
theorem dX9_part_16 : decode cX9_part 16 = .ok (.iconst 1, 1) := by decide +kernel
theorem dX9_part_17 : decode cX9_part 17 = .ok (.goto 4, 3) := by decide +kernel
theorem dX9_part_20 : decode cX9_part 20 = .ok (.iconst 0, 1) := by decide +kernel
theorem dX9_part_21 : decode cX9_part 21 = .ok (.iconst 1, 1) := by decide +kernel
theorem dX9_part_22 : decode cX9_part 22 = .ok (.invokevirtual 96, 3) := by decide +kernel
theorem dX9_part_25 : decode cX9_part 25 = .ok (.ifCond .eq 5, 3) := by decide +kernel
theorem dX9_part_28 : decode cX9_part 28 = .ok (.iconst 0, 1) := by decide +kernel
theorem dX9_part_29 : decode cX9_part 29 = .ok (.ireturn, 1) := by decide +kernel
theorem dX9_part_30 : decode cX9_part 30 = .ok (.aload_n 0, 1) := by decide +kernel
theorem dX9_part_31 : decode cX9_part 31 = .ok (.invokevirtual 252, 3) := by decide +kernel
theorem dX9_part_34 : decode cX9_part 34 = .ok (.iconst 0, 1) := by decide +kernel
theorem dX9_part_35 : decode cX9_part 35 = .ok (.istore_n 2, 1) := by decide +kernel
theorem dX9_part_36 : decode cX9_part 36 = .ok (.iload_n 2, 1) := by decide +kernel
theorem dX9_part_37 : decode cX9_part 37 = .ok (.aload_n 0, 1) := by decide +kernel
theorem dX9_part_38 : decode cX9_part 38 = .ok (.getfield 224, 3) := by decide +kernel
theorem dX9_part_41 : decode cX9_part 41 = .ok (.if_icmp .ge 30, 3) := by decide +kernel
theorem dX9_part_44 : decode cX9_part 44 = .ok (.aload_n 0, 1) := by decide +kernel
theorem dX9_part_45 : decode cX9_part 45 = .ok (.getfield 70, 3) := by decide +kernel
