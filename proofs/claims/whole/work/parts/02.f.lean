theorem dX8_hour_0 : decode cX8_hour 0 = .ok (.iload_n 1, 1) := by decide +kernel
theorem dX8_hour_1 : decode cX8_hour 1 = .ok (.invokestatic 98, 3) := by decide +kernel
theorem dX8_hour_4 : decode cX8_hour 4 = .ok (.aload_n 0, 1) := by decide +kernel
theorem dX8_hour_5 : decode cX8_hour 5 = .ok (.getfield 10, 3) := by decide +kernel
theorem dX8_hour_8 : decode cX8_hour 8 = .ok (.iload_n 1, 1) := by decide +kernel
theorem dX8_hour_9 : decode cX8_hour 9 = .ok (.invokevirtual 101, 3) := by decide +kernel
theorem dX8_hour_12 : decode cX8_hour 12 = .ok (.aload_n 0, 1) := by decide +kernel
theorem dX8_hour_13 : decode cX8_hour 13 = .ok (.getfield 10, 3) := by decide +kernel
theorem dX8_hour_16 : decode cX8_hour 16 = .ok (.aload_n 0, 1) := by decide +kernel
theorem dX8_hour_17 : decode cX8_hour 17 = .ok (.getfield 33, 3) := by decide +kernel
theorem dX8_hour_20 : decode cX8_hour 20 = .ok (.getfield 104, 3) := by decide +kernel
theorem dX8_hour_23 : decode cX8_hour 23 = .ok (.invokevirtual 107, 3) := by decide +kernel
theorem dX8_hour_26 : decode cX8_hour 26 = .ok (.ireturn, 1) := by decide +kernel
set_option maxRecDepth 20000 in
theorem ggX8_ice_X8_needCell : GoodIn wsX8_ice wsX8_needCell := goodIn_ca (goodIn_r _ [8, 9, 10, 11, 12, 7, 13] (by decide +kernel) (by decide +kernel)) (goodIn_sub (fun _ h => List.mem_cons_of_mem _ (List.mem_append_right _ h)) (by decide +kernel))
set_option maxRecDepth 20000 in
theorem gX8_ice_X8_needCell : GoodIn wsX8_ice (va_wsS RX8 69 yX8_needCell wsX8_needCell) := goodIn_app (goodIn_of _ (by decide +kernel)) ggX8_ice_X8_needCell
set_option maxRecDepth 20000 in
theorem ggX8_ice_X3_lowOf : GoodIn wsX8_ice wsX3_lowOf := goodIn_r _ [18, 19, 45, 46, 47] (by decide +kernel) (by decide +kernel)
set_option maxRecDepth 20000 in
theorem gX8_ice_X3_lowOf : GoodIn wsX8_ice (wsV RX8 111 RX3 yX3_lowOf wsX3_lowOf) := goodIn_app (goodIn_of _ (by decide +kernel)) ggX8_ice_X3_lowOf
set_option maxRecDepth 20000 in
theorem ggX8_ice_X3_highOf : GoodIn wsX8_ice wsX3_highOf := goodIn_r _ [23, 24, 45, 46, 47] (by decide +kernel) (by decide +kernel)
set_option maxRecDepth 20000 in
theorem gX8_ice_X3_highOf : GoodIn wsX8_ice (wsV RX8 114 RX3 yX3_highOf wsX3_highOf) := goodIn_app (goodIn_of _ (by decide +kernel)) ggX8_ice_X3_highOf
set_option maxRecDepth 20000 in
theorem ggX8_ice_X3_isSafe : GoodIn wsX8_ice wsX3_isSafe := goodIn_r _ [28, 19, 29, 12, 7, 13, 45, 46, 47] (by decide +kernel) (by decide +kernel)
set_option maxRecDepth 20000 in
theorem gX8_ice_X3_isSafe : GoodIn wsX8_ice (wsV RX8 117 RX3 yX3_isSafe wsX3_isSafe) := goodIn_app (goodIn_of _ (by decide +kernel)) ggX8_ice_X3_isSafe
theorem dX8_ice_0 : decode cX8_ice 0 = .ok (.iload_n 1, 1) := by decide +kernel
theorem dX8_ice_1 : decode cX8_ice 1 = .ok (.invokestatic 69, 3) := by decide +kernel
theorem dX8_ice_4 : decode cX8_ice 4 = .ok (.iload_n 2, 1) := by decide +kernel
theorem dX8_ice_5 : decode cX8_ice 5 = .ok (.tableswitch 69 0 2 #[27, 36, 45], 27) := by decide +kernel
theorem dX8_ice_32 : decode cX8_ice 32 = .ok (.aload_n 0, 1) := by decide +kernel
theorem dX8_ice_33 : decode cX8_ice 33 = .ok (.getfield 10, 3) := by decide +kernel
theorem dX8_ice_36 : decode cX8_ice 36 = .ok (.iload_n 1, 1) := by decide +kernel
theorem dX8_ice_37 : decode cX8_ice 37 = .ok (.invokevirtual 111, 3) := by decide +kernel
theorem dX8_ice_40 : decode cX8_ice 40 = .ok (.ireturn, 1) := by decide +kernel
theorem dX8_ice_41 : decode cX8_ice 41 = .ok (.aload_n 0, 1) := by decide +kernel
theorem dX8_ice_42 : decode cX8_ice 42 = .ok (.getfield 10, 3) := by decide +kernel
theorem dX8_ice_45 : decode cX8_ice 45 = .ok (.iload_n 1, 1) := by decide +kernel
theorem dX8_ice_46 : decode cX8_ice 46 = .ok (.invokevirtual 114, 3) := by decide +kernel
theorem dX8_ice_49 : decode cX8_ice 49 = .ok (.ireturn, 1) := by decide +kernel
theorem dX8_ice_50 : decode cX8_ice 50 = .ok (.aload_n 0, 1) := by decide +kernel
theorem dX8_ice_51 : decode cX8_ice 51 = .ok (.getfield 10, 3) := by decide +kernel
theorem dX8_ice_54 : decode cX8_ice 54 = .ok (.iload_n 1, 1) := by decide +kernel
theorem dX8_ice_55 : decode cX8_ice 55 = .ok (.aload_n 0, 1) := by decide +kernel
theorem dX8_ice_56 : decode cX8_ice 56 = .ok (.getfield 33, 3) := by decide +kernel
theorem dX8_ice_59 : decode cX8_ice 59 = .ok (.getfield 104, 3) := by decide +kernel
theorem dX8_ice_62 : decode cX8_ice 62 = .ok (.invokevirtual 117, 3) := by decide +kernel
theorem dX8_ice_65 : decode cX8_ice 65 = .ok (.ifCond .eq 7, 3) := by decide +kernel
theorem dX8_ice_68 : decode cX8_ice 68 = .ok (.iconst 1, 1) := by decide +kernel
theorem dX8_ice_69 : decode cX8_ice 69 = .ok (.goto 4, 3) := by decide +kernel
theorem dX8_ice_72 : decode cX8_ice 72 = .ok (.iconst 0, 1) := by decide +kernel
theorem dX8_ice_73 : decode cX8_ice 73 = .ok (.ireturn, 1) := by decide +kernel
theorem dX8_ice_74 : decode cX8_ice 74 = .ok (.new 121, 3) := by decide +kernel
theorem dX8_ice_77 : decode cX8_ice 77 = .ok (.dup, 1) := by decide +kernel
theorem dX8_ice_78 : decode cX8_ice 78 = .ok (.ldc 123, 2) := by decide +kernel
theorem dX8_ice_80 : decode cX8_ice 80 = .ok (.invokespecial 125, 3) := by decide +kernel
theorem dX8_ice_83 : decode cX8_ice 83 = .ok (.athrow, 1) := by decide +kernel
set_option maxRecDepth 20000 in
theorem ggX8_lasts_X8_needCell : GoodIn wsX8_lasts wsX8_needCell := goodIn_ca (goodIn_r _ [6, 7, 8, 9, 10, 5, 11] (by decide +kernel) (by decide +kernel)) (goodIn_sub (fun _ h => List.mem_cons_of_mem _ (List.mem_append_left _ (List.mem_append_right _ h))) (by decide +kernel))
set_option maxRecDepth 20000 in
theorem gX8_lasts_X8_needCell : GoodIn wsX8_lasts (va_wsS RX8 69 yX8_needCell wsX8_needCell) := goodIn_app (goodIn_of _ (by decide +kernel)) ggX8_lasts_X8_needCell
set_option maxRecDepth 20000 in
theorem ggX8_lasts_X8_needDegrees : GoodIn wsX8_lasts wsX8_needDegrees := goodIn_ca (goodIn_r _ [14, 15, 16] (by decide +kernel) (by decide +kernel)) (goodIn_sub (fun _ h => List.mem_cons_of_mem _ (List.mem_append_right _ h)) (by decide +kernel))
set_option maxRecDepth 20000 in
theorem gX8_lasts_X8_needDegrees : GoodIn wsX8_lasts (va_wsS RX8 98 yX8_needDegrees wsX8_needDegrees) := goodIn_app (goodIn_of _ (by decide +kernel)) ggX8_lasts_X8_needDegrees
set_option maxRecDepth 20000 in
theorem ggX8_lasts_X3_safeHours : GoodIn wsX8_lasts wsX3_safeHours := goodIn_r _ [21, 22, 23, 24, 25, 20, 26, 27, 10, 5, 11, 43, 44, 45] (by decide +kernel) (by decide +kernel)
set_option maxRecDepth 20000 in
theorem gX8_lasts_X3_safeHours : GoodIn wsX8_lasts (wsV RX8 126 RX3 yX3_safeHours wsX3_safeHours) := goodIn_app (goodIn_of _ (by decide +kernel)) ggX8_lasts_X3_safeHours
theorem dX8_lasts_0 : decode cX8_lasts 0 = .ok (.iload_n 1, 1) := by decide +kernel
theorem dX8_lasts_1 : decode cX8_lasts 1 = .ok (.invokestatic 69, 3) := by decide +kernel
theorem dX8_lasts_4 : decode cX8_lasts 4 = .ok (.iload_n 2, 1) := by decide +kernel
theorem dX8_lasts_5 : decode cX8_lasts 5 = .ok (.invokestatic 98, 3) := by decide +kernel
theorem dX8_lasts_8 : decode cX8_lasts 8 = .ok (.aload_n 0, 1) := by decide +kernel
theorem dX8_lasts_9 : decode cX8_lasts 9 = .ok (.getfield 10, 3) := by decide +kernel
theorem dX8_lasts_12 : decode cX8_lasts 12 = .ok (.iload_n 1, 1) := by decide +kernel
theorem dX8_lasts_13 : decode cX8_lasts 13 = .ok (.iload_n 2, 1) := by decide +kernel
theorem dX8_lasts_14 : decode cX8_lasts 14 = .ok (.aload_n 0, 1) := by decide +kernel
theorem dX8_lasts_15 : decode cX8_lasts 15 = .ok (.getfield 33, 3) := by decide +kernel
theorem dX8_lasts_18 : decode cX8_lasts 18 = .ok (.getfield 104, 3) := by decide +kernel
theorem dX8_lasts_21 : decode cX8_lasts 21 = .ok (.invokevirtual 126, 3) := by decide +kernel
theorem dX8_lasts_24 : decode cX8_lasts 24 = .ok (.ireturn, 1) := by decide +kernel
set_option maxRecDepth 20000 in
theorem ggX8_wind_X8_needWay : GoodIn wsX8_wind wsX8_needWay := goodIn_ca (goodIn_r _ [5, 6, 7, 8, 9, 4, 10] (by decide +kernel) (by decide +kernel)) (goodIn_sub (fun _ h => List.mem_cons_of_mem _ (List.mem_append_right _ h)) (by decide +kernel))
set_option maxRecDepth 20000 in
theorem gX8_wind_X8_needWay : GoodIn wsX8_wind (va_wsS RX8 129 yX8_needWay wsX8_needWay) := goodIn_app (goodIn_of _ (by decide +kernel)) ggX8_wind_X8_needWay
theorem dX8_wind_0 : decode cX8_wind 0 = .ok (.iload_n 1, 1) := by decide +kernel
theorem dX8_wind_1 : decode cX8_wind 1 = .ok (.invokestatic 129, 3) := by decide +kernel
theorem dX8_wind_4 : decode cX8_wind 4 = .ok (.aload_n 0, 1) := by decide +kernel
theorem dX8_wind_5 : decode cX8_wind 5 = .ok (.getfield 65, 3) := by decide +kernel
theorem dX8_wind_8 : decode cX8_wind 8 = .ok (.istore_n 2, 1) := by decide +kernel
theorem dX8_wind_9 : decode cX8_wind 9 = .ok (.aload_n 0, 1) := by decide +kernel
theorem dX8_wind_10 : decode cX8_wind 10 = .ok (.iload_n 1, 1) := by decide +kernel
theorem dX8_wind_11 : decode cX8_wind 11 = .ok (.putfield 65, 3) := by decide +kernel
theorem dX8_wind_14 : decode cX8_wind 14 = .ok (.iload_n 2, 1) := by decide +kernel
theorem dX8_wind_15 : decode cX8_wind 15 = .ok (.ireturn, 1) := by decide +kernel
set_option maxRecDepth 20000 in
theorem ggX8_course_X1_takeLongest : GoodIn wsX8_course wsX1_takeLongest := goodIn_r _ [9, 10, 11, 12, 13, 14, 15, 16, 17, 18, 19, 20, 21, 22, 23, 24, 25, 26, 27, 28, 29, 30, 31, 32, 33, 34, 35, 36, 37, 38, 39, 8, 40, 41, 42, 58, 59, 60, 61, 62] (by decide +kernel) (by decide +kernel)
set_option maxRecDepth 20000 in
theorem gX8_course_X1_takeLongest : GoodIn wsX8_course (wsV RX8 132 RX1 yX1_takeLongest wsX1_takeLongest) := goodIn_app (goodIn_of _ (by decide +kernel)) ggX8_course_X1_takeLongest
theorem dX8_course_0 : decode cX8_course 0 = .ok (.aload_n 0, 1) := by decide +kernel
theorem dX8_course_1 : decode cX8_course 1 = .ok (.getfield 19, 3) := by decide +kernel
theorem dX8_course_4 : decode cX8_course 4 = .ok (.aload_n 0, 1) := by decide +kernel
theorem dX8_course_5 : decode cX8_course 5 = .ok (.getfield 10, 3) := by decide +kernel
theorem dX8_course_8 : decode cX8_course 8 = .ok (.aload_n 0, 1) := by decide +kernel
theorem dX8_course_9 : decode cX8_course 9 = .ok (.getfield 65, 3) := by decide +kernel
theorem dX8_course_12 : decode cX8_course 12 = .ok (.aload_n 0, 1) := by decide +kernel
theorem dX8_course_13 : decode cX8_course 13 = .ok (.getfield 33, 3) := by decide +kernel
theorem dX8_course_16 : decode cX8_course 16 = .ok (.getfield 104, 3) := by decide +kernel
theorem dX8_course_19 : decode cX8_course 19 = .ok (.invokevirtual 132, 3) := by decide +kernel
theorem dX8_course_22 : decode cX8_course 22 = .ok (.ireturn, 1) := by decide +kernel
set_option maxRecDepth 20000 in
theorem ggX8_move_X1_takeNearest : GoodIn wsX8_move wsX1_takeNearest := goodIn_r _ [11, 12, 13, 14, 15, 16, 17, 18, 19, 20, 21, 22, 23, 24, 25, 26, 27, 28, 29, 30, 31, 32, 33, 34, 35, 36, 37, 38, 39, 40, 41, 42, 10, 43, 44, 45, 46, 47, 48, 64, 65, 66, 67, 68] (by decide +kernel) (by decide +kernel)
set_option maxRecDepth 20000 in
theorem gX8_move_X1_takeNearest : GoodIn wsX8_move (wsV RX8 138 RX1 yX1_takeNearest wsX1_takeNearest) := goodIn_app (goodIn_of _ (by decide +kernel)) ggX8_move_X1_takeNearest
theorem dX8_move_0 : decode cX8_move 0 = .ok (.iload_n 1, 1) := by decide +kernel
theorem dX8_move_1 : decode cX8_move 1 = .ok (.iconst 1, 1) := by decide +kernel
theorem dX8_move_2 : decode cX8_move 2 = .ok (.if_icmp .lt 9, 3) := by decide +kernel
theorem dX8_move_5 : decode cX8_move 5 = .ok (.iload_n 1, 1) := by decide +kernel
theorem dX8_move_6 : decode cX8_move 6 = .ok (.bipush 12, 2) := by decide +kernel
theorem dX8_move_8 : decode cX8_move 8 = .ok (.if_icmp .lt 13, 3) := by decide +kernel
theorem dX8_move_11 : decode cX8_move 11 = .ok (.new 121, 3) := by decide +kernel
theorem dX8_move_14 : decode cX8_move 14 = .ok (.dup, 1) := by decide +kernel
theorem dX8_move_15 : decode cX8_move 15 = .ok (.ldc 136, 2) := by decide +kernel
theorem dX8_move_17 : decode cX8_move 17 = .ok (.invokespecial 125, 3) := by decide +kernel
theorem dX8_move_20 : decode cX8_move 20 = .ok (.athrow, 1) := by decide +kernel
theorem dX8_move_21 : decode cX8_move 21 = .ok (.aload_n 0, 1) := by decide +kernel
theorem dX8_move_22 : decode cX8_move 22 = .ok (.getfield 19, 3) := by decide +kernel
theorem dX8_move_25 : decode cX8_move 25 = .ok (.aload_n 0, 1) := by decide +kernel
theorem dX8_move_26 : decode cX8_move 26 = .ok (.getfield 10, 3) := by decide +kernel
theorem dX8_move_29 : decode cX8_move 29 = .ok (.aload_n 0, 1) := by decide +kernel
theorem dX8_move_30 : decode cX8_move 30 = .ok (.getfield 65, 3) := by decide +kernel
theorem dX8_move_33 : decode cX8_move 33 = .ok (.aload_n 0, 1) := by decide +kernel
theorem dX8_move_34 : decode cX8_move 34 = .ok (.getfield 33, 3) := by decide +kernel
theorem dX8_move_37 : decode cX8_move 37 = .ok (.getfield 104, 3) := by decide +kernel
theorem dX8_move_40 : decode cX8_move 40 = .ok (.iload_n 1, 1) := by decide +kernel
theorem dX8_move_41 : decode cX8_move 41 = .ok (.invokevirtual 138, 3) := by decide +kernel
theorem dX8_move_44 : decode cX8_move 44 = .ok (.ireturn, 1) := by decide +kernel
theorem dX8_mark_0 : decode cX8_mark 0 = .ok (.iload_n 1, 1) := by decide +kernel
theorem dX8_mark_1 : decode cX8_mark 1 = .ok (.ifCond .eq 18, 3) := by decide +kernel
theorem dX8_mark_4 : decode cX8_mark 4 = .ok (.iload_n 1, 1) := by decide +kernel
theorem dX8_mark_5 : decode cX8_mark 5 = .ok (.iconst 1, 1) := by decide +kernel
theorem dX8_mark_6 : decode cX8_mark 6 = .ok (.if_icmp .eq 13, 3) := by decide +kernel
theorem dX8_mark_9 : decode cX8_mark 9 = .ok (.new 121, 3) := by decide +kernel
theorem dX8_mark_12 : decode cX8_mark 12 = .ok (.dup, 1) := by decide +kernel
theorem dX8_mark_13 : decode cX8_mark 13 = .ok (.ldc 142, 2) := by decide +kernel
theorem dX8_mark_15 : decode cX8_mark 15 = .ok (.invokespecial 125, 3) := by decide +kernel
theorem dX8_mark_18 : decode cX8_mark 18 = .ok (.athrow, 1) := by decide +kernel
theorem dX8_mark_19 : decode cX8_mark 19 = .ok (.iload_n 1, 1) := by decide +kernel
theorem dX8_mark_20 : decode cX8_mark 20 = .ok (.ifCond .ne 13, 3) := by decide +kernel
theorem dX8_mark_23 : decode cX8_mark 23 = .ok (.aload_n 0, 1) := by decide +kernel
theorem dX8_mark_24 : decode cX8_mark 24 = .ok (.getfield 19, 3) := by decide +kernel
theorem dX8_mark_27 : decode cX8_mark 27 = .ok (.getfield 144, 3) := by decide +kernel
theorem dX8_mark_30 : decode cX8_mark 30 = .ok (.goto 10, 3) := by decide +kernel
theorem dX8_mark_33 : decode cX8_mark 33 = .ok (.aload_n 0, 1) := by decide +kernel
theorem dX8_mark_34 : decode cX8_mark 34 = .ok (.getfield 19, 3) := by decide +kernel
theorem dX8_mark_37 : decode cX8_mark 37 = .ok (.getfield 147, 3) := by decide +kernel
theorem dX8_mark_40 : decode cX8_mark 40 = .ok (.ireturn, 1) := by decide +kernel
set_option maxRecDepth 20000 in
theorem ggX8_holds_X1_isLeg : GoodIn wsX8_holds wsX1_isLeg := goodIn_r _ [9, 10, 11, 12, 13, 14, 15, 16, 17, 18, 19, 20, 21, 22, 23, 24, 25, 26, 27, 28, 29, 30, 31, 32, 33, 34, 35, 36, 37, 38, 54, 55, 56, 57, 58] (by decide +kernel) (by decide +kernel)
set_option maxRecDepth 20000 in
theorem gX8_holds_X1_isLeg : GoodIn wsX8_holds (wsV RX8 150 RX1 yX1_isLeg wsX1_isLeg) := goodIn_app (goodIn_of _ (by decide +kernel)) ggX8_holds_X1_isLeg
theorem dX8_holds_0 : decode cX8_holds 0 = .ok (.aload_n 0, 1) := by decide +kernel
theorem dX8_holds_1 : decode cX8_holds 1 = .ok (.getfield 19, 3) := by decide +kernel
theorem dX8_holds_4 : decode cX8_holds 4 = .ok (.aload_n 0, 1) := by decide +kernel
theorem dX8_holds_5 : decode cX8_holds 5 = .ok (.getfield 10, 3) := by decide +kernel
theorem dX8_holds_8 : decode cX8_holds 8 = .ok (.aload_n 0, 1) := by decide +kernel
theorem dX8_holds_9 : decode cX8_holds 9 = .ok (.getfield 65, 3) := by decide +kernel
theorem dX8_holds_12 : decode cX8_holds 12 = .ok (.aload_n 0, 1) := by decide +kernel
theorem dX8_holds_13 : decode cX8_holds 13 = .ok (.getfield 33, 3) := by decide +kernel
theorem dX8_holds_16 : decode cX8_holds 16 = .ok (.getfield 104, 3) := by decide +kernel
theorem dX8_holds_19 : decode cX8_holds 19 = .ok (.invokevirtual 150, 3) := by decide +kernel
theorem dX8_holds_22 : decode cX8_holds 22 = .ok (.ireturn, 1) := by decide +kernel
set_option maxRecDepth 20000 in
theorem ggX8_feed_X7_hasRoom : GoodIn wsX8_feed wsX7_hasRoom := goodIn_r _ [6, 7, 22, 23, 24, 25, 26, 27, 28] (by decide +kernel) (by decide +kernel)
set_option maxRecDepth 20000 in
theorem gX8_feed_X7_hasRoom : GoodIn wsX8_feed (wsV RX8 154 RX7 yX7_hasRoom wsX7_hasRoom) := goodIn_app (goodIn_of _ (by decide +kernel)) ggX8_feed_X7_hasRoom
set_option maxRecDepth 20000 in
theorem ggX8_feed_X7_addNumber : GoodIn wsX8_feed wsX7_addNumber := goodIn_r _ [11, 7, 12, 22, 23, 24, 25, 26, 27, 28] (by decide +kernel) (by decide +kernel)
set_option maxRecDepth 20000 in
theorem gX8_feed_X7_addNumber : GoodIn wsX8_feed (wsV RX8 158 RX7 yX7_addNumber wsX7_addNumber) := goodIn_app (goodIn_of _ (by decide +kernel)) ggX8_feed_X7_addNumber
theorem dX8_feed_0 : decode cX8_feed 0 = .ok (.aload_n 0, 1) := by decide +kernel
theorem dX8_feed_1 : decode cX8_feed 1 = .ok (.getfield 26, 3) := by decide +kernel
theorem dX8_feed_4 : decode cX8_feed 4 = .ok (.invokevirtual 154, 3) := by decide +kernel
theorem dX8_feed_7 : decode cX8_feed 7 = .ok (.ifCond .ne 5, 3) := by decide +kernel
theorem dX8_feed_10 : decode cX8_feed 10 = .ok (.iconst (-1), 1) := by decide +kernel
theorem dX8_feed_11 : decode cX8_feed 11 = .ok (.ireturn, 1) := by decide +kernel
theorem dX8_feed_12 : decode cX8_feed 12 = .ok (.aload_n 0, 1) := by decide +kernel
theorem dX8_feed_13 : decode cX8_feed 13 = .ok (.getfield 26, 3) := by decide +kernel
theorem dX8_feed_16 : decode cX8_feed 16 = .ok (.iload_n 1, 1) := by decide +kernel
theorem dX8_feed_17 : decode cX8_feed 17 = .ok (.invokevirtual 158, 3) := by decide +kernel
theorem dX8_feed_20 : decode cX8_feed 20 = .ok (.aload_n 0, 1) := by decide +kernel
theorem dX8_feed_21 : decode cX8_feed 21 = .ok (.getfield 26, 3) := by decide +kernel
theorem dX8_feed_24 : decode cX8_feed 24 = .ok (.iload_n 2, 1) := by decide +kernel
theorem dX8_feed_25 : decode cX8_feed 25 = .ok (.invokevirtual 158, 3) := by decide +kernel
theorem dX8_feed_28 : decode cX8_feed 28 = .ok (.aload_n 0, 1) := by decide +kernel
theorem dX8_feed_29 : decode cX8_feed 29 = .ok (.getfield 26, 3) := by decide +kernel
theorem dX8_feed_32 : decode cX8_feed 32 = .ok (.iload_n 3, 1) := by decide +kernel
theorem dX8_feed_33 : decode cX8_feed 33 = .ok (.invokevirtual 158, 3) := by decide +kernel
theorem dX8_feed_36 : decode cX8_feed 36 = .ok (.aload_n 0, 1) := by decide +kernel
theorem dX8_feed_37 : decode cX8_feed 37 = .ok (.getfield 26, 3) := by decide +kernel
theorem dX8_feed_40 : decode cX8_feed 40 = .ok (.iload 4, 2) := by decide +kernel
theorem dX8_feed_42 : decode cX8_feed 42 = .ok (.invokevirtual 158, 3) := by decide +kernel
theorem dX8_feed_45 : decode cX8_feed 45 = .ok (.aload_n 0, 1) := by decide +kernel
theorem dX8_feed_46 : decode cX8_feed 46 = .ok (.getfield 26, 3) := by decide +kernel
theorem dX8_feed_49 : decode cX8_feed 49 = .ok (.iload 5, 2) := by decide +kernel
theorem dX8_feed_51 : decode cX8_feed 51 = .ok (.invokevirtual 158, 3) := by decide +kernel
theorem dX8_feed_54 : decode cX8_feed 54 = .ok (.aload_n 0, 1) := by decide +kernel
theorem dX8_feed_55 : decode cX8_feed 55 = .ok (.getfield 26, 3) := by decide +kernel
theorem dX8_feed_58 : decode cX8_feed 58 = .ok (.getfield 161, 3) := by decide +kernel
theorem dX8_feed_61 : decode cX8_feed 61 = .ok (.ireturn, 1) := by decide +kernel
set_option maxRecDepth 20000 in
theorem ggX8_rule_X7_readRule : GoodIn wsX8_rule wsX7_readRule := goodIn_r _ [9, 10, 11, 12, 13, 14, 15, 16, 17, 18, 19, 20, 21, 22, 23, 24, 25, 26, 27, 28, 29, 30, 31, 32, 33, 34, 35, 8, 36, 37, 38, 39, 40, 41, 42, 43, 44, 45, 46, 47, 48, 49, 50, 51, 52, 53, 54, 55, 56, 57, 58, 59, 60, 61, 62, 63, 64, 65, 66, 67, 68, 69, 70, 71, 72, 73, 74, 75, 76, 77, 78, 79, 80, 81, 82, 83, 84, 85, 86, 87, 88, 89, 90, 91, 92, 93, 94, 95, 96, 97, 98, 99, 100, 101, 102, 103, 104, 105, 106, 107, 108, 109, 110, 111, 112, 113, 114, 115, 116, 117, 118, 119, 120, 121, 122, 123, 124, 125, 126, 127, 128, 129, 130, 131, 132, 133, 134, 135, 136, 137, 138, 139, 153, 154, 155, 156, 157, 158, 159, 160, 161, 162, 163, 164, 165] (by decide +kernel) (by decide +kernel)
set_option maxRecDepth 20000 in
theorem gX8_rule_X7_readRule : GoodIn wsX8_rule (wsV RX8 166 RX7 yX7_readRule wsX7_readRule) := goodIn_app (goodIn_of _ (by decide +kernel)) ggX8_rule_X7_readRule
set_option maxRecDepth 20000 in
theorem ggX8_rule_X6_takeOver : GoodIn wsX8_rule wsX6_takeOver := goodIn_r _ [143, 28, 29, 30, 31, 32, 135, 160, 161, 162, 163, 164, 165] (by decide +kernel) (by decide +kernel)
set_option maxRecDepth 20000 in
theorem gX8_rule_X6_takeOver : GoodIn wsX8_rule (wsV RX8 172 RX6 yX6_takeOver wsX6_takeOver) := goodIn_app (goodIn_of _ (by decide +kernel)) ggX8_rule_X6_takeOver
theorem dX8_rule_0 : decode cX8_rule 0 = .ok (.iload_n 1, 1) := by decide +kernel
theorem dX8_rule_1 : decode cX8_rule 1 = .ok (.ifCond .lt 14, 3) := by decide +kernel
theorem dX8_rule_4 : decode cX8_rule 4 = .ok (.iload_n 1, 1) := by decide +kernel
theorem dX8_rule_5 : decode cX8_rule 5 = .ok (.aload_n 0, 1) := by decide +kernel
theorem dX8_rule_6 : decode cX8_rule 6 = .ok (.getfield 26, 3) := by decide +kernel
theorem dX8_rule_9 : decode cX8_rule 9 = .ok (.getfield 161, 3) := by decide +kernel
theorem dX8_rule_12 : decode cX8_rule 12 = .ok (.if_icmp .le 13, 3) := by decide +kernel
theorem dX8_rule_15 : decode cX8_rule 15 = .ok (.new 121, 3) := by decide +kernel
theorem dX8_rule_18 : decode cX8_rule 18 = .ok (.dup, 1) := by decide +kernel
theorem dX8_rule_19 : decode cX8_rule 19 = .ok (.ldc 164, 2) := by decide +kernel
theorem dX8_rule_21 : decode cX8_rule 21 = .ok (.invokespecial 125, 3) := by decide +kernel
theorem dX8_rule_24 : decode cX8_rule 24 = .ok (.athrow, 1) := by decide +kernel
theorem dX8_rule_25 : decode cX8_rule 25 = .ok (.aload_n 0, 1) := by decide +kernel
theorem dX8_rule_26 : decode cX8_rule 26 = .ok (.getfield 26, 3) := by decide +kernel
theorem dX8_rule_29 : decode cX8_rule 29 = .ok (.iload_n 1, 1) := by decide +kernel
theorem dX8_rule_30 : decode cX8_rule 30 = .ok (.invokevirtual 166, 3) := by decide +kernel
theorem dX8_rule_33 : decode cX8_rule 33 = .ok (.istore_n 2, 1) := by decide +kernel
theorem dX8_rule_34 : decode cX8_rule 34 = .ok (.aload_n 0, 1) := by decide +kernel
theorem dX8_rule_35 : decode cX8_rule 35 = .ok (.getfield 26, 3) := by decide +kernel
theorem dX8_rule_38 : decode cX8_rule 38 = .ok (.iconst 0, 1) := by decide +kernel
theorem dX8_rule_39 : decode cX8_rule 39 = .ok (.putfield 161, 3) := by decide +kernel
theorem dX8_rule_42 : decode cX8_rule 42 = .ok (.iload_n 2, 1) := by decide +kernel
theorem dX8_rule_43 : decode cX8_rule 43 = .ok (.ifCond .eq 8, 3) := by decide +kernel
theorem dX8_rule_46 : decode cX8_rule 46 = .ok (.iload_n 2, 1) := by decide +kernel
theorem dX8_rule_47 : decode cX8_rule 47 = .ok (.bipush 10, 2) := by decide +kernel
theorem dX8_rule_49 : decode cX8_rule 49 = .ok (.isub, 1) := by decide +kernel
theorem dX8_rule_50 : decode cX8_rule 50 = .ok (.ireturn, 1) := by decide +kernel
theorem dX8_rule_51 : decode cX8_rule 51 = .ok (.aload_n 0, 1) := by decide +kernel
theorem dX8_rule_52 : decode cX8_rule 52 = .ok (.getfield 33, 3) := by decide +kernel
theorem dX8_rule_55 : decode cX8_rule 55 = .ok (.aload_n 0, 1) := by decide +kernel
theorem dX8_rule_56 : decode cX8_rule 56 = .ok (.getfield 26, 3) := by decide +kernel
theorem dX8_rule_59 : decode cX8_rule 59 = .ok (.getfield 169, 3) := by decide +kernel
theorem dX8_rule_62 : decode cX8_rule 62 = .ok (.invokevirtual 172, 3) := by decide +kernel
theorem dX8_rule_65 : decode cX8_rule 65 = .ok (.aload_n 0, 1) := by decide +kernel
theorem dX8_rule_66 : decode cX8_rule 66 = .ok (.getfield 33, 3) := by decide +kernel
theorem dX8_rule_69 : decode cX8_rule 69 = .ok (.getfield 176, 3) := by decide +kernel
theorem dX8_rule_72 : decode cX8_rule 72 = .ok (.ireturn, 1) := by decide +kernel
theorem dX8_fault_0 : decode cX8_fault 0 = .ok (.aload_n 0, 1) := by decide +kernel
theorem dX8_fault_1 : decode cX8_fault 1 = .ok (.getfield 26, 3) := by decide +kernel
theorem dX8_fault_4 : decode cX8_fault 4 = .ok (.getfield 179, 3) := by decide +kernel
theorem dX8_fault_7 : decode cX8_fault 7 = .ok (.ireturn, 1) := by decide +kernel
theorem dX8_boat_0 : decode cX8_boat 0 = .ok (.aload_n 0, 1) := by decide +kernel
theorem dX8_boat_1 : decode cX8_boat 1 = .ok (.getfield 40, 3) := by decide +kernel
theorem dX8_boat_4 : decode cX8_boat 4 = .ok (.getfield 182, 3) := by decide +kernel
theorem dX8_boat_7 : decode cX8_boat 7 = .ok (.bipush 16, 2) := by decide +kernel
theorem dX8_boat_9 : decode cX8_boat 9 = .ok (.if_icmp .lt 13, 3) := by decide +kernel
theorem dX8_boat_12 : decode cX8_boat 12 = .ok (.new 183, 3) := by decide +kernel
theorem dX8_boat_15 : decode cX8_boat 15 = .ok (.dup, 1) := by decide +kernel
theorem dX8_boat_16 : decode cX8_boat 16 = .ok (.ldc 185, 2) := by decide +kernel
theorem dX8_boat_18 : decode cX8_boat 18 = .ok (.invokespecial 187, 3) := by decide +kernel
theorem dX8_boat_21 : decode cX8_boat 21 = .ok (.athrow, 1) := by decide +kernel
theorem dX8_boat_22 : decode cX8_boat 22 = .ok (.aload_n 0, 1) := by decide +kernel
theorem dX8_boat_23 : decode cX8_boat 23 = .ok (.getfield 40, 3) := by decide +kernel
theorem dX8_boat_26 : decode cX8_boat 26 = .ok (.dup, 1) := by decide +kernel
theorem dX8_boat_27 : decode cX8_boat 27 = .ok (.getfield 182, 3) := by decide +kernel
theorem dX8_boat_30 : decode cX8_boat 30 = .ok (.iconst 1, 1) := by decide +kernel
theorem dX8_boat_31 : decode cX8_boat 31 = .ok (.iadd, 1) := by decide +kernel
theorem dX8_boat_32 : decode cX8_boat 32 = .ok (.putfield 182, 3) := by decide +kernel
theorem dX8_boat_35 : decode cX8_boat 35 = .ok (.aload_n 0, 1) := by decide +kernel
theorem dX8_boat_36 : decode cX8_boat 36 = .ok (.getfield 40, 3) := by decide +kernel
theorem dX8_boat_39 : decode cX8_boat 39 = .ok (.getfield 182, 3) := by decide +kernel
theorem dX8_boat_42 : decode cX8_boat 42 = .ok (.iconst 1, 1) := by decide +kernel
theorem dX8_boat_43 : decode cX8_boat 43 = .ok (.isub, 1) := by decide +kernel
theorem dX8_boat_44 : decode cX8_boat 44 = .ok (.ireturn, 1) := by decide +kernel
set_option maxRecDepth 20000 in
theorem ggX8_place_X8_needBoat : GoodIn wsX8_place wsX8_needBoat := goodIn_ca (goodIn_r _ [7, 8, 9, 1, 37, 38, 39, 40, 41, 42, 43, 44, 45, 46, 47, 48, 49] (by decide +kernel) (by decide +kernel)) (goodIn_sub (fun _ h => List.mem_cons_of_mem _ (List.mem_append_left _ (List.mem_append_right _ h))) (by decide +kernel))
set_option maxRecDepth 20000 in
theorem gX8_place_X8_needBoat : GoodIn wsX8_place (wsV RX8 188 RX8 yX8_needBoat wsX8_needBoat) := goodIn_app (goodIn_of _ (by decide +kernel)) ggX8_place_X8_needBoat
set_option maxRecDepth 20000 in
theorem ggX8_place_X8_needPoint : GoodIn wsX8_place wsX8_needPoint := goodIn_ca (goodIn_r _ [12, 13, 14] (by decide +kernel) (by decide +kernel)) (goodIn_sub (fun _ h => List.mem_cons_of_mem _ (List.mem_append_right _ h)) (by decide +kernel))
set_option maxRecDepth 20000 in
theorem gX8_place_X8_needPoint : GoodIn wsX8_place (va_wsS RX8 191 yX8_needPoint wsX8_needPoint) := goodIn_app (goodIn_of _ (by decide +kernel)) ggX8_place_X8_needPoint
set_option maxRecDepth 20000 in
theorem ggX8_place_X8_needWay : GoodIn wsX8_place wsX8_needWay := goodIn_ca (goodIn_r _ [17, 13, 14, 18, 19, 6, 20] (by decide +kernel) (by decide +kernel)) (goodIn_sub (fun _ h => List.mem_cons_of_mem _ (List.mem_append_right _ h)) (by decide +kernel))
set_option maxRecDepth 20000 in
theorem gX8_place_X8_needWay : GoodIn wsX8_place (va_wsS RX8 129 yX8_needWay wsX8_needWay) := goodIn_app (goodIn_of _ (by decide +kernel)) ggX8_place_X8_needWay
set_option maxRecDepth 20000 in
theorem ggX8_place_X0_put : GoodIn wsX8_place wsX0_put := goodIn_r _ [25, 26, 27, 28, 46, 47, 48, 49] (by decide +kernel) (by decide +kernel)
set_option maxRecDepth 20000 in
theorem gX8_place_X0_put : GoodIn wsX8_place (wsV RX8 194 RX0 yX0_put wsX0_put) := goodIn_app (goodIn_of _ (by decide +kernel)) ggX8_place_X0_put
set_option maxRecDepth 20000 in
theorem ggX8_place_X0_tackOf : GoodIn wsX8_place wsX0_tackOf := goodIn_r _ [32, 28, 33, 34, 35, 36, 46, 47, 48, 49] (by decide +kernel) (by decide +kernel)
set_option maxRecDepth 20000 in
theorem gX8_place_X0_tackOf : GoodIn wsX8_place (wsV RX8 198 RX0 yX0_tackOf wsX0_tackOf) := goodIn_app (goodIn_of _ (by decide +kernel)) ggX8_place_X0_tackOf
theorem dX8_place_0 : decode cX8_place 0 = .ok (.aload_n 0, 1) := by decide +kernel
theorem dX8_place_1 : decode cX8_place 1 = .ok (.iload_n 1, 1) := by decide +kernel
theorem dX8_place_2 : decode cX8_place 2 = .ok (.invokevirtual 188, 3) := by decide +kernel
theorem dX8_place_5 : decode cX8_place 5 = .ok (.iload_n 2, 1) := by decide +kernel
theorem dX8_place_6 : decode cX8_place 6 = .ok (.iload_n 3, 1) := by decide +kernel
theorem dX8_place_7 : decode cX8_place 7 = .ok (.invokestatic 191, 3) := by decide +kernel
theorem dX8_place_10 : decode cX8_place 10 = .ok (.iload 4, 2) := by decide +kernel
theorem dX8_place_12 : decode cX8_place 12 = .ok (.invokestatic 129, 3) := by decide +kernel
theorem dX8_place_15 : decode cX8_place 15 = .ok (.aload_n 0, 1) := by decide +kernel
theorem dX8_place_16 : decode cX8_place 16 = .ok (.getfield 40, 3) := by decide +kernel
theorem dX8_place_19 : decode cX8_place 19 = .ok (.iload_n 1, 1) := by decide +kernel
theorem dX8_place_20 : decode cX8_place 20 = .ok (.iload_n 2, 1) := by decide +kernel
theorem dX8_place_21 : decode cX8_place 21 = .ok (.iload_n 3, 1) := by decide +kernel
theorem dX8_place_22 : decode cX8_place 22 = .ok (.iload 4, 2) := by decide +kernel
theorem dX8_place_24 : decode cX8_place 24 = .ok (.invokevirtual 194, 3) := by decide +kernel
theorem dX8_place_27 : decode cX8_place 27 = .ok (.aload_n 0, 1) := by decide +kernel
theorem dX8_place_28 : decode cX8_place 28 = .ok (.getfield 40, 3) := by decide +kernel
theorem dX8_place_31 : decode cX8_place 31 = .ok (.iload_n 1, 1) := by decide +kernel
theorem dX8_place_32 : decode cX8_place 32 = .ok (.aload_n 0, 1) := by decide +kernel
theorem dX8_place_33 : decode cX8_place 33 = .ok (.getfield 65, 3) := by decide +kernel
theorem dX8_place_36 : decode cX8_place 36 = .ok (.invokevirtual 198, 3) := by decide +kernel
theorem dX8_place_39 : decode cX8_place 39 = .ok (.ireturn, 1) := by decide +kernel
set_option maxRecDepth 20000 in
theorem ggX8_clear_X8_needBoat : GoodIn wsX8_clear wsX8_needBoat := goodIn_ca (goodIn_r _ [8, 9, 10, 1, 60, 61, 62, 63, 64, 65, 66, 67, 68, 69, 70, 71, 72] (by decide +kernel) (by decide +kernel)) (goodIn_sub (fun _ h => List.mem_cons_of_mem _ (List.mem_append_right _ h)) (by decide +kernel))
set_option maxRecDepth 20000 in
theorem gX8_clear_X8_needBoat : GoodIn wsX8_clear (wsV RX8 188 RX8 yX8_needBoat wsX8_needBoat) := goodIn_app (goodIn_of _ (by decide +kernel)) ggX8_clear_X8_needBoat
set_option maxRecDepth 20000 in
theorem ggX8_clear_X0_keepsClear : GoodIn wsX8_clear wsX0_keepsClear := goodIn_r _ [15, 16, 17, 18, 14, 19, 20, 21, 22, 23, 24, 25, 26, 27, 28, 29, 30, 31, 32, 33, 34, 35, 36, 37, 38, 39, 40, 41, 42, 43, 44, 45, 46, 47, 7, 48, 49, 50, 51, 52, 53, 54, 55, 56, 57, 58, 59, 73, 74, 75, 76, 77, 78, 69, 70, 71, 72] (by decide +kernel) (by decide +kernel)
set_option maxRecDepth 20000 in
theorem gX8_clear_X0_keepsClear : GoodIn wsX8_clear (wsV RX8 201 RX0 yX0_keepsClear wsX0_keepsClear) := goodIn_app (goodIn_of _ (by decide +kernel)) ggX8_clear_X0_keepsClear
theorem dX8_clear_0 : decode cX8_clear 0 = .ok (.aload_n 0, 1) := by decide +kernel
theorem dX8_clear_1 : decode cX8_clear 1 = .ok (.iload_n 1, 1) := by decide +kernel
theorem dX8_clear_2 : decode cX8_clear 2 = .ok (.invokevirtual 188, 3) := by decide +kernel
theorem dX8_clear_5 : decode cX8_clear 5 = .ok (.aload_n 0, 1) := by decide +kernel
theorem dX8_clear_6 : decode cX8_clear 6 = .ok (.iload_n 2, 1) := by decide +kernel
theorem dX8_clear_7 : decode cX8_clear 7 = .ok (.invokevirtual 188, 3) := by decide +kernel
theorem dX8_clear_10 : decode cX8_clear 10 = .ok (.aload_n 0, 1) := by decide +kernel
theorem dX8_clear_11 : decode cX8_clear 11 = .ok (.getfield 40, 3) := by decide +kernel
theorem dX8_clear_14 : decode cX8_clear 14 = .ok (.iload_n 1, 1) := by decide +kernel
theorem dX8_clear_15 : decode cX8_clear 15 = .ok (.iload_n 2, 1) := by decide +kernel
theorem dX8_clear_16 : decode cX8_clear 16 = .ok (.aload_n 0, 1) := by decide +kernel
theorem dX8_clear_17 : decode cX8_clear 17 = .ok (.getfield 33, 3) := by decide +kernel
theorem dX8_clear_20 : decode cX8_clear 20 = .ok (.aload_n 0, 1) := by decide +kernel
theorem dX8_clear_21 : decode cX8_clear 21 = .ok (.getfield 65, 3) := by decide +kernel
theorem dX8_clear_24 : decode cX8_clear 24 = .ok (.invokevirtual 201, 3) := by decide +kernel
theorem dX8_clear_27 : decode cX8_clear 27 = .ok (.ireturn, 1) := by decide +kernel
set_option maxRecDepth 20000 in
theorem ggX8_finish_X8_needBoat : GoodIn wsX8_finish wsX8_needBoat := goodIn_ca (goodIn_r _ [6, 7, 8, 9, 18, 19, 20, 21, 22, 23, 24, 25, 26, 27, 28, 29, 30] (by decide +kernel) (by decide +kernel)) (goodIn_sub (fun _ h => List.mem_cons_of_mem _ (List.mem_append_right _ h)) (by decide +kernel))
set_option maxRecDepth 20000 in
theorem gX8_finish_X8_needBoat : GoodIn wsX8_finish (wsV RX8 188 RX8 yX8_needBoat wsX8_needBoat) := goodIn_app (goodIn_of _ (by decide +kernel)) ggX8_finish_X8_needBoat
set_option maxRecDepth 20000 in
theorem ggX8_finish_X5_takeFinish : GoodIn wsX8_finish wsX5_takeFinish := goodIn_r _ [14, 15, 16, 17, 31, 32, 33, 34, 35, 36, 37] (by decide +kernel) (by decide +kernel)
set_option maxRecDepth 20000 in
theorem gX8_finish_X5_takeFinish : GoodIn wsX8_finish (wsV RX8 205 RX5 yX5_takeFinish wsX5_takeFinish) := goodIn_app (goodIn_of _ (by decide +kernel)) ggX8_finish_X5_takeFinish
theorem dX8_finish_0 : decode cX8_finish 0 = .ok (.aload_n 0, 1) := by decide +kernel
theorem dX8_finish_1 : decode cX8_finish 1 = .ok (.iload_n 1, 1) := by decide +kernel
theorem dX8_finish_2 : decode cX8_finish 2 = .ok (.invokevirtual 188, 3) := by decide +kernel
theorem dX8_finish_5 : decode cX8_finish 5 = .ok (.aload_n 0, 1) := by decide +kernel
theorem dX8_finish_6 : decode cX8_finish 6 = .ok (.getfield 47, 3) := by decide +kernel
theorem dX8_finish_9 : decode cX8_finish 9 = .ok (.iload_n 1, 1) := by decide +kernel
theorem dX8_finish_10 : decode cX8_finish 10 = .ok (.invokevirtual 205, 3) := by decide +kernel
theorem dX8_finish_13 : decode cX8_finish 13 = .ok (.ireturn, 1) := by decide +kernel
set_option maxRecDepth 20000 in
theorem ggX8_end_X5_endRace : GoodIn wsX8_end wsX5_endRace := goodIn_r _ [7, 8, 9, 10, 11, 25, 26, 27, 28, 29, 30, 31] (by decide +kernel) (by decide +kernel)
set_option maxRecDepth 20000 in
theorem gX8_end_X5_endRace : GoodIn wsX8_end (wsV RX8 208 RX5 yX5_endRace wsX5_endRace) := goodIn_app (goodIn_of _ (by decide +kernel)) ggX8_end_X5_endRace
theorem dX8_end_0 : decode cX8_end 0 = .ok (.aload_n 0, 1) := by decide +kernel
theorem dX8_end_1 : decode cX8_end 1 = .ok (.getfield 47, 3) := by decide +kernel
theorem dX8_end_4 : decode cX8_end 4 = .ok (.aload_n 0, 1) := by decide +kernel
theorem dX8_end_5 : decode cX8_end 5 = .ok (.getfield 40, 3) := by decide +kernel
theorem dX8_end_8 : decode cX8_end 8 = .ok (.getfield 182, 3) := by decide +kernel
theorem dX8_end_11 : decode cX8_end 11 = .ok (.invokevirtual 208, 3) := by decide +kernel
theorem dX8_end_14 : decode cX8_end 14 = .ok (.ireturn, 1) := by decide +kernel
set_option maxRecDepth 20000 in
theorem ggX8_points_X8_needBoat : GoodIn wsX8_points wsX8_needBoat := goodIn_ca (goodIn_r _ [8, 1, 2, 9, 16, 17, 18, 19, 20, 21, 22, 23, 24, 32, 33, 34, 35] (by decide +kernel) (by decide +kernel)) (goodIn_sub (fun _ h => List.mem_cons_of_mem _ (List.mem_append_right _ h)) (by decide +kernel))
set_option maxRecDepth 20000 in
theorem gX8_points_X8_needBoat : GoodIn wsX8_points (wsV RX8 188 RX8 yX8_needBoat wsX8_needBoat) := goodIn_app (goodIn_of _ (by decide +kernel)) ggX8_points_X8_needBoat
set_option maxRecDepth 20000 in
theorem ggX8_points_X5_pointsOf : GoodIn wsX8_points wsX5_pointsOf := goodIn_r _ [14, 15, 25, 26, 27, 28, 29, 30, 31] (by decide +kernel) (by decide +kernel)
set_option maxRecDepth 20000 in
theorem gX8_points_X5_pointsOf : GoodIn wsX8_points (wsV RX8 216 RX5 yX5_pointsOf wsX5_pointsOf) := goodIn_app (goodIn_of _ (by decide +kernel)) ggX8_points_X5_pointsOf
theorem dX8_points_0 : decode cX8_points 0 = .ok (.aload_n 0, 1) := by decide +kernel
theorem dX8_points_1 : decode cX8_points 1 = .ok (.iload_n 1, 1) := by decide +kernel
theorem dX8_points_2 : decode cX8_points 2 = .ok (.invokevirtual 188, 3) := by decide +kernel
theorem dX8_points_5 : decode cX8_points 5 = .ok (.iload_n 2, 1) := by decide +kernel
theorem dX8_points_6 : decode cX8_points 6 = .ok (.ifCond .lt 14, 3) := by decide +kernel
theorem dX8_points_9 : decode cX8_points 9 = .ok (.iload_n 2, 1) := by decide +kernel
theorem dX8_points_10 : decode cX8_points 10 = .ok (.aload_n 0, 1) := by decide +kernel
theorem dX8_points_11 : decode cX8_points 11 = .ok (.getfield 47, 3) := by decide +kernel
theorem dX8_points_14 : decode cX8_points 14 = .ok (.getfield 211, 3) := by decide +kernel
theorem dX8_points_17 : decode cX8_points 17 = .ok (.if_icmp .lt 13, 3) := by decide +kernel
theorem dX8_points_20 : decode cX8_points 20 = .ok (.new 81, 3) := by decide +kernel
theorem dX8_points_23 : decode cX8_points 23 = .ok (.dup, 1) := by decide +kernel
theorem dX8_points_24 : decode cX8_points 24 = .ok (.ldc 214, 2) := by decide +kernel
theorem dX8_points_26 : decode cX8_points 26 = .ok (.invokespecial 85, 3) := by decide +kernel
theorem dX8_points_29 : decode cX8_points 29 = .ok (.athrow, 1) := by decide +kernel
theorem dX8_points_30 : decode cX8_points 30 = .ok (.aload_n 0, 1) := by decide +kernel
theorem dX8_points_31 : decode cX8_points 31 = .ok (.getfield 47, 3) := by decide +kernel
theorem dX8_points_34 : decode cX8_points 34 = .ok (.iload_n 1, 1) := by decide +kernel
theorem dX8_points_35 : decode cX8_points 35 = .ok (.iload_n 2, 1) := by decide +kernel
theorem dX8_points_36 : decode cX8_points 36 = .ok (.invokevirtual 216, 3) := by decide +kernel
theorem dX8_points_39 : decode cX8_points 39 = .ok (.ireturn, 1) := by decide +kernel
set_option maxRecDepth 20000 in
theorem ggX8_score_X8_needBoat : GoodIn wsX8_score wsX8_needBoat := goodIn_ca (goodIn_r _ [7, 8, 9, 10, 39, 40, 41, 42, 43, 44, 45, 46, 47, 48, 49, 50, 51] (by decide +kernel) (by decide +kernel)) (goodIn_sub (fun _ h => List.mem_cons_of_mem _ (List.mem_append_right _ h)) (by decide +kernel))
set_option maxRecDepth 20000 in
theorem gX8_score_X8_needBoat : GoodIn wsX8_score (wsV RX8 188 RX8 yX8_needBoat wsX8_needBoat) := goodIn_app (goodIn_of _ (by decide +kernel)) ggX8_score_X8_needBoat
set_option maxRecDepth 20000 in
theorem ggX8_score_X5_scoreOf : GoodIn wsX8_score wsX5_scoreOf := goodIn_r _ [15, 16, 17, 18, 19, 14, 20, 21, 22, 23, 24, 25, 26, 27, 28, 29, 30, 31, 32, 33, 34, 35, 36, 37, 38, 52, 53, 54, 55, 56, 57, 58, 59, 60, 61, 62, 63, 64] (by decide +kernel) (by decide +kernel)
set_option maxRecDepth 20000 in
theorem gX8_score_X5_scoreOf : GoodIn wsX8_score (wsV RX8 219 RX5 yX5_scoreOf wsX5_scoreOf) := goodIn_app (goodIn_of _ (by decide +kernel)) ggX8_score_X5_scoreOf
theorem dX8_score_0 : decode cX8_score 0 = .ok (.aload_n 0, 1) := by decide +kernel
theorem dX8_score_1 : decode cX8_score 1 = .ok (.iload_n 1, 1) := by decide +kernel
theorem dX8_score_2 : decode cX8_score 2 = .ok (.invokevirtual 188, 3) := by decide +kernel
theorem dX8_score_5 : decode cX8_score 5 = .ok (.aload_n 0, 1) := by decide +kernel
theorem dX8_score_6 : decode cX8_score 6 = .ok (.getfield 47, 3) := by decide +kernel
theorem dX8_score_9 : decode cX8_score 9 = .ok (.iload_n 1, 1) := by decide +kernel
theorem dX8_score_10 : decode cX8_score 10 = .ok (.aload_n 0, 1) := by decide +kernel
theorem dX8_score_11 : decode cX8_score 11 = .ok (.getfield 33, 3) := by decide +kernel
theorem dX8_score_14 : decode cX8_score 14 = .ok (.invokevirtual 219, 3) := by decide +kernel
theorem dX8_score_17 : decode cX8_score 17 = .ok (.ireturn, 1) := by decide +kernel
set_option maxRecDepth 20000 in
theorem ggX8_rank_X5_rankBoats : GoodIn wsX8_rank wsX5_rankBoats := goodIn_r _ [8, 9, 10, 11, 12, 13, 14, 15, 16, 17, 7, 18, 19, 20, 21, 22, 23, 24, 25, 26, 27, 28, 29, 30, 31, 32, 33, 34, 35, 36, 37, 38, 39, 40, 41, 42, 43, 44, 45, 46, 47, 48, 62, 63, 64, 65, 66, 67, 68, 69, 70, 71, 72, 73, 74] (by decide +kernel) (by decide +kernel)
set_option maxRecDepth 20000 in
theorem gX8_rank_X5_rankBoats : GoodIn wsX8_rank (wsV RX8 223 RX5 yX5_rankBoats wsX5_rankBoats) := goodIn_app (goodIn_of _ (by decide +kernel)) ggX8_rank_X5_rankBoats
theorem dX8_rank_0 : decode cX8_rank 0 = .ok (.iload_n 1, 1) := by decide +kernel
theorem dX8_rank_1 : decode cX8_rank 1 = .ok (.ifCond .lt 14, 3) := by decide +kernel
theorem dX8_rank_4 : decode cX8_rank 4 = .ok (.iload_n 1, 1) := by decide +kernel
theorem dX8_rank_5 : decode cX8_rank 5 = .ok (.aload_n 0, 1) := by decide +kernel
theorem dX8_rank_6 : decode cX8_rank 6 = .ok (.getfield 40, 3) := by decide +kernel
theorem dX8_rank_9 : decode cX8_rank 9 = .ok (.getfield 182, 3) := by decide +kernel
theorem dX8_rank_12 : decode cX8_rank 12 = .ok (.if_icmp .lt 5, 3) := by decide +kernel
theorem dX8_rank_15 : decode cX8_rank 15 = .ok (.iconst (-1), 1) := by decide +kernel
theorem dX8_rank_16 : decode cX8_rank 16 = .ok (.ireturn, 1) := by decide +kernel
theorem dX8_rank_17 : decode cX8_rank 17 = .ok (.aload_n 0, 1) := by decide +kernel
theorem dX8_rank_18 : decode cX8_rank 18 = .ok (.getfield 47, 3) := by decide +kernel
theorem dX8_rank_21 : decode cX8_rank 21 = .ok (.aload_n 0, 1) := by decide +kernel
theorem dX8_rank_22 : decode cX8_rank 22 = .ok (.getfield 40, 3) := by decide +kernel
theorem dX8_rank_25 : decode cX8_rank 25 = .ok (.getfield 182, 3) := by decide +kernel
theorem dX8_rank_28 : decode cX8_rank 28 = .ok (.aload_n 0, 1) := by decide +kernel
theorem dX8_rank_29 : decode cX8_rank 29 = .ok (.getfield 33, 3) := by decide +kernel
theorem dX8_rank_32 : decode cX8_rank 32 = .ok (.invokevirtual 223, 3) := by decide +kernel
theorem dX8_rank_35 : decode cX8_rank 35 = .ok (.aload_n 0, 1) := by decide +kernel
theorem dX8_rank_36 : decode cX8_rank 36 = .ok (.getfield 47, 3) := by decide +kernel
theorem dX8_rank_39 : decode cX8_rank 39 = .ok (.getfield 227, 3) := by decide +kernel
theorem dX8_rank_42 : decode cX8_rank 42 = .ok (.iload_n 1, 1) := by decide +kernel
theorem dX8_rank_43 : decode cX8_rank 43 = .ok (.iaload, 1) := by decide +kernel
theorem dX8_rank_44 : decode cX8_rank 44 = .ok (.ireturn, 1) := by decide +kernel
set_option maxRecDepth 20000 in
theorem ggX8_part_X8_needFleetNumber : GoodIn wsX8_part wsX8_needFleetNumber := goodIn_ca (goodIn_r _ [8, 9, 10] (by decide +kernel) (by decide +kernel)) (goodIn_sub (fun _ h => List.mem_cons_of_mem _ (List.mem_append_right _ h)) (by decide +kernel))
set_option maxRecDepth 20000 in
theorem gX8_part_X8_needFleetNumber : GoodIn wsX8_part (va_wsS RX8 231 yX8_needFleetNumber wsX8_needFleetNumber) := goodIn_app (goodIn_of _ (by decide +kernel)) ggX8_part_X8_needFleetNumber
set_option maxRecDepth 20000 in
theorem ggX8_part_X5_rankBoats : GoodIn wsX8_part wsX5_rankBoats := goodIn_r _ [15, 16, 17, 18, 19, 20, 21, 22, 23, 24, 14, 25, 26, 27, 28, 29, 30, 31, 32, 33, 34, 35, 36, 37, 38, 39, 40, 41, 42, 43, 44, 45, 46, 47, 48, 49, 50, 51, 52, 53, 7, 54, 75, 76, 77, 78, 79, 80, 81, 82, 83, 84, 85, 86, 87] (by decide +kernel) (by decide +kernel)
set_option maxRecDepth 20000 in
theorem gX8_part_X5_rankBoats : GoodIn wsX8_part (wsV RX8 223 RX5 yX5_rankBoats wsX5_rankBoats) := goodIn_app (goodIn_of _ (by decide +kernel)) ggX8_part_X5_rankBoats
set_option maxRecDepth 20000 in
theorem ggX8_part_X2_partRanked : GoodIn wsX8_part wsX2_partRanked := goodIn_r _ [59, 60, 61, 17, 18, 19, 53, 7, 54, 88, 89] (by decide +kernel) (by decide +kernel)
set_option maxRecDepth 20000 in
theorem gX8_part_X2_partRanked : GoodIn wsX8_part (wsV RX8 234 RX2 yX2_partRanked wsX2_partRanked) := goodIn_app (goodIn_of _ (by decide +kernel)) ggX8_part_X2_partRanked
theorem dX8_part_0 : decode cX8_part 0 = .ok (.iload_n 1, 1) := by decide +kernel
theorem dX8_part_1 : decode cX8_part 1 = .ok (.invokestatic 231, 3) := by decide +kernel
theorem dX8_part_4 : decode cX8_part 4 = .ok (.aload_n 0, 1) := by decide +kernel
theorem dX8_part_5 : decode cX8_part 5 = .ok (.getfield 47, 3) := by decide +kernel
theorem dX8_part_8 : decode cX8_part 8 = .ok (.aload_n 0, 1) := by decide +kernel
theorem dX8_part_9 : decode cX8_part 9 = .ok (.getfield 40, 3) := by decide +kernel
theorem dX8_part_12 : decode cX8_part 12 = .ok (.getfield 182, 3) := by decide +kernel
theorem dX8_part_15 : decode cX8_part 15 = .ok (.aload_n 0, 1) := by decide +kernel
theorem dX8_part_16 : decode cX8_part 16 = .ok (.getfield 33, 3) := by decide +kernel
theorem dX8_part_19 : decode cX8_part 19 = .ok (.invokevirtual 223, 3) := by decide +kernel
theorem dX8_part_22 : decode cX8_part 22 = .ok (.aload_n 0, 1) := by decide +kernel
theorem dX8_part_23 : decode cX8_part 23 = .ok (.getfield 54, 3) := by decide +kernel
theorem dX8_part_26 : decode cX8_part 26 = .ok (.aload_n 0, 1) := by decide +kernel
theorem dX8_part_27 : decode cX8_part 27 = .ok (.getfield 47, 3) := by decide +kernel
theorem dX8_part_30 : decode cX8_part 30 = .ok (.getfield 227, 3) := by decide +kernel
theorem dX8_part_33 : decode cX8_part 33 = .ok (.aload_n 0, 1) := by decide +kernel
theorem dX8_part_34 : decode cX8_part 34 = .ok (.getfield 40, 3) := by decide +kernel
theorem dX8_part_37 : decode cX8_part 37 = .ok (.getfield 182, 3) := by decide +kernel
theorem dX8_part_40 : decode cX8_part 40 = .ok (.iload_n 1, 1) := by decide +kernel
theorem dX8_part_41 : decode cX8_part 41 = .ok (.invokevirtual 234, 3) := by decide +kernel
theorem dX8_part_44 : decode cX8_part 44 = .ok (.ireturn, 1) := by decide +kernel
set_option maxRecDepth 20000 in
theorem ggX8_promote_X8_needFleetNumber : GoodIn wsX8_promote wsX8_needFleetNumber := goodIn_ca (goodIn_r _ [8, 9, 10] (by decide +kernel) (by decide +kernel)) (goodIn_sub (fun _ h => List.mem_cons_of_mem _ (List.mem_append_right _ h)) (by decide +kernel))
set_option maxRecDepth 20000 in
theorem gX8_promote_X8_needFleetNumber : GoodIn wsX8_promote (va_wsS RX8 231 yX8_needFleetNumber wsX8_needFleetNumber) := goodIn_app (goodIn_of _ (by decide +kernel)) ggX8_promote_X8_needFleetNumber
set_option maxRecDepth 20000 in
theorem ggX8_promote_X5_rankBoats : GoodIn wsX8_promote wsX5_rankBoats := goodIn_r _ [15, 16, 17, 18, 19, 20, 21, 22, 23, 24, 14, 25, 26, 27, 28, 29, 30, 31, 32, 33, 34, 35, 36, 37, 38, 39, 40, 41, 42, 43, 44, 45, 46, 47, 48, 49, 50, 51, 52, 53, 7, 54, 100, 101, 102, 103, 104, 105, 106, 107, 108, 109, 110, 111, 112] (by decide +kernel) (by decide +kernel)
set_option maxRecDepth 20000 in
theorem gX8_promote_X5_rankBoats : GoodIn wsX8_promote (wsV RX8 223 RX5 yX5_rankBoats wsX5_rankBoats) := goodIn_app (goodIn_of _ (by decide +kernel)) ggX8_promote_X5_rankBoats
set_option maxRecDepth 20000 in
theorem ggX8_promote_X2_promoteRanked : GoodIn wsX8_promote wsX2_promoteRanked := goodIn_r _ [59, 60, 17, 18, 19, 61, 62, 63, 64, 65, 58, 66, 67, 68, 69, 70, 71, 72, 73, 74, 53, 7, 54, 75, 76, 77, 78, 79, 80, 81, 82, 83, 84, 85, 86, 113, 114] (by decide +kernel) (by decide +kernel)
set_option maxRecDepth 20000 in
theorem gX8_promote_X2_promoteRanked : GoodIn wsX8_promote (wsV RX8 238 RX2 yX2_promoteRanked wsX2_promoteRanked) := goodIn_app (goodIn_of _ (by decide +kernel)) ggX8_promote_X2_promoteRanked
theorem dX8_promote_0 : decode cX8_promote 0 = .ok (.iload_n 1, 1) := by decide +kernel
theorem dX8_promote_1 : decode cX8_promote 1 = .ok (.invokestatic 231, 3) := by decide +kernel
theorem dX8_promote_4 : decode cX8_promote 4 = .ok (.aload_n 0, 1) := by decide +kernel
theorem dX8_promote_5 : decode cX8_promote 5 = .ok (.getfield 47, 3) := by decide +kernel
theorem dX8_promote_8 : decode cX8_promote 8 = .ok (.aload_n 0, 1) := by decide +kernel
theorem dX8_promote_9 : decode cX8_promote 9 = .ok (.getfield 40, 3) := by decide +kernel
theorem dX8_promote_12 : decode cX8_promote 12 = .ok (.getfield 182, 3) := by decide +kernel
theorem dX8_promote_15 : decode cX8_promote 15 = .ok (.aload_n 0, 1) := by decide +kernel
theorem dX8_promote_16 : decode cX8_promote 16 = .ok (.getfield 33, 3) := by decide +kernel
theorem dX8_promote_19 : decode cX8_promote 19 = .ok (.invokevirtual 223, 3) := by decide +kernel
theorem dX8_promote_22 : decode cX8_promote 22 = .ok (.aload_n 0, 1) := by decide +kernel
theorem dX8_promote_23 : decode cX8_promote 23 = .ok (.getfield 54, 3) := by decide +kernel
theorem dX8_promote_26 : decode cX8_promote 26 = .ok (.aload_n 0, 1) := by decide +kernel
theorem dX8_promote_27 : decode cX8_promote 27 = .ok (.getfield 47, 3) := by decide +kernel
theorem dX8_promote_30 : decode cX8_promote 30 = .ok (.getfield 227, 3) := by decide +kernel
theorem dX8_promote_33 : decode cX8_promote 33 = .ok (.aload_n 0, 1) := by decide +kernel
theorem dX8_promote_34 : decode cX8_promote 34 = .ok (.getfield 40, 3) := by decide +kernel
theorem dX8_promote_37 : decode cX8_promote 37 = .ok (.getfield 182, 3) := by decide +kernel
theorem dX8_promote_40 : decode cX8_promote 40 = .ok (.iload_n 1, 1) := by decide +kernel
theorem dX8_promote_41 : decode cX8_promote 41 = .ok (.invokevirtual 238, 3) := by decide +kernel
theorem dX8_promote_44 : decode cX8_promote 44 = .ok (.ireturn, 1) := by decide +kernel
set_option maxRecDepth 20000 in
theorem ggX8_fleet_X8_needBoat : GoodIn wsX8_fleet wsX8_needBoat := goodIn_ca (goodIn_r _ [6, 7, 8, 9, 22, 23, 24, 25, 26, 27, 28, 29, 30, 31, 32, 33, 34] (by decide +kernel) (by decide +kernel)) (goodIn_sub (fun _ h => List.mem_cons_of_mem _ (List.mem_append_right _ h)) (by decide +kernel))
set_option maxRecDepth 20000 in
theorem gX8_fleet_X8_needBoat : GoodIn wsX8_fleet (wsV RX8 188 RX8 yX8_needBoat wsX8_needBoat) := goodIn_app (goodIn_of _ (by decide +kernel)) ggX8_fleet_X8_needBoat
set_option maxRecDepth 20000 in
theorem ggX8_fleet_X2_fleetOf : GoodIn wsX8_fleet wsX2_fleetOf := goodIn_r _ [14, 15, 16, 17, 13, 18, 19, 20, 5, 21, 35, 36] (by decide +kernel) (by decide +kernel)
set_option maxRecDepth 20000 in
theorem gX8_fleet_X2_fleetOf : GoodIn wsX8_fleet (wsV RX8 241 RX2 yX2_fleetOf wsX2_fleetOf) := goodIn_app (goodIn_of _ (by decide +kernel)) ggX8_fleet_X2_fleetOf
theorem dX8_fleet_0 : decode cX8_fleet 0 = .ok (.aload_n 0, 1) := by decide +kernel
theorem dX8_fleet_1 : decode cX8_fleet 1 = .ok (.iload_n 1, 1) := by decide +kernel
theorem dX8_fleet_2 : decode cX8_fleet 2 = .ok (.invokevirtual 188, 3) := by decide +kernel
theorem dX8_fleet_5 : decode cX8_fleet 5 = .ok (.aload_n 0, 1) := by decide +kernel
theorem dX8_fleet_6 : decode cX8_fleet 6 = .ok (.getfield 54, 3) := by decide +kernel
theorem dX8_fleet_9 : decode cX8_fleet 9 = .ok (.iload_n 1, 1) := by decide +kernel
theorem dX8_fleet_10 : decode cX8_fleet 10 = .ok (.invokevirtual 241, 3) := by decide +kernel
theorem dX8_fleet_13 : decode cX8_fleet 13 = .ok (.ireturn, 1) := by decide +kernel
set_option maxRecDepth 20000 in
theorem ggX8_noise_X4_addNoise : GoodIn wsX8_noise wsX4_addNoise := goodIn_r _ [6, 7, 8, 18, 19, 20, 21] (by decide +kernel) (by decide +kernel)
set_option maxRecDepth 20000 in
theorem gX8_noise_X4_addNoise : GoodIn wsX8_noise (wsV RX8 244 RX4 yX4_addNoise wsX4_addNoise) := goodIn_app (goodIn_of _ (by decide +kernel)) ggX8_noise_X4_addNoise
theorem dX8_noise_0 : decode cX8_noise 0 = .ok (.aload_n 0, 1) := by decide +kernel
theorem dX8_noise_1 : decode cX8_noise 1 = .ok (.getfield 61, 3) := by decide +kernel
theorem dX8_noise_4 : decode cX8_noise 4 = .ok (.iload_n 1, 1) := by decide +kernel
theorem dX8_noise_5 : decode cX8_noise 5 = .ok (.invokevirtual 244, 3) := by decide +kernel
theorem dX8_noise_8 : decode cX8_noise 8 = .ok (.ireturn, 1) := by decide +kernel
set_option maxRecDepth 20000 in
theorem ggX8_draw_X4_drawRow : GoodIn wsX8_draw wsX4_drawRow := goodIn_r _ [7, 8, 9, 10, 11, 12, 13, 14, 15, 6, 16, 17, 18, 19, 33, 34, 35, 36] (by decide +kernel) (by decide +kernel)
set_option maxRecDepth 20000 in
theorem gX8_draw_X4_drawRow : GoodIn wsX8_draw (wsV RX8 247 RX4 yX4_drawRow wsX4_drawRow) := goodIn_app (goodIn_of _ (by decide +kernel)) ggX8_draw_X4_drawRow
theorem dX8_draw_0 : decode cX8_draw 0 = .ok (.aload_n 0, 1) := by decide +kernel
theorem dX8_draw_1 : decode cX8_draw 1 = .ok (.getfield 61, 3) := by decide +kernel
theorem dX8_draw_4 : decode cX8_draw 4 = .ok (.aload_n 0, 1) := by decide +kernel
theorem dX8_draw_5 : decode cX8_draw 5 = .ok (.getfield 40, 3) := by decide +kernel
theorem dX8_draw_8 : decode cX8_draw 8 = .ok (.getfield 182, 3) := by decide +kernel
theorem dX8_draw_11 : decode cX8_draw 11 = .ok (.invokevirtual 247, 3) := by decide +kernel
theorem dX8_draw_14 : decode cX8_draw 14 = .ok (.ireturn, 1) := by decide +kernel
theorem dX8_lot_0 : decode cX8_lot 0 = .ok (.iload_n 1, 1) := by decide +kernel
theorem dX8_lot_1 : decode cX8_lot 1 = .ok (.ifCond .lt 14, 3) := by decide +kernel
theorem dX8_lot_4 : decode cX8_lot 4 = .ok (.iload_n 1, 1) := by decide +kernel
theorem dX8_lot_5 : decode cX8_lot 5 = .ok (.aload_n 0, 1) := by decide +kernel
theorem dX8_lot_6 : decode cX8_lot 6 = .ok (.getfield 61, 3) := by decide +kernel
theorem dX8_lot_9 : decode cX8_lot 9 = .ok (.getfield 250, 3) := by decide +kernel
theorem dX8_lot_12 : decode cX8_lot 12 = .ok (.if_icmp .lt 7, 3) := by decide +kernel
theorem dX8_lot_15 : decode cX8_lot 15 = .ok (.iconst (-1), 1) := by decide +kernel
theorem dX8_lot_16 : decode cX8_lot 16 = .ok (.goto 12, 3) := by decide +kernel
theorem dX8_lot_19 : decode cX8_lot 19 = .ok (.aload_n 0, 1) := by decide +kernel
theorem dX8_lot_20 : decode cX8_lot 20 = .ok (.getfield 61, 3) := by decide +kernel
theorem dX8_lot_23 : decode cX8_lot 23 = .ok (.getfield 253, 3) := by decide +kernel
theorem dX8_lot_26 : decode cX8_lot 26 = .ok (.iload_n 1, 1) := by decide +kernel
theorem dX8_lot_27 : decode cX8_lot 27 = .ok (.iaload, 1) := by decide +kernel
theorem dX8_lot_28 : decode cX8_lot 28 = .ok (.ireturn, 1) := by decide +kernel
set_option maxRecDepth 20000 in
theorem ggX8_count_X3_safeCells : GoodIn wsX8_count wsX3_safeCells := goodIn_r _ [11, 12, 13, 14, 10, 15, 16, 17, 18, 19, 20, 58, 59, 60] (by decide +kernel) (by decide +kernel)
set_option maxRecDepth 20000 in
theorem gX8_count_X3_safeCells : GoodIn wsX8_count (wsV RX8 107 RX3 yX3_safeCells wsX3_safeCells) := goodIn_app (goodIn_of _ (by decide +kernel)) ggX8_count_X3_safeCells
theorem dX8_count_0 : decode cX8_count 0 = .ok (.iload_n 1, 1) := by decide +kernel
theorem dX8_count_1 : decode cX8_count 1 = .ok (.tableswitch 106 0 6 #[43, 51, 59, 67, 82, 90, 98], 43) := by decide +kernel
theorem dX8_count_44 : decode cX8_count 44 = .ok (.aload_n 0, 1) := by decide +kernel
theorem dX8_count_45 : decode cX8_count 45 = .ok (.getfield 40, 3) := by decide +kernel
theorem dX8_count_48 : decode cX8_count 48 = .ok (.getfield 182, 3) := by decide +kernel
theorem dX8_count_51 : decode cX8_count 51 = .ok (.ireturn, 1) := by decide +kernel
theorem dX8_count_52 : decode cX8_count 52 = .ok (.aload_n 0, 1) := by decide +kernel
theorem dX8_count_53 : decode cX8_count 53 = .ok (.getfield 47, 3) := by decide +kernel
theorem dX8_count_56 : decode cX8_count 56 = .ok (.getfield 211, 3) := by decide +kernel
theorem dX8_count_59 : decode cX8_count 59 = .ok (.ireturn, 1) := by decide +kernel
theorem dX8_count_60 : decode cX8_count 60 = .ok (.aload_n 0, 1) := by decide +kernel
theorem dX8_count_61 : decode cX8_count 61 = .ok (.getfield 33, 3) := by decide +kernel
theorem dX8_count_64 : decode cX8_count 64 = .ok (.getfield 176, 3) := by decide +kernel
theorem dX8_count_67 : decode cX8_count 67 = .ok (.ireturn, 1) := by decide +kernel
theorem dX8_count_68 : decode cX8_count 68 = .ok (.aload_n 0, 1) := by decide +kernel
theorem dX8_count_69 : decode cX8_count 69 = .ok (.getfield 10, 3) := by decide +kernel
theorem dX8_count_72 : decode cX8_count 72 = .ok (.aload_n 0, 1) := by decide +kernel
theorem dX8_count_73 : decode cX8_count 73 = .ok (.getfield 33, 3) := by decide +kernel
theorem dX8_count_76 : decode cX8_count 76 = .ok (.getfield 104, 3) := by decide +kernel
theorem dX8_count_79 : decode cX8_count 79 = .ok (.invokevirtual 107, 3) := by decide +kernel
theorem dX8_count_82 : decode cX8_count 82 = .ok (.ireturn, 1) := by decide +kernel
theorem dX8_count_83 : decode cX8_count 83 = .ok (.aload_n 0, 1) := by decide +kernel
theorem dX8_count_84 : decode cX8_count 84 = .ok (.getfield 61, 3) := by decide +kernel
theorem dX8_count_87 : decode cX8_count 87 = .ok (.getfield 256, 3) := by decide +kernel
theorem dX8_count_90 : decode cX8_count 90 = .ok (.ireturn, 1) := by decide +kernel
theorem dX8_count_91 : decode cX8_count 91 = .ok (.aload_n 0, 1) := by decide +kernel
theorem dX8_count_92 : decode cX8_count 92 = .ok (.getfield 26, 3) := by decide +kernel
theorem dX8_count_95 : decode cX8_count 95 = .ok (.getfield 161, 3) := by decide +kernel
theorem dX8_count_98 : decode cX8_count 98 = .ok (.ireturn, 1) := by decide +kernel
theorem dX8_count_99 : decode cX8_count 99 = .ok (.aload_n 0, 1) := by decide +kernel
theorem dX8_count_100 : decode cX8_count 100 = .ok (.getfield 47, 3) := by decide +kernel
theorem dX8_count_103 : decode cX8_count 103 = .ok (.getfield 259, 3) := by decide +kernel
theorem dX8_count_106 : decode cX8_count 106 = .ok (.ireturn, 1) := by decide +kernel
theorem dX8_count_107 : decode cX8_count 107 = .ok (.iconst (-1), 1) := by decide +kernel
theorem dX8_count_108 : decode cX8_count 108 = .ok (.ireturn, 1) := by decide +kernel
theorem dX8_isCell_0 : decode cX8_isCell 0 = .ok (.iload_n 0, 1) := by decide +kernel
theorem dX8_isCell_1 : decode cX8_isCell 1 = .ok (.ifCond .lt 14, 3) := by decide +kernel
theorem dX8_isCell_4 : decode cX8_isCell 4 = .ok (.iload_n 0, 1) := by decide +kernel
theorem dX8_isCell_5 : decode cX8_isCell 5 = .ok (.sipush 144, 3) := by decide +kernel
theorem dX8_isCell_8 : decode cX8_isCell 8 = .ok (.if_icmp .ge 7, 3) := by decide +kernel
theorem dX8_isCell_11 : decode cX8_isCell 11 = .ok (.iconst 1, 1) := by decide +kernel
theorem dX8_isCell_12 : decode cX8_isCell 12 = .ok (.goto 4, 3) := by decide +kernel
theorem dX8_isCell_15 : decode cX8_isCell 15 = .ok (.iconst 0, 1) := by decide +kernel
theorem dX8_isCell_16 : decode cX8_isCell 16 = .ok (.ireturn, 1) := by decide +kernel
theorem dX8_isWay_0 : decode cX8_isWay 0 = .ok (.iload_n 0, 1) := by decide +kernel
theorem dX8_isWay_1 : decode cX8_isWay 1 = .ok (.ifCond .lt 13, 3) := by decide +kernel
theorem dX8_isWay_4 : decode cX8_isWay 4 = .ok (.iload_n 0, 1) := by decide +kernel
theorem dX8_isWay_5 : decode cX8_isWay 5 = .ok (.bipush 8, 2) := by decide +kernel
theorem dX8_isWay_7 : decode cX8_isWay 7 = .ok (.if_icmp .ge 7, 3) := by decide +kernel
theorem dX8_isWay_10 : decode cX8_isWay 10 = .ok (.iconst 1, 1) := by decide +kernel
theorem dX8_isWay_11 : decode cX8_isWay 11 = .ok (.goto 4, 3) := by decide +kernel
theorem dX8_isWay_14 : decode cX8_isWay 14 = .ok (.iconst 0, 1) := by decide +kernel
theorem dX8_isWay_15 : decode cX8_isWay 15 = .ok (.ireturn, 1) := by decide +kernel
theorem dX8_isBoatNumber_0 : decode cX8_isBoatNumber 0 = .ok (.iload_n 0, 1) := by decide +kernel
theorem dX8_isBoatNumber_1 : decode cX8_isBoatNumber 1 = .ok (.ifCond .lt 13, 3) := by decide +kernel
theorem dX8_isBoatNumber_4 : decode cX8_isBoatNumber 4 = .ok (.iload_n 0, 1) := by decide +kernel
theorem dX8_isBoatNumber_5 : decode cX8_isBoatNumber 5 = .ok (.bipush 16, 2) := by decide +kernel
theorem dX8_isBoatNumber_7 : decode cX8_isBoatNumber 7 = .ok (.if_icmp .ge 7, 3) := by decide +kernel
theorem dX8_isBoatNumber_10 : decode cX8_isBoatNumber 10 = .ok (.iconst 1, 1) := by decide +kernel
theorem dX8_isBoatNumber_11 : decode cX8_isBoatNumber 11 = .ok (.goto 4, 3) := by decide +kernel
theorem dX8_isBoatNumber_14 : decode cX8_isBoatNumber 14 = .ok (.iconst 0, 1) := by decide +kernel
theorem dX8_isBoatNumber_15 : decode cX8_isBoatNumber 15 = .ok (.ireturn, 1) := by decide +kernel
set_option maxRecDepth 20000 in
theorem ggX8_needCell_X8_isCell : GoodIn wsX8_needCell wsX8_isCell := goodIn_r _ [6] (by decide +kernel) (by decide +kernel)
set_option maxRecDepth 20000 in
theorem gX8_needCell_X8_isCell : GoodIn wsX8_needCell (va_wsS RX8 262 yX8_isCell wsX8_isCell) := goodIn_app (goodIn_of _ (by decide +kernel)) ggX8_needCell_X8_isCell
theorem dX8_needCell_0 : decode cX8_needCell 0 = .ok (.iload_n 0, 1) := by decide +kernel
theorem dX8_needCell_1 : decode cX8_needCell 1 = .ok (.invokestatic 262, 3) := by decide +kernel
theorem dX8_needCell_4 : decode cX8_needCell 4 = .ok (.ifCond .ne 14, 3) := by decide +kernel
theorem dX8_needCell_7 : decode cX8_needCell 7 = .ok (.new 81, 3) := by decide +kernel
theorem dX8_needCell_10 : decode cX8_needCell 10 = .ok (.dup, 1) := by decide +kernel
theorem dX8_needCell_11 : decode cX8_needCell 11 = .ok (.ldc_w 266, 3) := by decide +kernel
theorem dX8_needCell_14 : decode cX8_needCell 14 = .ok (.invokespecial 85, 3) := by decide +kernel
theorem dX8_needCell_17 : decode cX8_needCell 17 = .ok (.athrow, 1) := by decide +kernel
theorem dX8_needCell_18 : decode cX8_needCell 18 = .ok (.return_, 1) := by decide +kernel
theorem dX8_needSounding_0 : decode cX8_needSounding 0 = .ok (.iload_n 0, 1) := by decide +kernel
theorem dX8_needSounding_1 : decode cX8_needSounding 1 = .ok (.ifCond .lt 21, 3) := by decide +kernel
theorem dX8_needSounding_4 : decode cX8_needSounding 4 = .ok (.iload_n 0, 1) := by decide +kernel
theorem dX8_needSounding_5 : decode cX8_needSounding 5 = .ok (.sipush 5000, 3) := by decide +kernel
theorem dX8_needSounding_8 : decode cX8_needSounding 8 = .ok (.if_icmp .gt 14, 3) := by decide +kernel
theorem dX8_needSounding_11 : decode cX8_needSounding 11 = .ok (.iload_n 1, 1) := by decide +kernel
theorem dX8_needSounding_12 : decode cX8_needSounding 12 = .ok (.ifCond .lt 10, 3) := by decide +kernel
theorem dX8_needSounding_15 : decode cX8_needSounding 15 = .ok (.iload_n 1, 1) := by decide +kernel
theorem dX8_needSounding_16 : decode cX8_needSounding 16 = .ok (.sipush 5000, 3) := by decide +kernel
theorem dX8_needSounding_19 : decode cX8_needSounding 19 = .ok (.if_icmp .le 14, 3) := by decide +kernel
theorem dX8_needSounding_22 : decode cX8_needSounding 22 = .ok (.new 121, 3) := by decide +kernel
theorem dX8_needSounding_25 : decode cX8_needSounding 25 = .ok (.dup, 1) := by decide +kernel
theorem dX8_needSounding_26 : decode cX8_needSounding 26 = .ok (.ldc_w 268, 3) := by decide +kernel
theorem dX8_needSounding_29 : decode cX8_needSounding 29 = .ok (.invokespecial 125, 3) := by decide +kernel
theorem dX8_needSounding_32 : decode cX8_needSounding 32 = .ok (.athrow, 1) := by decide +kernel
theorem dX8_needSounding_33 : decode cX8_needSounding 33 = .ok (.return_, 1) := by decide +kernel
theorem dX8_needDegrees_0 : decode cX8_needDegrees 0 = .ok (.iload_n 0, 1) := by decide +kernel
theorem dX8_needDegrees_1 : decode cX8_needDegrees 1 = .ok (.bipush (-40), 2) := by decide +kernel
theorem dX8_needDegrees_3 : decode cX8_needDegrees 3 = .ok (.if_icmp .lt 9, 3) := by decide +kernel
theorem dX8_needDegrees_6 : decode cX8_needDegrees 6 = .ok (.iload_n 0, 1) := by decide +kernel
theorem dX8_needDegrees_7 : decode cX8_needDegrees 7 = .ok (.bipush 20, 2) := by decide +kernel
theorem dX8_needDegrees_9 : decode cX8_needDegrees 9 = .ok (.if_icmp .le 14, 3) := by decide +kernel
theorem dX8_needDegrees_12 : decode cX8_needDegrees 12 = .ok (.new 121, 3) := by decide +kernel
theorem dX8_needDegrees_15 : decode cX8_needDegrees 15 = .ok (.dup, 1) := by decide +kernel
theorem dX8_needDegrees_16 : decode cX8_needDegrees 16 = .ok (.ldc_w 270, 3) := by decide +kernel
theorem dX8_needDegrees_19 : decode cX8_needDegrees 19 = .ok (.invokespecial 125, 3) := by decide +kernel
theorem dX8_needDegrees_22 : decode cX8_needDegrees 22 = .ok (.athrow, 1) := by decide +kernel
theorem dX8_needDegrees_23 : decode cX8_needDegrees 23 = .ok (.return_, 1) := by decide +kernel
set_option maxRecDepth 20000 in
theorem ggX8_needWay_X8_isWay : GoodIn wsX8_needWay wsX8_isWay := goodIn_r _ [6] (by decide +kernel) (by decide +kernel)
set_option maxRecDepth 20000 in
theorem gX8_needWay_X8_isWay : GoodIn wsX8_needWay (va_wsS RX8 272 yX8_isWay wsX8_isWay) := goodIn_app (goodIn_of _ (by decide +kernel)) ggX8_needWay_X8_isWay
theorem dX8_needWay_0 : decode cX8_needWay 0 = .ok (.iload_n 0, 1) := by decide +kernel
theorem dX8_needWay_1 : decode cX8_needWay 1 = .ok (.invokestatic 272, 3) := by decide +kernel
theorem dX8_needWay_4 : decode cX8_needWay 4 = .ok (.ifCond .ne 14, 3) := by decide +kernel
theorem dX8_needWay_7 : decode cX8_needWay 7 = .ok (.new 121, 3) := by decide +kernel
theorem dX8_needWay_10 : decode cX8_needWay 10 = .ok (.dup, 1) := by decide +kernel
theorem dX8_needWay_11 : decode cX8_needWay 11 = .ok (.ldc_w 275, 3) := by decide +kernel
theorem dX8_needWay_14 : decode cX8_needWay 14 = .ok (.invokespecial 125, 3) := by decide +kernel
theorem dX8_needWay_17 : decode cX8_needWay 17 = .ok (.athrow, 1) := by decide +kernel
theorem dX8_needWay_18 : decode cX8_needWay 18 = .ok (.return_, 1) := by decide +kernel
theorem dX8_needPoint_0 : decode cX8_needPoint 0 = .ok (.iload_n 0, 1) := by decide +kernel
theorem dX8_needPoint_1 : decode cX8_needPoint 1 = .ok (.ifCond .lt 21, 3) := by decide +kernel
theorem dX8_needPoint_4 : decode cX8_needPoint 4 = .ok (.iload_n 0, 1) := by decide +kernel
theorem dX8_needPoint_5 : decode cX8_needPoint 5 = .ok (.sipush 1000, 3) := by decide +kernel
theorem dX8_needPoint_8 : decode cX8_needPoint 8 = .ok (.if_icmp .gt 14, 3) := by decide +kernel
theorem dX8_needPoint_11 : decode cX8_needPoint 11 = .ok (.iload_n 1, 1) := by decide +kernel
theorem dX8_needPoint_12 : decode cX8_needPoint 12 = .ok (.ifCond .lt 10, 3) := by decide +kernel
theorem dX8_needPoint_15 : decode cX8_needPoint 15 = .ok (.iload_n 1, 1) := by decide +kernel
theorem dX8_needPoint_16 : decode cX8_needPoint 16 = .ok (.sipush 1000, 3) := by decide +kernel
theorem dX8_needPoint_19 : decode cX8_needPoint 19 = .ok (.if_icmp .le 14, 3) := by decide +kernel
theorem dX8_needPoint_22 : decode cX8_needPoint 22 = .ok (.new 121, 3) := by decide +kernel
theorem dX8_needPoint_25 : decode cX8_needPoint 25 = .ok (.dup, 1) := by decide +kernel
theorem dX8_needPoint_26 : decode cX8_needPoint 26 = .ok (.ldc_w 277, 3) := by decide +kernel
theorem dX8_needPoint_29 : decode cX8_needPoint 29 = .ok (.invokespecial 125, 3) := by decide +kernel
theorem dX8_needPoint_32 : decode cX8_needPoint 32 = .ok (.athrow, 1) := by decide +kernel
theorem dX8_needPoint_33 : decode cX8_needPoint 33 = .ok (.return_, 1) := by decide +kernel
theorem dX8_needFleetNumber_0 : decode cX8_needFleetNumber 0 = .ok (.iload_n 0, 1) := by decide +kernel
theorem dX8_needFleetNumber_1 : decode cX8_needFleetNumber 1 = .ok (.ifCond .lt 9, 3) := by decide +kernel
theorem dX8_needFleetNumber_4 : decode cX8_needFleetNumber 4 = .ok (.iload_n 0, 1) := by decide +kernel
theorem dX8_needFleetNumber_5 : decode cX8_needFleetNumber 5 = .ok (.bipush 16, 2) := by decide +kernel
theorem dX8_needFleetNumber_7 : decode cX8_needFleetNumber 7 = .ok (.if_icmp .le 14, 3) := by decide +kernel
theorem dX8_needFleetNumber_10 : decode cX8_needFleetNumber 10 = .ok (.new 121, 3) := by decide +kernel
theorem dX8_needFleetNumber_13 : decode cX8_needFleetNumber 13 = .ok (.dup, 1) := by decide +kernel
theorem dX8_needFleetNumber_14 : decode cX8_needFleetNumber 14 = .ok (.ldc_w 279, 3) := by decide +kernel
theorem dX8_needFleetNumber_17 : decode cX8_needFleetNumber 17 = .ok (.invokespecial 125, 3) := by decide +kernel
theorem dX8_needFleetNumber_20 : decode cX8_needFleetNumber 20 = .ok (.athrow, 1) := by decide +kernel
theorem dX8_needFleetNumber_21 : decode cX8_needFleetNumber 21 = .ok (.return_, 1) := by decide +kernel
theorem dX8_needBoat_0 : decode cX8_needBoat 0 = .ok (.iload_n 1, 1) := by decide +kernel
theorem dX8_needBoat_1 : decode cX8_needBoat 1 = .ok (.ifCond .lt 14, 3) := by decide +kernel
theorem dX8_needBoat_4 : decode cX8_needBoat 4 = .ok (.iload_n 1, 1) := by decide +kernel
theorem dX8_needBoat_5 : decode cX8_needBoat 5 = .ok (.aload_n 0, 1) := by decide +kernel
theorem dX8_needBoat_6 : decode cX8_needBoat 6 = .ok (.getfield 40, 3) := by decide +kernel
theorem dX8_needBoat_9 : decode cX8_needBoat 9 = .ok (.getfield 182, 3) := by decide +kernel
theorem dX8_needBoat_12 : decode cX8_needBoat 12 = .ok (.if_icmp .lt 14, 3) := by decide +kernel
theorem dX8_needBoat_15 : decode cX8_needBoat 15 = .ok (.new 81, 3) := by decide +kernel
theorem dX8_needBoat_18 : decode cX8_needBoat 18 = .ok (.dup, 1) := by decide +kernel
theorem dX8_needBoat_19 : decode cX8_needBoat 19 = .ok (.ldc_w 281, 3) := by decide +kernel
theorem dX8_needBoat_22 : decode cX8_needBoat 22 = .ok (.invokespecial 85, 3) := by decide +kernel
theorem dX8_needBoat_25 : decode cX8_needBoat 25 = .ok (.athrow, 1) := by decide +kernel
theorem dX8_needBoat_26 : decode cX8_needBoat 26 = .ok (.return_, 1) := by decide +kernel
set_option maxRecDepth 20000 in
theorem ggX8_stepX_X8_isWay : GoodIn wsX8_stepX wsX8_isWay := goodIn_r _ [5] (by decide +kernel) (by decide +kernel)
set_option maxRecDepth 20000 in
theorem gX8_stepX_X8_isWay : GoodIn wsX8_stepX (va_wsS RX8 272 yX8_isWay wsX8_isWay) := goodIn_app (goodIn_of _ (by decide +kernel)) ggX8_stepX_X8_isWay
theorem dX8_stepX_0 : decode cX8_stepX 0 = .ok (.iload_n 0, 1) := by decide +kernel
theorem dX8_stepX_1 : decode cX8_stepX 1 = .ok (.invokestatic 272, 3) := by decide +kernel
theorem dX8_stepX_4 : decode cX8_stepX 4 = .ok (.ifCond .eq 11, 3) := by decide +kernel
theorem dX8_stepX_7 : decode cX8_stepX 7 = .ok (.getstatic 283, 3) := by decide +kernel
theorem dX8_stepX_10 : decode cX8_stepX 10 = .ok (.iload_n 0, 1) := by decide +kernel
theorem dX8_stepX_11 : decode cX8_stepX 11 = .ok (.iaload, 1) := by decide +kernel
theorem dX8_stepX_12 : decode cX8_stepX 12 = .ok (.goto 4, 3) := by decide +kernel
theorem dX8_stepX_15 : decode cX8_stepX 15 = .ok (.iconst 0, 1) := by decide +kernel
theorem dX8_stepX_16 : decode cX8_stepX 16 = .ok (.ireturn, 1) := by decide +kernel
set_option maxRecDepth 20000 in
theorem ggX8_stepY_X8_isWay : GoodIn wsX8_stepY wsX8_isWay := goodIn_r _ [5] (by decide +kernel) (by decide +kernel)
set_option maxRecDepth 20000 in
theorem gX8_stepY_X8_isWay : GoodIn wsX8_stepY (va_wsS RX8 272 yX8_isWay wsX8_isWay) := goodIn_app (goodIn_of _ (by decide +kernel)) ggX8_stepY_X8_isWay
theorem dX8_stepY_0 : decode cX8_stepY 0 = .ok (.iload_n 0, 1) := by decide +kernel
theorem dX8_stepY_1 : decode cX8_stepY 1 = .ok (.invokestatic 272, 3) := by decide +kernel
theorem dX8_stepY_4 : decode cX8_stepY 4 = .ok (.ifCond .eq 11, 3) := by decide +kernel
theorem dX8_stepY_7 : decode cX8_stepY 7 = .ok (.getstatic 286, 3) := by decide +kernel
theorem dX8_stepY_10 : decode cX8_stepY 10 = .ok (.iload_n 0, 1) := by decide +kernel
theorem dX8_stepY_11 : decode cX8_stepY 11 = .ok (.iaload, 1) := by decide +kernel
theorem dX8_stepY_12 : decode cX8_stepY 12 = .ok (.goto 4, 3) := by decide +kernel
theorem dX8_stepY_15 : decode cX8_stepY 15 = .ok (.iconst 0, 1) := by decide +kernel
theorem dX8_stepY_16 : decode cX8_stepY 16 = .ok (.ireturn, 1) := by decide +kernel
set_option maxRecDepth 20000 in
theorem ggX8_cellBeyond_X8_stepX : GoodIn wsX8_cellBeyond wsX8_stepX := goodIn_r _ [4, 5, 6, 7, 3, 8] (by decide +kernel) (by decide +kernel)
set_option maxRecDepth 20000 in
theorem gX8_cellBeyond_X8_stepX : GoodIn wsX8_cellBeyond (va_wsS RX8 289 yX8_stepX wsX8_stepX) := goodIn_app (goodIn_of _ (by decide +kernel)) ggX8_cellBeyond_X8_stepX
set_option maxRecDepth 20000 in
theorem ggX8_cellBeyond_X8_stepY : GoodIn wsX8_cellBeyond wsX8_stepY := goodIn_r _ [11, 12, 6, 7, 3, 8] (by decide +kernel) (by decide +kernel)
set_option maxRecDepth 20000 in
theorem gX8_cellBeyond_X8_stepY : GoodIn wsX8_cellBeyond (va_wsS RX8 292 yX8_stepY wsX8_stepY) := goodIn_app (goodIn_of _ (by decide +kernel)) ggX8_cellBeyond_X8_stepY
theorem dX8_cellBeyond_0 : decode cX8_cellBeyond 0 = .ok (.iload_n 0, 1) := by decide +kernel
theorem dX8_cellBeyond_1 : decode cX8_cellBeyond 1 = .ok (.bipush 12, 2) := by decide +kernel
theorem dX8_cellBeyond_3 : decode cX8_cellBeyond 3 = .ok (.irem, 1) := by decide +kernel
theorem dX8_cellBeyond_4 : decode cX8_cellBeyond 4 = .ok (.iload_n 2, 1) := by decide +kernel
theorem dX8_cellBeyond_5 : decode cX8_cellBeyond 5 = .ok (.iload_n 1, 1) := by decide +kernel
theorem dX8_cellBeyond_6 : decode cX8_cellBeyond 6 = .ok (.invokestatic 289, 3) := by decide +kernel
theorem dX8_cellBeyond_9 : decode cX8_cellBeyond 9 = .ok (.imul, 1) := by decide +kernel
theorem dX8_cellBeyond_10 : decode cX8_cellBeyond 10 = .ok (.iadd, 1) := by decide +kernel
theorem dX8_cellBeyond_11 : decode cX8_cellBeyond 11 = .ok (.istore_n 3, 1) := by decide +kernel
theorem dX8_cellBeyond_12 : decode cX8_cellBeyond 12 = .ok (.iload_n 0, 1) := by decide +kernel
theorem dX8_cellBeyond_13 : decode cX8_cellBeyond 13 = .ok (.bipush 12, 2) := by decide +kernel
theorem dX8_cellBeyond_15 : decode cX8_cellBeyond 15 = .ok (.idiv, 1) := by decide +kernel
theorem dX8_cellBeyond_16 : decode cX8_cellBeyond 16 = .ok (.iload_n 2, 1) := by decide +kernel
theorem dX8_cellBeyond_17 : decode cX8_cellBeyond 17 = .ok (.iload_n 1, 1) := by decide +kernel
theorem dX8_cellBeyond_18 : decode cX8_cellBeyond 18 = .ok (.invokestatic 292, 3) := by decide +kernel
theorem dX8_cellBeyond_21 : decode cX8_cellBeyond 21 = .ok (.imul, 1) := by decide +kernel
theorem dX8_cellBeyond_22 : decode cX8_cellBeyond 22 = .ok (.iadd, 1) := by decide +kernel
theorem dX8_cellBeyond_23 : decode cX8_cellBeyond 23 = .ok (.istore 4, 2) := by decide +kernel
theorem dX8_cellBeyond_25 : decode cX8_cellBeyond 25 = .ok (.iload_n 3, 1) := by decide +kernel
theorem dX8_cellBeyond_26 : decode cX8_cellBeyond 26 = .ok (.ifCond .lt 21, 3) := by decide +kernel
theorem dX8_cellBeyond_29 : decode cX8_cellBeyond 29 = .ok (.iload_n 3, 1) := by decide +kernel
theorem dX8_cellBeyond_30 : decode cX8_cellBeyond 30 = .ok (.bipush 12, 2) := by decide +kernel
theorem dX8_cellBeyond_32 : decode cX8_cellBeyond 32 = .ok (.if_icmp .ge 15, 3) := by decide +kernel
theorem dX8_cellBeyond_35 : decode cX8_cellBeyond 35 = .ok (.iload 4, 2) := by decide +kernel
theorem dX8_cellBeyond_37 : decode cX8_cellBeyond 37 = .ok (.ifCond .lt 10, 3) := by decide +kernel
theorem dX8_cellBeyond_40 : decode cX8_cellBeyond 40 = .ok (.iload 4, 2) := by decide +kernel
theorem dX8_cellBeyond_42 : decode cX8_cellBeyond 42 = .ok (.bipush 12, 2) := by decide +kernel
theorem dX8_cellBeyond_44 : decode cX8_cellBeyond 44 = .ok (.if_icmp .lt 7, 3) := by decide +kernel
theorem dX8_cellBeyond_47 : decode cX8_cellBeyond 47 = .ok (.iconst (-1), 1) := by decide +kernel
theorem dX8_cellBeyond_48 : decode cX8_cellBeyond 48 = .ok (.goto 10, 3) := by decide +kernel
theorem dX8_cellBeyond_51 : decode cX8_cellBeyond 51 = .ok (.bipush 12, 2) := by decide +kernel
theorem dX8_cellBeyond_53 : decode cX8_cellBeyond 53 = .ok (.iload 4, 2) := by decide +kernel
theorem dX8_cellBeyond_55 : decode cX8_cellBeyond 55 = .ok (.imul, 1) := by decide +kernel
theorem dX8_cellBeyond_56 : decode cX8_cellBeyond 56 = .ok (.iload_n 3, 1) := by decide +kernel
theorem dX8_cellBeyond_57 : decode cX8_cellBeyond 57 = .ok (.iadd, 1) := by decide +kernel
theorem dX8_cellBeyond_58 : decode cX8_cellBeyond 58 = .ok (.ireturn, 1) := by decide +kernel
