theorem dL_finish_9 : decode cL_finish 9 = .ok (.goto 6, 3) := by decide +kernel
theorem dL_finish_12 : decode cL_finish 12 = .ok (.astore_n 3, 1) := by decide +kernel
theorem dL_finish_13 : decode cL_finish 13 = .ok (.iconst 1, 1) := by decide +kernel
theorem dL_finish_14 : decode cL_finish 14 = .ok (.ireturn, 1) := by decide +kernel
theorem dL_finish_15 : decode cL_finish 15 = .ok (.iconst 0, 1) := by decide +kernel
theorem dL_finish_16 : decode cL_finish 16 = .ok (.ireturn, 1) := by decide +kernel
set_option maxRecDepth 20000 in
theorem ggL_points_X8_points : GoodIn wsL_points wsX8_points := goodIn_ca (goodIn_r _ [6, 7, 8, 9, 10, 11, 12, 5, 13, 14, 15, 16, 17, 18, 19, 20, 21, 22, 23, 24, 25, 26, 27, 28, 29, 30, 31, 32, 33, 34, 35, 36, 37, 38, 39, 40] (by decide +kernel) (by decide +kernel)) (goodIn_sub (fun _ h => List.mem_cons_of_mem _ (List.mem_append_right _ h)) (by decide +kernel))
set_option maxRecDepth 20000 in
theorem gL_points_X8_points : GoodIn wsL_points (wsV RL 63 RX8 yX8_points wsX8_points) := goodIn_app (goodIn_of _ (by decide +kernel)) ggL_points_X8_points
theorem dL_points_0 : decode cL_points 0 = .ok (.aload_n 3, 1) := by decide +kernel
theorem dL_points_1 : decode cL_points 1 = .ok (.iconst 0, 1) := by decide +kernel
theorem dL_points_2 : decode cL_points 2 = .ok (.aload_n 0, 1) := by decide +kernel
theorem dL_points_3 : decode cL_points 3 = .ok (.iload_n 1, 1) := by decide +kernel
theorem dL_points_4 : decode cL_points 4 = .ok (.iload_n 2, 1) := by decide +kernel
theorem dL_points_5 : decode cL_points 5 = .ok (.invokevirtual 63, 3) := by decide +kernel
theorem dL_points_8 : decode cL_points 8 = .ok (.i2l, 1) := by decide +kernel
theorem dL_points_9 : decode cL_points 9 = .ok (.lastore, 1) := by decide +kernel
theorem dL_points_10 : decode cL_points 10 = .ok (.goto 7, 3) := by decide +kernel
theorem dL_points_13 : decode cL_points 13 = .ok (.astore 4, 2) := by decide +kernel
theorem dL_points_15 : decode cL_points 15 = .ok (.iconst 1, 1) := by decide +kernel
theorem dL_points_16 : decode cL_points 16 = .ok (.ireturn, 1) := by decide +kernel
theorem dL_points_17 : decode cL_points 17 = .ok (.iconst 0, 1) := by decide +kernel
theorem dL_points_18 : decode cL_points 18 = .ok (.ireturn, 1) := by decide +kernel
set_option maxRecDepth 20000 in
theorem ggL_score_X8_score : GoodIn wsL_score wsX8_score := goodIn_ca (goodIn_r _ [6, 7, 8, 9, 10, 11, 5, 12, 13, 14, 15, 16, 17, 18, 19, 20, 21, 22, 23, 24, 25, 26, 27, 28, 29, 30, 31, 32, 33, 34, 35, 36, 37, 38, 39, 40, 41, 42, 43, 44, 45, 46, 47, 48, 49, 50, 51, 52, 53, 54, 55, 56, 57, 58, 59, 60, 61, 62, 63, 64, 65, 66, 67, 68, 69] (by decide +kernel) (by decide +kernel)) (goodIn_sub (fun _ h => List.mem_cons_of_mem _ (List.mem_append_right _ h)) (by decide +kernel))
set_option maxRecDepth 20000 in
theorem gL_score_X8_score : GoodIn wsL_score (wsV RL 66 RX8 yX8_score wsX8_score) := goodIn_app (goodIn_of _ (by decide +kernel)) ggL_score_X8_score
theorem dL_score_0 : decode cL_score 0 = .ok (.aload_n 2, 1) := by decide +kernel
theorem dL_score_1 : decode cL_score 1 = .ok (.iconst 0, 1) := by decide +kernel
theorem dL_score_2 : decode cL_score 2 = .ok (.aload_n 0, 1) := by decide +kernel
theorem dL_score_3 : decode cL_score 3 = .ok (.iload_n 1, 1) := by decide +kernel
theorem dL_score_4 : decode cL_score 4 = .ok (.invokevirtual 66, 3) := by decide +kernel
theorem dL_score_7 : decode cL_score 7 = .ok (.i2l, 1) := by decide +kernel
theorem dL_score_8 : decode cL_score 8 = .ok (.lastore, 1) := by decide +kernel
theorem dL_score_9 : decode cL_score 9 = .ok (.goto 6, 3) := by decide +kernel
theorem dL_score_12 : decode cL_score 12 = .ok (.astore_n 3, 1) := by decide +kernel
theorem dL_score_13 : decode cL_score 13 = .ok (.iconst 1, 1) := by decide +kernel
theorem dL_score_14 : decode cL_score 14 = .ok (.ireturn, 1) := by decide +kernel
theorem dL_score_15 : decode cL_score 15 = .ok (.iconst 0, 1) := by decide +kernel
theorem dL_score_16 : decode cL_score 16 = .ok (.ireturn, 1) := by decide +kernel
set_option maxRecDepth 20000 in
theorem ggL_part_X8_part : GoodIn wsL_part wsX8_part := goodIn_ca (goodIn_r _ [6, 7, 8, 9, 10, 11, 12, 5, 13, 14, 15, 16, 17, 18, 19, 20, 21, 22, 23, 24, 25, 26, 27, 28, 29, 30, 31, 32, 33, 34, 35, 36, 37, 38, 39, 40, 41, 42, 43, 44, 45, 46, 47, 48, 49, 50, 51, 52, 53, 54, 55, 56, 57, 58, 59, 60, 61, 62, 63, 64, 65, 66, 67, 68, 69, 70, 71, 72, 73, 74, 75, 76, 77, 78, 79, 80, 81, 82, 83, 84, 85, 86, 87, 88, 89, 90, 91, 92, 93, 94] (by decide +kernel) (by decide +kernel)) (goodIn_sub (fun _ h => List.mem_cons_of_mem _ (List.mem_append_right _ h)) (by decide +kernel))
set_option maxRecDepth 20000 in
theorem gL_part_X8_part : GoodIn wsL_part (wsV RL 69 RX8 yX8_part wsX8_part) := goodIn_app (goodIn_of _ (by decide +kernel)) ggL_part_X8_part
theorem dL_part_0 : decode cL_part 0 = .ok (.aload_n 2, 1) := by decide +kernel
theorem dL_part_1 : decode cL_part 1 = .ok (.iconst 0, 1) := by decide +kernel
theorem dL_part_2 : decode cL_part 2 = .ok (.aload_n 0, 1) := by decide +kernel
theorem dL_part_3 : decode cL_part 3 = .ok (.iload_n 1, 1) := by decide +kernel
theorem dL_part_4 : decode cL_part 4 = .ok (.invokevirtual 69, 3) := by decide +kernel
theorem dL_part_7 : decode cL_part 7 = .ok (.i2l, 1) := by decide +kernel
theorem dL_part_8 : decode cL_part 8 = .ok (.lastore, 1) := by decide +kernel
theorem dL_part_9 : decode cL_part 9 = .ok (.goto 6, 3) := by decide +kernel
theorem dL_part_12 : decode cL_part 12 = .ok (.astore_n 3, 1) := by decide +kernel
theorem dL_part_13 : decode cL_part 13 = .ok (.iconst 1, 1) := by decide +kernel
theorem dL_part_14 : decode cL_part 14 = .ok (.ireturn, 1) := by decide +kernel
theorem dL_part_15 : decode cL_part 15 = .ok (.iconst 0, 1) := by decide +kernel
theorem dL_part_16 : decode cL_part 16 = .ok (.ireturn, 1) := by decide +kernel
set_option maxRecDepth 20000 in
theorem ggL_promote_X8_promote : GoodIn wsL_promote wsX8_promote := goodIn_ca (goodIn_r _ [6, 7, 8, 9, 10, 11, 12, 5, 13, 14, 15, 16, 17, 18, 19, 20, 21, 22, 23, 24, 25, 26, 27, 28, 29, 30, 31, 32, 33, 34, 35, 36, 37, 38, 39, 40, 41, 42, 43, 44, 45, 46, 47, 48, 49, 50, 51, 52, 53, 54, 55, 56, 57, 58, 59, 60, 61, 62, 63, 64, 65, 66, 67, 68, 69, 70, 71, 72, 73, 74, 75, 76, 77, 78, 79, 80, 81, 82, 83, 84, 85, 86, 87, 88, 89, 90, 91, 92, 93, 94, 95, 96, 97, 98, 99, 100, 101, 102, 103, 104, 105, 106, 107, 108, 109, 110, 111, 112, 113, 114, 115, 116, 117, 118, 119] (by decide +kernel) (by decide +kernel)) (goodIn_sub (fun _ h => List.mem_cons_of_mem _ (List.mem_append_right _ h)) (by decide +kernel))
set_option maxRecDepth 20000 in
theorem gL_promote_X8_promote : GoodIn wsL_promote (wsV RL 72 RX8 yX8_promote wsX8_promote) := goodIn_app (goodIn_of _ (by decide +kernel)) ggL_promote_X8_promote
theorem dL_promote_0 : decode cL_promote 0 = .ok (.aload_n 2, 1) := by decide +kernel
theorem dL_promote_1 : decode cL_promote 1 = .ok (.iconst 0, 1) := by decide +kernel
theorem dL_promote_2 : decode cL_promote 2 = .ok (.aload_n 0, 1) := by decide +kernel
theorem dL_promote_3 : decode cL_promote 3 = .ok (.iload_n 1, 1) := by decide +kernel
theorem dL_promote_4 : decode cL_promote 4 = .ok (.invokevirtual 72, 3) := by decide +kernel
theorem dL_promote_7 : decode cL_promote 7 = .ok (.i2l, 1) := by decide +kernel
theorem dL_promote_8 : decode cL_promote 8 = .ok (.lastore, 1) := by decide +kernel
theorem dL_promote_9 : decode cL_promote 9 = .ok (.goto 6, 3) := by decide +kernel
theorem dL_promote_12 : decode cL_promote 12 = .ok (.astore_n 3, 1) := by decide +kernel
theorem dL_promote_13 : decode cL_promote 13 = .ok (.iconst 1, 1) := by decide +kernel
theorem dL_promote_14 : decode cL_promote 14 = .ok (.ireturn, 1) := by decide +kernel
theorem dL_promote_15 : decode cL_promote 15 = .ok (.iconst 0, 1) := by decide +kernel
theorem dL_promote_16 : decode cL_promote 16 = .ok (.ireturn, 1) := by decide +kernel
set_option maxRecDepth 20000 in
theorem ggL_fleet_X8_fleet : GoodIn wsL_fleet wsX8_fleet := goodIn_ca (goodIn_r _ [6, 7, 8, 9, 10, 5, 11, 12, 13, 14, 15, 16, 17, 18, 19, 20, 21, 22, 23, 24, 25, 26, 27, 28, 29, 30, 31, 32, 33, 34, 35, 36, 37, 38, 39, 40, 41] (by decide +kernel) (by decide +kernel)) (goodIn_sub (fun _ h => List.mem_cons_of_mem _ (List.mem_append_right _ h)) (by decide +kernel))
set_option maxRecDepth 20000 in
theorem gL_fleet_X8_fleet : GoodIn wsL_fleet (wsV RL 75 RX8 yX8_fleet wsX8_fleet) := goodIn_app (goodIn_of _ (by decide +kernel)) ggL_fleet_X8_fleet
theorem dL_fleet_0 : decode cL_fleet 0 = .ok (.aload_n 2, 1) := by decide +kernel
theorem dL_fleet_1 : decode cL_fleet 1 = .ok (.iconst 0, 1) := by decide +kernel
theorem dL_fleet_2 : decode cL_fleet 2 = .ok (.aload_n 0, 1) := by decide +kernel
theorem dL_fleet_3 : decode cL_fleet 3 = .ok (.iload_n 1, 1) := by decide +kernel
theorem dL_fleet_4 : decode cL_fleet 4 = .ok (.invokevirtual 75, 3) := by decide +kernel
theorem dL_fleet_7 : decode cL_fleet 7 = .ok (.i2l, 1) := by decide +kernel
theorem dL_fleet_8 : decode cL_fleet 8 = .ok (.lastore, 1) := by decide +kernel
theorem dL_fleet_9 : decode cL_fleet 9 = .ok (.goto 6, 3) := by decide +kernel
theorem dL_fleet_12 : decode cL_fleet 12 = .ok (.astore_n 3, 1) := by decide +kernel
theorem dL_fleet_13 : decode cL_fleet 13 = .ok (.iconst 1, 1) := by decide +kernel
theorem dL_fleet_14 : decode cL_fleet 14 = .ok (.ireturn, 1) := by decide +kernel
theorem dL_fleet_15 : decode cL_fleet 15 = .ok (.iconst 0, 1) := by decide +kernel
theorem dL_fleet_16 : decode cL_fleet 16 = .ok (.ireturn, 1) := by decide +kernel
abbrev vwCl : List vw_C := [(RX0, TX0, 4), (RX1, TX1, 2), (RX2, TX2, 2), (RX3, TX3, 3), (RX4, TX4, 4), (RX5, TX5, 7), (RX6, TX6, 6), (RX7, TX7, 7), (RX8, TX8, 9), (RX9, TX9, 41)]

