theorem dX0_init_0 : decode cX0_init 0 = .ok (.aload_n 0, 1) := by decide +kernel
theorem dX0_init_1 : decode cX0_init 1 = .ok (.invokespecial 3, 3) := by decide +kernel
theorem dX0_init_4 : decode cX0_init 4 = .ok (.aload_n 0, 1) := by decide +kernel
theorem dX0_init_5 : decode cX0_init 5 = .ok (.bipush 16, 2) := by decide +kernel
theorem dX0_init_7 : decode cX0_init 7 = .ok (.newarray .int, 2) := by decide +kernel
theorem dX0_init_9 : decode cX0_init 9 = .ok (.putfield 9, 3) := by decide +kernel
theorem dX0_init_12 : decode cX0_init 12 = .ok (.aload_n 0, 1) := by decide +kernel
theorem dX0_init_13 : decode cX0_init 13 = .ok (.bipush 16, 2) := by decide +kernel
theorem dX0_init_15 : decode cX0_init 15 = .ok (.newarray .int, 2) := by decide +kernel
theorem dX0_init_17 : decode cX0_init 17 = .ok (.putfield 15, 3) := by decide +kernel
theorem dX0_init_20 : decode cX0_init 20 = .ok (.aload_n 0, 1) := by decide +kernel
theorem dX0_init_21 : decode cX0_init 21 = .ok (.bipush 16, 2) := by decide +kernel
theorem dX0_init_23 : decode cX0_init 23 = .ok (.newarray .int, 2) := by decide +kernel
theorem dX0_init_25 : decode cX0_init 25 = .ok (.putfield 18, 3) := by decide +kernel
theorem dX0_init_28 : decode cX0_init 28 = .ok (.aload_n 0, 1) := by decide +kernel
theorem dX0_init_29 : decode cX0_init 29 = .ok (.iconst 0, 1) := by decide +kernel
theorem dX0_init_30 : decode cX0_init 30 = .ok (.putfield 21, 3) := by decide +kernel
theorem dX0_init_33 : decode cX0_init 33 = .ok (.return_, 1) := by decide +kernel
theorem dX0_put_0 : decode cX0_put 0 = .ok (.aload_n 0, 1) := by decide +kernel
theorem dX0_put_1 : decode cX0_put 1 = .ok (.getfield 9, 3) := by decide +kernel
theorem dX0_put_4 : decode cX0_put 4 = .ok (.iload_n 1, 1) := by decide +kernel
theorem dX0_put_5 : decode cX0_put 5 = .ok (.iload_n 2, 1) := by decide +kernel
theorem dX0_put_6 : decode cX0_put 6 = .ok (.iastore, 1) := by decide +kernel
theorem dX0_put_7 : decode cX0_put 7 = .ok (.aload_n 0, 1) := by decide +kernel
theorem dX0_put_8 : decode cX0_put 8 = .ok (.getfield 15, 3) := by decide +kernel
theorem dX0_put_11 : decode cX0_put 11 = .ok (.iload_n 1, 1) := by decide +kernel
theorem dX0_put_12 : decode cX0_put 12 = .ok (.iload_n 3, 1) := by decide +kernel
theorem dX0_put_13 : decode cX0_put 13 = .ok (.iastore, 1) := by decide +kernel
theorem dX0_put_14 : decode cX0_put 14 = .ok (.aload_n 0, 1) := by decide +kernel
theorem dX0_put_15 : decode cX0_put 15 = .ok (.getfield 18, 3) := by decide +kernel
theorem dX0_put_18 : decode cX0_put 18 = .ok (.iload_n 1, 1) := by decide +kernel
theorem dX0_put_19 : decode cX0_put 19 = .ok (.iload 4, 2) := by decide +kernel
theorem dX0_put_21 : decode cX0_put 21 = .ok (.iastore, 1) := by decide +kernel
theorem dX0_put_22 : decode cX0_put 22 = .ok (.return_, 1) := by decide +kernel
set_option maxRecDepth 20000 in
theorem ggX0_tackOf_J9_floorMod_7cf53 : GoodIn wsX0_tackOf wsJ9_floorMod_7cf53 := goodIn_r _ [5] (by decide +kernel) (by decide +kernel)
set_option maxRecDepth 20000 in
theorem gX0_tackOf_J9_floorMod_7cf53 : GoodIn wsX0_tackOf (va_wsS RX0 25 yJ9_floorMod_7cf53 wsJ9_floorMod_7cf53) := goodIn_app (goodIn_of _ (by decide +kernel)) ggX0_tackOf_J9_floorMod_7cf53
theorem dX0_tackOf_0 : decode cX0_tackOf 0 = .ok (.iload_n 2, 1) := by decide +kernel
theorem dX0_tackOf_1 : decode cX0_tackOf 1 = .ok (.aload_n 0, 1) := by decide +kernel
theorem dX0_tackOf_2 : decode cX0_tackOf 2 = .ok (.getfield 18, 3) := by decide +kernel
theorem dX0_tackOf_5 : decode cX0_tackOf 5 = .ok (.iload_n 1, 1) := by decide +kernel
theorem dX0_tackOf_6 : decode cX0_tackOf 6 = .ok (.iaload, 1) := by decide +kernel
theorem dX0_tackOf_7 : decode cX0_tackOf 7 = .ok (.isub, 1) := by decide +kernel
theorem dX0_tackOf_8 : decode cX0_tackOf 8 = .ok (.bipush 8, 2) := by decide +kernel
theorem dX0_tackOf_10 : decode cX0_tackOf 10 = .ok (.invokestatic 25, 3) := by decide +kernel
theorem dX0_tackOf_13 : decode cX0_tackOf 13 = .ok (.istore_n 3, 1) := by decide +kernel
theorem dX0_tackOf_14 : decode cX0_tackOf 14 = .ok (.iload_n 3, 1) := by decide +kernel
theorem dX0_tackOf_15 : decode cX0_tackOf 15 = .ok (.iconst 1, 1) := by decide +kernel
theorem dX0_tackOf_16 : decode cX0_tackOf 16 = .ok (.if_icmp .lt 10, 3) := by decide +kernel
theorem dX0_tackOf_19 : decode cX0_tackOf 19 = .ok (.iload_n 3, 1) := by decide +kernel
theorem dX0_tackOf_20 : decode cX0_tackOf 20 = .ok (.iconst 3, 1) := by decide +kernel
theorem dX0_tackOf_21 : decode cX0_tackOf 21 = .ok (.if_icmp .gt 5, 3) := by decide +kernel
theorem dX0_tackOf_24 : decode cX0_tackOf 24 = .ok (.iconst 1, 1) := by decide +kernel
theorem dX0_tackOf_25 : decode cX0_tackOf 25 = .ok (.ireturn, 1) := by decide +kernel
theorem dX0_tackOf_26 : decode cX0_tackOf 26 = .ok (.iload_n 3, 1) := by decide +kernel
theorem dX0_tackOf_27 : decode cX0_tackOf 27 = .ok (.iconst 5, 1) := by decide +kernel
theorem dX0_tackOf_28 : decode cX0_tackOf 28 = .ok (.if_icmp .lt 7, 3) := by decide +kernel
theorem dX0_tackOf_31 : decode cX0_tackOf 31 = .ok (.iconst 2, 1) := by decide +kernel
theorem dX0_tackOf_32 : decode cX0_tackOf 32 = .ok (.goto 4, 3) := by decide +kernel
theorem dX0_tackOf_35 : decode cX0_tackOf 35 = .ok (.iconst 0, 1) := by decide +kernel
theorem dX0_tackOf_36 : decode cX0_tackOf 36 = .ok (.ireturn, 1) := by decide +kernel
set_option maxRecDepth 20000 in
theorem ggX0_keepsClear_X0_keeperBy : GoodIn wsX0_keepsClear wsX0_keeperBy := goodIn_r _ [5, 6, 7, 8, 4, 9, 10, 11, 12, 13, 14, 15, 16, 17, 18, 19, 20, 21, 22, 23, 24, 25, 26, 27, 28, 29, 30, 31, 32, 33, 34, 35, 36, 37, 38, 39, 40, 41, 42, 43, 44, 45, 46, 53, 54, 55, 56] (by decide +kernel) (by decide +kernel)
set_option maxRecDepth 20000 in
theorem gX0_keepsClear_X0_keeperBy : GoodIn wsX0_keepsClear (wsV RX0 39 RX0 yX0_keeperBy wsX0_keeperBy) := goodIn_app (goodIn_of _ (by decide +kernel)) ggX0_keepsClear_X0_keeperBy
theorem dX0_keepsClear_0 : decode cX0_keepsClear 0 = .ok (.iload_n 1, 1) := by decide +kernel
theorem dX0_keepsClear_1 : decode cX0_keepsClear 1 = .ok (.iload_n 2, 1) := by decide +kernel
theorem dX0_keepsClear_2 : decode cX0_keepsClear 2 = .ok (.if_icmp .ne 5, 3) := by decide +kernel
theorem dX0_keepsClear_5 : decode cX0_keepsClear 5 = .ok (.iconst (-1), 1) := by decide +kernel
theorem dX0_keepsClear_6 : decode cX0_keepsClear 6 = .ok (.ireturn, 1) := by decide +kernel
theorem dX0_keepsClear_7 : decode cX0_keepsClear 7 = .ok (.iconst 0, 1) := by decide +kernel
theorem dX0_keepsClear_8 : decode cX0_keepsClear 8 = .ok (.istore 5, 2) := by decide +kernel
theorem dX0_keepsClear_10 : decode cX0_keepsClear 10 = .ok (.iload 5, 2) := by decide +kernel
theorem dX0_keepsClear_12 : decode cX0_keepsClear 12 = .ok (.aload_n 3, 1) := by decide +kernel
theorem dX0_keepsClear_13 : decode cX0_keepsClear 13 = .ok (.getfield 31, 3) := by decide +kernel
theorem dX0_keepsClear_16 : decode cX0_keepsClear 16 = .ok (.if_icmp .ge 41, 3) := by decide +kernel
theorem dX0_keepsClear_19 : decode cX0_keepsClear 19 = .ok (.iload 5, 2) := by decide +kernel
theorem dX0_keepsClear_21 : decode cX0_keepsClear 21 = .ok (.iconst 3, 1) := by decide +kernel
theorem dX0_keepsClear_22 : decode cX0_keepsClear 22 = .ok (.if_icmp .ge 35, 3) := by decide +kernel
theorem dX0_keepsClear_25 : decode cX0_keepsClear 25 = .ok (.aload_n 0, 1) := by decide +kernel
theorem dX0_keepsClear_26 : decode cX0_keepsClear 26 = .ok (.aload_n 3, 1) := by decide +kernel
theorem dX0_keepsClear_27 : decode cX0_keepsClear 27 = .ok (.getfield 36, 3) := by decide +kernel
theorem dX0_keepsClear_30 : decode cX0_keepsClear 30 = .ok (.iload 5, 2) := by decide +kernel
theorem dX0_keepsClear_32 : decode cX0_keepsClear 32 = .ok (.iaload, 1) := by decide +kernel
theorem dX0_keepsClear_33 : decode cX0_keepsClear 33 = .ok (.iload_n 1, 1) := by decide +kernel
theorem dX0_keepsClear_34 : decode cX0_keepsClear 34 = .ok (.iload_n 2, 1) := by decide +kernel
theorem dX0_keepsClear_35 : decode cX0_keepsClear 35 = .ok (.iload 4, 2) := by decide +kernel
theorem dX0_keepsClear_37 : decode cX0_keepsClear 37 = .ok (.invokevirtual 39, 3) := by decide +kernel
theorem dX0_keepsClear_40 : decode cX0_keepsClear 40 = .ok (.istore 6, 2) := by decide +kernel
theorem dX0_keepsClear_42 : decode cX0_keepsClear 42 = .ok (.iload 6, 2) := by decide +kernel
theorem dX0_keepsClear_44 : decode cX0_keepsClear 44 = .ok (.iconst (-1), 1) := by decide +kernel
theorem dX0_keepsClear_45 : decode cX0_keepsClear 45 = .ok (.if_icmp .eq 6, 3) := by decide +kernel
theorem dX0_keepsClear_48 : decode cX0_keepsClear 48 = .ok (.iload 6, 2) := by decide +kernel
theorem dX0_keepsClear_50 : decode cX0_keepsClear 50 = .ok (.ireturn, 1) := by decide +kernel
theorem dX0_keepsClear_51 : decode cX0_keepsClear 51 = .ok (.iinc 5 1, 3) := by decide +kernel
theorem dX0_keepsClear_54 : decode cX0_keepsClear 54 = .ok (.goto (-44), 3) := by decide +kernel
theorem dX0_keepsClear_57 : decode cX0_keepsClear 57 = .ok (.iconst (-1), 1) := by decide +kernel
theorem dX0_keepsClear_58 : decode cX0_keepsClear 58 = .ok (.ireturn, 1) := by decide +kernel
set_option maxRecDepth 20000 in
theorem ggX0_keeperBy_X0_portAgainstStarboard : GoodIn wsX0_keeperBy wsX0_portAgainstStarboard := goodIn_r _ [5, 6, 7, 8, 4, 9, 10, 11, 12, 13, 14, 43, 44, 45, 46] (by decide +kernel) (by decide +kernel)
set_option maxRecDepth 20000 in
theorem gX0_keeperBy_X0_portAgainstStarboard : GoodIn wsX0_keeperBy (wsV RX0 43 RX0 yX0_portAgainstStarboard wsX0_portAgainstStarboard) := goodIn_app (goodIn_of _ (by decide +kernel)) ggX0_keeperBy_X0_portAgainstStarboard
set_option maxRecDepth 20000 in
theorem ggX0_keeperBy_X0_windwardOfOneTack : GoodIn wsX0_keeperBy wsX0_windwardOfOneTack := goodIn_r _ [18, 6, 7, 8, 4, 9, 10, 11, 12, 13, 14, 19, 20, 21, 22, 23, 24, 25, 26, 27, 28, 29, 30, 31, 32, 33, 34, 35, 36, 37, 38, 43, 44, 45, 46] (by decide +kernel) (by decide +kernel)
set_option maxRecDepth 20000 in
theorem gX0_keeperBy_X0_windwardOfOneTack : GoodIn wsX0_keeperBy (wsV RX0 47 RX0 yX0_windwardOfOneTack wsX0_windwardOfOneTack) := goodIn_app (goodIn_of _ (by decide +kernel)) ggX0_keeperBy_X0_windwardOfOneTack
set_option maxRecDepth 20000 in
theorem ggX0_keeperBy_X0_asternOnOneWay : GoodIn wsX0_keeperBy wsX0_asternOnOneWay := goodIn_r _ [42, 10, 19, 20, 21, 4, 22, 23, 24, 25, 26, 27, 28, 29, 30, 31, 32, 33, 34, 35, 36, 37, 38, 43, 44, 45, 46] (by decide +kernel) (by decide +kernel)
set_option maxRecDepth 20000 in
theorem gX0_keeperBy_X0_asternOnOneWay : GoodIn wsX0_keeperBy (wsV RX0 50 RX0 yX0_asternOnOneWay wsX0_asternOnOneWay) := goodIn_app (goodIn_of _ (by decide +kernel)) ggX0_keeperBy_X0_asternOnOneWay
theorem dX0_keeperBy_0 : decode cX0_keeperBy 0 = .ok (.iload_n 1, 1) := by decide +kernel
theorem dX0_keeperBy_1 : decode cX0_keeperBy 1 = .ok (.lookupswitch 45 #[(0, 27), (1, 36)], 27) := by decide +kernel
theorem dX0_keeperBy_28 : decode cX0_keeperBy 28 = .ok (.aload_n 0, 1) := by decide +kernel
theorem dX0_keeperBy_29 : decode cX0_keeperBy 29 = .ok (.iload_n 2, 1) := by decide +kernel
theorem dX0_keeperBy_30 : decode cX0_keeperBy 30 = .ok (.iload_n 3, 1) := by decide +kernel
theorem dX0_keeperBy_31 : decode cX0_keeperBy 31 = .ok (.iload 4, 2) := by decide +kernel
theorem dX0_keeperBy_33 : decode cX0_keeperBy 33 = .ok (.invokevirtual 43, 3) := by decide +kernel
theorem dX0_keeperBy_36 : decode cX0_keeperBy 36 = .ok (.ireturn, 1) := by decide +kernel
theorem dX0_keeperBy_37 : decode cX0_keeperBy 37 = .ok (.aload_n 0, 1) := by decide +kernel
theorem dX0_keeperBy_38 : decode cX0_keeperBy 38 = .ok (.iload_n 2, 1) := by decide +kernel
theorem dX0_keeperBy_39 : decode cX0_keeperBy 39 = .ok (.iload_n 3, 1) := by decide +kernel
theorem dX0_keeperBy_40 : decode cX0_keeperBy 40 = .ok (.iload 4, 2) := by decide +kernel
theorem dX0_keeperBy_42 : decode cX0_keeperBy 42 = .ok (.invokevirtual 47, 3) := by decide +kernel
theorem dX0_keeperBy_45 : decode cX0_keeperBy 45 = .ok (.ireturn, 1) := by decide +kernel
theorem dX0_keeperBy_46 : decode cX0_keeperBy 46 = .ok (.aload_n 0, 1) := by decide +kernel
theorem dX0_keeperBy_47 : decode cX0_keeperBy 47 = .ok (.iload_n 2, 1) := by decide +kernel
theorem dX0_keeperBy_48 : decode cX0_keeperBy 48 = .ok (.iload_n 3, 1) := by decide +kernel
theorem dX0_keeperBy_49 : decode cX0_keeperBy 49 = .ok (.invokevirtual 50, 3) := by decide +kernel
theorem dX0_keeperBy_52 : decode cX0_keeperBy 52 = .ok (.ireturn, 1) := by decide +kernel
set_option maxRecDepth 20000 in
theorem ggX0_portAgainstStarboard_X0_tackOf : GoodIn wsX0_portAgainstStarboard wsX0_tackOf := goodIn_r _ [5, 6, 7, 8, 9, 10, 11, 12, 13, 14] (by decide +kernel) (by decide +kernel)
set_option maxRecDepth 20000 in
theorem gX0_portAgainstStarboard_X0_tackOf : GoodIn wsX0_portAgainstStarboard (wsV RX0 53 RX0 yX0_tackOf wsX0_tackOf) := goodIn_app (goodIn_of _ (by decide +kernel)) ggX0_portAgainstStarboard_X0_tackOf
theorem dX0_portAgainstStarboard_0 : decode cX0_portAgainstStarboard 0 = .ok (.aload_n 0, 1) := by decide +kernel
theorem dX0_portAgainstStarboard_1 : decode cX0_portAgainstStarboard 1 = .ok (.iload_n 1, 1) := by decide +kernel
theorem dX0_portAgainstStarboard_2 : decode cX0_portAgainstStarboard 2 = .ok (.iload_n 3, 1) := by decide +kernel
theorem dX0_portAgainstStarboard_3 : decode cX0_portAgainstStarboard 3 = .ok (.invokevirtual 53, 3) := by decide +kernel
theorem dX0_portAgainstStarboard_6 : decode cX0_portAgainstStarboard 6 = .ok (.istore 4, 2) := by decide +kernel
theorem dX0_portAgainstStarboard_8 : decode cX0_portAgainstStarboard 8 = .ok (.aload_n 0, 1) := by decide +kernel
theorem dX0_portAgainstStarboard_9 : decode cX0_portAgainstStarboard 9 = .ok (.iload_n 2, 1) := by decide +kernel
theorem dX0_portAgainstStarboard_10 : decode cX0_portAgainstStarboard 10 = .ok (.iload_n 3, 1) := by decide +kernel
theorem dX0_portAgainstStarboard_11 : decode cX0_portAgainstStarboard 11 = .ok (.invokevirtual 53, 3) := by decide +kernel
theorem dX0_portAgainstStarboard_14 : decode cX0_portAgainstStarboard 14 = .ok (.istore 5, 2) := by decide +kernel
theorem dX0_portAgainstStarboard_16 : decode cX0_portAgainstStarboard 16 = .ok (.iload 4, 2) := by decide +kernel
theorem dX0_portAgainstStarboard_18 : decode cX0_portAgainstStarboard 18 = .ok (.iconst 2, 1) := by decide +kernel
theorem dX0_portAgainstStarboard_19 : decode cX0_portAgainstStarboard 19 = .ok (.if_icmp .ne 11, 3) := by decide +kernel
theorem dX0_portAgainstStarboard_22 : decode cX0_portAgainstStarboard 22 = .ok (.iload 5, 2) := by decide +kernel
theorem dX0_portAgainstStarboard_24 : decode cX0_portAgainstStarboard 24 = .ok (.iconst 1, 1) := by decide +kernel
theorem dX0_portAgainstStarboard_25 : decode cX0_portAgainstStarboard 25 = .ok (.if_icmp .ne 5, 3) := by decide +kernel
theorem dX0_portAgainstStarboard_28 : decode cX0_portAgainstStarboard 28 = .ok (.iload_n 1, 1) := by decide +kernel
theorem dX0_portAgainstStarboard_29 : decode cX0_portAgainstStarboard 29 = .ok (.ireturn, 1) := by decide +kernel
theorem dX0_portAgainstStarboard_30 : decode cX0_portAgainstStarboard 30 = .ok (.iload 4, 2) := by decide +kernel
theorem dX0_portAgainstStarboard_32 : decode cX0_portAgainstStarboard 32 = .ok (.iconst 1, 1) := by decide +kernel
theorem dX0_portAgainstStarboard_33 : decode cX0_portAgainstStarboard 33 = .ok (.if_icmp .ne 13, 3) := by decide +kernel
theorem dX0_portAgainstStarboard_36 : decode cX0_portAgainstStarboard 36 = .ok (.iload 5, 2) := by decide +kernel
theorem dX0_portAgainstStarboard_38 : decode cX0_portAgainstStarboard 38 = .ok (.iconst 2, 1) := by decide +kernel
theorem dX0_portAgainstStarboard_39 : decode cX0_portAgainstStarboard 39 = .ok (.if_icmp .ne 7, 3) := by decide +kernel
theorem dX0_portAgainstStarboard_42 : decode cX0_portAgainstStarboard 42 = .ok (.iload_n 2, 1) := by decide +kernel
theorem dX0_portAgainstStarboard_43 : decode cX0_portAgainstStarboard 43 = .ok (.goto 4, 3) := by decide +kernel
theorem dX0_portAgainstStarboard_46 : decode cX0_portAgainstStarboard 46 = .ok (.iconst (-1), 1) := by decide +kernel
theorem dX0_portAgainstStarboard_47 : decode cX0_portAgainstStarboard 47 = .ok (.ireturn, 1) := by decide +kernel
set_option maxRecDepth 20000 in
theorem ggX0_windwardOfOneTack_X0_tackOf : GoodIn wsX0_windwardOfOneTack wsX0_tackOf := goodIn_r _ [5, 6, 7, 8, 9, 10, 31, 32, 33, 34] (by decide +kernel) (by decide +kernel)
set_option maxRecDepth 20000 in
theorem gX0_windwardOfOneTack_X0_tackOf : GoodIn wsX0_windwardOfOneTack (wsV RX0 53 RX0 yX0_tackOf wsX0_tackOf) := goodIn_app (goodIn_of _ (by decide +kernel)) ggX0_windwardOfOneTack_X0_tackOf
set_option maxRecDepth 20000 in
theorem ggX0_windwardOfOneTack_X0_fartherOf : GoodIn wsX0_windwardOfOneTack wsX0_fartherOf := goodIn_r _ [14, 15, 16, 17, 4, 18, 19, 20, 21, 22, 23, 24, 25, 26, 27, 28, 29, 30, 31, 32, 33, 34] (by decide +kernel) (by decide +kernel)
set_option maxRecDepth 20000 in
theorem gX0_windwardOfOneTack_X0_fartherOf : GoodIn wsX0_windwardOfOneTack (wsV RX0 56 RX0 yX0_fartherOf wsX0_fartherOf) := goodIn_app (goodIn_of _ (by decide +kernel)) ggX0_windwardOfOneTack_X0_fartherOf
theorem dX0_windwardOfOneTack_0 : decode cX0_windwardOfOneTack 0 = .ok (.aload_n 0, 1) := by decide +kernel
theorem dX0_windwardOfOneTack_1 : decode cX0_windwardOfOneTack 1 = .ok (.iload_n 1, 1) := by decide +kernel
theorem dX0_windwardOfOneTack_2 : decode cX0_windwardOfOneTack 2 = .ok (.iload_n 3, 1) := by decide +kernel
theorem dX0_windwardOfOneTack_3 : decode cX0_windwardOfOneTack 3 = .ok (.invokevirtual 53, 3) := by decide +kernel
theorem dX0_windwardOfOneTack_6 : decode cX0_windwardOfOneTack 6 = .ok (.istore 4, 2) := by decide +kernel
theorem dX0_windwardOfOneTack_8 : decode cX0_windwardOfOneTack 8 = .ok (.iload 4, 2) := by decide +kernel
theorem dX0_windwardOfOneTack_10 : decode cX0_windwardOfOneTack 10 = .ok (.ifCond .eq 14, 3) := by decide +kernel
theorem dX0_windwardOfOneTack_13 : decode cX0_windwardOfOneTack 13 = .ok (.iload 4, 2) := by decide +kernel
theorem dX0_windwardOfOneTack_15 : decode cX0_windwardOfOneTack 15 = .ok (.aload_n 0, 1) := by decide +kernel
theorem dX0_windwardOfOneTack_16 : decode cX0_windwardOfOneTack 16 = .ok (.iload_n 2, 1) := by decide +kernel
theorem dX0_windwardOfOneTack_17 : decode cX0_windwardOfOneTack 17 = .ok (.iload_n 3, 1) := by decide +kernel
theorem dX0_windwardOfOneTack_18 : decode cX0_windwardOfOneTack 18 = .ok (.invokevirtual 53, 3) := by decide +kernel
theorem dX0_windwardOfOneTack_21 : decode cX0_windwardOfOneTack 21 = .ok (.if_icmp .eq 5, 3) := by decide +kernel
theorem dX0_windwardOfOneTack_24 : decode cX0_windwardOfOneTack 24 = .ok (.iconst (-1), 1) := by decide +kernel
theorem dX0_windwardOfOneTack_25 : decode cX0_windwardOfOneTack 25 = .ok (.ireturn, 1) := by decide +kernel
theorem dX0_windwardOfOneTack_26 : decode cX0_windwardOfOneTack 26 = .ok (.aload_n 0, 1) := by decide +kernel
theorem dX0_windwardOfOneTack_27 : decode cX0_windwardOfOneTack 27 = .ok (.iload_n 1, 1) := by decide +kernel
theorem dX0_windwardOfOneTack_28 : decode cX0_windwardOfOneTack 28 = .ok (.iload_n 2, 1) := by decide +kernel
theorem dX0_windwardOfOneTack_29 : decode cX0_windwardOfOneTack 29 = .ok (.iload_n 3, 1) := by decide +kernel
theorem dX0_windwardOfOneTack_30 : decode cX0_windwardOfOneTack 30 = .ok (.invokevirtual 56, 3) := by decide +kernel
theorem dX0_windwardOfOneTack_33 : decode cX0_windwardOfOneTack 33 = .ok (.ireturn, 1) := by decide +kernel
set_option maxRecDepth 20000 in
theorem ggX0_asternOnOneWay_X0_fartherOf : GoodIn wsX0_asternOnOneWay wsX0_fartherOf := goodIn_r _ [6, 7, 8, 9, 5, 10, 11, 12, 13, 14, 15, 16, 17, 18, 19, 20, 21, 22, 23, 24, 25, 26] (by decide +kernel) (by decide +kernel)
set_option maxRecDepth 20000 in
theorem gX0_asternOnOneWay_X0_fartherOf : GoodIn wsX0_asternOnOneWay (wsV RX0 56 RX0 yX0_fartherOf wsX0_fartherOf) := goodIn_app (goodIn_of _ (by decide +kernel)) ggX0_asternOnOneWay_X0_fartherOf
theorem dX0_asternOnOneWay_0 : decode cX0_asternOnOneWay 0 = .ok (.aload_n 0, 1) := by decide +kernel
theorem dX0_asternOnOneWay_1 : decode cX0_asternOnOneWay 1 = .ok (.getfield 18, 3) := by decide +kernel
theorem dX0_asternOnOneWay_4 : decode cX0_asternOnOneWay 4 = .ok (.iload_n 1, 1) := by decide +kernel
theorem dX0_asternOnOneWay_5 : decode cX0_asternOnOneWay 5 = .ok (.iaload, 1) := by decide +kernel
theorem dX0_asternOnOneWay_6 : decode cX0_asternOnOneWay 6 = .ok (.aload_n 0, 1) := by decide +kernel
theorem dX0_asternOnOneWay_7 : decode cX0_asternOnOneWay 7 = .ok (.getfield 18, 3) := by decide +kernel
theorem dX0_asternOnOneWay_10 : decode cX0_asternOnOneWay 10 = .ok (.iload_n 2, 1) := by decide +kernel
theorem dX0_asternOnOneWay_11 : decode cX0_asternOnOneWay 11 = .ok (.iaload, 1) := by decide +kernel
theorem dX0_asternOnOneWay_12 : decode cX0_asternOnOneWay 12 = .ok (.if_icmp .eq 5, 3) := by decide +kernel
theorem dX0_asternOnOneWay_15 : decode cX0_asternOnOneWay 15 = .ok (.iconst (-1), 1) := by decide +kernel
theorem dX0_asternOnOneWay_16 : decode cX0_asternOnOneWay 16 = .ok (.ireturn, 1) := by decide +kernel
theorem dX0_asternOnOneWay_17 : decode cX0_asternOnOneWay 17 = .ok (.aload_n 0, 1) := by decide +kernel
theorem dX0_asternOnOneWay_18 : decode cX0_asternOnOneWay 18 = .ok (.iload_n 1, 1) := by decide +kernel
theorem dX0_asternOnOneWay_19 : decode cX0_asternOnOneWay 19 = .ok (.iload_n 2, 1) := by decide +kernel
theorem dX0_asternOnOneWay_20 : decode cX0_asternOnOneWay 20 = .ok (.aload_n 0, 1) := by decide +kernel
theorem dX0_asternOnOneWay_21 : decode cX0_asternOnOneWay 21 = .ok (.getfield 18, 3) := by decide +kernel
theorem dX0_asternOnOneWay_24 : decode cX0_asternOnOneWay 24 = .ok (.iload_n 1, 1) := by decide +kernel
theorem dX0_asternOnOneWay_25 : decode cX0_asternOnOneWay 25 = .ok (.iaload, 1) := by decide +kernel
theorem dX0_asternOnOneWay_26 : decode cX0_asternOnOneWay 26 = .ok (.invokevirtual 56, 3) := by decide +kernel
theorem dX0_asternOnOneWay_29 : decode cX0_asternOnOneWay 29 = .ok (.istore_n 3, 1) := by decide +kernel
theorem dX0_asternOnOneWay_30 : decode cX0_asternOnOneWay 30 = .ok (.iload_n 3, 1) := by decide +kernel
theorem dX0_asternOnOneWay_31 : decode cX0_asternOnOneWay 31 = .ok (.iconst (-1), 1) := by decide +kernel
theorem dX0_asternOnOneWay_32 : decode cX0_asternOnOneWay 32 = .ok (.if_icmp .ne 5, 3) := by decide +kernel
theorem dX0_asternOnOneWay_35 : decode cX0_asternOnOneWay 35 = .ok (.iconst (-1), 1) := by decide +kernel
theorem dX0_asternOnOneWay_36 : decode cX0_asternOnOneWay 36 = .ok (.ireturn, 1) := by decide +kernel
theorem dX0_asternOnOneWay_37 : decode cX0_asternOnOneWay 37 = .ok (.iload_n 3, 1) := by decide +kernel
theorem dX0_asternOnOneWay_38 : decode cX0_asternOnOneWay 38 = .ok (.iload_n 1, 1) := by decide +kernel
theorem dX0_asternOnOneWay_39 : decode cX0_asternOnOneWay 39 = .ok (.if_icmp .ne 7, 3) := by decide +kernel
theorem dX0_asternOnOneWay_42 : decode cX0_asternOnOneWay 42 = .ok (.iload_n 2, 1) := by decide +kernel
theorem dX0_asternOnOneWay_43 : decode cX0_asternOnOneWay 43 = .ok (.goto 4, 3) := by decide +kernel
theorem dX0_asternOnOneWay_46 : decode cX0_asternOnOneWay 46 = .ok (.iload_n 1, 1) := by decide +kernel
theorem dX0_asternOnOneWay_47 : decode cX0_asternOnOneWay 47 = .ok (.ireturn, 1) := by decide +kernel
set_option maxRecDepth 20000 in
theorem ggX0_fartherOf_X0_farBy : GoodIn wsX0_fartherOf wsX0_farBy := goodIn_r _ [5, 6, 7, 8, 9, 10, 11, 12, 13, 14, 15, 16, 17, 18, 19, 20, 21] (by decide +kernel) (by decide +kernel)
set_option maxRecDepth 20000 in
theorem gX0_fartherOf_X0_farBy : GoodIn wsX0_fartherOf (wsV RX0 59 RX0 yX0_farBy wsX0_farBy) := goodIn_app (goodIn_of _ (by decide +kernel)) ggX0_fartherOf_X0_farBy
theorem dX0_fartherOf_0 : decode cX0_fartherOf 0 = .ok (.aload_n 0, 1) := by decide +kernel
theorem dX0_fartherOf_1 : decode cX0_fartherOf 1 = .ok (.iload_n 1, 1) := by decide +kernel
theorem dX0_fartherOf_2 : decode cX0_fartherOf 2 = .ok (.iload_n 3, 1) := by decide +kernel
theorem dX0_fartherOf_3 : decode cX0_fartherOf 3 = .ok (.invokevirtual 59, 3) := by decide +kernel
theorem dX0_fartherOf_6 : decode cX0_fartherOf 6 = .ok (.istore 4, 2) := by decide +kernel
theorem dX0_fartherOf_8 : decode cX0_fartherOf 8 = .ok (.aload_n 0, 1) := by decide +kernel
theorem dX0_fartherOf_9 : decode cX0_fartherOf 9 = .ok (.iload_n 2, 1) := by decide +kernel
theorem dX0_fartherOf_10 : decode cX0_fartherOf 10 = .ok (.iload_n 3, 1) := by decide +kernel
theorem dX0_fartherOf_11 : decode cX0_fartherOf 11 = .ok (.invokevirtual 59, 3) := by decide +kernel
theorem dX0_fartherOf_14 : decode cX0_fartherOf 14 = .ok (.istore 5, 2) := by decide +kernel
theorem dX0_fartherOf_16 : decode cX0_fartherOf 16 = .ok (.iload 4, 2) := by decide +kernel
theorem dX0_fartherOf_18 : decode cX0_fartherOf 18 = .ok (.iload 5, 2) := by decide +kernel
theorem dX0_fartherOf_20 : decode cX0_fartherOf 20 = .ok (.if_icmp .ne 5, 3) := by decide +kernel
theorem dX0_fartherOf_23 : decode cX0_fartherOf 23 = .ok (.iconst (-1), 1) := by decide +kernel
theorem dX0_fartherOf_24 : decode cX0_fartherOf 24 = .ok (.ireturn, 1) := by decide +kernel
theorem dX0_fartherOf_25 : decode cX0_fartherOf 25 = .ok (.iload 4, 2) := by decide +kernel
theorem dX0_fartherOf_27 : decode cX0_fartherOf 27 = .ok (.iload 5, 2) := by decide +kernel
theorem dX0_fartherOf_29 : decode cX0_fartherOf 29 = .ok (.if_icmp .le 7, 3) := by decide +kernel
theorem dX0_fartherOf_32 : decode cX0_fartherOf 32 = .ok (.iload_n 1, 1) := by decide +kernel
theorem dX0_fartherOf_33 : decode cX0_fartherOf 33 = .ok (.goto 4, 3) := by decide +kernel
theorem dX0_fartherOf_36 : decode cX0_fartherOf 36 = .ok (.iload_n 2, 1) := by decide +kernel
theorem dX0_fartherOf_37 : decode cX0_fartherOf 37 = .ok (.ireturn, 1) := by decide +kernel
set_option maxRecDepth 20000 in
theorem ggX0_farBy_X8_stepX : GoodIn wsX0_farBy wsX8_stepX := goodIn_r _ [5, 6, 7, 8, 4, 9] (by decide +kernel) (by decide +kernel)
set_option maxRecDepth 20000 in
theorem gX0_farBy_X8_stepX_n62 : GoodIn wsX0_farBy (wsX8_stepX) := ggX0_farBy_X8_stepX
set_option maxRecDepth 20000 in
theorem ggX0_farBy_X8_stepY : GoodIn wsX0_farBy wsX8_stepY := goodIn_r _ [11, 12, 7, 8, 4, 9] (by decide +kernel) (by decide +kernel)
set_option maxRecDepth 20000 in
theorem gX0_farBy_X8_stepY_n66 : GoodIn wsX0_farBy (wsX8_stepY) := ggX0_farBy_X8_stepY
theorem dX0_farBy_0 : decode cX0_farBy 0 = .ok (.aload_n 0, 1) := by decide +kernel
theorem dX0_farBy_1 : decode cX0_farBy 1 = .ok (.getfield 9, 3) := by decide +kernel
theorem dX0_farBy_4 : decode cX0_farBy 4 = .ok (.iload_n 1, 1) := by decide +kernel
theorem dX0_farBy_5 : decode cX0_farBy 5 = .ok (.iaload, 1) := by decide +kernel
theorem dX0_farBy_6 : decode cX0_farBy 6 = .ok (.iload_n 2, 1) := by decide +kernel
theorem dX0_farBy_7 : decode cX0_farBy 7 = .ok (.invokestatic 62, 3) := by decide +kernel
theorem dX0_farBy_10 : decode cX0_farBy 10 = .ok (.imul, 1) := by decide +kernel
theorem dX0_farBy_11 : decode cX0_farBy 11 = .ok (.aload_n 0, 1) := by decide +kernel
theorem dX0_farBy_12 : decode cX0_farBy 12 = .ok (.getfield 15, 3) := by decide +kernel
theorem dX0_farBy_15 : decode cX0_farBy 15 = .ok (.iload_n 1, 1) := by decide +kernel
theorem dX0_farBy_16 : decode cX0_farBy 16 = .ok (.iaload, 1) := by decide +kernel
theorem dX0_farBy_17 : decode cX0_farBy 17 = .ok (.iload_n 2, 1) := by decide +kernel
theorem dX0_farBy_18 : decode cX0_farBy 18 = .ok (.invokestatic 66, 3) := by decide +kernel
theorem dX0_farBy_21 : decode cX0_farBy 21 = .ok (.imul, 1) := by decide +kernel
theorem dX0_farBy_22 : decode cX0_farBy 22 = .ok (.iadd, 1) := by decide +kernel
theorem dX0_farBy_23 : decode cX0_farBy 23 = .ok (.ireturn, 1) := by decide +kernel
theorem dX1_init_0 : decode cX1_init 0 = .ok (.aload_n 0, 1) := by decide +kernel
theorem dX1_init_1 : decode cX1_init 1 = .ok (.invokespecial 3, 3) := by decide +kernel
theorem dX1_init_4 : decode cX1_init 4 = .ok (.aload_n 0, 1) := by decide +kernel
theorem dX1_init_5 : decode cX1_init 5 = .ok (.iconst (-1), 1) := by decide +kernel
theorem dX1_init_6 : decode cX1_init 6 = .ok (.putfield 9, 3) := by decide +kernel
theorem dX1_init_9 : decode cX1_init 9 = .ok (.aload_n 0, 1) := by decide +kernel
theorem dX1_init_10 : decode cX1_init 10 = .ok (.iconst (-1), 1) := by decide +kernel
theorem dX1_init_11 : decode cX1_init 11 = .ok (.putfield 15, 3) := by decide +kernel
theorem dX1_init_14 : decode cX1_init 14 = .ok (.return_, 1) := by decide +kernel
set_option maxRecDepth 20000 in
theorem ggX1_takeLongest_X3_reach : GoodIn wsX1_takeLongest wsX3_reach := goodIn_r _ [5, 6, 7, 8, 9, 10, 11, 12, 13, 14, 15, 16, 17, 18, 19, 20, 21, 22, 4, 23, 24, 25, 26, 27, 35, 36, 37] (by decide +kernel) (by decide +kernel)
set_option maxRecDepth 20000 in
theorem gX1_takeLongest_X3_reach : GoodIn wsX1_takeLongest (wsV RX1 18 RX3 yX3_reach wsX3_reach) := goodIn_app (goodIn_of _ (by decide +kernel)) ggX1_takeLongest_X3_reach
set_option maxRecDepth 20000 in
theorem ggX1_takeLongest_X1_layLeg : GoodIn wsX1_takeLongest wsX1_layLeg := goodIn_r _ [32, 33, 34, 6, 7, 8, 9, 10, 11, 12, 13, 14, 15, 16, 17, 18, 19, 38, 39] (by decide +kernel) (by decide +kernel)
set_option maxRecDepth 20000 in
theorem gX1_takeLongest_X1_layLeg : GoodIn wsX1_takeLongest (wsV RX1 24 RX1 yX1_layLeg wsX1_layLeg) := goodIn_app (goodIn_of _ (by decide +kernel)) ggX1_takeLongest_X1_layLeg
theorem dX1_takeLongest_0 : decode cX1_takeLongest 0 = .ok (.iconst 0, 1) := by decide +kernel
theorem dX1_takeLongest_1 : decode cX1_takeLongest 1 = .ok (.istore 4, 2) := by decide +kernel
theorem dX1_takeLongest_3 : decode cX1_takeLongest 3 = .ok (.iconst (-1), 1) := by decide +kernel
theorem dX1_takeLongest_4 : decode cX1_takeLongest 4 = .ok (.istore 5, 2) := by decide +kernel
theorem dX1_takeLongest_6 : decode cX1_takeLongest 6 = .ok (.iconst 0, 1) := by decide +kernel
theorem dX1_takeLongest_7 : decode cX1_takeLongest 7 = .ok (.istore 6, 2) := by decide +kernel
theorem dX1_takeLongest_9 : decode cX1_takeLongest 9 = .ok (.iload 6, 2) := by decide +kernel
theorem dX1_takeLongest_11 : decode cX1_takeLongest 11 = .ok (.sipush 144, 3) := by decide +kernel
theorem dX1_takeLongest_14 : decode cX1_takeLongest 14 = .ok (.if_icmp .ge 34, 3) := by decide +kernel
theorem dX1_takeLongest_17 : decode cX1_takeLongest 17 = .ok (.aload_n 1, 1) := by decide +kernel
theorem dX1_takeLongest_18 : decode cX1_takeLongest 18 = .ok (.iload 6, 2) := by decide +kernel
theorem dX1_takeLongest_20 : decode cX1_takeLongest 20 = .ok (.iload_n 2, 1) := by decide +kernel
theorem dX1_takeLongest_21 : decode cX1_takeLongest 21 = .ok (.iload_n 3, 1) := by decide +kernel
theorem dX1_takeLongest_22 : decode cX1_takeLongest 22 = .ok (.invokevirtual 18, 3) := by decide +kernel
theorem dX1_takeLongest_25 : decode cX1_takeLongest 25 = .ok (.istore 7, 2) := by decide +kernel
theorem dX1_takeLongest_27 : decode cX1_takeLongest 27 = .ok (.iload 7, 2) := by decide +kernel
theorem dX1_takeLongest_29 : decode cX1_takeLongest 29 = .ok (.iload 4, 2) := by decide +kernel
theorem dX1_takeLongest_31 : decode cX1_takeLongest 31 = .ok (.if_icmp .le 11, 3) := by decide +kernel
theorem dX1_takeLongest_34 : decode cX1_takeLongest 34 = .ok (.iload 7, 2) := by decide +kernel
theorem dX1_takeLongest_36 : decode cX1_takeLongest 36 = .ok (.istore 4, 2) := by decide +kernel
theorem dX1_takeLongest_38 : decode cX1_takeLongest 38 = .ok (.iload 6, 2) := by decide +kernel
theorem dX1_takeLongest_40 : decode cX1_takeLongest 40 = .ok (.istore 5, 2) := by decide +kernel
theorem dX1_takeLongest_42 : decode cX1_takeLongest 42 = .ok (.iinc 6 1, 3) := by decide +kernel
theorem dX1_takeLongest_45 : decode cX1_takeLongest 45 = .ok (.goto (-36), 3) := by decide +kernel
theorem dX1_takeLongest_48 : decode cX1_takeLongest 48 = .ok (.iload 5, 2) := by decide +kernel
theorem dX1_takeLongest_50 : decode cX1_takeLongest 50 = .ok (.iconst (-1), 1) := by decide +kernel
theorem dX1_takeLongest_51 : decode cX1_takeLongest 51 = .ok (.if_icmp .ne 5, 3) := by decide +kernel
theorem dX1_takeLongest_54 : decode cX1_takeLongest 54 = .ok (.iconst (-1), 1) := by decide +kernel
theorem dX1_takeLongest_55 : decode cX1_takeLongest 55 = .ok (.ireturn, 1) := by decide +kernel
theorem dX1_takeLongest_56 : decode cX1_takeLongest 56 = .ok (.aload_n 0, 1) := by decide +kernel
theorem dX1_takeLongest_57 : decode cX1_takeLongest 57 = .ok (.iload 5, 2) := by decide +kernel
theorem dX1_takeLongest_59 : decode cX1_takeLongest 59 = .ok (.iload_n 2, 1) := by decide +kernel
theorem dX1_takeLongest_60 : decode cX1_takeLongest 60 = .ok (.iload 4, 2) := by decide +kernel
theorem dX1_takeLongest_62 : decode cX1_takeLongest 62 = .ok (.invokevirtual 24, 3) := by decide +kernel
theorem dX1_takeLongest_65 : decode cX1_takeLongest 65 = .ok (.iload 4, 2) := by decide +kernel
theorem dX1_takeLongest_67 : decode cX1_takeLongest 67 = .ok (.ireturn, 1) := by decide +kernel
set_option maxRecDepth 20000 in
theorem ggX1_takeNearest_X3_reach : GoodIn wsX1_takeNearest wsX3_reach := goodIn_r _ [6, 7, 8, 9, 10, 11, 12, 13, 14, 15, 16, 17, 18, 19, 20, 21, 22, 23, 5, 24, 25, 26, 27, 28, 41, 42, 43] (by decide +kernel) (by decide +kernel)
set_option maxRecDepth 20000 in
theorem gX1_takeNearest_X3_reach : GoodIn wsX1_takeNearest (wsV RX1 18 RX3 yX3_reach wsX3_reach) := goodIn_app (goodIn_of _ (by decide +kernel)) ggX1_takeNearest_X3_reach
set_option maxRecDepth 20000 in
theorem ggX1_takeNearest_X8_cellBeyond : GoodIn wsX1_takeNearest wsX8_cellBeyond := goodIn_r _ [9, 10, 11, 8, 12, 13, 14, 15, 16, 17, 18, 19, 20] (by decide +kernel) (by decide +kernel)
set_option maxRecDepth 20000 in
theorem gX1_takeNearest_X8_cellBeyond_n28 : GoodIn wsX1_takeNearest (wsX8_cellBeyond) := ggX1_takeNearest_X8_cellBeyond
set_option maxRecDepth 20000 in
theorem ggX1_takeNearest_X1_unlikeMarks : GoodIn wsX1_takeNearest wsX1_unlikeMarks := goodIn_r _ [33, 1, 34, 39, 40] (by decide +kernel) (by decide +kernel)
set_option maxRecDepth 20000 in
theorem gX1_takeNearest_X1_unlikeMarks : GoodIn wsX1_takeNearest (wsV RX1 31 RX1 yX1_unlikeMarks wsX1_unlikeMarks) := goodIn_app (goodIn_of _ (by decide +kernel)) ggX1_takeNearest_X1_unlikeMarks
set_option maxRecDepth 20000 in
theorem ggX1_takeNearest_X1_layLeg : GoodIn wsX1_takeNearest wsX1_layLeg := goodIn_r _ [38, 1, 34, 7, 8, 9, 10, 11, 12, 13, 14, 15, 16, 17, 18, 19, 20, 39, 40] (by decide +kernel) (by decide +kernel)
set_option maxRecDepth 20000 in
theorem gX1_takeNearest_X1_layLeg : GoodIn wsX1_takeNearest (wsV RX1 24 RX1 yX1_layLeg wsX1_layLeg) := goodIn_app (goodIn_of _ (by decide +kernel)) ggX1_takeNearest_X1_layLeg
theorem dX1_takeNearest_0 : decode cX1_takeNearest 0 = .ok (.aload_n 0, 1) := by decide +kernel
theorem dX1_takeNearest_1 : decode cX1_takeNearest 1 = .ok (.getfield 9, 3) := by decide +kernel
theorem dX1_takeNearest_4 : decode cX1_takeNearest 4 = .ok (.iconst (-1), 1) := by decide +kernel
theorem dX1_takeNearest_5 : decode cX1_takeNearest 5 = .ok (.if_icmp .ne 5, 3) := by decide +kernel
theorem dX1_takeNearest_8 : decode cX1_takeNearest 8 = .ok (.iconst (-1), 1) := by decide +kernel
theorem dX1_takeNearest_9 : decode cX1_takeNearest 9 = .ok (.ireturn, 1) := by decide +kernel
theorem dX1_takeNearest_10 : decode cX1_takeNearest 10 = .ok (.iconst 3, 1) := by decide +kernel
theorem dX1_takeNearest_11 : decode cX1_takeNearest 11 = .ok (.istore 5, 2) := by decide +kernel
theorem dX1_takeNearest_13 : decode cX1_takeNearest 13 = .ok (.iconst 0, 1) := by decide +kernel
theorem dX1_takeNearest_14 : decode cX1_takeNearest 14 = .ok (.istore 6, 2) := by decide +kernel
theorem dX1_takeNearest_16 : decode cX1_takeNearest 16 = .ok (.iconst (-1), 1) := by decide +kernel
theorem dX1_takeNearest_17 : decode cX1_takeNearest 17 = .ok (.istore 7, 2) := by decide +kernel
theorem dX1_takeNearest_19 : decode cX1_takeNearest 19 = .ok (.iconst 0, 1) := by decide +kernel
theorem dX1_takeNearest_20 : decode cX1_takeNearest 20 = .ok (.istore 8, 2) := by decide +kernel
theorem dX1_takeNearest_22 : decode cX1_takeNearest 22 = .ok (.iload 8, 2) := by decide +kernel
theorem dX1_takeNearest_24 : decode cX1_takeNearest 24 = .ok (.sipush 144, 3) := by decide +kernel
theorem dX1_takeNearest_27 : decode cX1_takeNearest 27 = .ok (.if_icmp .ge 85, 3) := by decide +kernel
theorem dX1_takeNearest_30 : decode cX1_takeNearest 30 = .ok (.aload_n 1, 1) := by decide +kernel
theorem dX1_takeNearest_31 : decode cX1_takeNearest 31 = .ok (.iload 8, 2) := by decide +kernel
theorem dX1_takeNearest_33 : decode cX1_takeNearest 33 = .ok (.iload_n 2, 1) := by decide +kernel
theorem dX1_takeNearest_34 : decode cX1_takeNearest 34 = .ok (.iload_n 3, 1) := by decide +kernel
theorem dX1_takeNearest_35 : decode cX1_takeNearest 35 = .ok (.invokevirtual 18, 3) := by decide +kernel
theorem dX1_takeNearest_38 : decode cX1_takeNearest 38 = .ok (.istore 9, 2) := by decide +kernel
theorem dX1_takeNearest_40 : decode cX1_takeNearest 40 = .ok (.iload 4, 2) := by decide +kernel
theorem dX1_takeNearest_42 : decode cX1_takeNearest 42 = .ok (.istore 10, 2) := by decide +kernel
theorem dX1_takeNearest_44 : decode cX1_takeNearest 44 = .ok (.iload 10, 2) := by decide +kernel
theorem dX1_takeNearest_46 : decode cX1_takeNearest 46 = .ok (.iload 9, 2) := by decide +kernel
theorem dX1_takeNearest_48 : decode cX1_takeNearest 48 = .ok (.if_icmp .gt 58, 3) := by decide +kernel
theorem dX1_takeNearest_51 : decode cX1_takeNearest 51 = .ok (.aload_n 0, 1) := by decide +kernel
theorem dX1_takeNearest_52 : decode cX1_takeNearest 52 = .ok (.iload 8, 2) := by decide +kernel
theorem dX1_takeNearest_54 : decode cX1_takeNearest 54 = .ok (.iload 8, 2) := by decide +kernel
theorem dX1_takeNearest_56 : decode cX1_takeNearest 56 = .ok (.iload_n 2, 1) := by decide +kernel
theorem dX1_takeNearest_57 : decode cX1_takeNearest 57 = .ok (.iload 10, 2) := by decide +kernel
theorem dX1_takeNearest_59 : decode cX1_takeNearest 59 = .ok (.invokestatic 28, 3) := by decide +kernel
theorem dX1_takeNearest_62 : decode cX1_takeNearest 62 = .ok (.invokevirtual 31, 3) := by decide +kernel
theorem dX1_takeNearest_65 : decode cX1_takeNearest 65 = .ok (.istore 11, 2) := by decide +kernel
theorem dX1_takeNearest_67 : decode cX1_takeNearest 67 = .ok (.iload 11, 2) := by decide +kernel
theorem dX1_takeNearest_69 : decode cX1_takeNearest 69 = .ok (.iload 5, 2) := by decide +kernel
theorem dX1_takeNearest_71 : decode cX1_takeNearest 71 = .ok (.if_icmp .lt 17, 3) := by decide +kernel
theorem dX1_takeNearest_74 : decode cX1_takeNearest 74 = .ok (.iload 11, 2) := by decide +kernel
theorem dX1_takeNearest_76 : decode cX1_takeNearest 76 = .ok (.iload 5, 2) := by decide +kernel
theorem dX1_takeNearest_78 : decode cX1_takeNearest 78 = .ok (.if_icmp .ne 22, 3) := by decide +kernel
theorem dX1_takeNearest_81 : decode cX1_takeNearest 81 = .ok (.iload 10, 2) := by decide +kernel
theorem dX1_takeNearest_83 : decode cX1_takeNearest 83 = .ok (.iload 6, 2) := by decide +kernel
theorem dX1_takeNearest_85 : decode cX1_takeNearest 85 = .ok (.if_icmp .le 15, 3) := by decide +kernel
theorem dX1_takeNearest_88 : decode cX1_takeNearest 88 = .ok (.iload 11, 2) := by decide +kernel
theorem dX1_takeNearest_90 : decode cX1_takeNearest 90 = .ok (.istore 5, 2) := by decide +kernel
theorem dX1_takeNearest_92 : decode cX1_takeNearest 92 = .ok (.iload 10, 2) := by decide +kernel
theorem dX1_takeNearest_94 : decode cX1_takeNearest 94 = .ok (.istore 6, 2) := by decide +kernel
theorem dX1_takeNearest_96 : decode cX1_takeNearest 96 = .ok (.iload 8, 2) := by decide +kernel
theorem dX1_takeNearest_98 : decode cX1_takeNearest 98 = .ok (.istore 7, 2) := by decide +kernel
theorem dX1_takeNearest_100 : decode cX1_takeNearest 100 = .ok (.iinc 10 1, 3) := by decide +kernel
theorem dX1_takeNearest_103 : decode cX1_takeNearest 103 = .ok (.goto (-59), 3) := by decide +kernel
theorem dX1_takeNearest_106 : decode cX1_takeNearest 106 = .ok (.iinc 8 1, 3) := by decide +kernel
theorem dX1_takeNearest_109 : decode cX1_takeNearest 109 = .ok (.goto (-87), 3) := by decide +kernel
theorem dX1_takeNearest_112 : decode cX1_takeNearest 112 = .ok (.iload 7, 2) := by decide +kernel
theorem dX1_takeNearest_114 : decode cX1_takeNearest 114 = .ok (.iconst (-1), 1) := by decide +kernel
theorem dX1_takeNearest_115 : decode cX1_takeNearest 115 = .ok (.if_icmp .ne 5, 3) := by decide +kernel
theorem dX1_takeNearest_118 : decode cX1_takeNearest 118 = .ok (.iconst (-1), 1) := by decide +kernel
theorem dX1_takeNearest_119 : decode cX1_takeNearest 119 = .ok (.ireturn, 1) := by decide +kernel
theorem dX1_takeNearest_120 : decode cX1_takeNearest 120 = .ok (.aload_n 0, 1) := by decide +kernel
theorem dX1_takeNearest_121 : decode cX1_takeNearest 121 = .ok (.iload 7, 2) := by decide +kernel
theorem dX1_takeNearest_123 : decode cX1_takeNearest 123 = .ok (.iload_n 2, 1) := by decide +kernel
theorem dX1_takeNearest_124 : decode cX1_takeNearest 124 = .ok (.iload 6, 2) := by decide +kernel
theorem dX1_takeNearest_126 : decode cX1_takeNearest 126 = .ok (.invokevirtual 24, 3) := by decide +kernel
theorem dX1_takeNearest_129 : decode cX1_takeNearest 129 = .ok (.iload 5, 2) := by decide +kernel
theorem dX1_takeNearest_131 : decode cX1_takeNearest 131 = .ok (.ireturn, 1) := by decide +kernel
set_option maxRecDepth 20000 in
theorem ggX1_layLeg_X8_cellBeyond : GoodIn wsX1_layLeg wsX8_cellBeyond := goodIn_r _ [5, 6, 7, 4, 8, 9, 10, 11, 12, 13, 14, 15, 16] (by decide +kernel) (by decide +kernel)
set_option maxRecDepth 20000 in
theorem gX1_layLeg_X8_cellBeyond_n28 : GoodIn wsX1_layLeg (wsX8_cellBeyond) := ggX1_layLeg_X8_cellBeyond
theorem dX1_layLeg_0 : decode cX1_layLeg 0 = .ok (.aload_n 0, 1) := by decide +kernel
theorem dX1_layLeg_1 : decode cX1_layLeg 1 = .ok (.iload_n 1, 1) := by decide +kernel
theorem dX1_layLeg_2 : decode cX1_layLeg 2 = .ok (.putfield 9, 3) := by decide +kernel
theorem dX1_layLeg_5 : decode cX1_layLeg 5 = .ok (.aload_n 0, 1) := by decide +kernel
theorem dX1_layLeg_6 : decode cX1_layLeg 6 = .ok (.iload_n 1, 1) := by decide +kernel
theorem dX1_layLeg_7 : decode cX1_layLeg 7 = .ok (.iload_n 2, 1) := by decide +kernel
theorem dX1_layLeg_8 : decode cX1_layLeg 8 = .ok (.iload_n 3, 1) := by decide +kernel
theorem dX1_layLeg_9 : decode cX1_layLeg 9 = .ok (.invokestatic 28, 3) := by decide +kernel
theorem dX1_layLeg_12 : decode cX1_layLeg 12 = .ok (.putfield 15, 3) := by decide +kernel
theorem dX1_layLeg_15 : decode cX1_layLeg 15 = .ok (.return_, 1) := by decide +kernel
theorem dX1_unlikeMarks_0 : decode cX1_unlikeMarks 0 = .ok (.iload_n 1, 1) := by decide +kernel
theorem dX1_unlikeMarks_1 : decode cX1_unlikeMarks 1 = .ok (.aload_n 0, 1) := by decide +kernel
theorem dX1_unlikeMarks_2 : decode cX1_unlikeMarks 2 = .ok (.getfield 9, 3) := by decide +kernel
theorem dX1_unlikeMarks_5 : decode cX1_unlikeMarks 5 = .ok (.if_icmp .ne 7, 3) := by decide +kernel
theorem dX1_unlikeMarks_8 : decode cX1_unlikeMarks 8 = .ok (.iconst 0, 1) := by decide +kernel
theorem dX1_unlikeMarks_9 : decode cX1_unlikeMarks 9 = .ok (.goto 4, 3) := by decide +kernel
theorem dX1_unlikeMarks_12 : decode cX1_unlikeMarks 12 = .ok (.iconst 1, 1) := by decide +kernel
theorem dX1_unlikeMarks_13 : decode cX1_unlikeMarks 13 = .ok (.iload_n 2, 1) := by decide +kernel
theorem dX1_unlikeMarks_14 : decode cX1_unlikeMarks 14 = .ok (.aload_n 0, 1) := by decide +kernel
theorem dX1_unlikeMarks_15 : decode cX1_unlikeMarks 15 = .ok (.getfield 15, 3) := by decide +kernel
theorem dX1_unlikeMarks_18 : decode cX1_unlikeMarks 18 = .ok (.if_icmp .ne 7, 3) := by decide +kernel
theorem dX1_unlikeMarks_21 : decode cX1_unlikeMarks 21 = .ok (.iconst 0, 1) := by decide +kernel
theorem dX1_unlikeMarks_22 : decode cX1_unlikeMarks 22 = .ok (.goto 4, 3) := by decide +kernel
theorem dX1_unlikeMarks_25 : decode cX1_unlikeMarks 25 = .ok (.iconst 1, 1) := by decide +kernel
theorem dX1_unlikeMarks_26 : decode cX1_unlikeMarks 26 = .ok (.iadd, 1) := by decide +kernel
theorem dX1_unlikeMarks_27 : decode cX1_unlikeMarks 27 = .ok (.ireturn, 1) := by decide +kernel
set_option maxRecDepth 20000 in
theorem ggX1_isLeg_X3_reach : GoodIn wsX1_isLeg wsX3_reach := goodIn_r _ [7, 8, 9, 10, 11, 12, 13, 14, 15, 16, 17, 18, 19, 20, 21, 22, 23, 24, 6, 25, 26, 27, 28, 29, 32, 33, 34] (by decide +kernel) (by decide +kernel)
set_option maxRecDepth 20000 in
theorem gX1_isLeg_X3_reach : GoodIn wsX1_isLeg (wsV RX1 18 RX3 yX3_reach wsX3_reach) := goodIn_app (goodIn_of _ (by decide +kernel)) ggX1_isLeg_X3_reach
set_option maxRecDepth 20000 in
theorem ggX1_isLeg_X8_cellBeyond : GoodIn wsX1_isLeg wsX8_cellBeyond := goodIn_r _ [10, 11, 12, 9, 13, 14, 15, 16, 17, 18, 19, 20, 21] (by decide +kernel) (by decide +kernel)
set_option maxRecDepth 20000 in
theorem gX1_isLeg_X8_cellBeyond_n28 : GoodIn wsX1_isLeg (wsX8_cellBeyond) := ggX1_isLeg_X8_cellBeyond
theorem dX1_isLeg_0 : decode cX1_isLeg 0 = .ok (.aload_n 0, 1) := by decide +kernel
theorem dX1_isLeg_1 : decode cX1_isLeg 1 = .ok (.getfield 9, 3) := by decide +kernel
theorem dX1_isLeg_4 : decode cX1_isLeg 4 = .ok (.iconst (-1), 1) := by decide +kernel
theorem dX1_isLeg_5 : decode cX1_isLeg 5 = .ok (.if_icmp .ne 5, 3) := by decide +kernel
theorem dX1_isLeg_8 : decode cX1_isLeg 8 = .ok (.iconst 0, 1) := by decide +kernel
theorem dX1_isLeg_9 : decode cX1_isLeg 9 = .ok (.ireturn, 1) := by decide +kernel
theorem dX1_isLeg_10 : decode cX1_isLeg 10 = .ok (.aload_n 1, 1) := by decide +kernel
theorem dX1_isLeg_11 : decode cX1_isLeg 11 = .ok (.aload_n 0, 1) := by decide +kernel
theorem dX1_isLeg_12 : decode cX1_isLeg 12 = .ok (.getfield 9, 3) := by decide +kernel
theorem dX1_isLeg_15 : decode cX1_isLeg 15 = .ok (.iload_n 2, 1) := by decide +kernel
theorem dX1_isLeg_16 : decode cX1_isLeg 16 = .ok (.iload_n 3, 1) := by decide +kernel
theorem dX1_isLeg_17 : decode cX1_isLeg 17 = .ok (.invokevirtual 18, 3) := by decide +kernel
theorem dX1_isLeg_20 : decode cX1_isLeg 20 = .ok (.istore 4, 2) := by decide +kernel
theorem dX1_isLeg_22 : decode cX1_isLeg 22 = .ok (.iconst 1, 1) := by decide +kernel
theorem dX1_isLeg_23 : decode cX1_isLeg 23 = .ok (.istore 5, 2) := by decide +kernel
theorem dX1_isLeg_25 : decode cX1_isLeg 25 = .ok (.iload 5, 2) := by decide +kernel
theorem dX1_isLeg_27 : decode cX1_isLeg 27 = .ok (.iload 4, 2) := by decide +kernel
theorem dX1_isLeg_29 : decode cX1_isLeg 29 = .ok (.if_icmp .gt 28, 3) := by decide +kernel
theorem dX1_isLeg_32 : decode cX1_isLeg 32 = .ok (.aload_n 0, 1) := by decide +kernel
theorem dX1_isLeg_33 : decode cX1_isLeg 33 = .ok (.getfield 9, 3) := by decide +kernel
theorem dX1_isLeg_36 : decode cX1_isLeg 36 = .ok (.iload_n 2, 1) := by decide +kernel
theorem dX1_isLeg_37 : decode cX1_isLeg 37 = .ok (.iload 5, 2) := by decide +kernel
theorem dX1_isLeg_39 : decode cX1_isLeg 39 = .ok (.invokestatic 28, 3) := by decide +kernel
theorem dX1_isLeg_42 : decode cX1_isLeg 42 = .ok (.aload_n 0, 1) := by decide +kernel
theorem dX1_isLeg_43 : decode cX1_isLeg 43 = .ok (.getfield 15, 3) := by decide +kernel
theorem dX1_isLeg_46 : decode cX1_isLeg 46 = .ok (.if_icmp .ne 5, 3) := by decide +kernel
theorem dX1_isLeg_49 : decode cX1_isLeg 49 = .ok (.iconst 1, 1) := by decide +kernel
theorem dX1_isLeg_50 : decode cX1_isLeg 50 = .ok (.ireturn, 1) := by decide +kernel
theorem dX1_isLeg_51 : decode cX1_isLeg 51 = .ok (.iinc 5 1, 3) := by decide +kernel
theorem dX1_isLeg_54 : decode cX1_isLeg 54 = .ok (.goto (-29), 3) := by decide +kernel
theorem dX1_isLeg_57 : decode cX1_isLeg 57 = .ok (.iconst 0, 1) := by decide +kernel
theorem dX1_isLeg_58 : decode cX1_isLeg 58 = .ok (.ireturn, 1) := by decide +kernel
theorem dX2_init_0 : decode cX2_init 0 = .ok (.aload_n 0, 1) := by decide +kernel
theorem dX2_init_1 : decode cX2_init 1 = .ok (.invokespecial 3, 3) := by decide +kernel
theorem dX2_init_4 : decode cX2_init 4 = .ok (.aload_n 0, 1) := by decide +kernel
theorem dX2_init_5 : decode cX2_init 5 = .ok (.bipush 16, 2) := by decide +kernel
theorem dX2_init_7 : decode cX2_init 7 = .ok (.newarray .boolean, 2) := by decide +kernel
theorem dX2_init_9 : decode cX2_init 9 = .ok (.putfield 9, 3) := by decide +kernel
theorem dX2_init_12 : decode cX2_init 12 = .ok (.aload_n 0, 1) := by decide +kernel
theorem dX2_init_13 : decode cX2_init 13 = .ok (.bipush 16, 2) := by decide +kernel
theorem dX2_init_15 : decode cX2_init 15 = .ok (.newarray .boolean, 2) := by decide +kernel
theorem dX2_init_17 : decode cX2_init 17 = .ok (.putfield 15, 3) := by decide +kernel
theorem dX2_init_20 : decode cX2_init 20 = .ok (.return_, 1) := by decide +kernel
set_option maxRecDepth 20000 in
theorem ggX2_fleetOf_X2_isInSecond : GoodIn wsX2_fleetOf wsX2_isInSecond := goodIn_r _ [5, 6, 7, 8, 9, 10, 11] (by decide +kernel) (by decide +kernel)
set_option maxRecDepth 20000 in
theorem gX2_fleetOf_X2_isInSecond : GoodIn wsX2_fleetOf (wsV RX2 18 RX2 yX2_isInSecond wsX2_isInSecond) := goodIn_app (goodIn_of _ (by decide +kernel)) ggX2_fleetOf_X2_isInSecond
theorem dX2_fleetOf_0 : decode cX2_fleetOf 0 = .ok (.aload_n 0, 1) := by decide +kernel
theorem dX2_fleetOf_1 : decode cX2_fleetOf 1 = .ok (.iload_n 1, 1) := by decide +kernel
theorem dX2_fleetOf_2 : decode cX2_fleetOf 2 = .ok (.invokevirtual 18, 3) := by decide +kernel
theorem dX2_fleetOf_5 : decode cX2_fleetOf 5 = .ok (.ifCond .eq 7, 3) := by decide +kernel
theorem dX2_fleetOf_8 : decode cX2_fleetOf 8 = .ok (.iconst 1, 1) := by decide +kernel
theorem dX2_fleetOf_9 : decode cX2_fleetOf 9 = .ok (.goto 4, 3) := by decide +kernel
theorem dX2_fleetOf_12 : decode cX2_fleetOf 12 = .ok (.iconst 0, 1) := by decide +kernel
theorem dX2_fleetOf_13 : decode cX2_fleetOf 13 = .ok (.ireturn, 1) := by decide +kernel
set_option maxRecDepth 20000 in
theorem ggX2_isInSecond_X8_isBoatNumber : GoodIn wsX2_isInSecond wsX8_isBoatNumber := goodIn_r _ [4] (by decide +kernel) (by decide +kernel)
set_option maxRecDepth 20000 in
theorem gX2_isInSecond_X8_isBoatNumber_n22 : GoodIn wsX2_isInSecond (wsX8_isBoatNumber) := ggX2_isInSecond_X8_isBoatNumber
theorem dX2_isInSecond_0 : decode cX2_isInSecond 0 = .ok (.iload_n 1, 1) := by decide +kernel
theorem dX2_isInSecond_1 : decode cX2_isInSecond 1 = .ok (.invokestatic 22, 3) := by decide +kernel
theorem dX2_isInSecond_4 : decode cX2_isInSecond 4 = .ok (.ifCond .eq 16, 3) := by decide +kernel
theorem dX2_isInSecond_7 : decode cX2_isInSecond 7 = .ok (.aload_n 0, 1) := by decide +kernel
theorem dX2_isInSecond_8 : decode cX2_isInSecond 8 = .ok (.getfield 9, 3) := by decide +kernel
theorem dX2_isInSecond_11 : decode cX2_isInSecond 11 = .ok (.iload_n 1, 1) := by decide +kernel
theorem dX2_isInSecond_12 : decode cX2_isInSecond 12 = .ok (.baload, 1) := by decide +kernel
theorem dX2_isInSecond_13 : decode cX2_isInSecond 13 = .ok (.ifCond .eq 7, 3) := by decide +kernel
theorem dX2_isInSecond_16 : decode cX2_isInSecond 16 = .ok (.iconst 1, 1) := by decide +kernel
theorem dX2_isInSecond_17 : decode cX2_isInSecond 17 = .ok (.goto 4, 3) := by decide +kernel
theorem dX2_isInSecond_20 : decode cX2_isInSecond 20 = .ok (.iconst 0, 1) := by decide +kernel
theorem dX2_isInSecond_21 : decode cX2_isInSecond 21 = .ok (.ireturn, 1) := by decide +kernel
set_option maxRecDepth 20000 in
theorem ggX2_partRanked_X8_isBoatNumber : GoodIn wsX2_partRanked wsX8_isBoatNumber := goodIn_r _ [8] (by decide +kernel) (by decide +kernel)
set_option maxRecDepth 20000 in
theorem gX2_partRanked_X8_isBoatNumber_n22 : GoodIn wsX2_partRanked (wsX8_isBoatNumber) := ggX2_partRanked_X8_isBoatNumber
theorem dX2_partRanked_0 : decode cX2_partRanked 0 = .ok (.iconst 0, 1) := by decide +kernel
theorem dX2_partRanked_1 : decode cX2_partRanked 1 = .ok (.istore 4, 2) := by decide +kernel
theorem dX2_partRanked_3 : decode cX2_partRanked 3 = .ok (.iload 4, 2) := by decide +kernel
theorem dX2_partRanked_5 : decode cX2_partRanked 5 = .ok (.iload_n 2, 1) := by decide +kernel
theorem dX2_partRanked_6 : decode cX2_partRanked 6 = .ok (.if_icmp .ge 46, 3) := by decide +kernel
theorem dX2_partRanked_9 : decode cX2_partRanked 9 = .ok (.iload 4, 2) := by decide +kernel
theorem dX2_partRanked_11 : decode cX2_partRanked 11 = .ok (.aload_n 1, 1) := by decide +kernel
theorem dX2_partRanked_12 : decode cX2_partRanked 12 = .ok (.arraylength, 1) := by decide +kernel
theorem dX2_partRanked_13 : decode cX2_partRanked 13 = .ok (.if_icmp .ge 39, 3) := by decide +kernel
theorem dX2_partRanked_16 : decode cX2_partRanked 16 = .ok (.aload_n 1, 1) := by decide +kernel
theorem dX2_partRanked_17 : decode cX2_partRanked 17 = .ok (.iload 4, 2) := by decide +kernel
theorem dX2_partRanked_19 : decode cX2_partRanked 19 = .ok (.iaload, 1) := by decide +kernel
theorem dX2_partRanked_20 : decode cX2_partRanked 20 = .ok (.invokestatic 22, 3) := by decide +kernel
theorem dX2_partRanked_23 : decode cX2_partRanked 23 = .ok (.ifCond .eq 23, 3) := by decide +kernel
theorem dX2_partRanked_26 : decode cX2_partRanked 26 = .ok (.aload_n 0, 1) := by decide +kernel
theorem dX2_partRanked_27 : decode cX2_partRanked 27 = .ok (.getfield 9, 3) := by decide +kernel
theorem dX2_partRanked_30 : decode cX2_partRanked 30 = .ok (.aload_n 1, 1) := by decide +kernel
theorem dX2_partRanked_31 : decode cX2_partRanked 31 = .ok (.iload 4, 2) := by decide +kernel
theorem dX2_partRanked_33 : decode cX2_partRanked 33 = .ok (.iaload, 1) := by decide +kernel
theorem dX2_partRanked_34 : decode cX2_partRanked 34 = .ok (.iload 4, 2) := by decide +kernel
theorem dX2_partRanked_36 : decode cX2_partRanked 36 = .ok (.iload_n 3, 1) := by decide +kernel
theorem dX2_partRanked_37 : decode cX2_partRanked 37 = .ok (.if_icmp .lt 7, 3) := by decide +kernel
theorem dX2_partRanked_40 : decode cX2_partRanked 40 = .ok (.iconst 1, 1) := by decide +kernel
theorem dX2_partRanked_41 : decode cX2_partRanked 41 = .ok (.goto 4, 3) := by decide +kernel
theorem dX2_partRanked_44 : decode cX2_partRanked 44 = .ok (.iconst 0, 1) := by decide +kernel
theorem dX2_partRanked_45 : decode cX2_partRanked 45 = .ok (.bastore, 1) := by decide +kernel
theorem dX2_partRanked_46 : decode cX2_partRanked 46 = .ok (.iinc 4 1, 3) := by decide +kernel
theorem dX2_partRanked_49 : decode cX2_partRanked 49 = .ok (.goto (-46), 3) := by decide +kernel
theorem dX2_partRanked_52 : decode cX2_partRanked 52 = .ok (.iload_n 3, 1) := by decide +kernel
theorem dX2_partRanked_53 : decode cX2_partRanked 53 = .ok (.iload_n 2, 1) := by decide +kernel
theorem dX2_partRanked_54 : decode cX2_partRanked 54 = .ok (.invokestatic 25, 3) := by decide +kernel
theorem dX2_partRanked_57 : decode cX2_partRanked 57 = .ok (.ireturn, 1) := by decide +kernel
set_option maxRecDepth 20000 in
theorem ggX2_promoteRanked_X2_inSecond : GoodIn wsX2_promoteRanked wsX2_inSecond := goodIn_r _ [11, 12, 13, 14, 10, 15, 16, 17, 18, 19, 5, 20, 21, 22, 35, 36] (by decide +kernel) (by decide +kernel)
set_option maxRecDepth 20000 in
theorem gX2_promoteRanked_X2_inSecond : GoodIn wsX2_promoteRanked (wsV RX2 31 RX2 yX2_inSecond wsX2_inSecond) := goodIn_app (goodIn_of _ (by decide +kernel)) ggX2_promoteRanked_X2_inSecond
set_option maxRecDepth 20000 in
theorem ggX2_promoteRanked_X2_chooseFirst : GoodIn wsX2_promoteRanked wsX2_chooseFirst := goodIn_r _ [26, 16, 17, 18, 10, 19, 5, 20, 21, 22, 27, 28, 29, 30, 6, 35, 36] (by decide +kernel) (by decide +kernel)
set_option maxRecDepth 20000 in
theorem gX2_promoteRanked_X2_chooseFirst : GoodIn wsX2_promoteRanked (wsV RX2 35 RX2 yX2_chooseFirst wsX2_chooseFirst) := goodIn_app (goodIn_of _ (by decide +kernel)) ggX2_promoteRanked_X2_chooseFirst
set_option maxRecDepth 20000 in
theorem ggX2_promoteRanked_X2_chooseLast : GoodIn wsX2_promoteRanked wsX2_chooseLast := goodIn_r _ [34, 1, 2, 3, 4, 16, 17, 18, 10, 19, 5, 20, 21, 22, 27, 28, 29, 30, 6, 35, 36] (by decide +kernel) (by decide +kernel)
set_option maxRecDepth 20000 in
theorem gX2_promoteRanked_X2_chooseLast : GoodIn wsX2_promoteRanked (wsV RX2 39 RX2 yX2_chooseLast wsX2_chooseLast) := goodIn_app (goodIn_of _ (by decide +kernel)) ggX2_promoteRanked_X2_chooseLast
theorem dX2_promoteRanked_0 : decode cX2_promoteRanked 0 = .ok (.aload_n 0, 1) := by decide +kernel
theorem dX2_promoteRanked_1 : decode cX2_promoteRanked 1 = .ok (.iload_n 2, 1) := by decide +kernel
theorem dX2_promoteRanked_2 : decode cX2_promoteRanked 2 = .ok (.invokevirtual 31, 3) := by decide +kernel
theorem dX2_promoteRanked_5 : decode cX2_promoteRanked 5 = .ok (.istore 4, 2) := by decide +kernel
theorem dX2_promoteRanked_7 : decode cX2_promoteRanked 7 = .ok (.iload_n 3, 1) := by decide +kernel
theorem dX2_promoteRanked_8 : decode cX2_promoteRanked 8 = .ok (.iload 4, 2) := by decide +kernel
theorem dX2_promoteRanked_10 : decode cX2_promoteRanked 10 = .ok (.iload_n 2, 1) := by decide +kernel
theorem dX2_promoteRanked_11 : decode cX2_promoteRanked 11 = .ok (.iload 4, 2) := by decide +kernel
theorem dX2_promoteRanked_13 : decode cX2_promoteRanked 13 = .ok (.isub, 1) := by decide +kernel
theorem dX2_promoteRanked_14 : decode cX2_promoteRanked 14 = .ok (.invokestatic 25, 3) := by decide +kernel
theorem dX2_promoteRanked_17 : decode cX2_promoteRanked 17 = .ok (.invokestatic 25, 3) := by decide +kernel
theorem dX2_promoteRanked_20 : decode cX2_promoteRanked 20 = .ok (.istore 5, 2) := by decide +kernel
theorem dX2_promoteRanked_22 : decode cX2_promoteRanked 22 = .ok (.aload_n 0, 1) := by decide +kernel
theorem dX2_promoteRanked_23 : decode cX2_promoteRanked 23 = .ok (.aload_n 1, 1) := by decide +kernel
theorem dX2_promoteRanked_24 : decode cX2_promoteRanked 24 = .ok (.iload_n 2, 1) := by decide +kernel
theorem dX2_promoteRanked_25 : decode cX2_promoteRanked 25 = .ok (.iload 5, 2) := by decide +kernel
theorem dX2_promoteRanked_27 : decode cX2_promoteRanked 27 = .ok (.invokevirtual 35, 3) := by decide +kernel
theorem dX2_promoteRanked_30 : decode cX2_promoteRanked 30 = .ok (.aload_n 0, 1) := by decide +kernel
theorem dX2_promoteRanked_31 : decode cX2_promoteRanked 31 = .ok (.aload_n 1, 1) := by decide +kernel
theorem dX2_promoteRanked_32 : decode cX2_promoteRanked 32 = .ok (.iload_n 2, 1) := by decide +kernel
theorem dX2_promoteRanked_33 : decode cX2_promoteRanked 33 = .ok (.iload 5, 2) := by decide +kernel
theorem dX2_promoteRanked_35 : decode cX2_promoteRanked 35 = .ok (.invokevirtual 39, 3) := by decide +kernel
theorem dX2_promoteRanked_38 : decode cX2_promoteRanked 38 = .ok (.iconst 0, 1) := by decide +kernel
theorem dX2_promoteRanked_39 : decode cX2_promoteRanked 39 = .ok (.istore 6, 2) := by decide +kernel
theorem dX2_promoteRanked_41 : decode cX2_promoteRanked 41 = .ok (.iload 6, 2) := by decide +kernel
theorem dX2_promoteRanked_43 : decode cX2_promoteRanked 43 = .ok (.bipush 16, 2) := by decide +kernel
theorem dX2_promoteRanked_45 : decode cX2_promoteRanked 45 = .ok (.if_icmp .ge 46, 3) := by decide +kernel
theorem dX2_promoteRanked_48 : decode cX2_promoteRanked 48 = .ok (.aload_n 0, 1) := by decide +kernel
theorem dX2_promoteRanked_49 : decode cX2_promoteRanked 49 = .ok (.getfield 9, 3) := by decide +kernel
theorem dX2_promoteRanked_52 : decode cX2_promoteRanked 52 = .ok (.iload 6, 2) := by decide +kernel
theorem dX2_promoteRanked_54 : decode cX2_promoteRanked 54 = .ok (.aload_n 0, 1) := by decide +kernel
theorem dX2_promoteRanked_55 : decode cX2_promoteRanked 55 = .ok (.getfield 9, 3) := by decide +kernel
theorem dX2_promoteRanked_58 : decode cX2_promoteRanked 58 = .ok (.iload 6, 2) := by decide +kernel
theorem dX2_promoteRanked_60 : decode cX2_promoteRanked 60 = .ok (.baload, 1) := by decide +kernel
theorem dX2_promoteRanked_61 : decode cX2_promoteRanked 61 = .ok (.aload_n 0, 1) := by decide +kernel
theorem dX2_promoteRanked_62 : decode cX2_promoteRanked 62 = .ok (.getfield 15, 3) := by decide +kernel
theorem dX2_promoteRanked_65 : decode cX2_promoteRanked 65 = .ok (.iload 6, 2) := by decide +kernel
theorem dX2_promoteRanked_67 : decode cX2_promoteRanked 67 = .ok (.baload, 1) := by decide +kernel
theorem dX2_promoteRanked_68 : decode cX2_promoteRanked 68 = .ok (.if_icmp .eq 7, 3) := by decide +kernel
theorem dX2_promoteRanked_71 : decode cX2_promoteRanked 71 = .ok (.iconst 1, 1) := by decide +kernel
theorem dX2_promoteRanked_72 : decode cX2_promoteRanked 72 = .ok (.goto 4, 3) := by decide +kernel
theorem dX2_promoteRanked_75 : decode cX2_promoteRanked 75 = .ok (.iconst 0, 1) := by decide +kernel
theorem dX2_promoteRanked_76 : decode cX2_promoteRanked 76 = .ok (.bastore, 1) := by decide +kernel
theorem dX2_promoteRanked_77 : decode cX2_promoteRanked 77 = .ok (.aload_n 0, 1) := by decide +kernel
theorem dX2_promoteRanked_78 : decode cX2_promoteRanked 78 = .ok (.getfield 15, 3) := by decide +kernel
theorem dX2_promoteRanked_81 : decode cX2_promoteRanked 81 = .ok (.iload 6, 2) := by decide +kernel
theorem dX2_promoteRanked_83 : decode cX2_promoteRanked 83 = .ok (.iconst 0, 1) := by decide +kernel
theorem dX2_promoteRanked_84 : decode cX2_promoteRanked 84 = .ok (.bastore, 1) := by decide +kernel
theorem dX2_promoteRanked_85 : decode cX2_promoteRanked 85 = .ok (.iinc 6 1, 3) := by decide +kernel
theorem dX2_promoteRanked_88 : decode cX2_promoteRanked 88 = .ok (.goto (-47), 3) := by decide +kernel
theorem dX2_promoteRanked_91 : decode cX2_promoteRanked 91 = .ok (.iload 5, 2) := by decide +kernel
theorem dX2_promoteRanked_93 : decode cX2_promoteRanked 93 = .ok (.ireturn, 1) := by decide +kernel
set_option maxRecDepth 20000 in
theorem ggX2_inSecond_X2_fleetOf : GoodIn wsX2_inSecond wsX2_fleetOf := goodIn_r _ [5, 6, 7, 8, 4, 9, 10, 11, 12, 13, 14, 15] (by decide +kernel) (by decide +kernel)
set_option maxRecDepth 20000 in
theorem gX2_inSecond_X2_fleetOf : GoodIn wsX2_inSecond (wsV RX2 42 RX2 yX2_fleetOf wsX2_fleetOf) := goodIn_app (goodIn_of _ (by decide +kernel)) ggX2_inSecond_X2_fleetOf
theorem dX2_inSecond_0 : decode cX2_inSecond 0 = .ok (.iconst 0, 1) := by decide +kernel
theorem dX2_inSecond_1 : decode cX2_inSecond 1 = .ok (.istore_n 2, 1) := by decide +kernel
theorem dX2_inSecond_2 : decode cX2_inSecond 2 = .ok (.iconst 0, 1) := by decide +kernel
theorem dX2_inSecond_3 : decode cX2_inSecond 3 = .ok (.istore_n 3, 1) := by decide +kernel
theorem dX2_inSecond_4 : decode cX2_inSecond 4 = .ok (.iload_n 3, 1) := by decide +kernel
theorem dX2_inSecond_5 : decode cX2_inSecond 5 = .ok (.iload_n 1, 1) := by decide +kernel
theorem dX2_inSecond_6 : decode cX2_inSecond 6 = .ok (.if_icmp .ge 17, 3) := by decide +kernel
theorem dX2_inSecond_9 : decode cX2_inSecond 9 = .ok (.iload_n 2, 1) := by decide +kernel
theorem dX2_inSecond_10 : decode cX2_inSecond 10 = .ok (.aload_n 0, 1) := by decide +kernel
theorem dX2_inSecond_11 : decode cX2_inSecond 11 = .ok (.iload_n 3, 1) := by decide +kernel
theorem dX2_inSecond_12 : decode cX2_inSecond 12 = .ok (.invokevirtual 42, 3) := by decide +kernel
theorem dX2_inSecond_15 : decode cX2_inSecond 15 = .ok (.iadd, 1) := by decide +kernel
theorem dX2_inSecond_16 : decode cX2_inSecond 16 = .ok (.istore_n 2, 1) := by decide +kernel
theorem dX2_inSecond_17 : decode cX2_inSecond 17 = .ok (.iinc 3 1, 3) := by decide +kernel
theorem dX2_inSecond_20 : decode cX2_inSecond 20 = .ok (.goto (-16), 3) := by decide +kernel
theorem dX2_inSecond_23 : decode cX2_inSecond 23 = .ok (.iload_n 2, 1) := by decide +kernel
theorem dX2_inSecond_24 : decode cX2_inSecond 24 = .ok (.ireturn, 1) := by decide +kernel
set_option maxRecDepth 20000 in
theorem ggX2_chooseFirst_X2_isInSecond : GoodIn wsX2_chooseFirst wsX2_isInSecond := goodIn_r _ [5, 6, 7, 8, 9, 15, 16] (by decide +kernel) (by decide +kernel)
set_option maxRecDepth 20000 in
theorem gX2_chooseFirst_X2_isInSecond : GoodIn wsX2_chooseFirst (wsV RX2 18 RX2 yX2_isInSecond wsX2_isInSecond) := goodIn_app (goodIn_of _ (by decide +kernel)) ggX2_chooseFirst_X2_isInSecond
set_option maxRecDepth 20000 in
theorem ggX2_chooseFirst_X2_choose : GoodIn wsX2_chooseFirst wsX2_choose := goodIn_r _ [13, 14, 7, 8, 9, 15, 16] (by decide +kernel) (by decide +kernel)
set_option maxRecDepth 20000 in
theorem gX2_chooseFirst_X2_choose : GoodIn wsX2_chooseFirst (wsV RX2 45 RX2 yX2_choose wsX2_choose) := goodIn_app (goodIn_of _ (by decide +kernel)) ggX2_chooseFirst_X2_choose
theorem dX2_chooseFirst_0 : decode cX2_chooseFirst 0 = .ok (.iload_n 3, 1) := by decide +kernel
theorem dX2_chooseFirst_1 : decode cX2_chooseFirst 1 = .ok (.istore 4, 2) := by decide +kernel
theorem dX2_chooseFirst_3 : decode cX2_chooseFirst 3 = .ok (.iconst 0, 1) := by decide +kernel
theorem dX2_chooseFirst_4 : decode cX2_chooseFirst 4 = .ok (.istore 5, 2) := by decide +kernel
theorem dX2_chooseFirst_6 : decode cX2_chooseFirst 6 = .ok (.iload 5, 2) := by decide +kernel
theorem dX2_chooseFirst_8 : decode cX2_chooseFirst 8 = .ok (.iload_n 2, 1) := by decide +kernel
theorem dX2_chooseFirst_9 : decode cX2_chooseFirst 9 = .ok (.if_icmp .ge 43, 3) := by decide +kernel
theorem dX2_chooseFirst_12 : decode cX2_chooseFirst 12 = .ok (.iload 5, 2) := by decide +kernel
theorem dX2_chooseFirst_14 : decode cX2_chooseFirst 14 = .ok (.aload_n 1, 1) := by decide +kernel
theorem dX2_chooseFirst_15 : decode cX2_chooseFirst 15 = .ok (.arraylength, 1) := by decide +kernel
theorem dX2_chooseFirst_16 : decode cX2_chooseFirst 16 = .ok (.if_icmp .ge 36, 3) := by decide +kernel
theorem dX2_chooseFirst_19 : decode cX2_chooseFirst 19 = .ok (.iload 4, 2) := by decide +kernel
theorem dX2_chooseFirst_21 : decode cX2_chooseFirst 21 = .ok (.ifCond .le 31, 3) := by decide +kernel
theorem dX2_chooseFirst_24 : decode cX2_chooseFirst 24 = .ok (.aload_n 0, 1) := by decide +kernel
theorem dX2_chooseFirst_25 : decode cX2_chooseFirst 25 = .ok (.aload_n 1, 1) := by decide +kernel
theorem dX2_chooseFirst_26 : decode cX2_chooseFirst 26 = .ok (.iload 5, 2) := by decide +kernel
theorem dX2_chooseFirst_28 : decode cX2_chooseFirst 28 = .ok (.iaload, 1) := by decide +kernel
theorem dX2_chooseFirst_29 : decode cX2_chooseFirst 29 = .ok (.invokevirtual 18, 3) := by decide +kernel
theorem dX2_chooseFirst_32 : decode cX2_chooseFirst 32 = .ok (.ifCond .eq 14, 3) := by decide +kernel
theorem dX2_chooseFirst_35 : decode cX2_chooseFirst 35 = .ok (.aload_n 0, 1) := by decide +kernel
theorem dX2_chooseFirst_36 : decode cX2_chooseFirst 36 = .ok (.aload_n 1, 1) := by decide +kernel
theorem dX2_chooseFirst_37 : decode cX2_chooseFirst 37 = .ok (.iload 5, 2) := by decide +kernel
theorem dX2_chooseFirst_39 : decode cX2_chooseFirst 39 = .ok (.iaload, 1) := by decide +kernel
theorem dX2_chooseFirst_40 : decode cX2_chooseFirst 40 = .ok (.invokevirtual 45, 3) := by decide +kernel
theorem dX2_chooseFirst_43 : decode cX2_chooseFirst 43 = .ok (.iinc 4 (-1), 3) := by decide +kernel
theorem dX2_chooseFirst_46 : decode cX2_chooseFirst 46 = .ok (.iinc 5 1, 3) := by decide +kernel
theorem dX2_chooseFirst_49 : decode cX2_chooseFirst 49 = .ok (.goto (-43), 3) := by decide +kernel
theorem dX2_chooseFirst_52 : decode cX2_chooseFirst 52 = .ok (.return_, 1) := by decide +kernel
set_option maxRecDepth 20000 in
theorem ggX2_chooseLast_X2_isInSecond : GoodIn wsX2_chooseLast wsX2_isInSecond := goodIn_r _ [9, 10, 11, 12, 13, 19, 20] (by decide +kernel) (by decide +kernel)
set_option maxRecDepth 20000 in
theorem gX2_chooseLast_X2_isInSecond : GoodIn wsX2_chooseLast (wsV RX2 18 RX2 yX2_isInSecond wsX2_isInSecond) := goodIn_app (goodIn_of _ (by decide +kernel)) ggX2_chooseLast_X2_isInSecond
set_option maxRecDepth 20000 in
theorem ggX2_chooseLast_X2_choose : GoodIn wsX2_chooseLast wsX2_choose := goodIn_r _ [17, 18, 11, 12, 13, 19, 20] (by decide +kernel) (by decide +kernel)
set_option maxRecDepth 20000 in
theorem gX2_chooseLast_X2_choose : GoodIn wsX2_chooseLast (wsV RX2 45 RX2 yX2_choose wsX2_choose) := goodIn_app (goodIn_of _ (by decide +kernel)) ggX2_chooseLast_X2_choose
theorem dX2_chooseLast_0 : decode cX2_chooseLast 0 = .ok (.iload_n 3, 1) := by decide +kernel
theorem dX2_chooseLast_1 : decode cX2_chooseLast 1 = .ok (.istore 4, 2) := by decide +kernel
theorem dX2_chooseLast_3 : decode cX2_chooseLast 3 = .ok (.iload_n 2, 1) := by decide +kernel
theorem dX2_chooseLast_4 : decode cX2_chooseLast 4 = .ok (.aload_n 1, 1) := by decide +kernel
theorem dX2_chooseLast_5 : decode cX2_chooseLast 5 = .ok (.arraylength, 1) := by decide +kernel
theorem dX2_chooseLast_6 : decode cX2_chooseLast 6 = .ok (.invokestatic 25, 3) := by decide +kernel
theorem dX2_chooseLast_9 : decode cX2_chooseLast 9 = .ok (.iconst 1, 1) := by decide +kernel
theorem dX2_chooseLast_10 : decode cX2_chooseLast 10 = .ok (.isub, 1) := by decide +kernel
theorem dX2_chooseLast_11 : decode cX2_chooseLast 11 = .ok (.istore 5, 2) := by decide +kernel
theorem dX2_chooseLast_13 : decode cX2_chooseLast 13 = .ok (.iload 5, 2) := by decide +kernel
theorem dX2_chooseLast_15 : decode cX2_chooseLast 15 = .ok (.ifCond .lt 36, 3) := by decide +kernel
theorem dX2_chooseLast_18 : decode cX2_chooseLast 18 = .ok (.iload 4, 2) := by decide +kernel
theorem dX2_chooseLast_20 : decode cX2_chooseLast 20 = .ok (.ifCond .le 31, 3) := by decide +kernel
theorem dX2_chooseLast_23 : decode cX2_chooseLast 23 = .ok (.aload_n 0, 1) := by decide +kernel
theorem dX2_chooseLast_24 : decode cX2_chooseLast 24 = .ok (.aload_n 1, 1) := by decide +kernel
theorem dX2_chooseLast_25 : decode cX2_chooseLast 25 = .ok (.iload 5, 2) := by decide +kernel
theorem dX2_chooseLast_27 : decode cX2_chooseLast 27 = .ok (.iaload, 1) := by decide +kernel
theorem dX2_chooseLast_28 : decode cX2_chooseLast 28 = .ok (.invokevirtual 18, 3) := by decide +kernel
theorem dX2_chooseLast_31 : decode cX2_chooseLast 31 = .ok (.ifCond .ne 14, 3) := by decide +kernel
theorem dX2_chooseLast_34 : decode cX2_chooseLast 34 = .ok (.aload_n 0, 1) := by decide +kernel
theorem dX2_chooseLast_35 : decode cX2_chooseLast 35 = .ok (.aload_n 1, 1) := by decide +kernel
theorem dX2_chooseLast_36 : decode cX2_chooseLast 36 = .ok (.iload 5, 2) := by decide +kernel
theorem dX2_chooseLast_38 : decode cX2_chooseLast 38 = .ok (.iaload, 1) := by decide +kernel
theorem dX2_chooseLast_39 : decode cX2_chooseLast 39 = .ok (.invokevirtual 45, 3) := by decide +kernel
theorem dX2_chooseLast_42 : decode cX2_chooseLast 42 = .ok (.iinc 4 (-1), 3) := by decide +kernel
theorem dX2_chooseLast_45 : decode cX2_chooseLast 45 = .ok (.iinc 5 (-1), 3) := by decide +kernel
theorem dX2_chooseLast_48 : decode cX2_chooseLast 48 = .ok (.goto (-35), 3) := by decide +kernel
theorem dX2_chooseLast_51 : decode cX2_chooseLast 51 = .ok (.return_, 1) := by decide +kernel
set_option maxRecDepth 20000 in
theorem ggX2_choose_X8_isBoatNumber : GoodIn wsX2_choose wsX8_isBoatNumber := goodIn_r _ [4] (by decide +kernel) (by decide +kernel)
set_option maxRecDepth 20000 in
theorem gX2_choose_X8_isBoatNumber_n22 : GoodIn wsX2_choose (wsX8_isBoatNumber) := ggX2_choose_X8_isBoatNumber
theorem dX2_choose_0 : decode cX2_choose 0 = .ok (.iload_n 1, 1) := by decide +kernel
theorem dX2_choose_1 : decode cX2_choose 1 = .ok (.invokestatic 22, 3) := by decide +kernel
theorem dX2_choose_4 : decode cX2_choose 4 = .ok (.ifCond .eq 10, 3) := by decide +kernel
theorem dX2_choose_7 : decode cX2_choose 7 = .ok (.aload_n 0, 1) := by decide +kernel
theorem dX2_choose_8 : decode cX2_choose 8 = .ok (.getfield 15, 3) := by decide +kernel
theorem dX2_choose_11 : decode cX2_choose 11 = .ok (.iload_n 1, 1) := by decide +kernel
theorem dX2_choose_12 : decode cX2_choose 12 = .ok (.iconst 1, 1) := by decide +kernel
theorem dX2_choose_13 : decode cX2_choose 13 = .ok (.bastore, 1) := by decide +kernel
theorem dX2_choose_14 : decode cX2_choose 14 = .ok (.return_, 1) := by decide +kernel
theorem dX3_init_0 : decode cX3_init 0 = .ok (.aload_n 0, 1) := by decide +kernel
theorem dX3_init_1 : decode cX3_init 1 = .ok (.invokespecial 3, 3) := by decide +kernel
theorem dX3_init_4 : decode cX3_init 4 = .ok (.aload_n 0, 1) := by decide +kernel
theorem dX3_init_5 : decode cX3_init 5 = .ok (.sipush 144, 3) := by decide +kernel
theorem dX3_init_8 : decode cX3_init 8 = .ok (.newarray .int, 2) := by decide +kernel
theorem dX3_init_10 : decode cX3_init 10 = .ok (.putfield 9, 3) := by decide +kernel
theorem dX3_init_13 : decode cX3_init 13 = .ok (.aload_n 0, 1) := by decide +kernel
theorem dX3_init_14 : decode cX3_init 14 = .ok (.sipush 144, 3) := by decide +kernel
theorem dX3_init_17 : decode cX3_init 17 = .ok (.newarray .int, 2) := by decide +kernel
theorem dX3_init_19 : decode cX3_init 19 = .ok (.putfield 15, 3) := by decide +kernel
theorem dX3_init_22 : decode cX3_init 22 = .ok (.aload_n 0, 1) := by decide +kernel
theorem dX3_init_23 : decode cX3_init 23 = .ok (.sipush 144, 3) := by decide +kernel
theorem dX3_init_26 : decode cX3_init 26 = .ok (.newarray .boolean, 2) := by decide +kernel
theorem dX3_init_28 : decode cX3_init 28 = .ok (.putfield 18, 3) := by decide +kernel
theorem dX3_init_31 : decode cX3_init 31 = .ok (.iconst 0, 1) := by decide +kernel
theorem dX3_init_32 : decode cX3_init 32 = .ok (.istore_n 1, 1) := by decide +kernel
theorem dX3_init_33 : decode cX3_init 33 = .ok (.iload_n 1, 1) := by decide +kernel
theorem dX3_init_34 : decode cX3_init 34 = .ok (.sipush 144, 3) := by decide +kernel
theorem dX3_init_37 : decode cX3_init 37 = .ok (.if_icmp .ge 18, 3) := by decide +kernel
theorem dX3_init_40 : decode cX3_init 40 = .ok (.aload_n 0, 1) := by decide +kernel
theorem dX3_init_41 : decode cX3_init 41 = .ok (.getfield 15, 3) := by decide +kernel
theorem dX3_init_44 : decode cX3_init 44 = .ok (.iload_n 1, 1) := by decide +kernel
theorem dX3_init_45 : decode cX3_init 45 = .ok (.sipush 5000, 3) := by decide +kernel
theorem dX3_init_48 : decode cX3_init 48 = .ok (.iastore, 1) := by decide +kernel
theorem dX3_init_49 : decode cX3_init 49 = .ok (.iinc 1 1, 3) := by decide +kernel
theorem dX3_init_52 : decode cX3_init 52 = .ok (.goto (-19), 3) := by decide +kernel
theorem dX3_init_55 : decode cX3_init 55 = .ok (.return_, 1) := by decide +kernel
theorem dX3_lowOf_0 : decode cX3_lowOf 0 = .ok (.aload_n 0, 1) := by decide +kernel
theorem dX3_lowOf_1 : decode cX3_lowOf 1 = .ok (.getfield 9, 3) := by decide +kernel
theorem dX3_lowOf_4 : decode cX3_lowOf 4 = .ok (.iload_n 1, 1) := by decide +kernel
theorem dX3_lowOf_5 : decode cX3_lowOf 5 = .ok (.iaload, 1) := by decide +kernel
theorem dX3_lowOf_6 : decode cX3_lowOf 6 = .ok (.ireturn, 1) := by decide +kernel
theorem dX3_highOf_0 : decode cX3_highOf 0 = .ok (.aload_n 0, 1) := by decide +kernel
theorem dX3_highOf_1 : decode cX3_highOf 1 = .ok (.getfield 15, 3) := by decide +kernel
theorem dX3_highOf_4 : decode cX3_highOf 4 = .ok (.iload_n 1, 1) := by decide +kernel
theorem dX3_highOf_5 : decode cX3_highOf 5 = .ok (.iaload, 1) := by decide +kernel
theorem dX3_highOf_6 : decode cX3_highOf 6 = .ok (.ireturn, 1) := by decide +kernel
set_option maxRecDepth 20000 in
theorem ggX3_setBounds_X3_within : GoodIn wsX3_setBounds wsX3_within := goodIn_r _ [6, 7, 8, 9, 10, 11, 12, 13] (by decide +kernel) (by decide +kernel)
set_option maxRecDepth 20000 in
theorem gX3_setBounds_X3_within : GoodIn wsX3_setBounds (va_wsS RX3 22 yX3_within wsX3_within) := goodIn_app (goodIn_of _ (by decide +kernel)) ggX3_setBounds_X3_within
theorem dX3_setBounds_0 : decode cX3_setBounds 0 = .ok (.aload_n 0, 1) := by decide +kernel
theorem dX3_setBounds_1 : decode cX3_setBounds 1 = .ok (.getfield 9, 3) := by decide +kernel
theorem dX3_setBounds_4 : decode cX3_setBounds 4 = .ok (.iload_n 1, 1) := by decide +kernel
theorem dX3_setBounds_5 : decode cX3_setBounds 5 = .ok (.iload_n 2, 1) := by decide +kernel
theorem dX3_setBounds_6 : decode cX3_setBounds 6 = .ok (.iload_n 3, 1) := by decide +kernel
theorem dX3_setBounds_7 : decode cX3_setBounds 7 = .ok (.isub, 1) := by decide +kernel
theorem dX3_setBounds_8 : decode cX3_setBounds 8 = .ok (.invokestatic 22, 3) := by decide +kernel
theorem dX3_setBounds_11 : decode cX3_setBounds 11 = .ok (.iastore, 1) := by decide +kernel
theorem dX3_setBounds_12 : decode cX3_setBounds 12 = .ok (.aload_n 0, 1) := by decide +kernel
theorem dX3_setBounds_13 : decode cX3_setBounds 13 = .ok (.getfield 15, 3) := by decide +kernel
theorem dX3_setBounds_16 : decode cX3_setBounds 16 = .ok (.iload_n 1, 1) := by decide +kernel
theorem dX3_setBounds_17 : decode cX3_setBounds 17 = .ok (.iload_n 2, 1) := by decide +kernel
theorem dX3_setBounds_18 : decode cX3_setBounds 18 = .ok (.iload_n 3, 1) := by decide +kernel
theorem dX3_setBounds_19 : decode cX3_setBounds 19 = .ok (.iadd, 1) := by decide +kernel
theorem dX3_setBounds_20 : decode cX3_setBounds 20 = .ok (.invokestatic 22, 3) := by decide +kernel
theorem dX3_setBounds_23 : decode cX3_setBounds 23 = .ok (.iastore, 1) := by decide +kernel
theorem dX3_setBounds_24 : decode cX3_setBounds 24 = .ok (.aload_n 0, 1) := by decide +kernel
theorem dX3_setBounds_25 : decode cX3_setBounds 25 = .ok (.getfield 9, 3) := by decide +kernel
theorem dX3_setBounds_28 : decode cX3_setBounds 28 = .ok (.iload_n 1, 1) := by decide +kernel
theorem dX3_setBounds_29 : decode cX3_setBounds 29 = .ok (.iaload, 1) := by decide +kernel
theorem dX3_setBounds_30 : decode cX3_setBounds 30 = .ok (.ireturn, 1) := by decide +kernel
theorem dX3_setCracked_0 : decode cX3_setCracked 0 = .ok (.aload_n 0, 1) := by decide +kernel
theorem dX3_setCracked_1 : decode cX3_setCracked 1 = .ok (.getfield 18, 3) := by decide +kernel
theorem dX3_setCracked_4 : decode cX3_setCracked 4 = .ok (.iload_n 1, 1) := by decide +kernel
theorem dX3_setCracked_5 : decode cX3_setCracked 5 = .ok (.baload, 1) := by decide +kernel
theorem dX3_setCracked_6 : decode cX3_setCracked 6 = .ok (.istore_n 3, 1) := by decide +kernel
theorem dX3_setCracked_7 : decode cX3_setCracked 7 = .ok (.aload_n 0, 1) := by decide +kernel
theorem dX3_setCracked_8 : decode cX3_setCracked 8 = .ok (.getfield 18, 3) := by decide +kernel
theorem dX3_setCracked_11 : decode cX3_setCracked 11 = .ok (.iload_n 1, 1) := by decide +kernel
theorem dX3_setCracked_12 : decode cX3_setCracked 12 = .ok (.iload_n 2, 1) := by decide +kernel
theorem dX3_setCracked_13 : decode cX3_setCracked 13 = .ok (.bastore, 1) := by decide +kernel
