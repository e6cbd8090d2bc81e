theorem dX6_dropsAfter_5 : decode cX6_dropsAfter 5 = .ok (.if_icmp .lt 14, 3) := by decide +kernel
theorem dX6_dropsAfter_8 : decode cX6_dropsAfter 8 = .ok (.aload_n 0, 1) := by decide +kernel
theorem dX6_dropsAfter_9 : decode cX6_dropsAfter 9 = .ok (.getfield 18, 3) := by decide +kernel
theorem dX6_dropsAfter_12 : decode cX6_dropsAfter 12 = .ok (.iload_n 1, 1) := by decide +kernel
theorem dX6_dropsAfter_13 : decode cX6_dropsAfter 13 = .ok (.invokestatic 31, 3) := by decide +kernel
theorem dX6_dropsAfter_16 : decode cX6_dropsAfter 16 = .ok (.goto 4, 3) := by decide +kernel
theorem dX6_dropsAfter_19 : decode cX6_dropsAfter 19 = .ok (.iconst 0, 1) := by decide +kernel
theorem dX6_dropsAfter_20 : decode cX6_dropsAfter 20 = .ok (.ireturn, 1) := by decide +kernel
set_option maxRecDepth 20000 in
theorem ggX7_init_X6_init : GoodIn wsX7_init wsX6_init := goodIn_r _ [16, 17, 2, 3, 18, 19, 20, 21, 4, 22, 23, 31, 32, 33, 34, 35, 36] (by decide +kernel) (by decide +kernel)
set_option maxRecDepth 20000 in
theorem gX7_init_X6_init_n21 : GoodIn wsX7_init (wsX6_init) := ggX7_init_X6_init
theorem dX7_init_0 : decode cX7_init 0 = .ok (.aload_n 0, 1) := by decide +kernel
theorem dX7_init_1 : decode cX7_init 1 = .ok (.invokespecial 3, 3) := by decide +kernel
theorem dX7_init_4 : decode cX7_init 4 = .ok (.aload_n 0, 1) := by decide +kernel
theorem dX7_init_5 : decode cX7_init 5 = .ok (.sipush 200, 3) := by decide +kernel
theorem dX7_init_8 : decode cX7_init 8 = .ok (.newarray .int, 2) := by decide +kernel
theorem dX7_init_10 : decode cX7_init 10 = .ok (.putfield 11, 3) := by decide +kernel
theorem dX7_init_13 : decode cX7_init 13 = .ok (.aload_n 0, 1) := by decide +kernel
theorem dX7_init_14 : decode cX7_init 14 = .ok (.iconst 0, 1) := by decide +kernel
theorem dX7_init_15 : decode cX7_init 15 = .ok (.putfield 15, 3) := by decide +kernel
theorem dX7_init_18 : decode cX7_init 18 = .ok (.aload_n 0, 1) := by decide +kernel
theorem dX7_init_19 : decode cX7_init 19 = .ok (.new 19, 3) := by decide +kernel
theorem dX7_init_22 : decode cX7_init 22 = .ok (.dup, 1) := by decide +kernel
theorem dX7_init_23 : decode cX7_init 23 = .ok (.invokespecial 21, 3) := by decide +kernel
theorem dX7_init_26 : decode cX7_init 26 = .ok (.putfield 22, 3) := by decide +kernel
theorem dX7_init_29 : decode cX7_init 29 = .ok (.aload_n 0, 1) := by decide +kernel
theorem dX7_init_30 : decode cX7_init 30 = .ok (.iconst 0, 1) := by decide +kernel
theorem dX7_init_31 : decode cX7_init 31 = .ok (.putfield 26, 3) := by decide +kernel
theorem dX7_init_34 : decode cX7_init 34 = .ok (.aload_n 0, 1) := by decide +kernel
theorem dX7_init_35 : decode cX7_init 35 = .ok (.iconst 0, 1) := by decide +kernel
theorem dX7_init_36 : decode cX7_init 36 = .ok (.putfield 29, 3) := by decide +kernel
theorem dX7_init_39 : decode cX7_init 39 = .ok (.aload_n 0, 1) := by decide +kernel
theorem dX7_init_40 : decode cX7_init 40 = .ok (.iconst 0, 1) := by decide +kernel
theorem dX7_init_41 : decode cX7_init 41 = .ok (.putfield 32, 3) := by decide +kernel
theorem dX7_init_44 : decode cX7_init 44 = .ok (.aload_n 0, 1) := by decide +kernel
theorem dX7_init_45 : decode cX7_init 45 = .ok (.iconst (-1), 1) := by decide +kernel
theorem dX7_init_46 : decode cX7_init 46 = .ok (.putfield 35, 3) := by decide +kernel
theorem dX7_init_49 : decode cX7_init 49 = .ok (.return_, 1) := by decide +kernel
theorem dX7_hasRoom_0 : decode cX7_hasRoom 0 = .ok (.aload_n 0, 1) := by decide +kernel
theorem dX7_hasRoom_1 : decode cX7_hasRoom 1 = .ok (.getfield 15, 3) := by decide +kernel
theorem dX7_hasRoom_4 : decode cX7_hasRoom 4 = .ok (.bipush 20, 2) := by decide +kernel
theorem dX7_hasRoom_6 : decode cX7_hasRoom 6 = .ok (.iadd, 1) := by decide +kernel
theorem dX7_hasRoom_7 : decode cX7_hasRoom 7 = .ok (.sipush 200, 3) := by decide +kernel
theorem dX7_hasRoom_10 : decode cX7_hasRoom 10 = .ok (.if_icmp .gt 7, 3) := by decide +kernel
theorem dX7_hasRoom_13 : decode cX7_hasRoom 13 = .ok (.iconst 1, 1) := by decide +kernel
theorem dX7_hasRoom_14 : decode cX7_hasRoom 14 = .ok (.goto 4, 3) := by decide +kernel
theorem dX7_hasRoom_17 : decode cX7_hasRoom 17 = .ok (.iconst 0, 1) := by decide +kernel
theorem dX7_hasRoom_18 : decode cX7_hasRoom 18 = .ok (.ireturn, 1) := by decide +kernel
theorem dX7_addNumber_0 : decode cX7_addNumber 0 = .ok (.bipush 24, 2) := by decide +kernel
theorem dX7_addNumber_2 : decode cX7_addNumber 2 = .ok (.istore_n 2, 1) := by decide +kernel
theorem dX7_addNumber_3 : decode cX7_addNumber 3 = .ok (.iload_n 2, 1) := by decide +kernel
theorem dX7_addNumber_4 : decode cX7_addNumber 4 = .ok (.ifCond .lt 45, 3) := by decide +kernel
theorem dX7_addNumber_7 : decode cX7_addNumber 7 = .ok (.aload_n 0, 1) := by decide +kernel
theorem dX7_addNumber_8 : decode cX7_addNumber 8 = .ok (.getfield 15, 3) := by decide +kernel
theorem dX7_addNumber_11 : decode cX7_addNumber 11 = .ok (.sipush 200, 3) := by decide +kernel
theorem dX7_addNumber_14 : decode cX7_addNumber 14 = .ok (.if_icmp .ge 29, 3) := by decide +kernel
theorem dX7_addNumber_17 : decode cX7_addNumber 17 = .ok (.aload_n 0, 1) := by decide +kernel
theorem dX7_addNumber_18 : decode cX7_addNumber 18 = .ok (.getfield 11, 3) := by decide +kernel
theorem dX7_addNumber_21 : decode cX7_addNumber 21 = .ok (.aload_n 0, 1) := by decide +kernel
theorem dX7_addNumber_22 : decode cX7_addNumber 22 = .ok (.getfield 15, 3) := by decide +kernel
theorem dX7_addNumber_25 : decode cX7_addNumber 25 = .ok (.iload_n 1, 1) := by decide +kernel
theorem dX7_addNumber_26 : decode cX7_addNumber 26 = .ok (.iload_n 2, 1) := by decide +kernel
theorem dX7_addNumber_27 : decode cX7_addNumber 27 = .ok (.iushr, 1) := by decide +kernel
theorem dX7_addNumber_28 : decode cX7_addNumber 28 = .ok (.sipush 255, 3) := by decide +kernel
theorem dX7_addNumber_31 : decode cX7_addNumber 31 = .ok (.iand, 1) := by decide +kernel
theorem dX7_addNumber_32 : decode cX7_addNumber 32 = .ok (.iastore, 1) := by decide +kernel
theorem dX7_addNumber_33 : decode cX7_addNumber 33 = .ok (.aload_n 0, 1) := by decide +kernel
theorem dX7_addNumber_34 : decode cX7_addNumber 34 = .ok (.dup, 1) := by decide +kernel
theorem dX7_addNumber_35 : decode cX7_addNumber 35 = .ok (.getfield 15, 3) := by decide +kernel
theorem dX7_addNumber_38 : decode cX7_addNumber 38 = .ok (.iconst 1, 1) := by decide +kernel
theorem dX7_addNumber_39 : decode cX7_addNumber 39 = .ok (.iadd, 1) := by decide +kernel
theorem dX7_addNumber_40 : decode cX7_addNumber 40 = .ok (.putfield 15, 3) := by decide +kernel
theorem dX7_addNumber_43 : decode cX7_addNumber 43 = .ok (.iinc 2 (-8), 3) := by decide +kernel
theorem dX7_addNumber_46 : decode cX7_addNumber 46 = .ok (.goto (-43), 3) := by decide +kernel
theorem dX7_addNumber_49 : decode cX7_addNumber 49 = .ok (.return_, 1) := by decide +kernel
set_option maxRecDepth 20000 in
theorem ggX7_readRule_X6_forget : GoodIn wsX7_readRule wsX6_forget := goodIn_r _ [18, 19, 20, 21, 22, 23, 139, 140, 141, 142, 143, 144] (by decide +kernel) (by decide +kernel)
set_option maxRecDepth 20000 in
theorem gX7_readRule_X6_forget : GoodIn wsX7_readRule (wsV RX7 47 RX6 yX6_forget wsX6_forget) := goodIn_app (goodIn_of _ (by decide +kernel)) ggX7_readRule_X6_forget
set_option maxRecDepth 20000 in
theorem ggX7_readRule_X7_skipBlanks : GoodIn wsX7_readRule wsX7_skipBlanks := goodIn_r _ [28, 10, 9, 29, 30, 31, 27, 32, 33, 132, 133, 134, 135, 136, 137, 138] (by decide +kernel) (by decide +kernel)
set_option maxRecDepth 20000 in
theorem gX7_readRule_X7_skipBlanks : GoodIn wsX7_readRule (wsV RX7 50 RX7 yX7_skipBlanks wsX7_skipBlanks) := goodIn_app (goodIn_of _ (by decide +kernel)) ggX7_readRule_X7_skipBlanks
set_option maxRecDepth 20000 in
theorem ggX7_readRule_X7_readClause : GoodIn wsX7_readRule wsX7_readClause := goodIn_r _ [37, 13, 38, 39, 40, 27, 41, 10, 9, 24, 25, 26, 28, 29, 30, 31, 32, 33, 42, 43, 44, 45, 46, 47, 48, 49, 50, 51, 52, 53, 54, 55, 56, 57, 58, 59, 60, 61, 62, 63, 64, 65, 66, 67, 68, 69, 70, 71, 72, 73, 74, 75, 76, 77, 78, 79, 80, 81, 82, 83, 84, 85, 86, 87, 88, 89, 90, 91, 92, 93, 94, 95, 96, 97, 98, 11, 12, 99, 100, 101, 102, 103, 104, 105, 106, 2, 3, 4, 5, 107, 108, 109, 110, 111, 112, 113, 114, 115, 116, 117, 118, 119, 120, 121, 122, 123, 124, 125, 17, 126, 23, 127, 128, 129, 130, 131, 132, 133, 134, 135, 136, 137, 138, 139, 140, 141, 142, 143, 144] (by decide +kernel) (by decide +kernel)
set_option maxRecDepth 20000 in
theorem gX7_readRule_X7_readClause : GoodIn wsX7_readRule (wsV RX7 53 RX7 yX7_readClause wsX7_readClause) := goodIn_app (goodIn_of _ (by decide +kernel)) ggX7_readRule_X7_readClause
theorem dX7_readRule_0 : decode cX7_readRule 0 = .ok (.aload_n 0, 1) := by decide +kernel
theorem dX7_readRule_1 : decode cX7_readRule 1 = .ok (.iconst 0, 1) := by decide +kernel
theorem dX7_readRule_2 : decode cX7_readRule 2 = .ok (.iload_n 1, 1) := by decide +kernel
theorem dX7_readRule_3 : decode cX7_readRule 3 = .ok (.aload_n 0, 1) := by decide +kernel
theorem dX7_readRule_4 : decode cX7_readRule 4 = .ok (.getfield 15, 3) := by decide +kernel
theorem dX7_readRule_7 : decode cX7_readRule 7 = .ok (.invokestatic 38, 3) := by decide +kernel
theorem dX7_readRule_10 : decode cX7_readRule 10 = .ok (.invokestatic 44, 3) := by decide +kernel
theorem dX7_readRule_13 : decode cX7_readRule 13 = .ok (.putfield 26, 3) := by decide +kernel
theorem dX7_readRule_16 : decode cX7_readRule 16 = .ok (.aload_n 0, 1) := by decide +kernel
theorem dX7_readRule_17 : decode cX7_readRule 17 = .ok (.iconst 0, 1) := by decide +kernel
theorem dX7_readRule_18 : decode cX7_readRule 18 = .ok (.putfield 29, 3) := by decide +kernel
theorem dX7_readRule_21 : decode cX7_readRule 21 = .ok (.aload_n 0, 1) := by decide +kernel
theorem dX7_readRule_22 : decode cX7_readRule 22 = .ok (.iconst 0, 1) := by decide +kernel
theorem dX7_readRule_23 : decode cX7_readRule 23 = .ok (.putfield 32, 3) := by decide +kernel
theorem dX7_readRule_26 : decode cX7_readRule 26 = .ok (.aload_n 0, 1) := by decide +kernel
theorem dX7_readRule_27 : decode cX7_readRule 27 = .ok (.iconst (-1), 1) := by decide +kernel
theorem dX7_readRule_28 : decode cX7_readRule 28 = .ok (.putfield 35, 3) := by decide +kernel
theorem dX7_readRule_31 : decode cX7_readRule 31 = .ok (.aload_n 0, 1) := by decide +kernel
theorem dX7_readRule_32 : decode cX7_readRule 32 = .ok (.getfield 22, 3) := by decide +kernel
theorem dX7_readRule_35 : decode cX7_readRule 35 = .ok (.invokevirtual 47, 3) := by decide +kernel
theorem dX7_readRule_38 : decode cX7_readRule 38 = .ok (.iconst 0, 1) := by decide +kernel
theorem dX7_readRule_39 : decode cX7_readRule 39 = .ok (.istore_n 2, 1) := by decide +kernel
theorem dX7_readRule_40 : decode cX7_readRule 40 = .ok (.iload_n 2, 1) := by decide +kernel
theorem dX7_readRule_41 : decode cX7_readRule 41 = .ok (.bipush 10, 2) := by decide +kernel
theorem dX7_readRule_43 : decode cX7_readRule 43 = .ok (.if_icmp .gt 36, 3) := by decide +kernel
theorem dX7_readRule_46 : decode cX7_readRule 46 = .ok (.aload_n 0, 1) := by decide +kernel
theorem dX7_readRule_47 : decode cX7_readRule 47 = .ok (.invokevirtual 50, 3) := by decide +kernel
theorem dX7_readRule_50 : decode cX7_readRule 50 = .ok (.aload_n 0, 1) := by decide +kernel
theorem dX7_readRule_51 : decode cX7_readRule 51 = .ok (.getfield 29, 3) := by decide +kernel
theorem dX7_readRule_54 : decode cX7_readRule 54 = .ok (.aload_n 0, 1) := by decide +kernel
theorem dX7_readRule_55 : decode cX7_readRule 55 = .ok (.getfield 26, 3) := by decide +kernel
theorem dX7_readRule_58 : decode cX7_readRule 58 = .ok (.if_icmp .ge 10, 3) := by decide +kernel
theorem dX7_readRule_61 : decode cX7_readRule 61 = .ok (.aload_n 0, 1) := by decide +kernel
theorem dX7_readRule_62 : decode cX7_readRule 62 = .ok (.invokevirtual 53, 3) := by decide +kernel
theorem dX7_readRule_65 : decode cX7_readRule 65 = .ok (.ifCond .ne 8, 3) := by decide +kernel
theorem dX7_readRule_68 : decode cX7_readRule 68 = .ok (.aload_n 0, 1) := by decide +kernel
theorem dX7_readRule_69 : decode cX7_readRule 69 = .ok (.getfield 32, 3) := by decide +kernel
theorem dX7_readRule_72 : decode cX7_readRule 72 = .ok (.ireturn, 1) := by decide +kernel
theorem dX7_readRule_73 : decode cX7_readRule 73 = .ok (.iinc 2 1, 3) := by decide +kernel
theorem dX7_readRule_76 : decode cX7_readRule 76 = .ok (.goto (-36), 3) := by decide +kernel
theorem dX7_readRule_79 : decode cX7_readRule 79 = .ok (.aload_n 0, 1) := by decide +kernel
theorem dX7_readRule_80 : decode cX7_readRule 80 = .ok (.getfield 32, 3) := by decide +kernel
theorem dX7_readRule_83 : decode cX7_readRule 83 = .ok (.ireturn, 1) := by decide +kernel
set_option maxRecDepth 20000 in
theorem ggX7_readClause_X7_readWord : GoodIn wsX7_readClause wsX7_readWord := goodIn_r _ [6, 7, 8, 9, 10, 11, 5, 12, 13, 14, 15, 16, 17, 116, 117, 118, 119, 120, 121, 122] (by decide +kernel) (by decide +kernel)
set_option maxRecDepth 20000 in
theorem gX7_readClause_X7_readWord : GoodIn wsX7_readClause (wsV RX7 57 RX7 yX7_readWord wsX7_readWord) := goodIn_app (goodIn_of _ (by decide +kernel)) ggX7_readClause_X7_readWord
set_option maxRecDepth 20000 in
theorem ggX7_readClause_X7_isWord : GoodIn wsX7_readClause wsX7_isWord := goodIn_r _ [21, 7, 22, 23, 24, 25, 26, 27, 28, 29, 30, 31, 32, 33, 13, 14, 15, 5, 16, 8, 17, 34, 35, 36, 37, 38, 39, 40, 41, 42, 43, 44, 45, 46, 47, 48, 49, 50, 51, 52, 53, 54, 55, 56, 57, 58, 59, 60, 61, 62, 63, 64, 65, 66, 67, 68, 69, 70, 116, 117, 118, 119, 120, 121, 122] (by decide +kernel) (by decide +kernel)
set_option maxRecDepth 20000 in
theorem gX7_readClause_X7_isWord : GoodIn wsX7_readClause (wsV RX7 63 RX7 yX7_isWord wsX7_isWord) := goodIn_app (goodIn_of _ (by decide +kernel)) ggX7_readClause_X7_isWord
set_option maxRecDepth 20000 in
theorem ggX7_readClause_X7_refuse : GoodIn wsX7_readClause wsX7_refuse := goodIn_r _ [74, 75, 76, 116, 117, 118, 119, 120, 121, 122] (by decide +kernel) (by decide +kernel)
set_option maxRecDepth 20000 in
theorem gX7_readClause_X7_refuse : GoodIn wsX7_readClause (wsV RX7 71 RX7 yX7_refuse wsX7_refuse) := goodIn_app (goodIn_of _ (by decide +kernel)) ggX7_readClause_X7_refuse
set_option maxRecDepth 20000 in
theorem ggX7_readClause_X7_readIce : GoodIn wsX7_readClause wsX7_readIce := goodIn_r _ [80, 1, 81, 82, 83, 5, 84, 7, 8, 85, 86, 87, 88, 9, 10, 11, 12, 13, 14, 15, 16, 17, 71, 72, 73, 74, 75, 76, 116, 117, 118, 119, 120, 121, 122, 123, 124, 125, 126, 127, 128] (by decide +kernel) (by decide +kernel)
set_option maxRecDepth 20000 in
theorem gX7_readClause_X7_readIce : GoodIn wsX7_readClause (wsV RX7 78 RX7 yX7_readIce wsX7_readIce) := goodIn_app (goodIn_of _ (by decide +kernel)) ggX7_readClause_X7_readIce
set_option maxRecDepth 20000 in
theorem ggX7_readClause_X7_readDrops : GoodIn wsX7_readClause wsX7_readDrops := goodIn_r _ [92, 1, 81, 82, 83, 5, 84, 7, 8, 85, 86, 87, 88, 9, 10, 11, 12, 13, 14, 15, 16, 17, 71, 72, 73, 74, 75, 76, 2, 3, 4, 6, 18, 19, 20, 21, 22, 23, 24, 25, 26, 27, 28, 29, 30, 31, 32, 33, 34, 35, 36, 37, 38, 39, 40, 41, 42, 43, 44, 45, 46, 47, 48, 49, 50, 51, 52, 53, 54, 55, 56, 57, 58, 59, 60, 61, 62, 63, 64, 65, 66, 67, 68, 69, 70, 116, 117, 118, 119, 120, 121, 122, 123, 124, 125, 126, 127, 128] (by decide +kernel) (by decide +kernel)
set_option maxRecDepth 20000 in
theorem gX7_readClause_X7_readDrops : GoodIn wsX7_readClause (wsV RX7 81 RX7 yX7_readDrops wsX7_readDrops) := goodIn_app (goodIn_of _ (by decide +kernel)) ggX7_readClause_X7_readDrops
set_option maxRecDepth 20000 in
theorem ggX7_readClause_X7_readRights : GoodIn wsX7_readClause wsX7_readRights := goodIn_r _ [96, 1, 97, 98, 99, 5, 100, 7, 9, 10, 11, 12, 8, 13, 14, 15, 16, 17, 2, 3, 4, 6, 101, 102, 103, 104, 18, 19, 20, 21, 22, 23, 24, 25, 26, 27, 28, 29, 30, 31, 32, 33, 34, 35, 36, 37, 38, 39, 40, 41, 42, 43, 44, 45, 46, 47, 48, 49, 50, 51, 52, 53, 54, 55, 56, 57, 58, 59, 60, 61, 62, 63, 64, 65, 66, 67, 68, 69, 70, 105, 106, 107, 108, 109, 110, 111, 71, 72, 73, 74, 75, 76, 116, 117, 118, 119, 120, 121, 122, 123, 124, 125, 126, 127, 128] (by decide +kernel) (by decide +kernel)
set_option maxRecDepth 20000 in
theorem gX7_readClause_X7_readRights : GoodIn wsX7_readClause (wsV RX7 84 RX7 yX7_readRights wsX7_readRights) := goodIn_app (goodIn_of _ (by decide +kernel)) ggX7_readClause_X7_readRights
set_option maxRecDepth 20000 in
theorem ggX7_readClause_X7_readSemicolon : GoodIn wsX7_readClause wsX7_readSemicolon := goodIn_r _ [115, 7, 97, 98, 99, 5, 100, 9, 10, 11, 12, 8, 13, 14, 15, 16, 17, 71, 72, 73, 74, 75, 76, 116, 117, 118, 119, 120, 121, 122] (by decide +kernel) (by decide +kernel)
set_option maxRecDepth 20000 in
theorem gX7_readClause_X7_readSemicolon : GoodIn wsX7_readClause (wsV RX7 87 RX7 yX7_readSemicolon wsX7_readSemicolon) := goodIn_app (goodIn_of _ (by decide +kernel)) ggX7_readClause_X7_readSemicolon
theorem dX7_readClause_0 : decode cX7_readClause 0 = .ok (.aload_n 0, 1) := by decide +kernel
theorem dX7_readClause_1 : decode cX7_readClause 1 = .ok (.invokevirtual 57, 3) := by decide +kernel
theorem dX7_readClause_4 : decode cX7_readClause 4 = .ok (.istore_n 1, 1) := by decide +kernel
theorem dX7_readClause_5 : decode cX7_readClause 5 = .ok (.aload_n 0, 1) := by decide +kernel
theorem dX7_readClause_6 : decode cX7_readClause 6 = .ok (.iload_n 1, 1) := by decide +kernel
theorem dX7_readClause_7 : decode cX7_readClause 7 = .ok (.ldc 61, 2) := by decide +kernel
theorem dX7_readClause_9 : decode cX7_readClause 9 = .ok (.invokevirtual 63, 3) := by decide +kernel
theorem dX7_readClause_12 : decode cX7_readClause 12 = .ok (.istore_n 2, 1) := by decide +kernel
theorem dX7_readClause_13 : decode cX7_readClause 13 = .ok (.aload_n 0, 1) := by decide +kernel
theorem dX7_readClause_14 : decode cX7_readClause 14 = .ok (.iload_n 1, 1) := by decide +kernel
theorem dX7_readClause_15 : decode cX7_readClause 15 = .ok (.ldc 67, 2) := by decide +kernel
theorem dX7_readClause_17 : decode cX7_readClause 17 = .ok (.invokevirtual 63, 3) := by decide +kernel
theorem dX7_readClause_20 : decode cX7_readClause 20 = .ok (.istore_n 3, 1) := by decide +kernel
theorem dX7_readClause_21 : decode cX7_readClause 21 = .ok (.iload_n 2, 1) := by decide +kernel
theorem dX7_readClause_22 : decode cX7_readClause 22 = .ok (.ifCond .ne 24, 3) := by decide +kernel
theorem dX7_readClause_25 : decode cX7_readClause 25 = .ok (.iload_n 3, 1) := by decide +kernel
theorem dX7_readClause_26 : decode cX7_readClause 26 = .ok (.ifCond .ne 20, 3) := by decide +kernel
theorem dX7_readClause_29 : decode cX7_readClause 29 = .ok (.aload_n 0, 1) := by decide +kernel
theorem dX7_readClause_30 : decode cX7_readClause 30 = .ok (.iload_n 1, 1) := by decide +kernel
theorem dX7_readClause_31 : decode cX7_readClause 31 = .ok (.ldc 69, 2) := by decide +kernel
theorem dX7_readClause_33 : decode cX7_readClause 33 = .ok (.invokevirtual 63, 3) := by decide +kernel
theorem dX7_readClause_36 : decode cX7_readClause 36 = .ok (.ifCond .ne 10, 3) := by decide +kernel
theorem dX7_readClause_39 : decode cX7_readClause 39 = .ok (.aload_n 0, 1) := by decide +kernel
theorem dX7_readClause_40 : decode cX7_readClause 40 = .ok (.iconst 1, 1) := by decide +kernel
theorem dX7_readClause_41 : decode cX7_readClause 41 = .ok (.iload_n 1, 1) := by decide +kernel
theorem dX7_readClause_42 : decode cX7_readClause 42 = .ok (.invokevirtual 71, 3) := by decide +kernel
theorem dX7_readClause_45 : decode cX7_readClause 45 = .ok (.ireturn, 1) := by decide +kernel
theorem dX7_readClause_46 : decode cX7_readClause 46 = .ok (.aload_n 0, 1) := by decide +kernel
theorem dX7_readClause_47 : decode cX7_readClause 47 = .ok (.getfield 22, 3) := by decide +kernel
theorem dX7_readClause_50 : decode cX7_readClause 50 = .ok (.getfield 75, 3) := by decide +kernel
theorem dX7_readClause_53 : decode cX7_readClause 53 = .ok (.bipush 10, 2) := by decide +kernel
theorem dX7_readClause_55 : decode cX7_readClause 55 = .ok (.if_icmp .lt 10, 3) := by decide +kernel
theorem dX7_readClause_58 : decode cX7_readClause 58 = .ok (.aload_n 0, 1) := by decide +kernel
theorem dX7_readClause_59 : decode cX7_readClause 59 = .ok (.iconst 3, 1) := by decide +kernel
theorem dX7_readClause_60 : decode cX7_readClause 60 = .ok (.iload_n 1, 1) := by decide +kernel
theorem dX7_readClause_61 : decode cX7_readClause 61 = .ok (.invokevirtual 71, 3) := by decide +kernel
theorem dX7_readClause_64 : decode cX7_readClause 64 = .ok (.ireturn, 1) := by decide +kernel
theorem dX7_readClause_65 : decode cX7_readClause 65 = .ok (.aload_n 0, 1) := by decide +kernel
theorem dX7_readClause_66 : decode cX7_readClause 66 = .ok (.getfield 22, 3) := by decide +kernel
theorem dX7_readClause_69 : decode cX7_readClause 69 = .ok (.dup, 1) := by decide +kernel
theorem dX7_readClause_70 : decode cX7_readClause 70 = .ok (.getfield 75, 3) := by decide +kernel
theorem dX7_readClause_73 : decode cX7_readClause 73 = .ok (.iconst 1, 1) := by decide +kernel
theorem dX7_readClause_74 : decode cX7_readClause 74 = .ok (.iadd, 1) := by decide +kernel
theorem dX7_readClause_75 : decode cX7_readClause 75 = .ok (.putfield 75, 3) := by decide +kernel
theorem dX7_readClause_78 : decode cX7_readClause 78 = .ok (.iload_n 2, 1) := by decide +kernel
theorem dX7_readClause_79 : decode cX7_readClause 79 = .ok (.ifCond .eq 10, 3) := by decide +kernel
theorem dX7_readClause_82 : decode cX7_readClause 82 = .ok (.aload_n 0, 1) := by decide +kernel
theorem dX7_readClause_83 : decode cX7_readClause 83 = .ok (.invokevirtual 78, 3) := by decide +kernel
theorem dX7_readClause_86 : decode cX7_readClause 86 = .ok (.goto 18, 3) := by decide +kernel
theorem dX7_readClause_89 : decode cX7_readClause 89 = .ok (.iload_n 3, 1) := by decide +kernel
theorem dX7_readClause_90 : decode cX7_readClause 90 = .ok (.ifCond .eq 10, 3) := by decide +kernel
theorem dX7_readClause_93 : decode cX7_readClause 93 = .ok (.aload_n 0, 1) := by decide +kernel
theorem dX7_readClause_94 : decode cX7_readClause 94 = .ok (.invokevirtual 81, 3) := by decide +kernel
theorem dX7_readClause_97 : decode cX7_readClause 97 = .ok (.goto 7, 3) := by decide +kernel
theorem dX7_readClause_100 : decode cX7_readClause 100 = .ok (.aload_n 0, 1) := by decide +kernel
theorem dX7_readClause_101 : decode cX7_readClause 101 = .ok (.invokevirtual 84, 3) := by decide +kernel
theorem dX7_readClause_104 : decode cX7_readClause 104 = .ok (.istore 4, 2) := by decide +kernel
theorem dX7_readClause_106 : decode cX7_readClause 106 = .ok (.iload 4, 2) := by decide +kernel
theorem dX7_readClause_108 : decode cX7_readClause 108 = .ok (.ifCond .eq 14, 3) := by decide +kernel
theorem dX7_readClause_111 : decode cX7_readClause 111 = .ok (.aload_n 0, 1) := by decide +kernel
theorem dX7_readClause_112 : decode cX7_readClause 112 = .ok (.invokevirtual 87, 3) := by decide +kernel
theorem dX7_readClause_115 : decode cX7_readClause 115 = .ok (.ifCond .eq 7, 3) := by decide +kernel
theorem dX7_readClause_118 : decode cX7_readClause 118 = .ok (.iconst 1, 1) := by decide +kernel
theorem dX7_readClause_119 : decode cX7_readClause 119 = .ok (.goto 4, 3) := by decide +kernel
theorem dX7_readClause_122 : decode cX7_readClause 122 = .ok (.iconst 0, 1) := by decide +kernel
theorem dX7_readClause_123 : decode cX7_readClause 123 = .ok (.ireturn, 1) := by decide +kernel
set_option maxRecDepth 20000 in
theorem ggX7_readIce_X7_readNumber : GoodIn wsX7_readIce wsX7_readNumber := goodIn_r _ [6, 7, 8, 9, 10, 11, 12, 13, 14, 15, 5, 16, 17, 18, 19, 20, 21, 22, 23, 24, 25, 26, 27, 28, 29, 30, 31, 32, 33, 34] (by decide +kernel) (by decide +kernel)
set_option maxRecDepth 20000 in
theorem gX7_readIce_X7_readNumber : GoodIn wsX7_readIce (wsV RX7 90 RX7 yX7_readNumber wsX7_readNumber) := goodIn_app (goodIn_of _ (by decide +kernel)) ggX7_readIce_X7_readNumber
theorem dX7_readIce_0 : decode cX7_readIce 0 = .ok (.aload_n 0, 1) := by decide +kernel
theorem dX7_readIce_1 : decode cX7_readIce 1 = .ok (.invokevirtual 90, 3) := by decide +kernel
theorem dX7_readIce_4 : decode cX7_readIce 4 = .ok (.istore_n 1, 1) := by decide +kernel
theorem dX7_readIce_5 : decode cX7_readIce 5 = .ok (.aload_n 0, 1) := by decide +kernel
theorem dX7_readIce_6 : decode cX7_readIce 6 = .ok (.getfield 22, 3) := by decide +kernel
theorem dX7_readIce_9 : decode cX7_readIce 9 = .ok (.iload_n 1, 1) := by decide +kernel
theorem dX7_readIce_10 : decode cX7_readIce 10 = .ok (.putfield 93, 3) := by decide +kernel
theorem dX7_readIce_13 : decode cX7_readIce 13 = .ok (.iload_n 1, 1) := by decide +kernel
theorem dX7_readIce_14 : decode cX7_readIce 14 = .ok (.iconst (-1), 1) := by decide +kernel
theorem dX7_readIce_15 : decode cX7_readIce 15 = .ok (.if_icmp .eq 7, 3) := by decide +kernel
theorem dX7_readIce_18 : decode cX7_readIce 18 = .ok (.iconst 1, 1) := by decide +kernel
theorem dX7_readIce_19 : decode cX7_readIce 19 = .ok (.goto 4, 3) := by decide +kernel
theorem dX7_readIce_22 : decode cX7_readIce 22 = .ok (.iconst 0, 1) := by decide +kernel
theorem dX7_readIce_23 : decode cX7_readIce 23 = .ok (.ireturn, 1) := by decide +kernel
set_option maxRecDepth 20000 in
theorem ggX7_readDrops_X7_readNumber : GoodIn wsX7_readDrops wsX7_readNumber := goodIn_r _ [6, 7, 8, 9, 10, 11, 12, 13, 14, 15, 5, 16, 17, 18, 19, 20, 21, 22, 23, 24, 25, 26, 27, 85, 86, 87, 88, 89, 90, 91] (by decide +kernel) (by decide +kernel)
set_option maxRecDepth 20000 in
theorem gX7_readDrops_X7_readNumber : GoodIn wsX7_readDrops (wsV RX7 90 RX7 yX7_readNumber wsX7_readNumber) := goodIn_app (goodIn_of _ (by decide +kernel)) ggX7_readDrops_X7_readNumber
set_option maxRecDepth 20000 in
theorem ggX7_readDrops_X7_readWord : GoodIn wsX7_readDrops wsX7_readWord := goodIn_r _ [31, 7, 8, 13, 14, 15, 5, 16, 17, 18, 19, 20, 21, 85, 86, 87, 88, 89, 90, 91] (by decide +kernel) (by decide +kernel)
set_option maxRecDepth 20000 in
theorem gX7_readDrops_X7_readWord : GoodIn wsX7_readDrops (wsV RX7 57 RX7 yX7_readWord wsX7_readWord) := goodIn_app (goodIn_of _ (by decide +kernel)) ggX7_readDrops_X7_readWord
set_option maxRecDepth 20000 in
theorem ggX7_readDrops_X7_isWord : GoodIn wsX7_readDrops wsX7_isWord := goodIn_r _ [35, 7, 36, 37, 38, 39, 40, 41, 42, 43, 44, 45, 46, 47, 17, 18, 19, 5, 20, 8, 21, 48, 49, 50, 51, 52, 53, 54, 55, 56, 57, 58, 59, 60, 61, 62, 63, 64, 65, 66, 67, 68, 69, 70, 71, 72, 73, 74, 75, 76, 77, 78, 79, 80, 81, 82, 83, 84, 85, 86, 87, 88, 89, 90, 91] (by decide +kernel) (by decide +kernel)
set_option maxRecDepth 20000 in
theorem gX7_readDrops_X7_isWord : GoodIn wsX7_readDrops (wsV RX7 63 RX7 yX7_isWord wsX7_isWord) := goodIn_app (goodIn_of _ (by decide +kernel)) ggX7_readDrops_X7_isWord
set_option maxRecDepth 20000 in
theorem ggX7_readDrops_X7_refuse : GoodIn wsX7_readDrops wsX7_refuse := goodIn_r _ [25, 26, 27, 85, 86, 87, 88, 89, 90, 91] (by decide +kernel) (by decide +kernel)
set_option maxRecDepth 20000 in
theorem gX7_readDrops_X7_refuse : GoodIn wsX7_readDrops (wsV RX7 71 RX7 yX7_refuse wsX7_refuse) := goodIn_app (goodIn_of _ (by decide +kernel)) ggX7_readDrops_X7_refuse
theorem dX7_readDrops_0 : decode cX7_readDrops 0 = .ok (.aload_n 0, 1) := by decide +kernel
theorem dX7_readDrops_1 : decode cX7_readDrops 1 = .ok (.invokevirtual 90, 3) := by decide +kernel
theorem dX7_readDrops_4 : decode cX7_readDrops 4 = .ok (.istore_n 1, 1) := by decide +kernel
theorem dX7_readDrops_5 : decode cX7_readDrops 5 = .ok (.iload_n 1, 1) := by decide +kernel
theorem dX7_readDrops_6 : decode cX7_readDrops 6 = .ok (.iconst (-1), 1) := by decide +kernel
theorem dX7_readDrops_7 : decode cX7_readDrops 7 = .ok (.if_icmp .ne 5, 3) := by decide +kernel
theorem dX7_readDrops_10 : decode cX7_readDrops 10 = .ok (.iconst 0, 1) := by decide +kernel
theorem dX7_readDrops_11 : decode cX7_readDrops 11 = .ok (.ireturn, 1) := by decide +kernel
theorem dX7_readDrops_12 : decode cX7_readDrops 12 = .ok (.aload_n 0, 1) := by decide +kernel
theorem dX7_readDrops_13 : decode cX7_readDrops 13 = .ok (.invokevirtual 57, 3) := by decide +kernel
theorem dX7_readDrops_16 : decode cX7_readDrops 16 = .ok (.istore_n 2, 1) := by decide +kernel
theorem dX7_readDrops_17 : decode cX7_readDrops 17 = .ok (.aload_n 0, 1) := by decide +kernel
theorem dX7_readDrops_18 : decode cX7_readDrops 18 = .ok (.iload_n 2, 1) := by decide +kernel
theorem dX7_readDrops_19 : decode cX7_readDrops 19 = .ok (.ldc 95, 2) := by decide +kernel
theorem dX7_readDrops_21 : decode cX7_readDrops 21 = .ok (.invokevirtual 63, 3) := by decide +kernel
theorem dX7_readDrops_24 : decode cX7_readDrops 24 = .ok (.ifCond .ne 10, 3) := by decide +kernel
theorem dX7_readDrops_27 : decode cX7_readDrops 27 = .ok (.aload_n 0, 1) := by decide +kernel
theorem dX7_readDrops_28 : decode cX7_readDrops 28 = .ok (.iconst 1, 1) := by decide +kernel
theorem dX7_readDrops_29 : decode cX7_readDrops 29 = .ok (.iload_n 2, 1) := by decide +kernel
theorem dX7_readDrops_30 : decode cX7_readDrops 30 = .ok (.invokevirtual 71, 3) := by decide +kernel
theorem dX7_readDrops_33 : decode cX7_readDrops 33 = .ok (.ireturn, 1) := by decide +kernel
theorem dX7_readDrops_34 : decode cX7_readDrops 34 = .ok (.aload_n 0, 1) := by decide +kernel
theorem dX7_readDrops_35 : decode cX7_readDrops 35 = .ok (.invokevirtual 90, 3) := by decide +kernel
theorem dX7_readDrops_38 : decode cX7_readDrops 38 = .ok (.istore_n 3, 1) := by decide +kernel
theorem dX7_readDrops_39 : decode cX7_readDrops 39 = .ok (.aload_n 0, 1) := by decide +kernel
theorem dX7_readDrops_40 : decode cX7_readDrops 40 = .ok (.getfield 22, 3) := by decide +kernel
theorem dX7_readDrops_43 : decode cX7_readDrops 43 = .ok (.iload_n 1, 1) := by decide +kernel
theorem dX7_readDrops_44 : decode cX7_readDrops 44 = .ok (.putfield 97, 3) := by decide +kernel
theorem dX7_readDrops_47 : decode cX7_readDrops 47 = .ok (.aload_n 0, 1) := by decide +kernel
theorem dX7_readDrops_48 : decode cX7_readDrops 48 = .ok (.getfield 22, 3) := by decide +kernel
theorem dX7_readDrops_51 : decode cX7_readDrops 51 = .ok (.iload_n 3, 1) := by decide +kernel
theorem dX7_readDrops_52 : decode cX7_readDrops 52 = .ok (.putfield 100, 3) := by decide +kernel
theorem dX7_readDrops_55 : decode cX7_readDrops 55 = .ok (.iload_n 3, 1) := by decide +kernel
theorem dX7_readDrops_56 : decode cX7_readDrops 56 = .ok (.iconst (-1), 1) := by decide +kernel
theorem dX7_readDrops_57 : decode cX7_readDrops 57 = .ok (.if_icmp .eq 7, 3) := by decide +kernel
theorem dX7_readDrops_60 : decode cX7_readDrops 60 = .ok (.iconst 1, 1) := by decide +kernel
theorem dX7_readDrops_61 : decode cX7_readDrops 61 = .ok (.goto 4, 3) := by decide +kernel
theorem dX7_readDrops_64 : decode cX7_readDrops 64 = .ok (.iconst 0, 1) := by decide +kernel
theorem dX7_readDrops_65 : decode cX7_readDrops 65 = .ok (.ireturn, 1) := by decide +kernel
set_option maxRecDepth 20000 in
theorem ggX7_readRights_X7_isSemicolonNext : GoodIn wsX7_readRights wsX7_isSemicolonNext := goodIn_r _ [6, 7, 8, 9, 10, 5, 11, 12, 13, 14, 15, 16, 17, 92, 93, 94, 95, 96, 97, 98] (by decide +kernel) (by decide +kernel)
set_option maxRecDepth 20000 in
theorem gX7_readRights_X7_isSemicolonNext : GoodIn wsX7_readRights (wsV RX7 106 RX7 yX7_isSemicolonNext wsX7_isSemicolonNext) := goodIn_app (goodIn_of _ (by decide +kernel)) ggX7_readRights_X7_isSemicolonNext
set_option maxRecDepth 20000 in
theorem ggX7_readRights_X7_readWord : GoodIn wsX7_readRights wsX7_readWord := goodIn_r _ [21, 7, 12, 8, 9, 10, 5, 11, 13, 14, 15, 16, 17, 92, 93, 94, 95, 96, 97, 98] (by decide +kernel) (by decide +kernel)
set_option maxRecDepth 20000 in
theorem gX7_readRights_X7_readWord : GoodIn wsX7_readRights (wsV RX7 57 RX7 yX7_readWord wsX7_readWord) := goodIn_app (goodIn_of _ (by decide +kernel)) ggX7_readRights_X7_readWord
set_option maxRecDepth 20000 in
theorem ggX7_readRights_X7_rightAt : GoodIn wsX7_readRights wsX7_rightAt := goodIn_r _ [25, 26, 27, 28, 5, 29, 7, 30, 31, 32, 33, 34, 35, 36, 37, 38, 39, 40, 41, 13, 14, 15, 16, 12, 17, 42, 43, 44, 45, 46, 47, 48, 49, 50, 51, 52, 53, 54, 55, 56, 57, 58, 59, 60, 61, 62, 63, 64, 65, 66, 67, 68, 69, 70, 71, 72, 73, 74, 75, 76, 77, 78, 92, 93, 94, 95, 96, 97, 98] (by decide +kernel) (by decide +kernel)
set_option maxRecDepth 20000 in
theorem gX7_readRights_X7_rightAt : GoodIn wsX7_readRights (wsV RX7 109 RX7 yX7_rightAt wsX7_rightAt) := goodIn_app (goodIn_of _ (by decide +kernel)) ggX7_readRights_X7_rightAt
set_option maxRecDepth 20000 in
theorem ggX7_readRights_X6_addRight : GoodIn wsX7_readRights wsX6_addRight := goodIn_r _ [83, 84, 85, 99, 100, 101, 102, 103, 104] (by decide +kernel) (by decide +kernel)
set_option maxRecDepth 20000 in
theorem gX7_readRights_X6_addRight : GoodIn wsX7_readRights (wsV RX7 113 RX6 yX6_addRight wsX6_addRight) := goodIn_app (goodIn_of _ (by decide +kernel)) ggX7_readRights_X6_addRight
set_option maxRecDepth 20000 in
theorem ggX7_readRights_X7_refuse : GoodIn wsX7_readRights wsX7_refuse := goodIn_r _ [89, 90, 91, 92, 93, 94, 95, 96, 97, 98] (by decide +kernel) (by decide +kernel)
set_option maxRecDepth 20000 in
theorem gX7_readRights_X7_refuse : GoodIn wsX7_readRights (wsV RX7 71 RX7 yX7_refuse wsX7_refuse) := goodIn_app (goodIn_of _ (by decide +kernel)) ggX7_readRights_X7_refuse
theorem dX7_readRights_0 : decode cX7_readRights 0 = .ok (.aload_n 0, 1) := by decide +kernel
theorem dX7_readRights_1 : decode cX7_readRights 1 = .ok (.getfield 22, 3) := by decide +kernel
theorem dX7_readRights_4 : decode cX7_readRights 4 = .ok (.iconst 0, 1) := by decide +kernel
theorem dX7_readRights_5 : decode cX7_readRights 5 = .ok (.putfield 103, 3) := by decide +kernel
theorem dX7_readRights_8 : decode cX7_readRights 8 = .ok (.iconst 0, 1) := by decide +kernel
theorem dX7_readRights_9 : decode cX7_readRights 9 = .ok (.istore_n 1, 1) := by decide +kernel
theorem dX7_readRights_10 : decode cX7_readRights 10 = .ok (.iload_n 1, 1) := by decide +kernel
theorem dX7_readRights_11 : decode cX7_readRights 11 = .ok (.iconst 3, 1) := by decide +kernel
theorem dX7_readRights_12 : decode cX7_readRights 12 = .ok (.if_icmp .ge 56, 3) := by decide +kernel
theorem dX7_readRights_15 : decode cX7_readRights 15 = .ok (.iload_n 1, 1) := by decide +kernel
theorem dX7_readRights_16 : decode cX7_readRights 16 = .ok (.ifCond .le 12, 3) := by decide +kernel
theorem dX7_readRights_19 : decode cX7_readRights 19 = .ok (.aload_n 0, 1) := by decide +kernel
theorem dX7_readRights_20 : decode cX7_readRights 20 = .ok (.invokevirtual 106, 3) := by decide +kernel
theorem dX7_readRights_23 : decode cX7_readRights 23 = .ok (.ifCond .eq 5, 3) := by decide +kernel
theorem dX7_readRights_26 : decode cX7_readRights 26 = .ok (.iconst 1, 1) := by decide +kernel
theorem dX7_readRights_27 : decode cX7_readRights 27 = .ok (.ireturn, 1) := by decide +kernel
theorem dX7_readRights_28 : decode cX7_readRights 28 = .ok (.aload_n 0, 1) := by decide +kernel
theorem dX7_readRights_29 : decode cX7_readRights 29 = .ok (.invokevirtual 57, 3) := by decide +kernel
theorem dX7_readRights_32 : decode cX7_readRights 32 = .ok (.istore_n 2, 1) := by decide +kernel
theorem dX7_readRights_33 : decode cX7_readRights 33 = .ok (.aload_n 0, 1) := by decide +kernel
theorem dX7_readRights_34 : decode cX7_readRights 34 = .ok (.iload_n 2, 1) := by decide +kernel
theorem dX7_readRights_35 : decode cX7_readRights 35 = .ok (.invokevirtual 109, 3) := by decide +kernel
theorem dX7_readRights_38 : decode cX7_readRights 38 = .ok (.istore_n 3, 1) := by decide +kernel
theorem dX7_readRights_39 : decode cX7_readRights 39 = .ok (.iload_n 3, 1) := by decide +kernel
theorem dX7_readRights_40 : decode cX7_readRights 40 = .ok (.iconst (-1), 1) := by decide +kernel
theorem dX7_readRights_41 : decode cX7_readRights 41 = .ok (.if_icmp .eq 14, 3) := by decide +kernel
theorem dX7_readRights_44 : decode cX7_readRights 44 = .ok (.aload_n 0, 1) := by decide +kernel
theorem dX7_readRights_45 : decode cX7_readRights 45 = .ok (.getfield 22, 3) := by decide +kernel
theorem dX7_readRights_48 : decode cX7_readRights 48 = .ok (.iload_n 3, 1) := by decide +kernel
theorem dX7_readRights_49 : decode cX7_readRights 49 = .ok (.invokevirtual 113, 3) := by decide +kernel
theorem dX7_readRights_52 : decode cX7_readRights 52 = .ok (.ifCond .ne 10, 3) := by decide +kernel
theorem dX7_readRights_55 : decode cX7_readRights 55 = .ok (.aload_n 0, 1) := by decide +kernel
theorem dX7_readRights_56 : decode cX7_readRights 56 = .ok (.iconst 1, 1) := by decide +kernel
theorem dX7_readRights_57 : decode cX7_readRights 57 = .ok (.iload_n 2, 1) := by decide +kernel
theorem dX7_readRights_58 : decode cX7_readRights 58 = .ok (.invokevirtual 71, 3) := by decide +kernel
theorem dX7_readRights_61 : decode cX7_readRights 61 = .ok (.ireturn, 1) := by decide +kernel
theorem dX7_readRights_62 : decode cX7_readRights 62 = .ok (.iinc 1 1, 3) := by decide +kernel
theorem dX7_readRights_65 : decode cX7_readRights 65 = .ok (.goto (-55), 3) := by decide +kernel
theorem dX7_readRights_68 : decode cX7_readRights 68 = .ok (.iconst 1, 1) := by decide +kernel
theorem dX7_readRights_69 : decode cX7_readRights 69 = .ok (.ireturn, 1) := by decide +kernel
set_option maxRecDepth 20000 in
theorem ggX7_rightAt_X7_isWord : GoodIn wsX7_rightAt wsX7_isWord := goodIn_r _ [5, 6, 7, 8, 9, 10, 11, 12, 13, 14, 15, 16, 17, 18, 19, 20, 21, 4, 22, 23, 24, 25, 26, 27, 28, 29, 30, 31, 32, 33, 34, 35, 36, 37, 38, 39, 40, 41, 42, 43, 44, 45, 46, 47, 48, 49, 50, 51, 52, 53, 54, 55, 56, 57, 58, 59, 60, 61, 62, 63, 64, 65, 66, 67, 68] (by decide +kernel) (by decide +kernel)
set_option maxRecDepth 20000 in
theorem gX7_rightAt_X7_isWord : GoodIn wsX7_rightAt (wsV RX7 63 RX7 yX7_isWord wsX7_isWord) := goodIn_app (goodIn_of _ (by decide +kernel)) ggX7_rightAt_X7_isWord
theorem dX7_rightAt_0 : decode cX7_rightAt 0 = .ok (.aload_n 0, 1) := by decide +kernel
theorem dX7_rightAt_1 : decode cX7_rightAt 1 = .ok (.iload_n 1, 1) := by decide +kernel
theorem dX7_rightAt_2 : decode cX7_rightAt 2 = .ok (.ldc 117, 2) := by decide +kernel
theorem dX7_rightAt_4 : decode cX7_rightAt 4 = .ok (.invokevirtual 63, 3) := by decide +kernel
theorem dX7_rightAt_7 : decode cX7_rightAt 7 = .ok (.ifCond .eq 5, 3) := by decide +kernel
theorem dX7_rightAt_10 : decode cX7_rightAt 10 = .ok (.iconst 0, 1) := by decide +kernel
theorem dX7_rightAt_11 : decode cX7_rightAt 11 = .ok (.ireturn, 1) := by decide +kernel
theorem dX7_rightAt_12 : decode cX7_rightAt 12 = .ok (.aload_n 0, 1) := by decide +kernel
theorem dX7_rightAt_13 : decode cX7_rightAt 13 = .ok (.iload_n 1, 1) := by decide +kernel
theorem dX7_rightAt_14 : decode cX7_rightAt 14 = .ok (.ldc 119, 2) := by decide +kernel
theorem dX7_rightAt_16 : decode cX7_rightAt 16 = .ok (.invokevirtual 63, 3) := by decide +kernel
theorem dX7_rightAt_19 : decode cX7_rightAt 19 = .ok (.ifCond .eq 5, 3) := by decide +kernel
theorem dX7_rightAt_22 : decode cX7_rightAt 22 = .ok (.iconst 1, 1) := by decide +kernel
theorem dX7_rightAt_23 : decode cX7_rightAt 23 = .ok (.ireturn, 1) := by decide +kernel
theorem dX7_rightAt_24 : decode cX7_rightAt 24 = .ok (.aload_n 0, 1) := by decide +kernel
theorem dX7_rightAt_25 : decode cX7_rightAt 25 = .ok (.iload_n 1, 1) := by decide +kernel
theorem dX7_rightAt_26 : decode cX7_rightAt 26 = .ok (.ldc 121, 2) := by decide +kernel
theorem dX7_rightAt_28 : decode cX7_rightAt 28 = .ok (.invokevirtual 63, 3) := by decide +kernel
theorem dX7_rightAt_31 : decode cX7_rightAt 31 = .ok (.ifCond .eq 7, 3) := by decide +kernel
theorem dX7_rightAt_34 : decode cX7_rightAt 34 = .ok (.iconst 2, 1) := by decide +kernel
theorem dX7_rightAt_35 : decode cX7_rightAt 35 = .ok (.goto 4, 3) := by decide +kernel
theorem dX7_rightAt_38 : decode cX7_rightAt 38 = .ok (.iconst (-1), 1) := by decide +kernel
theorem dX7_rightAt_39 : decode cX7_rightAt 39 = .ok (.ireturn, 1) := by decide +kernel
set_option maxRecDepth 20000 in
theorem ggX7_readSemicolon_X7_isSemicolonNext : GoodIn wsX7_readSemicolon wsX7_isSemicolonNext := goodIn_r _ [6, 1, 7, 8, 9, 5, 10, 11, 12, 13, 14, 15, 16, 23, 24, 25, 26, 27, 28, 29] (by decide +kernel) (by decide +kernel)
set_option maxRecDepth 20000 in
theorem gX7_readSemicolon_X7_isSemicolonNext : GoodIn wsX7_readSemicolon (wsV RX7 106 RX7 yX7_isSemicolonNext wsX7_isSemicolonNext) := goodIn_app (goodIn_of _ (by decide +kernel)) ggX7_readSemicolon_X7_isSemicolonNext
set_option maxRecDepth 20000 in
theorem ggX7_readSemicolon_X7_refuse : GoodIn wsX7_readSemicolon wsX7_refuse := goodIn_r _ [20, 21, 22, 23, 24, 25, 26, 27, 28, 29] (by decide +kernel) (by decide +kernel)
set_option maxRecDepth 20000 in
theorem gX7_readSemicolon_X7_refuse : GoodIn wsX7_readSemicolon (wsV RX7 71 RX7 yX7_refuse wsX7_refuse) := goodIn_app (goodIn_of _ (by decide +kernel)) ggX7_readSemicolon_X7_refuse
theorem dX7_readSemicolon_0 : decode cX7_readSemicolon 0 = .ok (.aload_n 0, 1) := by decide +kernel
theorem dX7_readSemicolon_1 : decode cX7_readSemicolon 1 = .ok (.invokevirtual 106, 3) := by decide +kernel
theorem dX7_readSemicolon_4 : decode cX7_readSemicolon 4 = .ok (.ifCond .ne 13, 3) := by decide +kernel
theorem dX7_readSemicolon_7 : decode cX7_readSemicolon 7 = .ok (.aload_n 0, 1) := by decide +kernel
theorem dX7_readSemicolon_8 : decode cX7_readSemicolon 8 = .ok (.iconst 1, 1) := by decide +kernel
theorem dX7_readSemicolon_9 : decode cX7_readSemicolon 9 = .ok (.aload_n 0, 1) := by decide +kernel
theorem dX7_readSemicolon_10 : decode cX7_readSemicolon 10 = .ok (.getfield 29, 3) := by decide +kernel
theorem dX7_readSemicolon_13 : decode cX7_readSemicolon 13 = .ok (.invokevirtual 71, 3) := by decide +kernel
theorem dX7_readSemicolon_16 : decode cX7_readSemicolon 16 = .ok (.ireturn, 1) := by decide +kernel
theorem dX7_readSemicolon_17 : decode cX7_readSemicolon 17 = .ok (.aload_n 0, 1) := by decide +kernel
theorem dX7_readSemicolon_18 : decode cX7_readSemicolon 18 = .ok (.dup, 1) := by decide +kernel
theorem dX7_readSemicolon_19 : decode cX7_readSemicolon 19 = .ok (.getfield 29, 3) := by decide +kernel
theorem dX7_readSemicolon_22 : decode cX7_readSemicolon 22 = .ok (.iconst 1, 1) := by decide +kernel
theorem dX7_readSemicolon_23 : decode cX7_readSemicolon 23 = .ok (.iadd, 1) := by decide +kernel
theorem dX7_readSemicolon_24 : decode cX7_readSemicolon 24 = .ok (.putfield 29, 3) := by decide +kernel
theorem dX7_readSemicolon_27 : decode cX7_readSemicolon 27 = .ok (.iconst 1, 1) := by decide +kernel
theorem dX7_readSemicolon_28 : decode cX7_readSemicolon 28 = .ok (.ireturn, 1) := by decide +kernel
set_option maxRecDepth 20000 in
theorem ggX7_isSemicolonNext_X7_skipBlanks : GoodIn wsX7_isSemicolonNext wsX7_skipBlanks := goodIn_r _ [6, 1, 7, 8, 9, 10, 5, 11, 12, 13, 14, 15, 16, 17, 18, 19] (by decide +kernel) (by decide +kernel)
set_option maxRecDepth 20000 in
theorem gX7_isSemicolonNext_X7_skipBlanks : GoodIn wsX7_isSemicolonNext (wsV RX7 50 RX7 yX7_skipBlanks wsX7_skipBlanks) := goodIn_app (goodIn_of _ (by decide +kernel)) ggX7_isSemicolonNext_X7_skipBlanks
set_option maxRecDepth 20000 in
theorem ggX7_isSemicolonNext_X7_byteAt : GoodIn wsX7_isSemicolonNext wsX7_byteAt := goodIn_r _ [11, 7, 12, 13, 14, 15, 16, 17, 18, 19] (by decide +kernel) (by decide +kernel)
set_option maxRecDepth 20000 in
theorem gX7_isSemicolonNext_X7_byteAt : GoodIn wsX7_isSemicolonNext (wsV RX7 123 RX7 yX7_byteAt wsX7_byteAt) := goodIn_app (goodIn_of _ (by decide +kernel)) ggX7_isSemicolonNext_X7_byteAt
theorem dX7_isSemicolonNext_0 : decode cX7_isSemicolonNext 0 = .ok (.aload_n 0, 1) := by decide +kernel
theorem dX7_isSemicolonNext_1 : decode cX7_isSemicolonNext 1 = .ok (.invokevirtual 50, 3) := by decide +kernel
theorem dX7_isSemicolonNext_4 : decode cX7_isSemicolonNext 4 = .ok (.aload_n 0, 1) := by decide +kernel
theorem dX7_isSemicolonNext_5 : decode cX7_isSemicolonNext 5 = .ok (.aload_n 0, 1) := by decide +kernel
theorem dX7_isSemicolonNext_6 : decode cX7_isSemicolonNext 6 = .ok (.getfield 29, 3) := by decide +kernel
theorem dX7_isSemicolonNext_9 : decode cX7_isSemicolonNext 9 = .ok (.invokevirtual 123, 3) := by decide +kernel
theorem dX7_isSemicolonNext_12 : decode cX7_isSemicolonNext 12 = .ok (.bipush 59, 2) := by decide +kernel
theorem dX7_isSemicolonNext_14 : decode cX7_isSemicolonNext 14 = .ok (.if_icmp .ne 7, 3) := by decide +kernel
theorem dX7_isSemicolonNext_17 : decode cX7_isSemicolonNext 17 = .ok (.iconst 1, 1) := by decide +kernel
theorem dX7_isSemicolonNext_18 : decode cX7_isSemicolonNext 18 = .ok (.goto 4, 3) := by decide +kernel
theorem dX7_isSemicolonNext_21 : decode cX7_isSemicolonNext 21 = .ok (.iconst 0, 1) := by decide +kernel
theorem dX7_isSemicolonNext_22 : decode cX7_isSemicolonNext 22 = .ok (.ireturn, 1) := by decide +kernel
set_option maxRecDepth 20000 in
theorem ggX7_readWord_X7_skipBlanks : GoodIn wsX7_readWord wsX7_skipBlanks := goodIn_r _ [7, 1, 2, 8, 9, 10, 6, 11, 12, 13, 14, 15, 16, 17, 18, 19] (by decide +kernel) (by decide +kernel)
set_option maxRecDepth 20000 in
theorem gX7_readWord_X7_skipBlanks : GoodIn wsX7_readWord (wsV RX7 50 RX7 yX7_skipBlanks wsX7_skipBlanks) := goodIn_app (goodIn_of _ (by decide +kernel)) ggX7_readWord_X7_skipBlanks
set_option maxRecDepth 20000 in
theorem ggX7_readWord_X7_byteAt : GoodIn wsX7_readWord wsX7_byteAt := goodIn_r _ [11, 2, 12, 13, 14, 15, 16, 17, 18, 19] (by decide +kernel) (by decide +kernel)
set_option maxRecDepth 20000 in
theorem gX7_readWord_X7_byteAt : GoodIn wsX7_readWord (wsV RX7 123 RX7 yX7_byteAt wsX7_byteAt) := goodIn_app (goodIn_of _ (by decide +kernel)) ggX7_readWord_X7_byteAt
theorem dX7_readWord_0 : decode cX7_readWord 0 = .ok (.aload_n 0, 1) := by decide +kernel
theorem dX7_readWord_1 : decode cX7_readWord 1 = .ok (.invokevirtual 50, 3) := by decide +kernel
theorem dX7_readWord_4 : decode cX7_readWord 4 = .ok (.aload_n 0, 1) := by decide +kernel
theorem dX7_readWord_5 : decode cX7_readWord 5 = .ok (.getfield 29, 3) := by decide +kernel
theorem dX7_readWord_8 : decode cX7_readWord 8 = .ok (.istore_n 1, 1) := by decide +kernel
theorem dX7_readWord_9 : decode cX7_readWord 9 = .ok (.aload_n 0, 1) := by decide +kernel
theorem dX7_readWord_10 : decode cX7_readWord 10 = .ok (.getfield 29, 3) := by decide +kernel
theorem dX7_readWord_13 : decode cX7_readWord 13 = .ok (.aload_n 0, 1) := by decide +kernel
theorem dX7_readWord_14 : decode cX7_readWord 14 = .ok (.getfield 26, 3) := by decide +kernel
theorem dX7_readWord_17 : decode cX7_readWord 17 = .ok (.if_icmp .ge 42, 3) := by decide +kernel
theorem dX7_readWord_20 : decode cX7_readWord 20 = .ok (.aload_n 0, 1) := by decide +kernel
theorem dX7_readWord_21 : decode cX7_readWord 21 = .ok (.aload_n 0, 1) := by decide +kernel
theorem dX7_readWord_22 : decode cX7_readWord 22 = .ok (.getfield 29, 3) := by decide +kernel
theorem dX7_readWord_25 : decode cX7_readWord 25 = .ok (.invokevirtual 123, 3) := by decide +kernel
theorem dX7_readWord_28 : decode cX7_readWord 28 = .ok (.bipush 97, 2) := by decide +kernel
theorem dX7_readWord_30 : decode cX7_readWord 30 = .ok (.if_icmp .lt 29, 3) := by decide +kernel
theorem dX7_readWord_33 : decode cX7_readWord 33 = .ok (.aload_n 0, 1) := by decide +kernel
theorem dX7_readWord_34 : decode cX7_readWord 34 = .ok (.aload_n 0, 1) := by decide +kernel
theorem dX7_readWord_35 : decode cX7_readWord 35 = .ok (.getfield 29, 3) := by decide +kernel
theorem dX7_readWord_38 : decode cX7_readWord 38 = .ok (.invokevirtual 123, 3) := by decide +kernel
theorem dX7_readWord_41 : decode cX7_readWord 41 = .ok (.bipush 122, 2) := by decide +kernel
theorem dX7_readWord_43 : decode cX7_readWord 43 = .ok (.if_icmp .gt 16, 3) := by decide +kernel
theorem dX7_readWord_46 : decode cX7_readWord 46 = .ok (.aload_n 0, 1) := by decide +kernel
theorem dX7_readWord_47 : decode cX7_readWord 47 = .ok (.dup, 1) := by decide +kernel
theorem dX7_readWord_48 : decode cX7_readWord 48 = .ok (.getfield 29, 3) := by decide +kernel
theorem dX7_readWord_51 : decode cX7_readWord 51 = .ok (.iconst 1, 1) := by decide +kernel
theorem dX7_readWord_52 : decode cX7_readWord 52 = .ok (.iadd, 1) := by decide +kernel
theorem dX7_readWord_53 : decode cX7_readWord 53 = .ok (.putfield 29, 3) := by decide +kernel
theorem dX7_readWord_56 : decode cX7_readWord 56 = .ok (.goto (-47), 3) := by decide +kernel
theorem dX7_readWord_59 : decode cX7_readWord 59 = .ok (.iload_n 1, 1) := by decide +kernel
theorem dX7_readWord_60 : decode cX7_readWord 60 = .ok (.ireturn, 1) := by decide +kernel
set_option maxRecDepth 20000 in
theorem ggX7_isWord_J0_length_8abf5 : GoodIn wsX7_isWord wsJ0_length_8abf5 := goodIn_r _ [6, 7, 8, 9, 10, 5, 11, 12, 13] (by decide +kernel) (by decide +kernel)
set_option maxRecDepth 20000 in
theorem gX7_isWord_J0_length_8abf5 : GoodIn wsX7_isWord (wsV RX7 126 RJ0 yJ0_length_8abf5 wsJ0_length_8abf5) := goodIn_app (goodIn_of _ (by decide +kernel)) ggX7_isWord_J0_length_8abf5
set_option maxRecDepth 20000 in
theorem ggX7_isWord_X7_byteAt : GoodIn wsX7_isWord wsX7_byteAt := goodIn_r _ [18, 19, 20, 58, 59, 60, 61, 62, 63, 64] (by decide +kernel) (by decide +kernel)
set_option maxRecDepth 20000 in
theorem gX7_isWord_X7_byteAt : GoodIn wsX7_isWord (wsV RX7 123 RX7 yX7_byteAt wsX7_byteAt) := goodIn_app (goodIn_of _ (by decide +kernel)) ggX7_isWord_X7_byteAt
set_option maxRecDepth 20000 in
theorem ggX7_isWord_J0_charAt_5068e : GoodIn wsX7_isWord wsJ0_charAt_5068e := goodIn_r _ [24, 7, 25, 26, 27, 5, 28, 12, 13, 29, 30, 31, 32, 33, 34, 35, 36, 37, 38, 39, 40, 41, 42, 43, 44, 45, 46, 47, 48, 49, 50, 51, 52, 53, 54, 55, 56, 57] (by decide +kernel) (by decide +kernel)
set_option maxRecDepth 20000 in
theorem gX7_isWord_J0_charAt_5068e : GoodIn wsX7_isWord (wsV RX7 130 RJ0 yJ0_charAt_5068e wsJ0_charAt_5068e) := goodIn_app (goodIn_of _ (by decide +kernel)) ggX7_isWord_J0_charAt_5068e
theorem dX7_isWord_0 : decode cX7_isWord 0 = .ok (.aload_n 0, 1) := by decide +kernel
theorem dX7_isWord_1 : decode cX7_isWord 1 = .ok (.getfield 29, 3) := by decide +kernel
theorem dX7_isWord_4 : decode cX7_isWord 4 = .ok (.iload_n 1, 1) := by decide +kernel
theorem dX7_isWord_5 : decode cX7_isWord 5 = .ok (.isub, 1) := by decide +kernel
theorem dX7_isWord_6 : decode cX7_isWord 6 = .ok (.aload_n 2, 1) := by decide +kernel
theorem dX7_isWord_7 : decode cX7_isWord 7 = .ok (.invokevirtual 126, 3) := by decide +kernel
theorem dX7_isWord_10 : decode cX7_isWord 10 = .ok (.if_icmp .eq 5, 3) := by decide +kernel
theorem dX7_isWord_13 : decode cX7_isWord 13 = .ok (.iconst 0, 1) := by decide +kernel
theorem dX7_isWord_14 : decode cX7_isWord 14 = .ok (.ireturn, 1) := by decide +kernel
theorem dX7_isWord_15 : decode cX7_isWord 15 = .ok (.iconst 0, 1) := by decide +kernel
theorem dX7_isWord_16 : decode cX7_isWord 16 = .ok (.istore_n 3, 1) := by decide +kernel
theorem dX7_isWord_17 : decode cX7_isWord 17 = .ok (.iload_n 3, 1) := by decide +kernel
theorem dX7_isWord_18 : decode cX7_isWord 18 = .ok (.aload_n 2, 1) := by decide +kernel
theorem dX7_isWord_19 : decode cX7_isWord 19 = .ok (.invokevirtual 126, 3) := by decide +kernel
theorem dX7_isWord_22 : decode cX7_isWord 22 = .ok (.if_icmp .ge 26, 3) := by decide +kernel
theorem dX7_isWord_25 : decode cX7_isWord 25 = .ok (.aload_n 0, 1) := by decide +kernel
theorem dX7_isWord_26 : decode cX7_isWord 26 = .ok (.iload_n 1, 1) := by decide +kernel
theorem dX7_isWord_27 : decode cX7_isWord 27 = .ok (.iload_n 3, 1) := by decide +kernel
theorem dX7_isWord_28 : decode cX7_isWord 28 = .ok (.iadd, 1) := by decide +kernel
theorem dX7_isWord_29 : decode cX7_isWord 29 = .ok (.invokevirtual 123, 3) := by decide +kernel
theorem dX7_isWord_32 : decode cX7_isWord 32 = .ok (.aload_n 2, 1) := by decide +kernel
theorem dX7_isWord_33 : decode cX7_isWord 33 = .ok (.iload_n 3, 1) := by decide +kernel
theorem dX7_isWord_34 : decode cX7_isWord 34 = .ok (.invokevirtual 130, 3) := by decide +kernel
theorem dX7_isWord_37 : decode cX7_isWord 37 = .ok (.if_icmp .eq 5, 3) := by decide +kernel
theorem dX7_isWord_40 : decode cX7_isWord 40 = .ok (.iconst 0, 1) := by decide +kernel
theorem dX7_isWord_41 : decode cX7_isWord 41 = .ok (.ireturn, 1) := by decide +kernel
theorem dX7_isWord_42 : decode cX7_isWord 42 = .ok (.iinc 3 1, 3) := by decide +kernel
theorem dX7_isWord_45 : decode cX7_isWord 45 = .ok (.goto (-28), 3) := by decide +kernel
theorem dX7_isWord_48 : decode cX7_isWord 48 = .ok (.iconst 1, 1) := by decide +kernel
theorem dX7_isWord_49 : decode cX7_isWord 49 = .ok (.ireturn, 1) := by decide +kernel
set_option maxRecDepth 20000 in
theorem ggX7_readNumber_X7_skipBlanks : GoodIn wsX7_readNumber wsX7_skipBlanks := goodIn_r _ [11, 1, 2, 12, 13, 14, 10, 15, 16, 23, 24, 25, 26, 27, 28, 29] (by decide +kernel) (by decide +kernel)
set_option maxRecDepth 20000 in
theorem gX7_readNumber_X7_skipBlanks : GoodIn wsX7_readNumber (wsV RX7 50 RX7 yX7_skipBlanks wsX7_skipBlanks) := goodIn_app (goodIn_of _ (by decide +kernel)) ggX7_readNumber_X7_skipBlanks
set_option maxRecDepth 20000 in
theorem ggX7_readNumber_X7_byteAt : GoodIn wsX7_readNumber wsX7_byteAt := goodIn_r _ [15, 2, 16, 23, 24, 25, 26, 27, 28, 29] (by decide +kernel) (by decide +kernel)
set_option maxRecDepth 20000 in
theorem gX7_readNumber_X7_byteAt : GoodIn wsX7_readNumber (wsV RX7 123 RX7 yX7_byteAt wsX7_byteAt) := goodIn_app (goodIn_of _ (by decide +kernel)) ggX7_readNumber_X7_byteAt
set_option maxRecDepth 20000 in
theorem ggX7_readNumber_X7_refuse : GoodIn wsX7_readNumber wsX7_refuse := goodIn_r _ [20, 21, 22, 23, 24, 25, 26, 27, 28, 29] (by decide +kernel) (by decide +kernel)
set_option maxRecDepth 20000 in
theorem gX7_readNumber_X7_refuse : GoodIn wsX7_readNumber (wsV RX7 71 RX7 yX7_refuse wsX7_refuse) := goodIn_app (goodIn_of _ (by decide +kernel)) ggX7_readNumber_X7_refuse
theorem dX7_readNumber_0 : decode cX7_readNumber 0 = .ok (.aload_n 0, 1) := by decide +kernel
theorem dX7_readNumber_1 : decode cX7_readNumber 1 = .ok (.invokevirtual 50, 3) := by decide +kernel
theorem dX7_readNumber_4 : decode cX7_readNumber 4 = .ok (.aload_n 0, 1) := by decide +kernel
theorem dX7_readNumber_5 : decode cX7_readNumber 5 = .ok (.getfield 29, 3) := by decide +kernel
theorem dX7_readNumber_8 : decode cX7_readNumber 8 = .ok (.istore_n 1, 1) := by decide +kernel
theorem dX7_readNumber_9 : decode cX7_readNumber 9 = .ok (.iconst 0, 1) := by decide +kernel
theorem dX7_readNumber_10 : decode cX7_readNumber 10 = .ok (.istore_n 2, 1) := by decide +kernel
theorem dX7_readNumber_11 : decode cX7_readNumber 11 = .ok (.aload_n 0, 1) := by decide +kernel
theorem dX7_readNumber_12 : decode cX7_readNumber 12 = .ok (.getfield 29, 3) := by decide +kernel
theorem dX7_readNumber_15 : decode cX7_readNumber 15 = .ok (.aload_n 0, 1) := by decide +kernel
theorem dX7_readNumber_16 : decode cX7_readNumber 16 = .ok (.getfield 26, 3) := by decide +kernel
theorem dX7_readNumber_19 : decode cX7_readNumber 19 = .ok (.if_icmp .ge 65, 3) := by decide +kernel
theorem dX7_readNumber_22 : decode cX7_readNumber 22 = .ok (.aload_n 0, 1) := by decide +kernel
theorem dX7_readNumber_23 : decode cX7_readNumber 23 = .ok (.aload_n 0, 1) := by decide +kernel
theorem dX7_readNumber_24 : decode cX7_readNumber 24 = .ok (.getfield 29, 3) := by decide +kernel
theorem dX7_readNumber_27 : decode cX7_readNumber 27 = .ok (.invokevirtual 123, 3) := by decide +kernel
theorem dX7_readNumber_30 : decode cX7_readNumber 30 = .ok (.bipush 48, 2) := by decide +kernel
theorem dX7_readNumber_32 : decode cX7_readNumber 32 = .ok (.if_icmp .lt 52, 3) := by decide +kernel
theorem dX7_readNumber_35 : decode cX7_readNumber 35 = .ok (.aload_n 0, 1) := by decide +kernel
theorem dX7_readNumber_36 : decode cX7_readNumber 36 = .ok (.aload_n 0, 1) := by decide +kernel
theorem dX7_readNumber_37 : decode cX7_readNumber 37 = .ok (.getfield 29, 3) := by decide +kernel
theorem dX7_readNumber_40 : decode cX7_readNumber 40 = .ok (.invokevirtual 123, 3) := by decide +kernel
theorem dX7_readNumber_43 : decode cX7_readNumber 43 = .ok (.bipush 57, 2) := by decide +kernel
theorem dX7_readNumber_45 : decode cX7_readNumber 45 = .ok (.if_icmp .gt 39, 3) := by decide +kernel
theorem dX7_readNumber_48 : decode cX7_readNumber 48 = .ok (.sipush 5001, 3) := by decide +kernel
theorem dX7_readNumber_51 : decode cX7_readNumber 51 = .ok (.bipush 10, 2) := by decide +kernel
theorem dX7_readNumber_53 : decode cX7_readNumber 53 = .ok (.iload_n 2, 1) := by decide +kernel
theorem dX7_readNumber_54 : decode cX7_readNumber 54 = .ok (.imul, 1) := by decide +kernel
theorem dX7_readNumber_55 : decode cX7_readNumber 55 = .ok (.aload_n 0, 1) := by decide +kernel
theorem dX7_readNumber_56 : decode cX7_readNumber 56 = .ok (.aload_n 0, 1) := by decide +kernel
theorem dX7_readNumber_57 : decode cX7_readNumber 57 = .ok (.getfield 29, 3) := by decide +kernel
theorem dX7_readNumber_60 : decode cX7_readNumber 60 = .ok (.invokevirtual 123, 3) := by decide +kernel
theorem dX7_readNumber_63 : decode cX7_readNumber 63 = .ok (.iadd, 1) := by decide +kernel
theorem dX7_readNumber_64 : decode cX7_readNumber 64 = .ok (.bipush 48, 2) := by decide +kernel
theorem dX7_readNumber_66 : decode cX7_readNumber 66 = .ok (.isub, 1) := by decide +kernel
theorem dX7_readNumber_67 : decode cX7_readNumber 67 = .ok (.invokestatic 38, 3) := by decide +kernel
theorem dX7_readNumber_70 : decode cX7_readNumber 70 = .ok (.istore_n 2, 1) := by decide +kernel
theorem dX7_readNumber_71 : decode cX7_readNumber 71 = .ok (.aload_n 0, 1) := by decide +kernel
theorem dX7_readNumber_72 : decode cX7_readNumber 72 = .ok (.dup, 1) := by decide +kernel
theorem dX7_readNumber_73 : decode cX7_readNumber 73 = .ok (.getfield 29, 3) := by decide +kernel
theorem dX7_readNumber_76 : decode cX7_readNumber 76 = .ok (.iconst 1, 1) := by decide +kernel
theorem dX7_readNumber_77 : decode cX7_readNumber 77 = .ok (.iadd, 1) := by decide +kernel
theorem dX7_readNumber_78 : decode cX7_readNumber 78 = .ok (.putfield 29, 3) := by decide +kernel
theorem dX7_readNumber_81 : decode cX7_readNumber 81 = .ok (.goto (-70), 3) := by decide +kernel
theorem dX7_readNumber_84 : decode cX7_readNumber 84 = .ok (.aload_n 0, 1) := by decide +kernel
theorem dX7_readNumber_85 : decode cX7_readNumber 85 = .ok (.getfield 29, 3) := by decide +kernel
theorem dX7_readNumber_88 : decode cX7_readNumber 88 = .ok (.iload_n 1, 1) := by decide +kernel
theorem dX7_readNumber_89 : decode cX7_readNumber 89 = .ok (.if_icmp .ne 12, 3) := by decide +kernel
theorem dX7_readNumber_92 : decode cX7_readNumber 92 = .ok (.aload_n 0, 1) := by decide +kernel
theorem dX7_readNumber_93 : decode cX7_readNumber 93 = .ok (.iconst 1, 1) := by decide +kernel
theorem dX7_readNumber_94 : decode cX7_readNumber 94 = .ok (.iload_n 1, 1) := by decide +kernel
theorem dX7_readNumber_95 : decode cX7_readNumber 95 = .ok (.invokevirtual 71, 3) := by decide +kernel
theorem dX7_readNumber_98 : decode cX7_readNumber 98 = .ok (.pop, 1) := by decide +kernel
theorem dX7_readNumber_99 : decode cX7_readNumber 99 = .ok (.iconst (-1), 1) := by decide +kernel
theorem dX7_readNumber_100 : decode cX7_readNumber 100 = .ok (.ireturn, 1) := by decide +kernel
theorem dX7_readNumber_101 : decode cX7_readNumber 101 = .ok (.iload_n 2, 1) := by decide +kernel
theorem dX7_readNumber_102 : decode cX7_readNumber 102 = .ok (.sipush 5000, 3) := by decide +kernel
theorem dX7_readNumber_105 : decode cX7_readNumber 105 = .ok (.if_icmp .le 12, 3) := by decide +kernel
theorem dX7_readNumber_108 : decode cX7_readNumber 108 = .ok (.aload_n 0, 1) := by decide +kernel
theorem dX7_readNumber_109 : decode cX7_readNumber 109 = .ok (.iconst 2, 1) := by decide +kernel
theorem dX7_readNumber_110 : decode cX7_readNumber 110 = .ok (.iload_n 1, 1) := by decide +kernel
theorem dX7_readNumber_111 : decode cX7_readNumber 111 = .ok (.invokevirtual 71, 3) := by decide +kernel
theorem dX7_readNumber_114 : decode cX7_readNumber 114 = .ok (.pop, 1) := by decide +kernel
theorem dX7_readNumber_115 : decode cX7_readNumber 115 = .ok (.iconst (-1), 1) := by decide +kernel
theorem dX7_readNumber_116 : decode cX7_readNumber 116 = .ok (.ireturn, 1) := by decide +kernel
theorem dX7_readNumber_117 : decode cX7_readNumber 117 = .ok (.iload_n 2, 1) := by decide +kernel
theorem dX7_readNumber_118 : decode cX7_readNumber 118 = .ok (.ireturn, 1) := by decide +kernel
set_option maxRecDepth 20000 in
theorem ggX7_skipBlanks_X7_byteAt : GoodIn wsX7_skipBlanks wsX7_byteAt := goodIn_r _ [7, 2, 8, 9, 10, 11, 12, 13, 14, 15] (by decide +kernel) (by decide +kernel)
set_option maxRecDepth 20000 in
theorem gX7_skipBlanks_X7_byteAt : GoodIn wsX7_skipBlanks (wsV RX7 123 RX7 yX7_byteAt wsX7_byteAt) := goodIn_app (goodIn_of _ (by decide +kernel)) ggX7_skipBlanks_X7_byteAt
theorem dX7_skipBlanks_0 : decode cX7_skipBlanks 0 = .ok (.aload_n 0, 1) := by decide +kernel
theorem dX7_skipBlanks_1 : decode cX7_skipBlanks 1 = .ok (.getfield 29, 3) := by decide +kernel
theorem dX7_skipBlanks_4 : decode cX7_skipBlanks 4 = .ok (.aload_n 0, 1) := by decide +kernel
theorem dX7_skipBlanks_5 : decode cX7_skipBlanks 5 = .ok (.getfield 26, 3) := by decide +kernel
theorem dX7_skipBlanks_8 : decode cX7_skipBlanks 8 = .ok (.if_icmp .ge 29, 3) := by decide +kernel
theorem dX7_skipBlanks_11 : decode cX7_skipBlanks 11 = .ok (.aload_n 0, 1) := by decide +kernel
theorem dX7_skipBlanks_12 : decode cX7_skipBlanks 12 = .ok (.aload_n 0, 1) := by decide +kernel
theorem dX7_skipBlanks_13 : decode cX7_skipBlanks 13 = .ok (.getfield 29, 3) := by decide +kernel
theorem dX7_skipBlanks_16 : decode cX7_skipBlanks 16 = .ok (.invokevirtual 123, 3) := by decide +kernel
theorem dX7_skipBlanks_19 : decode cX7_skipBlanks 19 = .ok (.bipush 32, 2) := by decide +kernel
theorem dX7_skipBlanks_21 : decode cX7_skipBlanks 21 = .ok (.if_icmp .ne 16, 3) := by decide +kernel
theorem dX7_skipBlanks_24 : decode cX7_skipBlanks 24 = .ok (.aload_n 0, 1) := by decide +kernel
theorem dX7_skipBlanks_25 : decode cX7_skipBlanks 25 = .ok (.dup, 1) := by decide +kernel
theorem dX7_skipBlanks_26 : decode cX7_skipBlanks 26 = .ok (.getfield 29, 3) := by decide +kernel
theorem dX7_skipBlanks_29 : decode cX7_skipBlanks 29 = .ok (.iconst 1, 1) := by decide +kernel
theorem dX7_skipBlanks_30 : decode cX7_skipBlanks 30 = .ok (.iadd, 1) := by decide +kernel
theorem dX7_skipBlanks_31 : decode cX7_skipBlanks 31 = .ok (.putfield 29, 3) := by decide +kernel
theorem dX7_skipBlanks_34 : decode cX7_skipBlanks 34 = .ok (.goto (-34), 3) := by decide +kernel
theorem dX7_skipBlanks_37 : decode cX7_skipBlanks 37 = .ok (.return_, 1) := by decide +kernel
theorem dX7_byteAt_0 : decode cX7_byteAt 0 = .ok (.iload_n 1, 1) := by decide +kernel
theorem dX7_byteAt_1 : decode cX7_byteAt 1 = .ok (.ifCond .lt 18, 3) := by decide +kernel
theorem dX7_byteAt_4 : decode cX7_byteAt 4 = .ok (.iload_n 1, 1) := by decide +kernel
theorem dX7_byteAt_5 : decode cX7_byteAt 5 = .ok (.aload_n 0, 1) := by decide +kernel
theorem dX7_byteAt_6 : decode cX7_byteAt 6 = .ok (.getfield 26, 3) := by decide +kernel
theorem dX7_byteAt_9 : decode cX7_byteAt 9 = .ok (.if_icmp .ge 10, 3) := by decide +kernel
theorem dX7_byteAt_12 : decode cX7_byteAt 12 = .ok (.iload_n 1, 1) := by decide +kernel
theorem dX7_byteAt_13 : decode cX7_byteAt 13 = .ok (.sipush 200, 3) := by decide +kernel
theorem dX7_byteAt_16 : decode cX7_byteAt 16 = .ok (.if_icmp .lt 7, 3) := by decide +kernel
theorem dX7_byteAt_19 : decode cX7_byteAt 19 = .ok (.iconst (-1), 1) := by decide +kernel
theorem dX7_byteAt_20 : decode cX7_byteAt 20 = .ok (.goto 9, 3) := by decide +kernel
theorem dX7_byteAt_23 : decode cX7_byteAt 23 = .ok (.aload_n 0, 1) := by decide +kernel
theorem dX7_byteAt_24 : decode cX7_byteAt 24 = .ok (.getfield 11, 3) := by decide +kernel
theorem dX7_byteAt_27 : decode cX7_byteAt 27 = .ok (.iload_n 1, 1) := by decide +kernel
theorem dX7_byteAt_28 : decode cX7_byteAt 28 = .ok (.iaload, 1) := by decide +kernel
theorem dX7_byteAt_29 : decode cX7_byteAt 29 = .ok (.ireturn, 1) := by decide +kernel
theorem dX7_refuse_0 : decode cX7_refuse 0 = .ok (.aload_n 0, 1) := by decide +kernel
theorem dX7_refuse_1 : decode cX7_refuse 1 = .ok (.iload_n 1, 1) := by decide +kernel
theorem dX7_refuse_2 : decode cX7_refuse 2 = .ok (.putfield 32, 3) := by decide +kernel
theorem dX7_refuse_5 : decode cX7_refuse 5 = .ok (.aload_n 0, 1) := by decide +kernel
theorem dX7_refuse_6 : decode cX7_refuse 6 = .ok (.iload_n 2, 1) := by decide +kernel
theorem dX7_refuse_7 : decode cX7_refuse 7 = .ok (.putfield 35, 3) := by decide +kernel
theorem dX7_refuse_10 : decode cX7_refuse 10 = .ok (.iconst 0, 1) := by decide +kernel
theorem dX7_refuse_11 : decode cX7_refuse 11 = .ok (.ireturn, 1) := by decide +kernel
set_option maxRecDepth 20000 in
theorem ggX8_init_X3_init : GoodIn wsX8_init wsX3_init := goodIn_r _ [39, 40, 2, 3, 41, 42, 43, 44, 45, 100, 101, 102] (by decide +kernel) (by decide +kernel)
set_option maxRecDepth 20000 in
theorem gX8_init_X3_init : GoodIn wsX8_init (wsX3_init) := ggX8_init_X3_init
set_option maxRecDepth 20000 in
theorem ggX8_init_X1_init : GoodIn wsX8_init wsX1_init := goodIn_r _ [47, 48, 2, 3, 49, 50, 112, 113] (by decide +kernel) (by decide +kernel)
set_option maxRecDepth 20000 in
theorem gX8_init_X1_init_n18 : GoodIn wsX8_init (wsX1_init) := ggX8_init_X1_init
set_option maxRecDepth 20000 in
theorem ggX8_init_X7_init : GoodIn wsX8_init wsX7_init := goodIn_r _ [52, 53, 2, 3, 41, 54, 55, 56, 17, 18, 57, 58, 59, 60, 61, 62, 63, 64, 65, 66, 67, 68, 69, 70, 114, 115, 116, 117, 118, 119, 120, 121, 122, 123, 124, 125, 126] (by decide +kernel) (by decide +kernel)
set_option maxRecDepth 20000 in
theorem gX8_init_X7_init_n25 : GoodIn wsX8_init (wsX7_init) := ggX8_init_X7_init
set_option maxRecDepth 20000 in
theorem ggX8_init_X6_init : GoodIn wsX8_init wsX6_init := goodIn_r _ [63, 64, 2, 3, 65, 66, 67, 68, 41, 69, 70, 121, 122, 123, 124, 125, 126] (by decide +kernel) (by decide +kernel)
set_option maxRecDepth 20000 in
theorem gX8_init_X6_init_n32 : GoodIn wsX8_init (wsX6_init) := ggX8_init_X6_init
set_option maxRecDepth 20000 in
theorem ggX8_init_X0_init : GoodIn wsX8_init wsX0_init := goodIn_r _ [72, 73, 2, 3, 41, 74, 75, 76, 77, 127, 128, 129, 130] (by decide +kernel) (by decide +kernel)
set_option maxRecDepth 20000 in
theorem gX8_init_X0_init_n39 : GoodIn wsX8_init (wsX0_init) := ggX8_init_X0_init
set_option maxRecDepth 20000 in
theorem ggX8_init_X5_init : GoodIn wsX8_init wsX5_init := goodIn_r _ [79, 80, 2, 3, 41, 81, 82, 83, 84, 85, 86, 87, 131, 132, 133, 134, 135, 136, 137] (by decide +kernel) (by decide +kernel)
set_option maxRecDepth 20000 in
theorem gX8_init_X5_init_n46 : GoodIn wsX8_init (wsX5_init) := ggX8_init_X5_init
set_option maxRecDepth 20000 in
theorem ggX8_init_X2_init : GoodIn wsX8_init wsX2_init := goodIn_r _ [89, 90, 2, 3, 44, 91, 92, 138, 139] (by decide +kernel) (by decide +kernel)
set_option maxRecDepth 20000 in
theorem gX8_init_X2_init_n53 : GoodIn wsX8_init (wsX2_init) := ggX8_init_X2_init
set_option maxRecDepth 20000 in
theorem ggX8_init_X4_init : GoodIn wsX8_init wsX4_init := goodIn_r _ [94, 95, 2, 3, 41, 96, 97, 98, 99, 140, 141, 142, 143] (by decide +kernel) (by decide +kernel)
set_option maxRecDepth 20000 in
theorem gX8_init_X4_init_n60 : GoodIn wsX8_init (wsX4_init) := ggX8_init_X4_init
theorem dX8_init_0 : decode cX8_init 0 = .ok (.aload_n 0, 1) := by decide +kernel
theorem dX8_init_1 : decode cX8_init 1 = .ok (.invokespecial 1, 3) := by decide +kernel
theorem dX8_init_4 : decode cX8_init 4 = .ok (.aload_n 0, 1) := by decide +kernel
theorem dX8_init_5 : decode cX8_init 5 = .ok (.new 7, 3) := by decide +kernel
theorem dX8_init_8 : decode cX8_init 8 = .ok (.dup, 1) := by decide +kernel
theorem dX8_init_9 : decode cX8_init 9 = .ok (.invokespecial 9, 3) := by decide +kernel
theorem dX8_init_12 : decode cX8_init 12 = .ok (.putfield 10, 3) := by decide +kernel
theorem dX8_init_15 : decode cX8_init 15 = .ok (.aload_n 0, 1) := by decide +kernel
theorem dX8_init_16 : decode cX8_init 16 = .ok (.new 16, 3) := by decide +kernel
theorem dX8_init_19 : decode cX8_init 19 = .ok (.dup, 1) := by decide +kernel
theorem dX8_init_20 : decode cX8_init 20 = .ok (.invokespecial 18, 3) := by decide +kernel
theorem dX8_init_23 : decode cX8_init 23 = .ok (.putfield 19, 3) := by decide +kernel
theorem dX8_init_26 : decode cX8_init 26 = .ok (.aload_n 0, 1) := by decide +kernel
theorem dX8_init_27 : decode cX8_init 27 = .ok (.new 23, 3) := by decide +kernel
theorem dX8_init_30 : decode cX8_init 30 = .ok (.dup, 1) := by decide +kernel
theorem dX8_init_31 : decode cX8_init 31 = .ok (.invokespecial 25, 3) := by decide +kernel
theorem dX8_init_34 : decode cX8_init 34 = .ok (.putfield 26, 3) := by decide +kernel
theorem dX8_init_37 : decode cX8_init 37 = .ok (.aload_n 0, 1) := by decide +kernel
theorem dX8_init_38 : decode cX8_init 38 = .ok (.new 30, 3) := by decide +kernel
theorem dX8_init_41 : decode cX8_init 41 = .ok (.dup, 1) := by decide +kernel
theorem dX8_init_42 : decode cX8_init 42 = .ok (.invokespecial 32, 3) := by decide +kernel
theorem dX8_init_45 : decode cX8_init 45 = .ok (.putfield 33, 3) := by decide +kernel
theorem dX8_init_48 : decode cX8_init 48 = .ok (.aload_n 0, 1) := by decide +kernel
theorem dX8_init_49 : decode cX8_init 49 = .ok (.new 37, 3) := by decide +kernel
theorem dX8_init_52 : decode cX8_init 52 = .ok (.dup, 1) := by decide +kernel
theorem dX8_init_53 : decode cX8_init 53 = .ok (.invokespecial 39, 3) := by decide +kernel
theorem dX8_init_56 : decode cX8_init 56 = .ok (.putfield 40, 3) := by decide +kernel
theorem dX8_init_59 : decode cX8_init 59 = .ok (.aload_n 0, 1) := by decide +kernel
theorem dX8_init_60 : decode cX8_init 60 = .ok (.new 44, 3) := by decide +kernel
theorem dX8_init_63 : decode cX8_init 63 = .ok (.dup, 1) := by decide +kernel
theorem dX8_init_64 : decode cX8_init 64 = .ok (.invokespecial 46, 3) := by decide +kernel
theorem dX8_init_67 : decode cX8_init 67 = .ok (.putfield 47, 3) := by decide +kernel
theorem dX8_init_70 : decode cX8_init 70 = .ok (.aload_n 0, 1) := by decide +kernel
theorem dX8_init_71 : decode cX8_init 71 = .ok (.new 51, 3) := by decide +kernel
theorem dX8_init_74 : decode cX8_init 74 = .ok (.dup, 1) := by decide +kernel
theorem dX8_init_75 : decode cX8_init 75 = .ok (.invokespecial 53, 3) := by decide +kernel
theorem dX8_init_78 : decode cX8_init 78 = .ok (.putfield 54, 3) := by decide +kernel
theorem dX8_init_81 : decode cX8_init 81 = .ok (.aload_n 0, 1) := by decide +kernel
theorem dX8_init_82 : decode cX8_init 82 = .ok (.new 58, 3) := by decide +kernel
theorem dX8_init_85 : decode cX8_init 85 = .ok (.dup, 1) := by decide +kernel
theorem dX8_init_86 : decode cX8_init 86 = .ok (.invokespecial 60, 3) := by decide +kernel
theorem dX8_init_89 : decode cX8_init 89 = .ok (.putfield 61, 3) := by decide +kernel
theorem dX8_init_92 : decode cX8_init 92 = .ok (.aload_n 0, 1) := by decide +kernel
theorem dX8_init_93 : decode cX8_init 93 = .ok (.iconst 0, 1) := by decide +kernel
theorem dX8_init_94 : decode cX8_init 94 = .ok (.putfield 65, 3) := by decide +kernel
theorem dX8_init_97 : decode cX8_init 97 = .ok (.return_, 1) := by decide +kernel
set_option maxRecDepth 20000 in
theorem ggX8_sound_X8_needCell : GoodIn wsX8_sound wsX8_needCell := goodIn_ca (goodIn_r _ [5, 6, 7, 8, 9, 4, 10] (by decide +kernel) (by decide +kernel)) (goodIn_sub (fun _ h => List.mem_cons_of_mem _ (List.mem_append_left _ (List.mem_append_right _ h))) (by decide +kernel))
set_option maxRecDepth 20000 in
theorem gX8_sound_X8_needCell : GoodIn wsX8_sound (va_wsS RX8 69 yX8_needCell wsX8_needCell) := goodIn_app (goodIn_of _ (by decide +kernel)) ggX8_sound_X8_needCell
set_option maxRecDepth 20000 in
theorem ggX8_sound_X8_needSounding : GoodIn wsX8_sound wsX8_needSounding := goodIn_ca (goodIn_r _ [13, 14, 15] (by decide +kernel) (by decide +kernel)) (goodIn_sub (fun _ h => List.mem_cons_of_mem _ (List.mem_append_right _ h)) (by decide +kernel))
set_option maxRecDepth 20000 in
theorem gX8_sound_X8_needSounding : GoodIn wsX8_sound (va_wsS RX8 73 yX8_needSounding wsX8_needSounding) := goodIn_app (goodIn_of _ (by decide +kernel)) ggX8_sound_X8_needSounding
set_option maxRecDepth 20000 in
theorem ggX8_sound_X3_setBounds : GoodIn wsX8_sound wsX3_setBounds := goodIn_r _ [20, 21, 22, 23, 24, 19, 25, 26, 27, 28, 29, 30, 31, 32, 42, 43, 44] (by decide +kernel) (by decide +kernel)
set_option maxRecDepth 20000 in
theorem gX8_sound_X3_setBounds : GoodIn wsX8_sound (wsV RX8 77 RX3 yX3_setBounds wsX3_setBounds) := goodIn_app (goodIn_of _ (by decide +kernel)) ggX8_sound_X3_setBounds
theorem dX8_sound_0 : decode cX8_sound 0 = .ok (.iload_n 1, 1) := by decide +kernel
theorem dX8_sound_1 : decode cX8_sound 1 = .ok (.invokestatic 69, 3) := by decide +kernel
theorem dX8_sound_4 : decode cX8_sound 4 = .ok (.iload_n 2, 1) := by decide +kernel
theorem dX8_sound_5 : decode cX8_sound 5 = .ok (.iload_n 3, 1) := by decide +kernel
theorem dX8_sound_6 : decode cX8_sound 6 = .ok (.invokestatic 73, 3) := by decide +kernel
theorem dX8_sound_9 : decode cX8_sound 9 = .ok (.aload_n 0, 1) := by decide +kernel
theorem dX8_sound_10 : decode cX8_sound 10 = .ok (.getfield 10, 3) := by decide +kernel
theorem dX8_sound_13 : decode cX8_sound 13 = .ok (.iload_n 1, 1) := by decide +kernel
theorem dX8_sound_14 : decode cX8_sound 14 = .ok (.iload_n 2, 1) := by decide +kernel
theorem dX8_sound_15 : decode cX8_sound 15 = .ok (.iload_n 3, 1) := by decide +kernel
theorem dX8_sound_16 : decode cX8_sound 16 = .ok (.invokevirtual 77, 3) := by decide +kernel
theorem dX8_sound_19 : decode cX8_sound 19 = .ok (.ireturn, 1) := by decide +kernel
set_option maxRecDepth 20000 in
theorem ggX8_soundRow_X8_needSounding : GoodIn wsX8_soundRow wsX8_needSounding := goodIn_ca (goodIn_r _ [11, 12, 13] (by decide +kernel) (by decide +kernel)) (goodIn_sub (fun _ h => List.mem_cons_of_mem _ (List.mem_append_right _ h)) (by decide +kernel))
set_option maxRecDepth 20000 in
theorem gX8_soundRow_X8_needSounding : GoodIn wsX8_soundRow (va_wsS RX8 73 yX8_needSounding wsX8_needSounding) := goodIn_app (goodIn_of _ (by decide +kernel)) ggX8_soundRow_X8_needSounding
set_option maxRecDepth 20000 in
theorem ggX8_soundRow_X3_setBounds : GoodIn wsX8_soundRow wsX3_setBounds := goodIn_r _ [18, 19, 20, 21, 22, 17, 23, 24, 25, 6, 26, 27, 5, 7, 37, 38, 39] (by decide +kernel) (by decide +kernel)
set_option maxRecDepth 20000 in
theorem gX8_soundRow_X3_setBounds : GoodIn wsX8_soundRow (wsV RX8 77 RX3 yX3_setBounds wsX3_setBounds) := goodIn_app (goodIn_of _ (by decide +kernel)) ggX8_soundRow_X3_setBounds
theorem dX8_soundRow_0 : decode cX8_soundRow 0 = .ok (.iload_n 1, 1) := by decide +kernel
theorem dX8_soundRow_1 : decode cX8_soundRow 1 = .ok (.ifCond .lt 9, 3) := by decide +kernel
theorem dX8_soundRow_4 : decode cX8_soundRow 4 = .ok (.iload_n 1, 1) := by decide +kernel
theorem dX8_soundRow_5 : decode cX8_soundRow 5 = .ok (.bipush 12, 2) := by decide +kernel
theorem dX8_soundRow_7 : decode cX8_soundRow 7 = .ok (.if_icmp .lt 13, 3) := by decide +kernel
theorem dX8_soundRow_10 : decode cX8_soundRow 10 = .ok (.new 81, 3) := by decide +kernel
theorem dX8_soundRow_13 : decode cX8_soundRow 13 = .ok (.dup, 1) := by decide +kernel
theorem dX8_soundRow_14 : decode cX8_soundRow 14 = .ok (.ldc 83, 2) := by decide +kernel
theorem dX8_soundRow_16 : decode cX8_soundRow 16 = .ok (.invokespecial 85, 3) := by decide +kernel
theorem dX8_soundRow_19 : decode cX8_soundRow 19 = .ok (.athrow, 1) := by decide +kernel
theorem dX8_soundRow_20 : decode cX8_soundRow 20 = .ok (.iload_n 2, 1) := by decide +kernel
theorem dX8_soundRow_21 : decode cX8_soundRow 21 = .ok (.iload_n 3, 1) := by decide +kernel
theorem dX8_soundRow_22 : decode cX8_soundRow 22 = .ok (.invokestatic 73, 3) := by decide +kernel
theorem dX8_soundRow_25 : decode cX8_soundRow 25 = .ok (.iconst 0, 1) := by decide +kernel
theorem dX8_soundRow_26 : decode cX8_soundRow 26 = .ok (.istore 4, 2) := by decide +kernel
theorem dX8_soundRow_28 : decode cX8_soundRow 28 = .ok (.iconst 0, 1) := by decide +kernel
theorem dX8_soundRow_29 : decode cX8_soundRow 29 = .ok (.istore 5, 2) := by decide +kernel
theorem dX8_soundRow_31 : decode cX8_soundRow 31 = .ok (.iload 5, 2) := by decide +kernel
theorem dX8_soundRow_33 : decode cX8_soundRow 33 = .ok (.bipush 12, 2) := by decide +kernel
theorem dX8_soundRow_35 : decode cX8_soundRow 35 = .ok (.if_icmp .ge 32, 3) := by decide +kernel
theorem dX8_soundRow_38 : decode cX8_soundRow 38 = .ok (.iload 4, 2) := by decide +kernel
theorem dX8_soundRow_40 : decode cX8_soundRow 40 = .ok (.aload_n 0, 1) := by decide +kernel
theorem dX8_soundRow_41 : decode cX8_soundRow 41 = .ok (.getfield 10, 3) := by decide +kernel
theorem dX8_soundRow_44 : decode cX8_soundRow 44 = .ok (.bipush 12, 2) := by decide +kernel
theorem dX8_soundRow_46 : decode cX8_soundRow 46 = .ok (.iload_n 1, 1) := by decide +kernel
theorem dX8_soundRow_47 : decode cX8_soundRow 47 = .ok (.imul, 1) := by decide +kernel
theorem dX8_soundRow_48 : decode cX8_soundRow 48 = .ok (.iload 5, 2) := by decide +kernel
theorem dX8_soundRow_50 : decode cX8_soundRow 50 = .ok (.iadd, 1) := by decide +kernel
theorem dX8_soundRow_51 : decode cX8_soundRow 51 = .ok (.iload_n 2, 1) := by decide +kernel
theorem dX8_soundRow_52 : decode cX8_soundRow 52 = .ok (.iload_n 3, 1) := by decide +kernel
theorem dX8_soundRow_53 : decode cX8_soundRow 53 = .ok (.invokevirtual 77, 3) := by decide +kernel
theorem dX8_soundRow_56 : decode cX8_soundRow 56 = .ok (.invokestatic 88, 3) := by decide +kernel
theorem dX8_soundRow_59 : decode cX8_soundRow 59 = .ok (.istore 4, 2) := by decide +kernel
theorem dX8_soundRow_61 : decode cX8_soundRow 61 = .ok (.iinc 5 1, 3) := by decide +kernel
theorem dX8_soundRow_64 : decode cX8_soundRow 64 = .ok (.goto (-33), 3) := by decide +kernel
theorem dX8_soundRow_67 : decode cX8_soundRow 67 = .ok (.iload 4, 2) := by decide +kernel
theorem dX8_soundRow_69 : decode cX8_soundRow 69 = .ok (.ireturn, 1) := by decide +kernel
set_option maxRecDepth 20000 in
theorem ggX8_crack_X8_needCell : GoodIn wsX8_crack wsX8_needCell := goodIn_ca (goodIn_r _ [5, 6, 7, 8, 9, 4, 10] (by decide +kernel) (by decide +kernel)) (goodIn_sub (fun _ h => List.mem_cons_of_mem _ (List.mem_append_right _ h)) (by decide +kernel))
set_option maxRecDepth 20000 in
theorem gX8_crack_X8_needCell : GoodIn wsX8_crack (va_wsS RX8 69 yX8_needCell wsX8_needCell) := goodIn_app (goodIn_of _ (by decide +kernel)) ggX8_crack_X8_needCell
set_option maxRecDepth 20000 in
theorem ggX8_crack_X3_setCracked : GoodIn wsX8_crack wsX3_setCracked := goodIn_r _ [15, 16, 26, 27, 28] (by decide +kernel) (by decide +kernel)
set_option maxRecDepth 20000 in
theorem gX8_crack_X3_setCracked : GoodIn wsX8_crack (wsV RX8 94 RX3 yX3_setCracked wsX3_setCracked) := goodIn_app (goodIn_of _ (by decide +kernel)) ggX8_crack_X3_setCracked
theorem dX8_crack_0 : decode cX8_crack 0 = .ok (.iload_n 1, 1) := by decide +kernel
theorem dX8_crack_1 : decode cX8_crack 1 = .ok (.invokestatic 69, 3) := by decide +kernel
theorem dX8_crack_4 : decode cX8_crack 4 = .ok (.aload_n 0, 1) := by decide +kernel
theorem dX8_crack_5 : decode cX8_crack 5 = .ok (.getfield 10, 3) := by decide +kernel
theorem dX8_crack_8 : decode cX8_crack 8 = .ok (.iload_n 1, 1) := by decide +kernel
theorem dX8_crack_9 : decode cX8_crack 9 = .ok (.iload_n 2, 1) := by decide +kernel
theorem dX8_crack_10 : decode cX8_crack 10 = .ok (.invokevirtual 94, 3) := by decide +kernel
theorem dX8_crack_13 : decode cX8_crack 13 = .ok (.ireturn, 1) := by decide +kernel
set_option maxRecDepth 20000 in
theorem ggX8_hour_X8_needDegrees : GoodIn wsX8_hour wsX8_needDegrees := goodIn_ca (goodIn_r _ [6, 7, 8] (by decide +kernel) (by decide +kernel)) (goodIn_sub (fun _ h => List.mem_cons_of_mem _ (List.mem_append_right _ h)) (by decide +kernel))
set_option maxRecDepth 20000 in
theorem gX8_hour_X8_needDegrees : GoodIn wsX8_hour (va_wsS RX8 98 yX8_needDegrees wsX8_needDegrees) := goodIn_app (goodIn_of _ (by decide +kernel)) ggX8_hour_X8_needDegrees
set_option maxRecDepth 20000 in
theorem ggX8_hour_X3_passHour : GoodIn wsX8_hour wsX3_passHour := goodIn_r _ [13, 14, 15, 16, 17, 12, 18, 19, 20, 21, 22, 23, 24, 25, 52, 53, 54] (by decide +kernel) (by decide +kernel)
set_option maxRecDepth 20000 in
theorem gX8_hour_X3_passHour : GoodIn wsX8_hour (wsV RX8 101 RX3 yX3_passHour wsX3_passHour) := goodIn_app (goodIn_of _ (by decide +kernel)) ggX8_hour_X3_passHour
set_option maxRecDepth 20000 in
theorem ggX8_hour_X3_safeCells : GoodIn wsX8_hour wsX3_safeCells := goodIn_r _ [29, 30, 31, 32, 12, 33, 14, 34, 35, 5, 36, 52, 53, 54] (by decide +kernel) (by decide +kernel)
set_option maxRecDepth 20000 in
theorem gX8_hour_X3_safeCells : GoodIn wsX8_hour (wsV RX8 107 RX3 yX3_safeCells wsX3_safeCells) := goodIn_app (goodIn_of _ (by decide +kernel)) ggX8_hour_X3_safeCells
