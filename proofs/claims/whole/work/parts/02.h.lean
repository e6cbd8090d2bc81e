theorem dX9_move_79 : decode cX9_move 79 = .ok (.getfield 24, 3) := by decide +kernel
theorem dX9_move_82 : decode cX9_move 82 = .ok (.if_icmp .ne 7, 3) := by decide +kernel
theorem dX9_move_85 : decode cX9_move 85 = .ok (.iconst 0, 1) := by decide +kernel
theorem dX9_move_86 : decode cX9_move 86 = .ok (.goto 4, 3) := by decide +kernel
theorem dX9_move_89 : decode cX9_move 89 = .ok (.iconst 1, 1) := by decide +kernel
theorem dX9_move_90 : decode cX9_move 90 = .ok (.aload_n 0, 1) := by decide +kernel
theorem dX9_move_91 : decode cX9_move 91 = .ok (.iload 5, 2) := by decide +kernel
theorem dX9_move_93 : decode cX9_move 93 = .ok (.iload 7, 2) := by decide +kernel
theorem dX9_move_95 : decode cX9_move 95 = .ok (.invokevirtual 126, 3) := by decide +kernel
theorem dX9_move_98 : decode cX9_move 98 = .ok (.aload_n 0, 1) := by decide +kernel
theorem dX9_move_99 : decode cX9_move 99 = .ok (.getfield 27, 3) := by decide +kernel
theorem dX9_move_102 : decode cX9_move 102 = .ok (.if_icmp .ne 7, 3) := by decide +kernel
theorem dX9_move_105 : decode cX9_move 105 = .ok (.iconst 0, 1) := by decide +kernel
theorem dX9_move_106 : decode cX9_move 106 = .ok (.goto 4, 3) := by decide +kernel
theorem dX9_move_109 : decode cX9_move 109 = .ok (.iconst 1, 1) := by decide +kernel
theorem dX9_move_110 : decode cX9_move 110 = .ok (.iadd, 1) := by decide +kernel
theorem dX9_move_111 : decode cX9_move 111 = .ok (.istore 8, 2) := by decide +kernel
theorem dX9_move_113 : decode cX9_move 113 = .ok (.iload 8, 2) := by decide +kernel
theorem dX9_move_115 : decode cX9_move 115 = .ok (.iload_n 2, 1) := by decide +kernel
theorem dX9_move_116 : decode cX9_move 116 = .ok (.if_icmp .gt 28, 3) := by decide +kernel
theorem dX9_move_119 : decode cX9_move 119 = .ok (.iload 8, 2) := by decide +kernel
theorem dX9_move_121 : decode cX9_move 121 = .ok (.iload_n 2, 1) := by decide +kernel
theorem dX9_move_122 : decode cX9_move 122 = .ok (.if_icmp .ne 12, 3) := by decide +kernel
theorem dX9_move_125 : decode cX9_move 125 = .ok (.iload 7, 2) := by decide +kernel
theorem dX9_move_127 : decode cX9_move 127 = .ok (.iload_n 3, 1) := by decide +kernel
theorem dX9_move_128 : decode cX9_move 128 = .ok (.if_icmp .gt 6, 3) := by decide +kernel
theorem dX9_move_131 : decode cX9_move 131 = .ok (.goto 13, 3) := by decide +kernel
theorem dX9_move_134 : decode cX9_move 134 = .ok (.iload 8, 2) := by decide +kernel
theorem dX9_move_136 : decode cX9_move 136 = .ok (.istore_n 2, 1) := by decide +kernel
theorem dX9_move_137 : decode cX9_move 137 = .ok (.iload 7, 2) := by decide +kernel
theorem dX9_move_139 : decode cX9_move 139 = .ok (.istore_n 3, 1) := by decide +kernel
theorem dX9_move_140 : decode cX9_move 140 = .ok (.iload 5, 2) := by decide +kernel
theorem dX9_move_142 : decode cX9_move 142 = .ok (.istore 4, 2) := by decide +kernel
theorem dX9_move_144 : decode cX9_move 144 = .ok (.iinc 7 1, 3) := by decide +kernel
theorem dX9_move_147 : decode cX9_move 147 = .ok (.goto (-78), 3) := by decide +kernel
theorem dX9_move_150 : decode cX9_move 150 = .ok (.iinc 5 1, 3) := by decide +kernel
theorem dX9_move_153 : decode cX9_move 153 = .ok (.goto (-103), 3) := by decide +kernel
theorem dX9_move_156 : decode cX9_move 156 = .ok (.iload 4, 2) := by decide +kernel
theorem dX9_move_158 : decode cX9_move 158 = .ok (.ifCond .ge 5, 3) := by decide +kernel
theorem dX9_move_161 : decode cX9_move 161 = .ok (.iconst (-1), 1) := by decide +kernel
theorem dX9_move_162 : decode cX9_move 162 = .ok (.ireturn, 1) := by decide +kernel
theorem dX9_move_163 : decode cX9_move 163 = .ok (.aload_n 0, 1) := by decide +kernel
theorem dX9_move_164 : decode cX9_move 164 = .ok (.iload 4, 2) := by decide +kernel
theorem dX9_move_166 : decode cX9_move 166 = .ok (.putfield 24, 3) := by decide +kernel
theorem dX9_move_169 : decode cX9_move 169 = .ok (.aload_n 0, 1) := by decide +kernel
theorem dX9_move_170 : decode cX9_move 170 = .ok (.aload_n 0, 1) := by decide +kernel
theorem dX9_move_171 : decode cX9_move 171 = .ok (.iload 4, 2) := by decide +kernel
theorem dX9_move_173 : decode cX9_move 173 = .ok (.iload_n 3, 1) := by decide +kernel
theorem dX9_move_174 : decode cX9_move 174 = .ok (.invokevirtual 126, 3) := by decide +kernel
theorem dX9_move_177 : decode cX9_move 177 = .ok (.putfield 27, 3) := by decide +kernel
theorem dX9_move_180 : decode cX9_move 180 = .ok (.iload_n 2, 1) := by decide +kernel
theorem dX9_move_181 : decode cX9_move 181 = .ok (.ireturn, 1) := by decide +kernel
set_option maxRecDepth 20000 in
theorem ggX9_mark_X9_bad : GoodIn wsX9_mark wsX9_bad := goodIn_r _ [8, 1, 9, 10, 11, 12, 13, 14, 15, 16, 17, 18, 19, 20, 21, 22, 23, 24, 25, 26, 27, 28, 29, 30, 31, 32, 33, 34, 35, 36, 37, 38, 39, 40, 41, 42, 43, 44, 45, 46, 47, 48, 49] (by decide +kernel) (by decide +kernel)
set_option maxRecDepth 20000 in
theorem gX9_mark_X9_bad : GoodIn wsX9_mark (wsV RX9 96 RX9 yX9_bad wsX9_bad) := goodIn_app (goodIn_of _ (by decide +kernel)) ggX9_mark_X9_bad
theorem dX9_mark_0 : decode cX9_mark 0 = .ok (.aload_n 0, 1) := by decide +kernel
theorem dX9_mark_1 : decode cX9_mark 1 = .ok (.iconst 0, 1) := by decide +kernel
theorem dX9_mark_2 : decode cX9_mark 2 = .ok (.putfield 82, 3) := by decide +kernel
theorem dX9_mark_5 : decode cX9_mark 5 = .ok (.aload_n 0, 1) := by decide +kernel
theorem dX9_mark_6 : decode cX9_mark 6 = .ok (.iload_n 1, 1) := by decide +kernel
theorem dX9_mark_7 : decode cX9_mark 7 = .ok (.ifCond .lt 8, 3) := by decide +kernel
theorem dX9_mark_10 : decode cX9_mark 10 = .ok (.iload_n 1, 1) := by decide +kernel
theorem dX9_mark_11 : decode cX9_mark 11 = .ok (.iconst 1, 1) := by decide +kernel
theorem dX9_mark_12 : decode cX9_mark 12 = .ok (.if_icmp .le 7, 3) := by decide +kernel
theorem dX9_mark_15 : decode cX9_mark 15 = .ok (.iconst 1, 1) := by decide +kernel
theorem dX9_mark_16 : decode cX9_mark 16 = .ok (.goto 4, 3) := by decide +kernel
theorem dX9_mark_19 : decode cX9_mark 19 = .ok (.iconst 0, 1) := by decide +kernel
theorem dX9_mark_20 : decode cX9_mark 20 = .ok (.iconst 1, 1) := by decide +kernel
theorem dX9_mark_21 : decode cX9_mark 21 = .ok (.invokevirtual 96, 3) := by decide +kernel
theorem dX9_mark_24 : decode cX9_mark 24 = .ok (.ifCond .eq 7, 3) := by decide +kernel
theorem dX9_mark_27 : decode cX9_mark 27 = .ok (.iconst 0, 1) := by decide +kernel
theorem dX9_mark_28 : decode cX9_mark 28 = .ok (.goto 18, 3) := by decide +kernel
theorem dX9_mark_31 : decode cX9_mark 31 = .ok (.iload_n 1, 1) := by decide +kernel
theorem dX9_mark_32 : decode cX9_mark 32 = .ok (.ifCond .ne 10, 3) := by decide +kernel
theorem dX9_mark_35 : decode cX9_mark 35 = .ok (.aload_n 0, 1) := by decide +kernel
theorem dX9_mark_36 : decode cX9_mark 36 = .ok (.getfield 24, 3) := by decide +kernel
theorem dX9_mark_39 : decode cX9_mark 39 = .ok (.goto 7, 3) := by decide +kernel
theorem dX9_mark_42 : decode cX9_mark 42 = .ok (.aload_n 0, 1) := by decide +kernel
theorem dX9_mark_43 : decode cX9_mark 43 = .ok (.getfield 27, 3) := by decide +kernel
theorem dX9_mark_46 : decode cX9_mark 46 = .ok (.ireturn, 1) := by decide +kernel
set_option maxRecDepth 20000 in
theorem ggX9_holds_X9_lengthFrom : GoodIn wsX9_holds wsX9_lengthFrom := goodIn_r _ [8, 9, 10, 11, 7, 12, 13, 14, 15, 16, 17, 18, 19, 20, 21, 22, 23, 24, 25, 26, 27, 28, 29, 30, 31, 32, 33, 34, 35, 36, 37, 38, 39, 40, 41, 42, 43, 44, 45, 46, 47, 48, 49, 50, 51, 52, 53, 54, 55, 56, 57, 58, 59, 60, 61, 62, 63, 64, 65, 66, 67] (by decide +kernel) (by decide +kernel)
set_option maxRecDepth 20000 in
theorem gX9_holds_X9_lengthFrom : GoodIn wsX9_holds (wsV RX9 130 RX9 yX9_lengthFrom wsX9_lengthFrom) := goodIn_app (goodIn_of _ (by decide +kernel)) ggX9_holds_X9_lengthFrom
set_option maxRecDepth 20000 in
theorem ggX9_holds_X9_stepped : GoodIn wsX9_holds wsX9_stepped := goodIn_r _ [12, 13, 14, 15, 7, 16, 17, 18, 19, 27, 28, 29, 30, 31, 32, 33, 34, 35, 36, 37, 38, 39, 40, 41, 42, 43, 44, 45, 46, 47, 48, 49, 50, 51, 52, 53, 54, 55, 56, 57, 58, 59, 60, 61, 62, 63, 64, 65, 66, 67] (by decide +kernel) (by decide +kernel)
set_option maxRecDepth 20000 in
theorem gX9_holds_X9_stepped : GoodIn wsX9_holds (wsV RX9 126 RX9 yX9_stepped wsX9_stepped) := goodIn_app (goodIn_of _ (by decide +kernel)) ggX9_holds_X9_stepped
theorem dX9_holds_0 : decode cX9_holds 0 = .ok (.aload_n 0, 1) := by decide +kernel
theorem dX9_holds_1 : decode cX9_holds 1 = .ok (.iconst 0, 1) := by decide +kernel
theorem dX9_holds_2 : decode cX9_holds 2 = .ok (.putfield 82, 3) := by decide +kernel
theorem dX9_holds_5 : decode cX9_holds 5 = .ok (.aload_n 0, 1) := by decide +kernel
theorem dX9_holds_6 : decode cX9_holds 6 = .ok (.getfield 24, 3) := by decide +kernel
theorem dX9_holds_9 : decode cX9_holds 9 = .ok (.ifCond .ge 5, 3) := by decide +kernel
theorem dX9_holds_12 : decode cX9_holds 12 = .ok (.iconst 0, 1) := by decide +kernel
theorem dX9_holds_13 : decode cX9_holds 13 = .ok (.ireturn, 1) := by decide +kernel
theorem dX9_holds_14 : decode cX9_holds 14 = .ok (.aload_n 0, 1) := by decide +kernel
theorem dX9_holds_15 : decode cX9_holds 15 = .ok (.aload_n 0, 1) := by decide +kernel
theorem dX9_holds_16 : decode cX9_holds 16 = .ok (.getfield 24, 3) := by decide +kernel
theorem dX9_holds_19 : decode cX9_holds 19 = .ok (.invokevirtual 130, 3) := by decide +kernel
theorem dX9_holds_22 : decode cX9_holds 22 = .ok (.istore_n 1, 1) := by decide +kernel
theorem dX9_holds_23 : decode cX9_holds 23 = .ok (.iconst 1, 1) := by decide +kernel
theorem dX9_holds_24 : decode cX9_holds 24 = .ok (.istore_n 2, 1) := by decide +kernel
theorem dX9_holds_25 : decode cX9_holds 25 = .ok (.iload_n 2, 1) := by decide +kernel
theorem dX9_holds_26 : decode cX9_holds 26 = .ok (.iload_n 1, 1) := by decide +kernel
theorem dX9_holds_27 : decode cX9_holds 27 = .ok (.if_icmp .gt 27, 3) := by decide +kernel
theorem dX9_holds_30 : decode cX9_holds 30 = .ok (.aload_n 0, 1) := by decide +kernel
theorem dX9_holds_31 : decode cX9_holds 31 = .ok (.aload_n 0, 1) := by decide +kernel
theorem dX9_holds_32 : decode cX9_holds 32 = .ok (.getfield 24, 3) := by decide +kernel
theorem dX9_holds_35 : decode cX9_holds 35 = .ok (.iload_n 2, 1) := by decide +kernel
theorem dX9_holds_36 : decode cX9_holds 36 = .ok (.invokevirtual 126, 3) := by decide +kernel
theorem dX9_holds_39 : decode cX9_holds 39 = .ok (.aload_n 0, 1) := by decide +kernel
theorem dX9_holds_40 : decode cX9_holds 40 = .ok (.getfield 27, 3) := by decide +kernel
theorem dX9_holds_43 : decode cX9_holds 43 = .ok (.if_icmp .ne 5, 3) := by decide +kernel
theorem dX9_holds_46 : decode cX9_holds 46 = .ok (.iconst 1, 1) := by decide +kernel
theorem dX9_holds_47 : decode cX9_holds 47 = .ok (.ireturn, 1) := by decide +kernel
theorem dX9_holds_48 : decode cX9_holds 48 = .ok (.iinc 2 1, 3) := by decide +kernel
theorem dX9_holds_51 : decode cX9_holds 51 = .ok (.goto (-26), 3) := by decide +kernel
theorem dX9_holds_54 : decode cX9_holds 54 = .ok (.iconst 0, 1) := by decide +kernel
theorem dX9_holds_55 : decode cX9_holds 55 = .ok (.ireturn, 1) := by decide +kernel
theorem dX9_feed_0 : decode cX9_feed 0 = .ok (.aload_n 0, 1) := by decide +kernel
theorem dX9_feed_1 : decode cX9_feed 1 = .ok (.iconst 0, 1) := by decide +kernel
theorem dX9_feed_2 : decode cX9_feed 2 = .ok (.putfield 82, 3) := by decide +kernel
theorem dX9_feed_5 : decode cX9_feed 5 = .ok (.aload_n 0, 1) := by decide +kernel
theorem dX9_feed_6 : decode cX9_feed 6 = .ok (.getfield 133, 3) := by decide +kernel
theorem dX9_feed_9 : decode cX9_feed 9 = .ok (.bipush 20, 2) := by decide +kernel
theorem dX9_feed_11 : decode cX9_feed 11 = .ok (.iadd, 1) := by decide +kernel
theorem dX9_feed_12 : decode cX9_feed 12 = .ok (.sipush 200, 3) := by decide +kernel
theorem dX9_feed_15 : decode cX9_feed 15 = .ok (.if_icmp .le 5, 3) := by decide +kernel
theorem dX9_feed_18 : decode cX9_feed 18 = .ok (.iconst (-1), 1) := by decide +kernel
theorem dX9_feed_19 : decode cX9_feed 19 = .ok (.ireturn, 1) := by decide +kernel
theorem dX9_feed_20 : decode cX9_feed 20 = .ok (.iconst 0, 1) := by decide +kernel
theorem dX9_feed_21 : decode cX9_feed 21 = .ok (.istore 6, 2) := by decide +kernel
theorem dX9_feed_23 : decode cX9_feed 23 = .ok (.iload 6, 2) := by decide +kernel
theorem dX9_feed_25 : decode cX9_feed 25 = .ok (.iconst 5, 1) := by decide +kernel
theorem dX9_feed_26 : decode cX9_feed 26 = .ok (.if_icmp .ge 93, 3) := by decide +kernel
theorem dX9_feed_29 : decode cX9_feed 29 = .ok (.iload 6, 2) := by decide +kernel
theorem dX9_feed_31 : decode cX9_feed 31 = .ok (.ifCond .ne 7, 3) := by decide +kernel
theorem dX9_feed_34 : decode cX9_feed 34 = .ok (.iload_n 1, 1) := by decide +kernel
theorem dX9_feed_35 : decode cX9_feed 35 = .ok (.goto 36, 3) := by decide +kernel
theorem dX9_feed_38 : decode cX9_feed 38 = .ok (.iload 6, 2) := by decide +kernel
theorem dX9_feed_40 : decode cX9_feed 40 = .ok (.iconst 1, 1) := by decide +kernel
theorem dX9_feed_41 : decode cX9_feed 41 = .ok (.if_icmp .ne 7, 3) := by decide +kernel
theorem dX9_feed_44 : decode cX9_feed 44 = .ok (.iload_n 2, 1) := by decide +kernel
theorem dX9_feed_45 : decode cX9_feed 45 = .ok (.goto 26, 3) := by decide +kernel
theorem dX9_feed_48 : decode cX9_feed 48 = .ok (.iload 6, 2) := by decide +kernel
theorem dX9_feed_50 : decode cX9_feed 50 = .ok (.iconst 2, 1) := by decide +kernel
theorem dX9_feed_51 : decode cX9_feed 51 = .ok (.if_icmp .ne 7, 3) := by decide +kernel
theorem dX9_feed_54 : decode cX9_feed 54 = .ok (.iload_n 3, 1) := by decide +kernel
theorem dX9_feed_55 : decode cX9_feed 55 = .ok (.goto 16, 3) := by decide +kernel
theorem dX9_feed_58 : decode cX9_feed 58 = .ok (.iload 6, 2) := by decide +kernel
theorem dX9_feed_60 : decode cX9_feed 60 = .ok (.iconst 3, 1) := by decide +kernel
theorem dX9_feed_61 : decode cX9_feed 61 = .ok (.if_icmp .ne 8, 3) := by decide +kernel
theorem dX9_feed_64 : decode cX9_feed 64 = .ok (.iload 4, 2) := by decide +kernel
theorem dX9_feed_66 : decode cX9_feed 66 = .ok (.goto 5, 3) := by decide +kernel
theorem dX9_feed_69 : decode cX9_feed 69 = .ok (.iload 5, 2) := by decide +kernel
theorem dX9_feed_71 : decode cX9_feed 71 = .ok (.istore 7, 2) := by decide +kernel
theorem dX9_feed_73 : decode cX9_feed 73 = .ok (.bipush 24, 2) := by decide +kernel
theorem dX9_feed_75 : decode cX9_feed 75 = .ok (.istore 8, 2) := by decide +kernel
theorem dX9_feed_77 : decode cX9_feed 77 = .ok (.iload 8, 2) := by decide +kernel
theorem dX9_feed_79 : decode cX9_feed 79 = .ok (.ifCond .lt 34, 3) := by decide +kernel
theorem dX9_feed_82 : decode cX9_feed 82 = .ok (.aload_n 0, 1) := by decide +kernel
theorem dX9_feed_83 : decode cX9_feed 83 = .ok (.getfield 30, 3) := by decide +kernel
theorem dX9_feed_86 : decode cX9_feed 86 = .ok (.aload_n 0, 1) := by decide +kernel
theorem dX9_feed_87 : decode cX9_feed 87 = .ok (.getfield 133, 3) := by decide +kernel
theorem dX9_feed_90 : decode cX9_feed 90 = .ok (.iload 7, 2) := by decide +kernel
theorem dX9_feed_92 : decode cX9_feed 92 = .ok (.iload 8, 2) := by decide +kernel
theorem dX9_feed_94 : decode cX9_feed 94 = .ok (.ishr, 1) := by decide +kernel
theorem dX9_feed_95 : decode cX9_feed 95 = .ok (.i2b, 1) := by decide +kernel
theorem dX9_feed_96 : decode cX9_feed 96 = .ok (.bastore, 1) := by decide +kernel
theorem dX9_feed_97 : decode cX9_feed 97 = .ok (.aload_n 0, 1) := by decide +kernel
theorem dX9_feed_98 : decode cX9_feed 98 = .ok (.dup, 1) := by decide +kernel
theorem dX9_feed_99 : decode cX9_feed 99 = .ok (.getfield 133, 3) := by decide +kernel
theorem dX9_feed_102 : decode cX9_feed 102 = .ok (.iconst 1, 1) := by decide +kernel
theorem dX9_feed_103 : decode cX9_feed 103 = .ok (.iadd, 1) := by decide +kernel
theorem dX9_feed_104 : decode cX9_feed 104 = .ok (.putfield 133, 3) := by decide +kernel
theorem dX9_feed_107 : decode cX9_feed 107 = .ok (.iinc 8 (-8), 3) := by decide +kernel
theorem dX9_feed_110 : decode cX9_feed 110 = .ok (.goto (-33), 3) := by decide +kernel
theorem dX9_feed_113 : decode cX9_feed 113 = .ok (.iinc 6 1, 3) := by decide +kernel
theorem dX9_feed_116 : decode cX9_feed 116 = .ok (.goto (-93), 3) := by decide +kernel
theorem dX9_feed_119 : decode cX9_feed 119 = .ok (.aload_n 0, 1) := by decide +kernel
theorem dX9_feed_120 : decode cX9_feed 120 = .ok (.getfield 133, 3) := by decide +kernel
theorem dX9_feed_123 : decode cX9_feed 123 = .ok (.ireturn, 1) := by decide +kernel
theorem dX9_byteAt_0 : decode cX9_byteAt 0 = .ok (.iload_n 1, 1) := by decide +kernel
theorem dX9_byteAt_1 : decode cX9_byteAt 1 = .ok (.aload_n 0, 1) := by decide +kernel
theorem dX9_byteAt_2 : decode cX9_byteAt 2 = .ok (.getfield 136, 3) := by decide +kernel
theorem dX9_byteAt_5 : decode cX9_byteAt 5 = .ok (.if_icmp .ge 16, 3) := by decide +kernel
theorem dX9_byteAt_8 : decode cX9_byteAt 8 = .ok (.aload_n 0, 1) := by decide +kernel
theorem dX9_byteAt_9 : decode cX9_byteAt 9 = .ok (.getfield 30, 3) := by decide +kernel
theorem dX9_byteAt_12 : decode cX9_byteAt 12 = .ok (.iload_n 1, 1) := by decide +kernel
theorem dX9_byteAt_13 : decode cX9_byteAt 13 = .ok (.baload, 1) := by decide +kernel
theorem dX9_byteAt_14 : decode cX9_byteAt 14 = .ok (.sipush 255, 3) := by decide +kernel
theorem dX9_byteAt_17 : decode cX9_byteAt 17 = .ok (.iand, 1) := by decide +kernel
theorem dX9_byteAt_18 : decode cX9_byteAt 18 = .ok (.goto 4, 3) := by decide +kernel
theorem dX9_byteAt_21 : decode cX9_byteAt 21 = .ok (.iconst 0, 1) := by decide +kernel
theorem dX9_byteAt_22 : decode cX9_byteAt 22 = .ok (.ireturn, 1) := by decide +kernel
set_option maxRecDepth 20000 in
theorem ggX9_blanks_X9_byteAt : GoodIn wsX9_blanks wsX9_byteAt := goodIn_r _ [7, 2, 8, 9, 10, 11, 12, 13, 14, 15, 16, 17, 18, 19, 20, 21, 22, 23, 24, 25, 26, 27, 28, 29, 30, 31, 32, 33, 34, 35, 36, 37, 38, 39, 40, 41, 42, 43, 44, 45, 46, 47, 48, 49] (by decide +kernel) (by decide +kernel)
set_option maxRecDepth 20000 in
theorem gX9_blanks_X9_byteAt : GoodIn wsX9_blanks (wsV RX9 142 RX9 yX9_byteAt wsX9_byteAt) := goodIn_app (goodIn_of _ (by decide +kernel)) ggX9_blanks_X9_byteAt
theorem dX9_blanks_0 : decode cX9_blanks 0 = .ok (.aload_n 0, 1) := by decide +kernel
theorem dX9_blanks_1 : decode cX9_blanks 1 = .ok (.getfield 139, 3) := by decide +kernel
theorem dX9_blanks_4 : decode cX9_blanks 4 = .ok (.aload_n 0, 1) := by decide +kernel
theorem dX9_blanks_5 : decode cX9_blanks 5 = .ok (.getfield 136, 3) := by decide +kernel
theorem dX9_blanks_8 : decode cX9_blanks 8 = .ok (.if_icmp .ge 29, 3) := by decide +kernel
theorem dX9_blanks_11 : decode cX9_blanks 11 = .ok (.aload_n 0, 1) := by decide +kernel
theorem dX9_blanks_12 : decode cX9_blanks 12 = .ok (.aload_n 0, 1) := by decide +kernel
theorem dX9_blanks_13 : decode cX9_blanks 13 = .ok (.getfield 139, 3) := by decide +kernel
theorem dX9_blanks_16 : decode cX9_blanks 16 = .ok (.invokevirtual 142, 3) := by decide +kernel
theorem dX9_blanks_19 : decode cX9_blanks 19 = .ok (.bipush 32, 2) := by decide +kernel
theorem dX9_blanks_21 : decode cX9_blanks 21 = .ok (.if_icmp .ne 16, 3) := by decide +kernel
theorem dX9_blanks_24 : decode cX9_blanks 24 = .ok (.aload_n 0, 1) := by decide +kernel
theorem dX9_blanks_25 : decode cX9_blanks 25 = .ok (.dup, 1) := by decide +kernel
theorem dX9_blanks_26 : decode cX9_blanks 26 = .ok (.getfield 139, 3) := by decide +kernel
theorem dX9_blanks_29 : decode cX9_blanks 29 = .ok (.iconst 1, 1) := by decide +kernel
theorem dX9_blanks_30 : decode cX9_blanks 30 = .ok (.iadd, 1) := by decide +kernel
theorem dX9_blanks_31 : decode cX9_blanks 31 = .ok (.putfield 139, 3) := by decide +kernel
theorem dX9_blanks_34 : decode cX9_blanks 34 = .ok (.goto (-34), 3) := by decide +kernel
theorem dX9_blanks_37 : decode cX9_blanks 37 = .ok (.return_, 1) := by decide +kernel
theorem dX9_isSmall_0 : decode cX9_isSmall 0 = .ok (.iload_n 0, 1) := by decide +kernel
theorem dX9_isSmall_1 : decode cX9_isSmall 1 = .ok (.bipush 97, 2) := by decide +kernel
theorem dX9_isSmall_3 : decode cX9_isSmall 3 = .ok (.if_icmp .lt 13, 3) := by decide +kernel
theorem dX9_isSmall_6 : decode cX9_isSmall 6 = .ok (.iload_n 0, 1) := by decide +kernel
theorem dX9_isSmall_7 : decode cX9_isSmall 7 = .ok (.bipush 122, 2) := by decide +kernel
theorem dX9_isSmall_9 : decode cX9_isSmall 9 = .ok (.if_icmp .gt 7, 3) := by decide +kernel
theorem dX9_isSmall_12 : decode cX9_isSmall 12 = .ok (.iconst 1, 1) := by decide +kernel
theorem dX9_isSmall_13 : decode cX9_isSmall 13 = .ok (.goto 4, 3) := by decide +kernel
theorem dX9_isSmall_16 : decode cX9_isSmall 16 = .ok (.iconst 0, 1) := by decide +kernel
theorem dX9_isSmall_17 : decode cX9_isSmall 17 = .ok (.ireturn, 1) := by decide +kernel
theorem dX9_isDigit_0 : decode cX9_isDigit 0 = .ok (.iload_n 0, 1) := by decide +kernel
theorem dX9_isDigit_1 : decode cX9_isDigit 1 = .ok (.bipush 48, 2) := by decide +kernel
theorem dX9_isDigit_3 : decode cX9_isDigit 3 = .ok (.if_icmp .lt 13, 3) := by decide +kernel
theorem dX9_isDigit_6 : decode cX9_isDigit 6 = .ok (.iload_n 0, 1) := by decide +kernel
theorem dX9_isDigit_7 : decode cX9_isDigit 7 = .ok (.bipush 57, 2) := by decide +kernel
theorem dX9_isDigit_9 : decode cX9_isDigit 9 = .ok (.if_icmp .gt 7, 3) := by decide +kernel
theorem dX9_isDigit_12 : decode cX9_isDigit 12 = .ok (.iconst 1, 1) := by decide +kernel
theorem dX9_isDigit_13 : decode cX9_isDigit 13 = .ok (.goto 4, 3) := by decide +kernel
theorem dX9_isDigit_16 : decode cX9_isDigit 16 = .ok (.iconst 0, 1) := by decide +kernel
theorem dX9_isDigit_17 : decode cX9_isDigit 17 = .ok (.ireturn, 1) := by decide +kernel
theorem dX9_wrong_0 : decode cX9_wrong 0 = .ok (.aload_n 0, 1) := by decide +kernel
theorem dX9_wrong_1 : decode cX9_wrong 1 = .ok (.getfield 145, 3) := by decide +kernel
theorem dX9_wrong_4 : decode cX9_wrong 4 = .ok (.ifCond .le 4, 3) := by decide +kernel
theorem dX9_wrong_7 : decode cX9_wrong 7 = .ok (.return_, 1) := by decide +kernel
theorem dX9_wrong_8 : decode cX9_wrong 8 = .ok (.aload_n 0, 1) := by decide +kernel
theorem dX9_wrong_9 : decode cX9_wrong 9 = .ok (.iload_n 1, 1) := by decide +kernel
theorem dX9_wrong_10 : decode cX9_wrong 10 = .ok (.putfield 145, 3) := by decide +kernel
theorem dX9_wrong_13 : decode cX9_wrong 13 = .ok (.aload_n 0, 1) := by decide +kernel
theorem dX9_wrong_14 : decode cX9_wrong 14 = .ok (.iload_n 2, 1) := by decide +kernel
theorem dX9_wrong_15 : decode cX9_wrong 15 = .ok (.putfield 34, 3) := by decide +kernel
theorem dX9_wrong_18 : decode cX9_wrong 18 = .ok (.return_, 1) := by decide +kernel
set_option maxRecDepth 20000 in
theorem ggX9_isWord_X9_blanks : GoodIn wsX9_isWord wsX9_blanks := goodIn_r _ [6, 1, 7, 8, 9, 10, 5, 11, 12, 65, 66, 67, 68, 69, 70, 71, 72, 73, 74, 75, 76, 77, 78, 79, 80, 81, 82, 83, 84, 85, 86, 87, 88, 89, 90, 91, 92, 93, 94, 95, 96, 97, 98, 99, 100, 101, 102, 103, 104, 105] (by decide +kernel) (by decide +kernel)
set_option maxRecDepth 20000 in
theorem gX9_isWord_X9_blanks : GoodIn wsX9_isWord (wsV RX9 148 RX9 yX9_blanks wsX9_blanks) := goodIn_app (goodIn_of _ (by decide +kernel)) ggX9_isWord_X9_blanks
set_option maxRecDepth 20000 in
theorem ggX9_isWord_J0_length_8abf5 : GoodIn wsX9_isWord wsJ0_length_8abf5 := goodIn_r _ [17, 18, 19, 20, 21, 16, 22, 23, 24] (by decide +kernel) (by decide +kernel)
set_option maxRecDepth 20000 in
theorem gX9_isWord_J0_length_8abf5 : GoodIn wsX9_isWord (wsV RX9 151 RJ0 yJ0_length_8abf5 wsJ0_length_8abf5) := goodIn_app (goodIn_of _ (by decide +kernel)) ggX9_isWord_J0_length_8abf5
set_option maxRecDepth 20000 in
theorem ggX9_isWord_X9_byteAt : GoodIn wsX9_isWord wsX9_byteAt := goodIn_r _ [11, 7, 12, 65, 66, 67, 68, 69, 70, 71, 72, 73, 74, 75, 76, 77, 78, 79, 80, 81, 82, 83, 84, 85, 86, 87, 88, 89, 90, 91, 92, 93, 94, 95, 96, 97, 98, 99, 100, 101, 102, 103, 104, 105] (by decide +kernel) (by decide +kernel)
set_option maxRecDepth 20000 in
theorem gX9_isWord_X9_byteAt : GoodIn wsX9_isWord (wsV RX9 142 RX9 yX9_byteAt wsX9_byteAt) := goodIn_app (goodIn_of _ (by decide +kernel)) ggX9_isWord_X9_byteAt
set_option maxRecDepth 20000 in
theorem ggX9_isWord_J0_charAt_5068e : GoodIn wsX9_isWord wsJ0_charAt_5068e := goodIn_r _ [28, 18, 29, 30, 31, 16, 32, 23, 24, 33, 34, 35, 36, 37, 38, 39, 40, 41, 42, 43, 44, 45, 46, 47, 48, 49, 50, 51, 52, 53, 54, 55, 56, 57, 58, 59, 60, 61] (by decide +kernel) (by decide +kernel)
set_option maxRecDepth 20000 in
theorem gX9_isWord_J0_charAt_5068e : GoodIn wsX9_isWord (wsV RX9 156 RJ0 yJ0_charAt_5068e wsJ0_charAt_5068e) := goodIn_app (goodIn_of _ (by decide +kernel)) ggX9_isWord_J0_charAt_5068e
set_option maxRecDepth 20000 in
theorem ggX9_isWord_X9_isSmall : GoodIn wsX9_isWord wsX9_isSmall := goodIn_r _ [64] (by decide +kernel) (by decide +kernel)
set_option maxRecDepth 20000 in
theorem gX9_isWord_X9_isSmall : GoodIn wsX9_isWord (va_wsS RX9 160 yX9_isSmall wsX9_isSmall) := goodIn_app (goodIn_of _ (by decide +kernel)) ggX9_isWord_X9_isSmall
theorem dX9_isWord_0 : decode cX9_isWord 0 = .ok (.aload_n 0, 1) := by decide +kernel
theorem dX9_isWord_1 : decode cX9_isWord 1 = .ok (.invokevirtual 148, 3) := by decide +kernel
theorem dX9_isWord_4 : decode cX9_isWord 4 = .ok (.iconst 0, 1) := by decide +kernel
theorem dX9_isWord_5 : decode cX9_isWord 5 = .ok (.istore_n 2, 1) := by decide +kernel
theorem dX9_isWord_6 : decode cX9_isWord 6 = .ok (.iload_n 2, 1) := by decide +kernel
theorem dX9_isWord_7 : decode cX9_isWord 7 = .ok (.aload_n 1, 1) := by decide +kernel
theorem dX9_isWord_8 : decode cX9_isWord 8 = .ok (.invokevirtual 151, 3) := by decide +kernel
theorem dX9_isWord_11 : decode cX9_isWord 11 = .ok (.if_icmp .ge 29, 3) := by decide +kernel
theorem dX9_isWord_14 : decode cX9_isWord 14 = .ok (.aload_n 0, 1) := by decide +kernel
theorem dX9_isWord_15 : decode cX9_isWord 15 = .ok (.aload_n 0, 1) := by decide +kernel
theorem dX9_isWord_16 : decode cX9_isWord 16 = .ok (.getfield 139, 3) := by decide +kernel
theorem dX9_isWord_19 : decode cX9_isWord 19 = .ok (.iload_n 2, 1) := by decide +kernel
theorem dX9_isWord_20 : decode cX9_isWord 20 = .ok (.iadd, 1) := by decide +kernel
theorem dX9_isWord_21 : decode cX9_isWord 21 = .ok (.invokevirtual 142, 3) := by decide +kernel
theorem dX9_isWord_24 : decode cX9_isWord 24 = .ok (.aload_n 1, 1) := by decide +kernel
theorem dX9_isWord_25 : decode cX9_isWord 25 = .ok (.iload_n 2, 1) := by decide +kernel
theorem dX9_isWord_26 : decode cX9_isWord 26 = .ok (.invokevirtual 156, 3) := by decide +kernel
theorem dX9_isWord_29 : decode cX9_isWord 29 = .ok (.if_icmp .eq 5, 3) := by decide +kernel
theorem dX9_isWord_32 : decode cX9_isWord 32 = .ok (.iconst 0, 1) := by decide +kernel
theorem dX9_isWord_33 : decode cX9_isWord 33 = .ok (.ireturn, 1) := by decide +kernel
theorem dX9_isWord_34 : decode cX9_isWord 34 = .ok (.iinc 2 1, 3) := by decide +kernel
theorem dX9_isWord_37 : decode cX9_isWord 37 = .ok (.goto (-31), 3) := by decide +kernel
theorem dX9_isWord_40 : decode cX9_isWord 40 = .ok (.aload_n 0, 1) := by decide +kernel
theorem dX9_isWord_41 : decode cX9_isWord 41 = .ok (.aload_n 0, 1) := by decide +kernel
theorem dX9_isWord_42 : decode cX9_isWord 42 = .ok (.getfield 139, 3) := by decide +kernel
theorem dX9_isWord_45 : decode cX9_isWord 45 = .ok (.aload_n 1, 1) := by decide +kernel
theorem dX9_isWord_46 : decode cX9_isWord 46 = .ok (.invokevirtual 151, 3) := by decide +kernel
theorem dX9_isWord_49 : decode cX9_isWord 49 = .ok (.iadd, 1) := by decide +kernel
theorem dX9_isWord_50 : decode cX9_isWord 50 = .ok (.invokevirtual 142, 3) := by decide +kernel
theorem dX9_isWord_53 : decode cX9_isWord 53 = .ok (.invokestatic 160, 3) := by decide +kernel
theorem dX9_isWord_56 : decode cX9_isWord 56 = .ok (.ifCond .ne 7, 3) := by decide +kernel
theorem dX9_isWord_59 : decode cX9_isWord 59 = .ok (.iconst 1, 1) := by decide +kernel
theorem dX9_isWord_60 : decode cX9_isWord 60 = .ok (.goto 4, 3) := by decide +kernel
theorem dX9_isWord_63 : decode cX9_isWord 63 = .ok (.iconst 0, 1) := by decide +kernel
theorem dX9_isWord_64 : decode cX9_isWord 64 = .ok (.ireturn, 1) := by decide +kernel
set_option maxRecDepth 20000 in
theorem ggX9_eat_X9_isWord : GoodIn wsX9_eat wsX9_isWord := goodIn_r _ [7, 2, 8, 9, 10, 6, 11, 12, 13, 14, 15, 16, 17, 18, 19, 20, 21, 22, 23, 24, 25, 26, 27, 28, 29, 30, 31, 32, 33, 34, 35, 36, 37, 38, 39, 40, 41, 42, 43, 44, 45, 46, 47, 48, 49, 50, 51, 52, 53, 54, 55, 56, 57, 58, 59, 60, 61, 62, 63, 64, 65, 66, 67, 68, 69, 70, 71, 72, 73, 74, 75, 76, 77, 78, 79, 80, 81, 82, 83, 84, 85, 86, 87, 88, 89, 90, 91, 92, 93, 94, 95, 96, 97, 98, 99, 100, 101, 102, 103, 104, 105, 106, 107, 108, 109, 110] (by decide +kernel) (by decide +kernel)
set_option maxRecDepth 20000 in
theorem gX9_eat_X9_isWord : GoodIn wsX9_eat (wsV RX9 163 RX9 yX9_isWord wsX9_isWord) := goodIn_app (goodIn_of _ (by decide +kernel)) ggX9_eat_X9_isWord
set_option maxRecDepth 20000 in
theorem ggX9_eat_J0_length_8abf5 : GoodIn wsX9_eat wsJ0_length_8abf5 := goodIn_r _ [22, 23, 24, 25, 26, 21, 27, 28, 29] (by decide +kernel) (by decide +kernel)
set_option maxRecDepth 20000 in
theorem gX9_eat_J0_length_8abf5 : GoodIn wsX9_eat (wsV RX9 151 RJ0 yJ0_length_8abf5 wsJ0_length_8abf5) := goodIn_app (goodIn_of _ (by decide +kernel)) ggX9_eat_J0_length_8abf5
theorem dX9_eat_0 : decode cX9_eat 0 = .ok (.aload_n 0, 1) := by decide +kernel
theorem dX9_eat_1 : decode cX9_eat 1 = .ok (.getfield 145, 3) := by decide +kernel
theorem dX9_eat_4 : decode cX9_eat 4 = .ok (.ifCond .ne 15, 3) := by decide +kernel
theorem dX9_eat_7 : decode cX9_eat 7 = .ok (.aload_n 0, 1) := by decide +kernel
theorem dX9_eat_8 : decode cX9_eat 8 = .ok (.aload_n 1, 1) := by decide +kernel
theorem dX9_eat_9 : decode cX9_eat 9 = .ok (.invokevirtual 163, 3) := by decide +kernel
theorem dX9_eat_12 : decode cX9_eat 12 = .ok (.ifCond .eq 7, 3) := by decide +kernel
theorem dX9_eat_15 : decode cX9_eat 15 = .ok (.iconst 1, 1) := by decide +kernel
theorem dX9_eat_16 : decode cX9_eat 16 = .ok (.goto 4, 3) := by decide +kernel
theorem dX9_eat_19 : decode cX9_eat 19 = .ok (.iconst 0, 1) := by decide +kernel
theorem dX9_eat_20 : decode cX9_eat 20 = .ok (.istore_n 2, 1) := by decide +kernel
theorem dX9_eat_21 : decode cX9_eat 21 = .ok (.iload_n 2, 1) := by decide +kernel
theorem dX9_eat_22 : decode cX9_eat 22 = .ok (.ifCond .eq 16, 3) := by decide +kernel
theorem dX9_eat_25 : decode cX9_eat 25 = .ok (.aload_n 0, 1) := by decide +kernel
theorem dX9_eat_26 : decode cX9_eat 26 = .ok (.dup, 1) := by decide +kernel
theorem dX9_eat_27 : decode cX9_eat 27 = .ok (.getfield 139, 3) := by decide +kernel
theorem dX9_eat_30 : decode cX9_eat 30 = .ok (.aload_n 1, 1) := by decide +kernel
theorem dX9_eat_31 : decode cX9_eat 31 = .ok (.invokevirtual 151, 3) := by decide +kernel
theorem dX9_eat_34 : decode cX9_eat 34 = .ok (.iadd, 1) := by decide +kernel
theorem dX9_eat_35 : decode cX9_eat 35 = .ok (.putfield 139, 3) := by decide +kernel
theorem dX9_eat_38 : decode cX9_eat 38 = .ok (.iload_n 2, 1) := by decide +kernel
theorem dX9_eat_39 : decode cX9_eat 39 = .ok (.ireturn, 1) := by decide +kernel
set_option maxRecDepth 20000 in
theorem ggX9_number_X9_blanks : GoodIn wsX9_number wsX9_blanks := goodIn_r _ [7, 2, 8, 9, 10, 11, 6, 12, 13, 22, 23, 24, 25, 26, 27, 28, 29, 30, 31, 32, 33, 34, 35, 36, 37, 38, 39, 40, 41, 42, 43, 44, 45, 46, 47, 48, 49, 50, 51, 52, 53, 54, 55, 56, 57, 58, 59, 60, 61, 62] (by decide +kernel) (by decide +kernel)
set_option maxRecDepth 20000 in
theorem gX9_number_X9_blanks : GoodIn wsX9_number (wsV RX9 148 RX9 yX9_blanks wsX9_blanks) := goodIn_app (goodIn_of _ (by decide +kernel)) ggX9_number_X9_blanks
set_option maxRecDepth 20000 in
theorem ggX9_number_X9_byteAt : GoodIn wsX9_number wsX9_byteAt := goodIn_r _ [12, 8, 13, 22, 23, 24, 25, 26, 27, 28, 29, 30, 31, 32, 33, 34, 35, 36, 37, 38, 39, 40, 41, 42, 43, 44, 45, 46, 47, 48, 49, 50, 51, 52, 53, 54, 55, 56, 57, 58, 59, 60, 61, 62] (by decide +kernel) (by decide +kernel)
set_option maxRecDepth 20000 in
theorem gX9_number_X9_byteAt : GoodIn wsX9_number (wsV RX9 142 RX9 yX9_byteAt wsX9_byteAt) := goodIn_app (goodIn_of _ (by decide +kernel)) ggX9_number_X9_byteAt
set_option maxRecDepth 20000 in
theorem ggX9_number_X9_isDigit : GoodIn wsX9_number wsX9_isDigit := goodIn_r _ [16] (by decide +kernel) (by decide +kernel)
set_option maxRecDepth 20000 in
theorem gX9_number_X9_isDigit : GoodIn wsX9_number (va_wsS RX9 167 yX9_isDigit wsX9_isDigit) := goodIn_app (goodIn_of _ (by decide +kernel)) ggX9_number_X9_isDigit
set_option maxRecDepth 20000 in
theorem ggX9_number_X9_wrong : GoodIn wsX9_number wsX9_wrong := goodIn_r _ [20, 1, 21, 22, 23, 24, 25, 26, 27, 28, 29, 30, 31, 32, 33, 34, 35, 36, 37, 38, 39, 40, 41, 42, 43, 44, 45, 46, 47, 48, 49, 50, 51, 52, 53, 54, 55, 56, 57, 58, 59, 60, 61, 62] (by decide +kernel) (by decide +kernel)
set_option maxRecDepth 20000 in
theorem gX9_number_X9_wrong : GoodIn wsX9_number (wsV RX9 170 RX9 yX9_wrong wsX9_wrong) := goodIn_app (goodIn_of _ (by decide +kernel)) ggX9_number_X9_wrong
theorem dX9_number_0 : decode cX9_number 0 = .ok (.aload_n 0, 1) := by decide +kernel
theorem dX9_number_1 : decode cX9_number 1 = .ok (.getfield 145, 3) := by decide +kernel
theorem dX9_number_4 : decode cX9_number 4 = .ok (.ifCond .le 5, 3) := by decide +kernel
theorem dX9_number_7 : decode cX9_number 7 = .ok (.iconst 0, 1) := by decide +kernel
theorem dX9_number_8 : decode cX9_number 8 = .ok (.ireturn, 1) := by decide +kernel
theorem dX9_number_9 : decode cX9_number 9 = .ok (.aload_n 0, 1) := by decide +kernel
theorem dX9_number_10 : decode cX9_number 10 = .ok (.invokevirtual 148, 3) := by decide +kernel
theorem dX9_number_13 : decode cX9_number 13 = .ok (.aload_n 0, 1) := by decide +kernel
theorem dX9_number_14 : decode cX9_number 14 = .ok (.getfield 139, 3) := by decide +kernel
theorem dX9_number_17 : decode cX9_number 17 = .ok (.istore_n 1, 1) := by decide +kernel
theorem dX9_number_18 : decode cX9_number 18 = .ok (.aload_n 0, 1) := by decide +kernel
theorem dX9_number_19 : decode cX9_number 19 = .ok (.aload_n 0, 1) := by decide +kernel
theorem dX9_number_20 : decode cX9_number 20 = .ok (.getfield 139, 3) := by decide +kernel
theorem dX9_number_23 : decode cX9_number 23 = .ok (.invokevirtual 142, 3) := by decide +kernel
theorem dX9_number_26 : decode cX9_number 26 = .ok (.invokestatic 167, 3) := by decide +kernel
theorem dX9_number_29 : decode cX9_number 29 = .ok (.ifCond .ne 14, 3) := by decide +kernel
theorem dX9_number_32 : decode cX9_number 32 = .ok (.aload_n 0, 1) := by decide +kernel
theorem dX9_number_33 : decode cX9_number 33 = .ok (.iconst 1, 1) := by decide +kernel
theorem dX9_number_34 : decode cX9_number 34 = .ok (.aload_n 0, 1) := by decide +kernel
theorem dX9_number_35 : decode cX9_number 35 = .ok (.getfield 139, 3) := by decide +kernel
theorem dX9_number_38 : decode cX9_number 38 = .ok (.invokevirtual 170, 3) := by decide +kernel
theorem dX9_number_41 : decode cX9_number 41 = .ok (.iconst 0, 1) := by decide +kernel
theorem dX9_number_42 : decode cX9_number 42 = .ok (.ireturn, 1) := by decide +kernel
theorem dX9_number_43 : decode cX9_number 43 = .ok (.iconst 0, 1) := by decide +kernel
theorem dX9_number_44 : decode cX9_number 44 = .ok (.istore_n 2, 1) := by decide +kernel
theorem dX9_number_45 : decode cX9_number 45 = .ok (.aload_n 0, 1) := by decide +kernel
theorem dX9_number_46 : decode cX9_number 46 = .ok (.aload_n 0, 1) := by decide +kernel
theorem dX9_number_47 : decode cX9_number 47 = .ok (.getfield 139, 3) := by decide +kernel
theorem dX9_number_50 : decode cX9_number 50 = .ok (.invokevirtual 142, 3) := by decide +kernel
theorem dX9_number_53 : decode cX9_number 53 = .ok (.invokestatic 167, 3) := by decide +kernel
theorem dX9_number_56 : decode cX9_number 56 = .ok (.ifCond .eq 44, 3) := by decide +kernel
theorem dX9_number_59 : decode cX9_number 59 = .ok (.iload_n 2, 1) := by decide +kernel
theorem dX9_number_60 : decode cX9_number 60 = .ok (.sipush 10000, 3) := by decide +kernel
theorem dX9_number_63 : decode cX9_number 63 = .ok (.if_icmp .le 7, 3) := by decide +kernel
theorem dX9_number_66 : decode cX9_number 66 = .ok (.iload_n 2, 1) := by decide +kernel
theorem dX9_number_67 : decode cX9_number 67 = .ok (.goto 19, 3) := by decide +kernel
theorem dX9_number_70 : decode cX9_number 70 = .ok (.bipush 10, 2) := by decide +kernel
theorem dX9_number_72 : decode cX9_number 72 = .ok (.iload_n 2, 1) := by decide +kernel
theorem dX9_number_73 : decode cX9_number 73 = .ok (.imul, 1) := by decide +kernel
theorem dX9_number_74 : decode cX9_number 74 = .ok (.aload_n 0, 1) := by decide +kernel
theorem dX9_number_75 : decode cX9_number 75 = .ok (.aload_n 0, 1) := by decide +kernel
theorem dX9_number_76 : decode cX9_number 76 = .ok (.getfield 139, 3) := by decide +kernel
theorem dX9_number_79 : decode cX9_number 79 = .ok (.invokevirtual 142, 3) := by decide +kernel
theorem dX9_number_82 : decode cX9_number 82 = .ok (.iadd, 1) := by decide +kernel
theorem dX9_number_83 : decode cX9_number 83 = .ok (.bipush 48, 2) := by decide +kernel
theorem dX9_number_85 : decode cX9_number 85 = .ok (.isub, 1) := by decide +kernel
theorem dX9_number_86 : decode cX9_number 86 = .ok (.istore_n 2, 1) := by decide +kernel
theorem dX9_number_87 : decode cX9_number 87 = .ok (.aload_n 0, 1) := by decide +kernel
theorem dX9_number_88 : decode cX9_number 88 = .ok (.dup, 1) := by decide +kernel
theorem dX9_number_89 : decode cX9_number 89 = .ok (.getfield 139, 3) := by decide +kernel
theorem dX9_number_92 : decode cX9_number 92 = .ok (.iconst 1, 1) := by decide +kernel
theorem dX9_number_93 : decode cX9_number 93 = .ok (.iadd, 1) := by decide +kernel
theorem dX9_number_94 : decode cX9_number 94 = .ok (.putfield 139, 3) := by decide +kernel
theorem dX9_number_97 : decode cX9_number 97 = .ok (.goto (-52), 3) := by decide +kernel
theorem dX9_number_100 : decode cX9_number 100 = .ok (.iload_n 2, 1) := by decide +kernel
theorem dX9_number_101 : decode cX9_number 101 = .ok (.sipush 5000, 3) := by decide +kernel
theorem dX9_number_104 : decode cX9_number 104 = .ok (.if_icmp .le 9, 3) := by decide +kernel
theorem dX9_number_107 : decode cX9_number 107 = .ok (.aload_n 0, 1) := by decide +kernel
theorem dX9_number_108 : decode cX9_number 108 = .ok (.iconst 2, 1) := by decide +kernel
theorem dX9_number_109 : decode cX9_number 109 = .ok (.iload_n 1, 1) := by decide +kernel
theorem dX9_number_110 : decode cX9_number 110 = .ok (.invokevirtual 170, 3) := by decide +kernel
theorem dX9_number_113 : decode cX9_number 113 = .ok (.iload_n 2, 1) := by decide +kernel
theorem dX9_number_114 : decode cX9_number 114 = .ok (.ireturn, 1) := by decide +kernel
set_option maxRecDepth 20000 in
theorem ggX9_wayHere_X9_isWord : GoodIn wsX9_wayHere wsX9_isWord := goodIn_r _ [5, 6, 7, 8, 9, 4, 10, 11, 12, 13, 14, 15, 16, 17, 18, 19, 20, 21, 22, 23, 24, 25, 26, 27, 28, 29, 30, 31, 32, 33, 34, 35, 36, 37, 38, 39, 40, 41, 42, 43, 44, 45, 46, 47, 48, 49, 50, 51, 52, 53, 54, 55, 56, 57, 58, 59, 60, 61, 62, 63, 64, 65, 66, 67, 68, 69, 70, 71, 72, 73, 74, 75, 76, 77, 78, 79, 80, 81, 82, 83, 84, 85, 86, 87, 88, 89, 90, 91, 92, 93, 94, 95, 96, 97, 98, 99, 100, 101, 102, 103, 104, 105, 106, 107, 108, 109] (by decide +kernel) (by decide +kernel)
set_option maxRecDepth 20000 in
theorem gX9_wayHere_X9_isWord : GoodIn wsX9_wayHere (wsV RX9 163 RX9 yX9_isWord wsX9_isWord) := goodIn_app (goodIn_of _ (by decide +kernel)) ggX9_wayHere_X9_isWord
theorem dX9_wayHere_0 : decode cX9_wayHere 0 = .ok (.aload_n 0, 1) := by decide +kernel
theorem dX9_wayHere_1 : decode cX9_wayHere 1 = .ok (.ldc 174, 2) := by decide +kernel
theorem dX9_wayHere_3 : decode cX9_wayHere 3 = .ok (.invokevirtual 163, 3) := by decide +kernel
theorem dX9_wayHere_6 : decode cX9_wayHere 6 = .ok (.ifCond .eq 7, 3) := by decide +kernel
theorem dX9_wayHere_9 : decode cX9_wayHere 9 = .ok (.iconst 0, 1) := by decide +kernel
theorem dX9_wayHere_10 : decode cX9_wayHere 10 = .ok (.goto 30, 3) := by decide +kernel
theorem dX9_wayHere_13 : decode cX9_wayHere 13 = .ok (.aload_n 0, 1) := by decide +kernel
theorem dX9_wayHere_14 : decode cX9_wayHere 14 = .ok (.ldc 176, 2) := by decide +kernel
theorem dX9_wayHere_16 : decode cX9_wayHere 16 = .ok (.invokevirtual 163, 3) := by decide +kernel
theorem dX9_wayHere_19 : decode cX9_wayHere 19 = .ok (.ifCond .eq 7, 3) := by decide +kernel
theorem dX9_wayHere_22 : decode cX9_wayHere 22 = .ok (.iconst 1, 1) := by decide +kernel
theorem dX9_wayHere_23 : decode cX9_wayHere 23 = .ok (.goto 17, 3) := by decide +kernel
theorem dX9_wayHere_26 : decode cX9_wayHere 26 = .ok (.aload_n 0, 1) := by decide +kernel
theorem dX9_wayHere_27 : decode cX9_wayHere 27 = .ok (.ldc 178, 2) := by decide +kernel
theorem dX9_wayHere_29 : decode cX9_wayHere 29 = .ok (.invokevirtual 163, 3) := by decide +kernel
theorem dX9_wayHere_32 : decode cX9_wayHere 32 = .ok (.ifCond .eq 7, 3) := by decide +kernel
theorem dX9_wayHere_35 : decode cX9_wayHere 35 = .ok (.iconst 2, 1) := by decide +kernel
theorem dX9_wayHere_36 : decode cX9_wayHere 36 = .ok (.goto 4, 3) := by decide +kernel
theorem dX9_wayHere_39 : decode cX9_wayHere 39 = .ok (.iconst (-1), 1) := by decide +kernel
theorem dX9_wayHere_40 : decode cX9_wayHere 40 = .ok (.ireturn, 1) := by decide +kernel
set_option maxRecDepth 20000 in
theorem ggX9_ways_X9_wayHere : GoodIn wsX9_ways wsX9_wayHere := goodIn_r _ [9, 10, 11, 12, 8, 13, 2, 14, 15, 16, 17, 18, 19, 20, 21, 22, 23, 24, 25, 26, 27, 28, 29, 30, 31, 32, 33, 34, 35, 36, 37, 38, 39, 40, 41, 42, 43, 44, 45, 46, 47, 48, 49, 50, 51, 52, 53, 54, 55, 56, 57, 58, 59, 60, 61, 62, 63, 64, 65, 66, 67, 68, 69, 70, 71, 72, 73, 74, 75, 81, 82, 83, 84, 85, 86, 87, 88, 89, 90, 91, 92, 93, 94, 95, 96, 97, 98, 99, 100, 101, 102, 103, 104, 105, 106, 107, 108, 109, 110, 111, 112, 113, 114, 115, 116, 117, 118, 119, 120, 121] (by decide +kernel) (by decide +kernel)
set_option maxRecDepth 20000 in
theorem gX9_ways_X9_wayHere : GoodIn wsX9_ways (wsV RX9 183 RX9 yX9_wayHere wsX9_wayHere) := goodIn_app (goodIn_of _ (by decide +kernel)) ggX9_ways_X9_wayHere
set_option maxRecDepth 20000 in
theorem ggX9_ways_X9_wrong : GoodIn wsX9_ways wsX9_wrong := goodIn_r _ [79, 3, 80, 81, 82, 83, 84, 85, 86, 87, 88, 89, 90, 91, 92, 93, 94, 95, 96, 97, 98, 99, 100, 101, 102, 103, 104, 105, 106, 107, 108, 109, 110, 111, 112, 113, 114, 115, 116, 117, 118, 119, 120, 121] (by decide +kernel) (by decide +kernel)
set_option maxRecDepth 20000 in
theorem gX9_ways_X9_wrong : GoodIn wsX9_ways (wsV RX9 170 RX9 yX9_wrong wsX9_wrong) := goodIn_app (goodIn_of _ (by decide +kernel)) ggX9_ways_X9_wrong
theorem dX9_ways_0 : decode cX9_ways 0 = .ok (.aload_n 0, 1) := by decide +kernel
theorem dX9_ways_1 : decode cX9_ways 1 = .ok (.iconst 0, 1) := by decide +kernel
theorem dX9_ways_2 : decode cX9_ways 2 = .ok (.putfield 180, 3) := by decide +kernel
theorem dX9_ways_5 : decode cX9_ways 5 = .ok (.aload_n 0, 1) := by decide +kernel
theorem dX9_ways_6 : decode cX9_ways 6 = .ok (.invokevirtual 183, 3) := by decide +kernel
theorem dX9_ways_9 : decode cX9_ways 9 = .ok (.istore_n 1, 1) := by decide +kernel
theorem dX9_ways_10 : decode cX9_ways 10 = .ok (.iload_n 1, 1) := by decide +kernel
theorem dX9_ways_11 : decode cX9_ways 11 = .ok (.ifCond .ge 12, 3) := by decide +kernel
theorem dX9_ways_14 : decode cX9_ways 14 = .ok (.aload_n 0, 1) := by decide +kernel
theorem dX9_ways_15 : decode cX9_ways 15 = .ok (.iconst 1, 1) := by decide +kernel
theorem dX9_ways_16 : decode cX9_ways 16 = .ok (.aload_n 0, 1) := by decide +kernel
theorem dX9_ways_17 : decode cX9_ways 17 = .ok (.getfield 139, 3) := by decide +kernel
theorem dX9_ways_20 : decode cX9_ways 20 = .ok (.invokevirtual 170, 3) := by decide +kernel
theorem dX9_ways_23 : decode cX9_ways 23 = .ok (.iload_n 1, 1) := by decide +kernel
theorem dX9_ways_24 : decode cX9_ways 24 = .ok (.ifCond .lt 110, 3) := by decide +kernel
theorem dX9_ways_27 : decode cX9_ways 27 = .ok (.aload_n 0, 1) := by decide +kernel
theorem dX9_ways_28 : decode cX9_ways 28 = .ok (.getfield 145, 3) := by decide +kernel
theorem dX9_ways_31 : decode cX9_ways 31 = .ok (.ifCond .ne 103, 3) := by decide +kernel
theorem dX9_ways_34 : decode cX9_ways 34 = .ok (.iconst 0, 1) := by decide +kernel
theorem dX9_ways_35 : decode cX9_ways 35 = .ok (.istore_n 2, 1) := by decide +kernel
theorem dX9_ways_36 : decode cX9_ways 36 = .ok (.iload_n 2, 1) := by decide +kernel
theorem dX9_ways_37 : decode cX9_ways 37 = .ok (.aload_n 0, 1) := by decide +kernel
theorem dX9_ways_38 : decode cX9_ways 38 = .ok (.getfield 180, 3) := by decide +kernel
theorem dX9_ways_41 : decode cX9_ways 41 = .ok (.if_icmp .ge 28, 3) := by decide +kernel
theorem dX9_ways_44 : decode cX9_ways 44 = .ok (.aload_n 0, 1) := by decide +kernel
theorem dX9_ways_45 : decode cX9_ways 45 = .ok (.getfield 43, 3) := by decide +kernel
theorem dX9_ways_48 : decode cX9_ways 48 = .ok (.iload_n 2, 1) := by decide +kernel
theorem dX9_ways_49 : decode cX9_ways 49 = .ok (.iaload, 1) := by decide +kernel
theorem dX9_ways_50 : decode cX9_ways 50 = .ok (.iload_n 1, 1) := by decide +kernel
theorem dX9_ways_51 : decode cX9_ways 51 = .ok (.if_icmp .ne 12, 3) := by decide +kernel
theorem dX9_ways_54 : decode cX9_ways 54 = .ok (.aload_n 0, 1) := by decide +kernel
theorem dX9_ways_55 : decode cX9_ways 55 = .ok (.iconst 1, 1) := by decide +kernel
theorem dX9_ways_56 : decode cX9_ways 56 = .ok (.aload_n 0, 1) := by decide +kernel
theorem dX9_ways_57 : decode cX9_ways 57 = .ok (.getfield 139, 3) := by decide +kernel
theorem dX9_ways_60 : decode cX9_ways 60 = .ok (.invokevirtual 170, 3) := by decide +kernel
theorem dX9_ways_63 : decode cX9_ways 63 = .ok (.iinc 2 1, 3) := by decide +kernel
theorem dX9_ways_66 : decode cX9_ways 66 = .ok (.goto (-30), 3) := by decide +kernel
theorem dX9_ways_69 : decode cX9_ways 69 = .ok (.aload_n 0, 1) := by decide +kernel
theorem dX9_ways_70 : decode cX9_ways 70 = .ok (.getfield 145, 3) := by decide +kernel
theorem dX9_ways_73 : decode cX9_ways 73 = .ok (.ifCond .le 4, 3) := by decide +kernel
theorem dX9_ways_76 : decode cX9_ways 76 = .ok (.return_, 1) := by decide +kernel
theorem dX9_ways_77 : decode cX9_ways 77 = .ok (.aload_n 0, 1) := by decide +kernel
theorem dX9_ways_78 : decode cX9_ways 78 = .ok (.getfield 43, 3) := by decide +kernel
theorem dX9_ways_81 : decode cX9_ways 81 = .ok (.aload_n 0, 1) := by decide +kernel
theorem dX9_ways_82 : decode cX9_ways 82 = .ok (.getfield 180, 3) := by decide +kernel
theorem dX9_ways_85 : decode cX9_ways 85 = .ok (.iload_n 1, 1) := by decide +kernel
theorem dX9_ways_86 : decode cX9_ways 86 = .ok (.iastore, 1) := by decide +kernel
theorem dX9_ways_87 : decode cX9_ways 87 = .ok (.aload_n 0, 1) := by decide +kernel
theorem dX9_ways_88 : decode cX9_ways 88 = .ok (.dup, 1) := by decide +kernel
theorem dX9_ways_89 : decode cX9_ways 89 = .ok (.getfield 180, 3) := by decide +kernel
theorem dX9_ways_92 : decode cX9_ways 92 = .ok (.iconst 1, 1) := by decide +kernel
theorem dX9_ways_93 : decode cX9_ways 93 = .ok (.iadd, 1) := by decide +kernel
theorem dX9_ways_94 : decode cX9_ways 94 = .ok (.putfield 180, 3) := by decide +kernel
theorem dX9_ways_97 : decode cX9_ways 97 = .ok (.aload_n 0, 1) := by decide +kernel
theorem dX9_ways_98 : decode cX9_ways 98 = .ok (.dup, 1) := by decide +kernel
theorem dX9_ways_99 : decode cX9_ways 99 = .ok (.getfield 139, 3) := by decide +kernel
theorem dX9_ways_102 : decode cX9_ways 102 = .ok (.iload_n 1, 1) := by decide +kernel
theorem dX9_ways_103 : decode cX9_ways 103 = .ok (.ifCond .ne 8, 3) := by decide +kernel
theorem dX9_ways_106 : decode cX9_ways 106 = .ok (.bipush 9, 2) := by decide +kernel
theorem dX9_ways_108 : decode cX9_ways 108 = .ok (.goto 14, 3) := by decide +kernel
theorem dX9_ways_111 : decode cX9_ways 111 = .ok (.iload_n 1, 1) := by decide +kernel
theorem dX9_ways_112 : decode cX9_ways 112 = .ok (.iconst 1, 1) := by decide +kernel
theorem dX9_ways_113 : decode cX9_ways 113 = .ok (.if_icmp .ne 8, 3) := by decide +kernel
theorem dX9_ways_116 : decode cX9_ways 116 = .ok (.bipush 7, 2) := by decide +kernel
theorem dX9_ways_118 : decode cX9_ways 118 = .ok (.goto 4, 3) := by decide +kernel
theorem dX9_ways_121 : decode cX9_ways 121 = .ok (.iconst 5, 1) := by decide +kernel
theorem dX9_ways_122 : decode cX9_ways 122 = .ok (.iadd, 1) := by decide +kernel
theorem dX9_ways_123 : decode cX9_ways 123 = .ok (.putfield 139, 3) := by decide +kernel
theorem dX9_ways_126 : decode cX9_ways 126 = .ok (.aload_n 0, 1) := by decide +kernel
theorem dX9_ways_127 : decode cX9_ways 127 = .ok (.invokevirtual 183, 3) := by decide +kernel
theorem dX9_ways_130 : decode cX9_ways 130 = .ok (.istore_n 1, 1) := by decide +kernel
theorem dX9_ways_131 : decode cX9_ways 131 = .ok (.goto (-108), 3) := by decide +kernel
theorem dX9_ways_134 : decode cX9_ways 134 = .ok (.return_, 1) := by decide +kernel
set_option maxRecDepth 20000 in
theorem ggX9_clause_X9_eat : GoodIn wsX9_clause wsX9_eat := goodIn_r _ [10, 5, 3, 11, 12, 13, 9, 14, 15, 16, 17, 18, 19, 20, 21, 22, 23, 24, 25, 26, 27, 28, 29, 30, 31, 32, 33, 34, 35, 36, 37, 38, 39, 40, 41, 42, 43, 44, 45, 46, 47, 48, 49, 50, 51, 52, 53, 54, 55, 56, 57, 58, 59, 60, 61, 62, 63, 64, 65, 66, 67, 68, 69, 70, 71, 72, 73, 74, 75, 76, 99, 100, 101, 102, 103, 104, 105, 106, 107, 108, 109, 110, 111, 112, 113, 114, 115, 116, 117, 118, 119, 120, 121, 122, 123, 124, 125, 126, 127, 128, 129, 130, 131, 132, 133, 134, 135, 136, 137, 138, 139] (by decide +kernel) (by decide +kernel)
set_option maxRecDepth 20000 in
theorem gX9_clause_X9_eat : GoodIn wsX9_clause (wsV RX9 188 RX9 yX9_eat wsX9_eat) := goodIn_app (goodIn_of _ (by decide +kernel)) ggX9_clause_X9_eat
set_option maxRecDepth 20000 in
theorem ggX9_clause_X9_number : GoodIn wsX9_clause wsX9_number := goodIn_r _ [80, 5, 3, 15, 16, 17, 9, 18, 19, 20, 21, 22, 23, 24, 81, 82, 83, 84, 85, 86, 87, 88, 99, 100, 101, 102, 103, 104, 105, 106, 107, 108, 109, 110, 111, 112, 113, 114, 115, 116, 117, 118, 119, 120, 121, 122, 123, 124, 125, 126, 127, 128, 129, 130, 131, 132, 133, 134, 135, 136, 137, 138, 139] (by decide +kernel) (by decide +kernel)
set_option maxRecDepth 20000 in
theorem gX9_clause_X9_number : GoodIn wsX9_clause (wsV RX9 191 RX9 yX9_number wsX9_number) := goodIn_app (goodIn_of _ (by decide +kernel)) ggX9_clause_X9_number
set_option maxRecDepth 20000 in
theorem ggX9_clause_X9_wrong : GoodIn wsX9_clause wsX9_wrong := goodIn_r _ [87, 5, 88, 99, 100, 101, 102, 103, 104, 105, 106, 107, 108, 109, 110, 111, 112, 113, 114, 115, 116, 117, 118, 119, 120, 121, 122, 123, 124, 125, 126, 127, 128, 129, 130, 131, 132, 133, 134, 135, 136, 137, 138, 139] (by decide +kernel) (by decide +kernel)
set_option maxRecDepth 20000 in
theorem gX9_clause_X9_wrong : GoodIn wsX9_clause (wsV RX9 170 RX9 yX9_wrong wsX9_wrong) := goodIn_app (goodIn_of _ (by decide +kernel)) ggX9_clause_X9_wrong
set_option maxRecDepth 20000 in
theorem ggX9_clause_X9_ways : GoodIn wsX9_clause wsX9_ways := goodIn_r _ [92, 93, 3, 5, 94, 95, 96, 97, 9, 98, 11, 12, 13, 14, 15, 16, 17, 18, 19, 20, 21, 22, 23, 24, 25, 26, 27, 28, 29, 30, 31, 32, 33, 34, 35, 36, 37, 38, 39, 40, 41, 42, 43, 44, 45, 46, 47, 48, 49, 50, 51, 52, 53, 54, 55, 56, 57, 58, 59, 60, 61, 62, 63, 64, 65, 66, 67, 68, 69, 70, 71, 72, 73, 74, 75, 76, 84, 85, 86, 87, 88, 99, 100, 101, 102, 103, 104, 105, 106, 107, 108, 109, 110, 111, 112, 113, 114, 115, 116, 117, 118, 119, 120, 121, 122, 123, 124, 125, 126, 127, 128, 129, 130, 131, 132, 133, 134, 135, 136, 137, 138, 139] (by decide +kernel) (by decide +kernel)
set_option maxRecDepth 20000 in
theorem gX9_clause_X9_ways : GoodIn wsX9_clause (wsV RX9 209 RX9 yX9_ways wsX9_ways) := goodIn_app (goodIn_of _ (by decide +kernel)) ggX9_clause_X9_ways
set_option maxRecDepth 20000 in
theorem ggX9_clause_X9_blanks : GoodIn wsX9_clause wsX9_blanks := goodIn_r _ [18, 3, 19, 20, 21, 22, 9, 23, 24, 99, 100, 101, 102, 103, 104, 105, 106, 107, 108, 109, 110, 111, 112, 113, 114, 115, 116, 117, 118, 119, 120, 121, 122, 123, 124, 125, 126, 127, 128, 129, 130, 131, 132, 133, 134, 135, 136, 137, 138, 139] (by decide +kernel) (by decide +kernel)
set_option maxRecDepth 20000 in
theorem gX9_clause_X9_blanks : GoodIn wsX9_clause (wsV RX9 148 RX9 yX9_blanks wsX9_blanks) := goodIn_app (goodIn_of _ (by decide +kernel)) ggX9_clause_X9_blanks
set_option maxRecDepth 20000 in
theorem ggX9_clause_X9_byteAt : GoodIn wsX9_clause wsX9_byteAt := goodIn_r _ [23, 19, 24, 99, 100, 101, 102, 103, 104, 105, 106, 107, 108, 109, 110, 111, 112, 113, 114, 115, 116, 117, 118, 119, 120, 121, 122, 123, 124, 125, 126, 127, 128, 129, 130, 131, 132, 133, 134, 135, 136, 137, 138, 139] (by decide +kernel) (by decide +kernel)
set_option maxRecDepth 20000 in
theorem gX9_clause_X9_byteAt : GoodIn wsX9_clause (wsV RX9 142 RX9 yX9_byteAt wsX9_byteAt) := goodIn_app (goodIn_of _ (by decide +kernel)) ggX9_clause_X9_byteAt
theorem dX9_clause_0 : decode cX9_clause 0 = .ok (.aload_n 0, 1) := by decide +kernel
theorem dX9_clause_1 : decode cX9_clause 1 = .ok (.ldc 186, 2) := by decide +kernel
theorem dX9_clause_3 : decode cX9_clause 3 = .ok (.invokevirtual 188, 3) := by decide +kernel
theorem dX9_clause_6 : decode cX9_clause 6 = .ok (.ifCond .eq 14, 3) := by decide +kernel
theorem dX9_clause_9 : decode cX9_clause 9 = .ok (.aload_n 0, 1) := by decide +kernel
theorem dX9_clause_10 : decode cX9_clause 10 = .ok (.aload_n 0, 1) := by decide +kernel
theorem dX9_clause_11 : decode cX9_clause 11 = .ok (.invokevirtual 191, 3) := by decide +kernel
theorem dX9_clause_14 : decode cX9_clause 14 = .ok (.putfield 194, 3) := by decide +kernel
theorem dX9_clause_17 : decode cX9_clause 17 = .ok (.goto 74, 3) := by decide +kernel
theorem dX9_clause_20 : decode cX9_clause 20 = .ok (.aload_n 0, 1) := by decide +kernel
theorem dX9_clause_21 : decode cX9_clause 21 = .ok (.ldc 197, 2) := by decide +kernel
theorem dX9_clause_23 : decode cX9_clause 23 = .ok (.invokevirtual 188, 3) := by decide +kernel
theorem dX9_clause_26 : decode cX9_clause 26 = .ok (.ifCond .eq 40, 3) := by decide +kernel
theorem dX9_clause_29 : decode cX9_clause 29 = .ok (.aload_n 0, 1) := by decide +kernel
theorem dX9_clause_30 : decode cX9_clause 30 = .ok (.aload_n 0, 1) := by decide +kernel
theorem dX9_clause_31 : decode cX9_clause 31 = .ok (.invokevirtual 191, 3) := by decide +kernel
theorem dX9_clause_34 : decode cX9_clause 34 = .ok (.putfield 199, 3) := by decide +kernel
theorem dX9_clause_37 : decode cX9_clause 37 = .ok (.aload_n 0, 1) := by decide +kernel
theorem dX9_clause_38 : decode cX9_clause 38 = .ok (.ldc 202, 2) := by decide +kernel
theorem dX9_clause_40 : decode cX9_clause 40 = .ok (.invokevirtual 188, 3) := by decide +kernel
theorem dX9_clause_43 : decode cX9_clause 43 = .ok (.ifCond .ne 12, 3) := by decide +kernel
theorem dX9_clause_46 : decode cX9_clause 46 = .ok (.aload_n 0, 1) := by decide +kernel
theorem dX9_clause_47 : decode cX9_clause 47 = .ok (.iconst 1, 1) := by decide +kernel
theorem dX9_clause_48 : decode cX9_clause 48 = .ok (.aload_n 0, 1) := by decide +kernel
theorem dX9_clause_49 : decode cX9_clause 49 = .ok (.getfield 139, 3) := by decide +kernel
theorem dX9_clause_52 : decode cX9_clause 52 = .ok (.invokevirtual 170, 3) := by decide +kernel
theorem dX9_clause_55 : decode cX9_clause 55 = .ok (.aload_n 0, 1) := by decide +kernel
theorem dX9_clause_56 : decode cX9_clause 56 = .ok (.aload_n 0, 1) := by decide +kernel
theorem dX9_clause_57 : decode cX9_clause 57 = .ok (.invokevirtual 191, 3) := by decide +kernel
theorem dX9_clause_60 : decode cX9_clause 60 = .ok (.putfield 204, 3) := by decide +kernel
theorem dX9_clause_63 : decode cX9_clause 63 = .ok (.goto 28, 3) := by decide +kernel
theorem dX9_clause_66 : decode cX9_clause 66 = .ok (.aload_n 0, 1) := by decide +kernel
theorem dX9_clause_67 : decode cX9_clause 67 = .ok (.ldc 207, 2) := by decide +kernel
theorem dX9_clause_69 : decode cX9_clause 69 = .ok (.invokevirtual 188, 3) := by decide +kernel
theorem dX9_clause_72 : decode cX9_clause 72 = .ok (.ifCond .eq 10, 3) := by decide +kernel
theorem dX9_clause_75 : decode cX9_clause 75 = .ok (.aload_n 0, 1) := by decide +kernel
theorem dX9_clause_76 : decode cX9_clause 76 = .ok (.invokevirtual 209, 3) := by decide +kernel
theorem dX9_clause_79 : decode cX9_clause 79 = .ok (.goto 12, 3) := by decide +kernel
theorem dX9_clause_82 : decode cX9_clause 82 = .ok (.aload_n 0, 1) := by decide +kernel
theorem dX9_clause_83 : decode cX9_clause 83 = .ok (.iconst 1, 1) := by decide +kernel
theorem dX9_clause_84 : decode cX9_clause 84 = .ok (.aload_n 0, 1) := by decide +kernel
theorem dX9_clause_85 : decode cX9_clause 85 = .ok (.getfield 139, 3) := by decide +kernel
theorem dX9_clause_88 : decode cX9_clause 88 = .ok (.invokevirtual 170, 3) := by decide +kernel
theorem dX9_clause_91 : decode cX9_clause 91 = .ok (.aload_n 0, 1) := by decide +kernel
theorem dX9_clause_92 : decode cX9_clause 92 = .ok (.getfield 145, 3) := by decide +kernel
theorem dX9_clause_95 : decode cX9_clause 95 = .ok (.ifCond .le 4, 3) := by decide +kernel
theorem dX9_clause_98 : decode cX9_clause 98 = .ok (.return_, 1) := by decide +kernel
theorem dX9_clause_99 : decode cX9_clause 99 = .ok (.aload_n 0, 1) := by decide +kernel
theorem dX9_clause_100 : decode cX9_clause 100 = .ok (.invokevirtual 148, 3) := by decide +kernel
theorem dX9_clause_103 : decode cX9_clause 103 = .ok (.aload_n 0, 1) := by decide +kernel
theorem dX9_clause_104 : decode cX9_clause 104 = .ok (.aload_n 0, 1) := by decide +kernel
theorem dX9_clause_105 : decode cX9_clause 105 = .ok (.getfield 139, 3) := by decide +kernel
theorem dX9_clause_108 : decode cX9_clause 108 = .ok (.invokevirtual 142, 3) := by decide +kernel
theorem dX9_clause_111 : decode cX9_clause 111 = .ok (.bipush 59, 2) := by decide +kernel
theorem dX9_clause_113 : decode cX9_clause 113 = .ok (.if_icmp .eq 12, 3) := by decide +kernel
theorem dX9_clause_116 : decode cX9_clause 116 = .ok (.aload_n 0, 1) := by decide +kernel
theorem dX9_clause_117 : decode cX9_clause 117 = .ok (.iconst 1, 1) := by decide +kernel
theorem dX9_clause_118 : decode cX9_clause 118 = .ok (.aload_n 0, 1) := by decide +kernel
theorem dX9_clause_119 : decode cX9_clause 119 = .ok (.getfield 139, 3) := by decide +kernel
theorem dX9_clause_122 : decode cX9_clause 122 = .ok (.invokevirtual 170, 3) := by decide +kernel
theorem dX9_clause_125 : decode cX9_clause 125 = .ok (.aload_n 0, 1) := by decide +kernel
theorem dX9_clause_126 : decode cX9_clause 126 = .ok (.dup, 1) := by decide +kernel
theorem dX9_clause_127 : decode cX9_clause 127 = .ok (.getfield 139, 3) := by decide +kernel
theorem dX9_clause_130 : decode cX9_clause 130 = .ok (.iconst 1, 1) := by decide +kernel
theorem dX9_clause_131 : decode cX9_clause 131 = .ok (.iadd, 1) := by decide +kernel
theorem dX9_clause_132 : decode cX9_clause 132 = .ok (.putfield 139, 3) := by decide +kernel
theorem dX9_clause_135 : decode cX9_clause 135 = .ok (.return_, 1) := by decide +kernel
set_option maxRecDepth 20000 in
theorem ggX9_rule_X9_bad : GoodIn wsX9_rule wsX9_bad := goodIn_r _ [22, 1, 115, 116, 117, 118, 119, 120, 121, 122, 123, 124, 125, 126, 127, 128, 129, 130, 131, 132, 133, 134, 135, 136, 137, 138, 139, 140, 141, 142, 143, 144, 145, 146, 147, 148, 149, 150, 151, 152, 153, 154, 155] (by decide +kernel) (by decide +kernel)
set_option maxRecDepth 20000 in
theorem gX9_rule_X9_bad : GoodIn wsX9_rule (wsV RX9 96 RX9 yX9_bad wsX9_bad) := goodIn_app (goodIn_of _ (by decide +kernel)) ggX9_rule_X9_bad
set_option maxRecDepth 20000 in
theorem ggX9_rule_X9_blanks : GoodIn wsX9_rule wsX9_blanks := goodIn_r _ [26, 4, 3, 27, 28, 29, 21, 30, 31, 115, 116, 117, 118, 119, 120, 121, 122, 123, 124, 125, 126, 127, 128, 129, 130, 131, 132, 133, 134, 135, 136, 137, 138, 139, 140, 141, 142, 143, 144, 145, 146, 147, 148, 149, 150, 151, 152, 153, 154, 155] (by decide +kernel) (by decide +kernel)
set_option maxRecDepth 20000 in
theorem gX9_rule_X9_blanks : GoodIn wsX9_rule (wsV RX9 148 RX9 yX9_blanks wsX9_blanks) := goodIn_app (goodIn_of _ (by decide +kernel)) ggX9_rule_X9_blanks
set_option maxRecDepth 20000 in
theorem ggX9_rule_X9_isWord : GoodIn wsX9_rule wsX9_isWord := goodIn_r _ [35, 4, 23, 24, 25, 21, 26, 3, 27, 28, 29, 30, 31, 36, 37, 38, 39, 40, 41, 42, 43, 44, 45, 46, 47, 48, 49, 50, 51, 52, 53, 54, 55, 56, 57, 58, 59, 60, 61, 62, 63, 64, 65, 66, 67, 68, 69, 70, 71, 72, 73, 74, 75, 76, 77, 78, 79, 80, 81, 82, 83, 84, 85, 86, 87, 115, 116, 117, 118, 119, 120, 121, 122, 123, 124, 125, 126, 127, 128, 129, 130, 131, 132, 133, 134, 135, 136, 137, 138, 139, 140, 141, 142, 143, 144, 145, 146, 147, 148, 149, 150, 151, 152, 153, 154, 155] (by decide +kernel) (by decide +kernel)
set_option maxRecDepth 20000 in
theorem gX9_rule_X9_isWord : GoodIn wsX9_rule (wsV RX9 163 RX9 yX9_isWord wsX9_isWord) := goodIn_app (goodIn_of _ (by decide +kernel)) ggX9_rule_X9_isWord
set_option maxRecDepth 20000 in
theorem ggX9_rule_X9_wrong : GoodIn wsX9_rule wsX9_wrong := goodIn_r _ [91, 5, 6, 115, 116, 117, 118, 119, 120, 121, 122, 123, 124, 125, 126, 127, 128, 129, 130, 131, 132, 133, 134, 135, 136, 137, 138, 139, 140, 141, 142, 143, 144, 145, 146, 147, 148, 149, 150, 151, 152, 153, 154, 155] (by decide +kernel) (by decide +kernel)
set_option maxRecDepth 20000 in
theorem gX9_rule_X9_wrong : GoodIn wsX9_rule (wsV RX9 170 RX9 yX9_wrong wsX9_wrong) := goodIn_app (goodIn_of _ (by decide +kernel)) ggX9_rule_X9_wrong
set_option maxRecDepth 20000 in
theorem ggX9_rule_X9_clause : GoodIn wsX9_rule wsX9_clause := goodIn_r _ [95, 7, 8, 4, 9, 5, 96, 97, 98, 21, 99, 32, 33, 34, 35, 23, 24, 25, 26, 3, 27, 28, 29, 30, 31, 36, 37, 38, 39, 40, 41, 42, 43, 44, 45, 46, 47, 48, 49, 50, 51, 52, 53, 54, 55, 56, 57, 58, 59, 60, 61, 62, 63, 64, 65, 66, 67, 68, 69, 70, 71, 72, 73, 74, 75, 76, 77, 78, 79, 80, 81, 82, 83, 84, 85, 86, 87, 100, 101, 102, 103, 104, 105, 106, 88, 89, 90, 91, 6, 107, 108, 109, 110, 10, 16, 111, 112, 113, 114, 115, 116, 117, 118, 119, 120, 121, 122, 123, 124, 125, 126, 127, 128, 129, 130, 131, 132, 133, 134, 135, 136, 137, 138, 139, 140, 141, 142, 143, 144, 145, 146, 147, 148, 149, 150, 151, 152, 153, 154, 155] (by decide +kernel) (by decide +kernel)
set_option maxRecDepth 20000 in
theorem gX9_rule_X9_clause : GoodIn wsX9_rule (wsV RX9 212 RX9 yX9_clause wsX9_clause) := goodIn_app (goodIn_of _ (by decide +kernel)) ggX9_rule_X9_clause
theorem dX9_rule_0 : decode cX9_rule 0 = .ok (.aload_n 0, 1) := by decide +kernel
theorem dX9_rule_1 : decode cX9_rule 1 = .ok (.iconst 0, 1) := by decide +kernel
theorem dX9_rule_2 : decode cX9_rule 2 = .ok (.putfield 82, 3) := by decide +kernel
theorem dX9_rule_5 : decode cX9_rule 5 = .ok (.aload_n 0, 1) := by decide +kernel
theorem dX9_rule_6 : decode cX9_rule 6 = .ok (.iload_n 1, 1) := by decide +kernel
theorem dX9_rule_7 : decode cX9_rule 7 = .ok (.ifCond .lt 11, 3) := by decide +kernel
theorem dX9_rule_10 : decode cX9_rule 10 = .ok (.iload_n 1, 1) := by decide +kernel
theorem dX9_rule_11 : decode cX9_rule 11 = .ok (.aload_n 0, 1) := by decide +kernel
theorem dX9_rule_12 : decode cX9_rule 12 = .ok (.getfield 133, 3) := by decide +kernel
theorem dX9_rule_15 : decode cX9_rule 15 = .ok (.if_icmp .le 7, 3) := by decide +kernel
theorem dX9_rule_18 : decode cX9_rule 18 = .ok (.iconst 1, 1) := by decide +kernel
theorem dX9_rule_19 : decode cX9_rule 19 = .ok (.goto 4, 3) := by decide +kernel
theorem dX9_rule_22 : decode cX9_rule 22 = .ok (.iconst 0, 1) := by decide +kernel
theorem dX9_rule_23 : decode cX9_rule 23 = .ok (.iconst 1, 1) := by decide +kernel
theorem dX9_rule_24 : decode cX9_rule 24 = .ok (.invokevirtual 96, 3) := by decide +kernel
theorem dX9_rule_27 : decode cX9_rule 27 = .ok (.ifCond .eq 5, 3) := by decide +kernel
theorem dX9_rule_30 : decode cX9_rule 30 = .ok (.iconst 0, 1) := by decide +kernel
theorem dX9_rule_31 : decode cX9_rule 31 = .ok (.ireturn, 1) := by decide +kernel
theorem dX9_rule_32 : decode cX9_rule 32 = .ok (.aload_n 0, 1) := by decide +kernel
theorem dX9_rule_33 : decode cX9_rule 33 = .ok (.iload_n 1, 1) := by decide +kernel
theorem dX9_rule_34 : decode cX9_rule 34 = .ok (.putfield 136, 3) := by decide +kernel
theorem dX9_rule_37 : decode cX9_rule 37 = .ok (.aload_n 0, 1) := by decide +kernel
theorem dX9_rule_38 : decode cX9_rule 38 = .ok (.iconst 0, 1) := by decide +kernel
theorem dX9_rule_39 : decode cX9_rule 39 = .ok (.putfield 133, 3) := by decide +kernel
theorem dX9_rule_42 : decode cX9_rule 42 = .ok (.aload_n 0, 1) := by decide +kernel
theorem dX9_rule_43 : decode cX9_rule 43 = .ok (.iconst 0, 1) := by decide +kernel
theorem dX9_rule_44 : decode cX9_rule 44 = .ok (.putfield 139, 3) := by decide +kernel
theorem dX9_rule_47 : decode cX9_rule 47 = .ok (.aload_n 0, 1) := by decide +kernel
theorem dX9_rule_48 : decode cX9_rule 48 = .ok (.iconst 0, 1) := by decide +kernel
theorem dX9_rule_49 : decode cX9_rule 49 = .ok (.putfield 145, 3) := by decide +kernel
theorem dX9_rule_52 : decode cX9_rule 52 = .ok (.aload_n 0, 1) := by decide +kernel
theorem dX9_rule_53 : decode cX9_rule 53 = .ok (.iconst (-1), 1) := by decide +kernel
theorem dX9_rule_54 : decode cX9_rule 54 = .ok (.putfield 34, 3) := by decide +kernel
theorem dX9_rule_57 : decode cX9_rule 57 = .ok (.aload_n 0, 1) := by decide +kernel
theorem dX9_rule_58 : decode cX9_rule 58 = .ok (.sipush 150, 3) := by decide +kernel
theorem dX9_rule_61 : decode cX9_rule 61 = .ok (.putfield 194, 3) := by decide +kernel
theorem dX9_rule_64 : decode cX9_rule 64 = .ok (.aload_n 0, 1) := by decide +kernel
theorem dX9_rule_65 : decode cX9_rule 65 = .ok (.iconst 0, 1) := by decide +kernel
theorem dX9_rule_66 : decode cX9_rule 66 = .ok (.putfield 199, 3) := by decide +kernel
theorem dX9_rule_69 : decode cX9_rule 69 = .ok (.aload_n 0, 1) := by decide +kernel
theorem dX9_rule_70 : decode cX9_rule 70 = .ok (.iconst (-1), 1) := by decide +kernel
theorem dX9_rule_71 : decode cX9_rule 71 = .ok (.putfield 204, 3) := by decide +kernel
theorem dX9_rule_74 : decode cX9_rule 74 = .ok (.aload_n 0, 1) := by decide +kernel
theorem dX9_rule_75 : decode cX9_rule 75 = .ok (.iconst 0, 1) := by decide +kernel
theorem dX9_rule_76 : decode cX9_rule 76 = .ok (.putfield 180, 3) := by decide +kernel
theorem dX9_rule_79 : decode cX9_rule 79 = .ok (.iconst 0, 1) := by decide +kernel
theorem dX9_rule_80 : decode cX9_rule 80 = .ok (.istore_n 2, 1) := by decide +kernel
theorem dX9_rule_81 : decode cX9_rule 81 = .ok (.aload_n 0, 1) := by decide +kernel
theorem dX9_rule_82 : decode cX9_rule 82 = .ok (.invokevirtual 148, 3) := by decide +kernel
theorem dX9_rule_85 : decode cX9_rule 85 = .ok (.aload_n 0, 1) := by decide +kernel
theorem dX9_rule_86 : decode cX9_rule 86 = .ok (.getfield 145, 3) := by decide +kernel
theorem dX9_rule_89 : decode cX9_rule 89 = .ok (.ifCond .ne 87, 3) := by decide +kernel
theorem dX9_rule_92 : decode cX9_rule 92 = .ok (.aload_n 0, 1) := by decide +kernel
theorem dX9_rule_93 : decode cX9_rule 93 = .ok (.getfield 139, 3) := by decide +kernel
theorem dX9_rule_96 : decode cX9_rule 96 = .ok (.aload_n 0, 1) := by decide +kernel
theorem dX9_rule_97 : decode cX9_rule 97 = .ok (.getfield 136, 3) := by decide +kernel
theorem dX9_rule_100 : decode cX9_rule 100 = .ok (.if_icmp .ge 76, 3) := by decide +kernel
theorem dX9_rule_103 : decode cX9_rule 103 = .ok (.aload_n 0, 1) := by decide +kernel
theorem dX9_rule_104 : decode cX9_rule 104 = .ok (.ldc 186, 2) := by decide +kernel
theorem dX9_rule_106 : decode cX9_rule 106 = .ok (.invokevirtual 163, 3) := by decide +kernel
theorem dX9_rule_109 : decode cX9_rule 109 = .ok (.ifCond .ne 21, 3) := by decide +kernel
theorem dX9_rule_112 : decode cX9_rule 112 = .ok (.aload_n 0, 1) := by decide +kernel
theorem dX9_rule_113 : decode cX9_rule 113 = .ok (.ldc 197, 2) := by decide +kernel
theorem dX9_rule_115 : decode cX9_rule 115 = .ok (.invokevirtual 163, 3) := by decide +kernel
theorem dX9_rule_118 : decode cX9_rule 118 = .ok (.ifCond .ne 12, 3) := by decide +kernel
theorem dX9_rule_121 : decode cX9_rule 121 = .ok (.aload_n 0, 1) := by decide +kernel
theorem dX9_rule_122 : decode cX9_rule 122 = .ok (.ldc 207, 2) := by decide +kernel
theorem dX9_rule_124 : decode cX9_rule 124 = .ok (.invokevirtual 163, 3) := by decide +kernel
theorem dX9_rule_127 : decode cX9_rule 127 = .ok (.ifCond .eq 7, 3) := by decide +kernel
theorem dX9_rule_130 : decode cX9_rule 130 = .ok (.iconst 1, 1) := by decide +kernel
theorem dX9_rule_131 : decode cX9_rule 131 = .ok (.goto 4, 3) := by decide +kernel
theorem dX9_rule_134 : decode cX9_rule 134 = .ok (.iconst 0, 1) := by decide +kernel
theorem dX9_rule_135 : decode cX9_rule 135 = .ok (.istore_n 3, 1) := by decide +kernel
theorem dX9_rule_136 : decode cX9_rule 136 = .ok (.iload_n 2, 1) := by decide +kernel
theorem dX9_rule_137 : decode cX9_rule 137 = .ok (.bipush 10, 2) := by decide +kernel
theorem dX9_rule_139 : decode cX9_rule 139 = .ok (.if_icmp .ne 23, 3) := by decide +kernel
theorem dX9_rule_142 : decode cX9_rule 142 = .ok (.aload_n 0, 1) := by decide +kernel
theorem dX9_rule_143 : decode cX9_rule 143 = .ok (.iload_n 3, 1) := by decide +kernel
theorem dX9_rule_144 : decode cX9_rule 144 = .ok (.ifCond .eq 7, 3) := by decide +kernel
theorem dX9_rule_147 : decode cX9_rule 147 = .ok (.iconst 3, 1) := by decide +kernel
theorem dX9_rule_148 : decode cX9_rule 148 = .ok (.goto 4, 3) := by decide +kernel
theorem dX9_rule_151 : decode cX9_rule 151 = .ok (.iconst 1, 1) := by decide +kernel
theorem dX9_rule_152 : decode cX9_rule 152 = .ok (.aload_n 0, 1) := by decide +kernel
theorem dX9_rule_153 : decode cX9_rule 153 = .ok (.getfield 139, 3) := by decide +kernel
theorem dX9_rule_156 : decode cX9_rule 156 = .ok (.invokevirtual 170, 3) := by decide +kernel
theorem dX9_rule_159 : decode cX9_rule 159 = .ok (.goto 14, 3) := by decide +kernel
theorem dX9_rule_162 : decode cX9_rule 162 = .ok (.aload_n 0, 1) := by decide +kernel
theorem dX9_rule_163 : decode cX9_rule 163 = .ok (.invokevirtual 212, 3) := by decide +kernel
theorem dX9_rule_166 : decode cX9_rule 166 = .ok (.iinc 2 1, 3) := by decide +kernel
theorem dX9_rule_169 : decode cX9_rule 169 = .ok (.aload_n 0, 1) := by decide +kernel
theorem dX9_rule_170 : decode cX9_rule 170 = .ok (.invokevirtual 148, 3) := by decide +kernel
theorem dX9_rule_173 : decode cX9_rule 173 = .ok (.goto (-88), 3) := by decide +kernel
theorem dX9_rule_176 : decode cX9_rule 176 = .ok (.aload_n 0, 1) := by decide +kernel
theorem dX9_rule_177 : decode cX9_rule 177 = .ok (.getfield 145, 3) := by decide +kernel
theorem dX9_rule_180 : decode cX9_rule 180 = .ok (.ifCond .le 11, 3) := by decide +kernel
theorem dX9_rule_183 : decode cX9_rule 183 = .ok (.aload_n 0, 1) := by decide +kernel
theorem dX9_rule_184 : decode cX9_rule 184 = .ok (.getfield 145, 3) := by decide +kernel
theorem dX9_rule_187 : decode cX9_rule 187 = .ok (.bipush 10, 2) := by decide +kernel
theorem dX9_rule_189 : decode cX9_rule 189 = .ok (.isub, 1) := by decide +kernel
theorem dX9_rule_190 : decode cX9_rule 190 = .ok (.ireturn, 1) := by decide +kernel
theorem dX9_rule_191 : decode cX9_rule 191 = .ok (.aload_n 0, 1) := by decide +kernel
theorem dX9_rule_192 : decode cX9_rule 192 = .ok (.aload_n 0, 1) := by decide +kernel
theorem dX9_rule_193 : decode cX9_rule 193 = .ok (.getfield 194, 3) := by decide +kernel
theorem dX9_rule_196 : decode cX9_rule 196 = .ok (.putfield 20, 3) := by decide +kernel
theorem dX9_rule_199 : decode cX9_rule 199 = .ok (.aload_n 0, 1) := by decide +kernel
theorem dX9_rule_200 : decode cX9_rule 200 = .ok (.aload_n 0, 1) := by decide +kernel
theorem dX9_rule_201 : decode cX9_rule 201 = .ok (.getfield 199, 3) := by decide +kernel
theorem dX9_rule_204 : decode cX9_rule 204 = .ok (.putfield 215, 3) := by decide +kernel
theorem dX9_rule_207 : decode cX9_rule 207 = .ok (.aload_n 0, 1) := by decide +kernel
theorem dX9_rule_208 : decode cX9_rule 208 = .ok (.aload_n 0, 1) := by decide +kernel
theorem dX9_rule_209 : decode cX9_rule 209 = .ok (.getfield 204, 3) := by decide +kernel
theorem dX9_rule_212 : decode cX9_rule 212 = .ok (.putfield 37, 3) := by decide +kernel
theorem dX9_rule_215 : decode cX9_rule 215 = .ok (.aload_n 0, 1) := by decide +kernel
theorem dX9_rule_216 : decode cX9_rule 216 = .ok (.aload_n 0, 1) := by decide +kernel
theorem dX9_rule_217 : decode cX9_rule 217 = .ok (.getfield 180, 3) := by decide +kernel
theorem dX9_rule_220 : decode cX9_rule 220 = .ok (.putfield 218, 3) := by decide +kernel
theorem dX9_rule_223 : decode cX9_rule 223 = .ok (.iconst 0, 1) := by decide +kernel
theorem dX9_rule_224 : decode cX9_rule 224 = .ok (.istore_n 3, 1) := by decide +kernel
theorem dX9_rule_225 : decode cX9_rule 225 = .ok (.iload_n 3, 1) := by decide +kernel
theorem dX9_rule_226 : decode cX9_rule 226 = .ok (.aload_n 0, 1) := by decide +kernel
theorem dX9_rule_227 : decode cX9_rule 227 = .ok (.getfield 218, 3) := by decide +kernel
theorem dX9_rule_230 : decode cX9_rule 230 = .ok (.if_icmp .ge 21, 3) := by decide +kernel
theorem dX9_rule_233 : decode cX9_rule 233 = .ok (.aload_n 0, 1) := by decide +kernel
theorem dX9_rule_234 : decode cX9_rule 234 = .ok (.getfield 40, 3) := by decide +kernel
theorem dX9_rule_237 : decode cX9_rule 237 = .ok (.iload_n 3, 1) := by decide +kernel
theorem dX9_rule_238 : decode cX9_rule 238 = .ok (.aload_n 0, 1) := by decide +kernel
theorem dX9_rule_239 : decode cX9_rule 239 = .ok (.getfield 43, 3) := by decide +kernel
theorem dX9_rule_242 : decode cX9_rule 242 = .ok (.iload_n 3, 1) := by decide +kernel
theorem dX9_rule_243 : decode cX9_rule 243 = .ok (.iaload, 1) := by decide +kernel
theorem dX9_rule_244 : decode cX9_rule 244 = .ok (.iastore, 1) := by decide +kernel
theorem dX9_rule_245 : decode cX9_rule 245 = .ok (.iinc 3 1, 3) := by decide +kernel
theorem dX9_rule_248 : decode cX9_rule 248 = .ok (.goto (-23), 3) := by decide +kernel
theorem dX9_rule_251 : decode cX9_rule 251 = .ok (.aload_n 0, 1) := by decide +kernel
theorem dX9_rule_252 : decode cX9_rule 252 = .ok (.iload_n 2, 1) := by decide +kernel
theorem dX9_rule_253 : decode cX9_rule 253 = .ok (.putfield 221, 3) := by decide +kernel
theorem dX9_rule_256 : decode cX9_rule 256 = .ok (.iload_n 2, 1) := by decide +kernel
theorem dX9_rule_257 : decode cX9_rule 257 = .ok (.ireturn, 1) := by decide +kernel
theorem dX9_fault_0 : decode cX9_fault 0 = .ok (.aload_n 0, 1) := by decide +kernel
theorem dX9_fault_1 : decode cX9_fault 1 = .ok (.iconst 0, 1) := by decide +kernel
theorem dX9_fault_2 : decode cX9_fault 2 = .ok (.putfield 82, 3) := by decide +kernel
theorem dX9_fault_5 : decode cX9_fault 5 = .ok (.aload_n 0, 1) := by decide +kernel
theorem dX9_fault_6 : decode cX9_fault 6 = .ok (.getfield 34, 3) := by decide +kernel
theorem dX9_fault_9 : decode cX9_fault 9 = .ok (.ireturn, 1) := by decide +kernel
set_option maxRecDepth 20000 in
theorem ggX9_boat_X9_bad : GoodIn wsX9_boat wsX9_bad := goodIn_r _ [10, 1, 11, 12, 13, 14, 15, 16, 17, 18, 19, 20, 21, 22, 23, 24, 25, 26, 27, 28, 29, 30, 31, 32, 33, 34, 35, 36, 37, 38, 39, 40, 41, 42, 43, 44, 45, 46, 47, 48, 49, 50, 51] (by decide +kernel) (by decide +kernel)
set_option maxRecDepth 20000 in
theorem gX9_boat_X9_bad : GoodIn wsX9_boat (wsV RX9 96 RX9 yX9_bad wsX9_bad) := goodIn_app (goodIn_of _ (by decide +kernel)) ggX9_boat_X9_bad
theorem dX9_boat_0 : decode cX9_boat 0 = .ok (.aload_n 0, 1) := by decide +kernel
theorem dX9_boat_1 : decode cX9_boat 1 = .ok (.iconst 0, 1) := by decide +kernel
theorem dX9_boat_2 : decode cX9_boat 2 = .ok (.putfield 82, 3) := by decide +kernel
theorem dX9_boat_5 : decode cX9_boat 5 = .ok (.aload_n 0, 1) := by decide +kernel
theorem dX9_boat_6 : decode cX9_boat 6 = .ok (.aload_n 0, 1) := by decide +kernel
theorem dX9_boat_7 : decode cX9_boat 7 = .ok (.getfield 224, 3) := by decide +kernel
theorem dX9_boat_10 : decode cX9_boat 10 = .ok (.bipush 16, 2) := by decide +kernel
theorem dX9_boat_12 : decode cX9_boat 12 = .ok (.if_icmp .ne 7, 3) := by decide +kernel
theorem dX9_boat_15 : decode cX9_boat 15 = .ok (.iconst 1, 1) := by decide +kernel
theorem dX9_boat_16 : decode cX9_boat 16 = .ok (.goto 4, 3) := by decide +kernel
theorem dX9_boat_19 : decode cX9_boat 19 = .ok (.iconst 0, 1) := by decide +kernel
theorem dX9_boat_20 : decode cX9_boat 20 = .ok (.iconst 1, 1) := by decide +kernel
theorem dX9_boat_21 : decode cX9_boat 21 = .ok (.invokevirtual 96, 3) := by decide +kernel
theorem dX9_boat_24 : decode cX9_boat 24 = .ok (.ifCond .eq 5, 3) := by decide +kernel
theorem dX9_boat_27 : decode cX9_boat 27 = .ok (.iconst 0, 1) := by decide +kernel
theorem dX9_boat_28 : decode cX9_boat 28 = .ok (.ireturn, 1) := by decide +kernel
theorem dX9_boat_29 : decode cX9_boat 29 = .ok (.iconst 0, 1) := by decide +kernel
theorem dX9_boat_30 : decode cX9_boat 30 = .ok (.istore_n 1, 1) := by decide +kernel
theorem dX9_boat_31 : decode cX9_boat 31 = .ok (.iload_n 1, 1) := by decide +kernel
theorem dX9_boat_32 : decode cX9_boat 32 = .ok (.aload_n 0, 1) := by decide +kernel
theorem dX9_boat_33 : decode cX9_boat 33 = .ok (.getfield 227, 3) := by decide +kernel
theorem dX9_boat_36 : decode cX9_boat 36 = .ok (.if_icmp .ge 31, 3) := by decide +kernel
