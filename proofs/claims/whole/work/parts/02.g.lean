theorem dX9_init_0 : decode cX9_init 0 = .ok (.aload_n 0, 1) := by decide +kernel
theorem dX9_init_1 : decode cX9_init 1 = .ok (.invokespecial 1, 3) := by decide +kernel
theorem dX9_init_4 : decode cX9_init 4 = .ok (.aload_n 0, 1) := by decide +kernel
theorem dX9_init_5 : decode cX9_init 5 = .ok (.sipush 144, 3) := by decide +kernel
theorem dX9_init_8 : decode cX9_init 8 = .ok (.newarray .int, 2) := by decide +kernel
theorem dX9_init_10 : decode cX9_init 10 = .ok (.putfield 9, 3) := by decide +kernel
theorem dX9_init_13 : decode cX9_init 13 = .ok (.aload_n 0, 1) := by decide +kernel
theorem dX9_init_14 : decode cX9_init 14 = .ok (.sipush 144, 3) := by decide +kernel
theorem dX9_init_17 : decode cX9_init 17 = .ok (.newarray .int, 2) := by decide +kernel
theorem dX9_init_19 : decode cX9_init 19 = .ok (.putfield 13, 3) := by decide +kernel
theorem dX9_init_22 : decode cX9_init 22 = .ok (.aload_n 0, 1) := by decide +kernel
theorem dX9_init_23 : decode cX9_init 23 = .ok (.sipush 144, 3) := by decide +kernel
theorem dX9_init_26 : decode cX9_init 26 = .ok (.newarray .boolean, 2) := by decide +kernel
theorem dX9_init_28 : decode cX9_init 28 = .ok (.putfield 16, 3) := by decide +kernel
theorem dX9_init_31 : decode cX9_init 31 = .ok (.aload_n 0, 1) := by decide +kernel
theorem dX9_init_32 : decode cX9_init 32 = .ok (.sipush 150, 3) := by decide +kernel
theorem dX9_init_35 : decode cX9_init 35 = .ok (.putfield 20, 3) := by decide +kernel
theorem dX9_init_38 : decode cX9_init 38 = .ok (.aload_n 0, 1) := by decide +kernel
theorem dX9_init_39 : decode cX9_init 39 = .ok (.iconst (-1), 1) := by decide +kernel
theorem dX9_init_40 : decode cX9_init 40 = .ok (.putfield 24, 3) := by decide +kernel
theorem dX9_init_43 : decode cX9_init 43 = .ok (.aload_n 0, 1) := by decide +kernel
theorem dX9_init_44 : decode cX9_init 44 = .ok (.iconst (-1), 1) := by decide +kernel
theorem dX9_init_45 : decode cX9_init 45 = .ok (.putfield 27, 3) := by decide +kernel
theorem dX9_init_48 : decode cX9_init 48 = .ok (.aload_n 0, 1) := by decide +kernel
theorem dX9_init_49 : decode cX9_init 49 = .ok (.sipush 200, 3) := by decide +kernel
theorem dX9_init_52 : decode cX9_init 52 = .ok (.newarray .byte, 2) := by decide +kernel
theorem dX9_init_54 : decode cX9_init 54 = .ok (.putfield 30, 3) := by decide +kernel
theorem dX9_init_57 : decode cX9_init 57 = .ok (.aload_n 0, 1) := by decide +kernel
theorem dX9_init_58 : decode cX9_init 58 = .ok (.iconst (-1), 1) := by decide +kernel
theorem dX9_init_59 : decode cX9_init 59 = .ok (.putfield 34, 3) := by decide +kernel
theorem dX9_init_62 : decode cX9_init 62 = .ok (.aload_n 0, 1) := by decide +kernel
theorem dX9_init_63 : decode cX9_init 63 = .ok (.iconst (-1), 1) := by decide +kernel
theorem dX9_init_64 : decode cX9_init 64 = .ok (.putfield 37, 3) := by decide +kernel
theorem dX9_init_67 : decode cX9_init 67 = .ok (.aload_n 0, 1) := by decide +kernel
theorem dX9_init_68 : decode cX9_init 68 = .ok (.iconst 3, 1) := by decide +kernel
theorem dX9_init_69 : decode cX9_init 69 = .ok (.newarray .int, 2) := by decide +kernel
theorem dX9_init_71 : decode cX9_init 71 = .ok (.putfield 40, 3) := by decide +kernel
theorem dX9_init_74 : decode cX9_init 74 = .ok (.aload_n 0, 1) := by decide +kernel
theorem dX9_init_75 : decode cX9_init 75 = .ok (.iconst 3, 1) := by decide +kernel
theorem dX9_init_76 : decode cX9_init 76 = .ok (.newarray .int, 2) := by decide +kernel
theorem dX9_init_78 : decode cX9_init 78 = .ok (.putfield 43, 3) := by decide +kernel
theorem dX9_init_81 : decode cX9_init 81 = .ok (.aload_n 0, 1) := by decide +kernel
theorem dX9_init_82 : decode cX9_init 82 = .ok (.bipush 16, 2) := by decide +kernel
theorem dX9_init_84 : decode cX9_init 84 = .ok (.newarray .int, 2) := by decide +kernel
theorem dX9_init_86 : decode cX9_init 86 = .ok (.putfield 46, 3) := by decide +kernel
theorem dX9_init_89 : decode cX9_init 89 = .ok (.aload_n 0, 1) := by decide +kernel
theorem dX9_init_90 : decode cX9_init 90 = .ok (.bipush 16, 2) := by decide +kernel
theorem dX9_init_92 : decode cX9_init 92 = .ok (.newarray .int, 2) := by decide +kernel
theorem dX9_init_94 : decode cX9_init 94 = .ok (.putfield 49, 3) := by decide +kernel
theorem dX9_init_97 : decode cX9_init 97 = .ok (.aload_n 0, 1) := by decide +kernel
theorem dX9_init_98 : decode cX9_init 98 = .ok (.bipush 16, 2) := by decide +kernel
theorem dX9_init_100 : decode cX9_init 100 = .ok (.newarray .int, 2) := by decide +kernel
theorem dX9_init_102 : decode cX9_init 102 = .ok (.putfield 52, 3) := by decide +kernel
theorem dX9_init_105 : decode cX9_init 105 = .ok (.aload_n 0, 1) := by decide +kernel
theorem dX9_init_106 : decode cX9_init 106 = .ok (.sipush 320, 3) := by decide +kernel
theorem dX9_init_109 : decode cX9_init 109 = .ok (.newarray .int, 2) := by decide +kernel
theorem dX9_init_111 : decode cX9_init 111 = .ok (.putfield 55, 3) := by decide +kernel
theorem dX9_init_114 : decode cX9_init 114 = .ok (.aload_n 0, 1) := by decide +kernel
theorem dX9_init_115 : decode cX9_init 115 = .ok (.bipush 20, 2) := by decide +kernel
theorem dX9_init_117 : decode cX9_init 117 = .ok (.newarray .int, 2) := by decide +kernel
theorem dX9_init_119 : decode cX9_init 119 = .ok (.putfield 58, 3) := by decide +kernel
theorem dX9_init_122 : decode cX9_init 122 = .ok (.aload_n 0, 1) := by decide +kernel
theorem dX9_init_123 : decode cX9_init 123 = .ok (.bipush 16, 2) := by decide +kernel
theorem dX9_init_125 : decode cX9_init 125 = .ok (.newarray .int, 2) := by decide +kernel
theorem dX9_init_127 : decode cX9_init 127 = .ok (.putfield 61, 3) := by decide +kernel
theorem dX9_init_130 : decode cX9_init 130 = .ok (.aload_n 0, 1) := by decide +kernel
theorem dX9_init_131 : decode cX9_init 131 = .ok (.bipush 16, 2) := by decide +kernel
theorem dX9_init_133 : decode cX9_init 133 = .ok (.newarray .int, 2) := by decide +kernel
theorem dX9_init_135 : decode cX9_init 135 = .ok (.putfield 64, 3) := by decide +kernel
theorem dX9_init_138 : decode cX9_init 138 = .ok (.aload_n 0, 1) := by decide +kernel
theorem dX9_init_139 : decode cX9_init 139 = .ok (.bipush 16, 2) := by decide +kernel
theorem dX9_init_141 : decode cX9_init 141 = .ok (.newarray .int, 2) := by decide +kernel
theorem dX9_init_143 : decode cX9_init 143 = .ok (.putfield 67, 3) := by decide +kernel
theorem dX9_init_146 : decode cX9_init 146 = .ok (.aload_n 0, 1) := by decide +kernel
theorem dX9_init_147 : decode cX9_init 147 = .ok (.bipush 16, 2) := by decide +kernel
theorem dX9_init_149 : decode cX9_init 149 = .ok (.newarray .int, 2) := by decide +kernel
theorem dX9_init_151 : decode cX9_init 151 = .ok (.putfield 70, 3) := by decide +kernel
theorem dX9_init_154 : decode cX9_init 154 = .ok (.aload_n 0, 1) := by decide +kernel
theorem dX9_init_155 : decode cX9_init 155 = .ok (.bipush 16, 2) := by decide +kernel
theorem dX9_init_157 : decode cX9_init 157 = .ok (.newarray .int, 2) := by decide +kernel
theorem dX9_init_159 : decode cX9_init 159 = .ok (.putfield 73, 3) := by decide +kernel
theorem dX9_init_162 : decode cX9_init 162 = .ok (.aload_n 0, 1) := by decide +kernel
theorem dX9_init_163 : decode cX9_init 163 = .ok (.bipush 20, 2) := by decide +kernel
theorem dX9_init_165 : decode cX9_init 165 = .ok (.newarray .int, 2) := by decide +kernel
theorem dX9_init_167 : decode cX9_init 167 = .ok (.putfield 76, 3) := by decide +kernel
theorem dX9_init_170 : decode cX9_init 170 = .ok (.aload_n 0, 1) := by decide +kernel
theorem dX9_init_171 : decode cX9_init 171 = .ok (.bipush 16, 2) := by decide +kernel
theorem dX9_init_173 : decode cX9_init 173 = .ok (.newarray .int, 2) := by decide +kernel
theorem dX9_init_175 : decode cX9_init 175 = .ok (.putfield 79, 3) := by decide +kernel
theorem dX9_init_178 : decode cX9_init 178 = .ok (.iconst 0, 1) := by decide +kernel
theorem dX9_init_179 : decode cX9_init 179 = .ok (.istore_n 1, 1) := by decide +kernel
theorem dX9_init_180 : decode cX9_init 180 = .ok (.iload_n 1, 1) := by decide +kernel
theorem dX9_init_181 : decode cX9_init 181 = .ok (.sipush 144, 3) := by decide +kernel
theorem dX9_init_184 : decode cX9_init 184 = .ok (.if_icmp .ge 18, 3) := by decide +kernel
theorem dX9_init_187 : decode cX9_init 187 = .ok (.aload_n 0, 1) := by decide +kernel
theorem dX9_init_188 : decode cX9_init 188 = .ok (.getfield 13, 3) := by decide +kernel
theorem dX9_init_191 : decode cX9_init 191 = .ok (.iload_n 1, 1) := by decide +kernel
theorem dX9_init_192 : decode cX9_init 192 = .ok (.sipush 5000, 3) := by decide +kernel
theorem dX9_init_195 : decode cX9_init 195 = .ok (.iastore, 1) := by decide +kernel
theorem dX9_init_196 : decode cX9_init 196 = .ok (.iinc 1 1, 3) := by decide +kernel
theorem dX9_init_199 : decode cX9_init 199 = .ok (.goto (-19), 3) := by decide +kernel
theorem dX9_init_202 : decode cX9_init 202 = .ok (.return_, 1) := by decide +kernel
theorem dX9_thrown_0 : decode cX9_thrown 0 = .ok (.aload_n 0, 1) := by decide +kernel
theorem dX9_thrown_1 : decode cX9_thrown 1 = .ok (.getfield 82, 3) := by decide +kernel
theorem dX9_thrown_4 : decode cX9_thrown 4 = .ok (.ireturn, 1) := by decide +kernel
theorem dX9_bad_0 : decode cX9_bad 0 = .ok (.iload_n 1, 1) := by decide +kernel
theorem dX9_bad_1 : decode cX9_bad 1 = .ok (.ifCond .eq 8, 3) := by decide +kernel
theorem dX9_bad_4 : decode cX9_bad 4 = .ok (.aload_n 0, 1) := by decide +kernel
theorem dX9_bad_5 : decode cX9_bad 5 = .ok (.iload_n 2, 1) := by decide +kernel
theorem dX9_bad_6 : decode cX9_bad 6 = .ok (.putfield 82, 3) := by decide +kernel
theorem dX9_bad_9 : decode cX9_bad 9 = .ok (.iload_n 1, 1) := by decide +kernel
theorem dX9_bad_10 : decode cX9_bad 10 = .ok (.ireturn, 1) := by decide +kernel
theorem dX9_within_0 : decode cX9_within 0 = .ok (.iload_n 0, 1) := by decide +kernel
theorem dX9_within_1 : decode cX9_within 1 = .ok (.ifCond .ge 7, 3) := by decide +kernel
theorem dX9_within_4 : decode cX9_within 4 = .ok (.iconst 0, 1) := by decide +kernel
theorem dX9_within_5 : decode cX9_within 5 = .ok (.goto 17, 3) := by decide +kernel
theorem dX9_within_8 : decode cX9_within 8 = .ok (.iload_n 0, 1) := by decide +kernel
theorem dX9_within_9 : decode cX9_within 9 = .ok (.sipush 5000, 3) := by decide +kernel
theorem dX9_within_12 : decode cX9_within 12 = .ok (.if_icmp .le 9, 3) := by decide +kernel
theorem dX9_within_15 : decode cX9_within 15 = .ok (.sipush 5000, 3) := by decide +kernel
theorem dX9_within_18 : decode cX9_within 18 = .ok (.goto 4, 3) := by decide +kernel
theorem dX9_within_21 : decode cX9_within 21 = .ok (.iload_n 0, 1) := by decide +kernel
theorem dX9_within_22 : decode cX9_within 22 = .ok (.ireturn, 1) := by decide +kernel
theorem dX9_isCell_0 : decode cX9_isCell 0 = .ok (.aload_n 0, 1) := by decide +kernel
theorem dX9_isCell_1 : decode cX9_isCell 1 = .ok (.iload_n 1, 1) := by decide +kernel
theorem dX9_isCell_2 : decode cX9_isCell 2 = .ok (.ifCond .lt 10, 3) := by decide +kernel
theorem dX9_isCell_5 : decode cX9_isCell 5 = .ok (.iload_n 1, 1) := by decide +kernel
theorem dX9_isCell_6 : decode cX9_isCell 6 = .ok (.sipush 144, 3) := by decide +kernel
theorem dX9_isCell_9 : decode cX9_isCell 9 = .ok (.if_icmp .lt 7, 3) := by decide +kernel
theorem dX9_isCell_12 : decode cX9_isCell 12 = .ok (.iconst 1, 1) := by decide +kernel
theorem dX9_isCell_13 : decode cX9_isCell 13 = .ok (.goto 4, 3) := by decide +kernel
theorem dX9_isCell_16 : decode cX9_isCell 16 = .ok (.iconst 0, 1) := by decide +kernel
theorem dX9_isCell_17 : decode cX9_isCell 17 = .ok (.putfield 82, 3) := by decide +kernel
theorem dX9_isCell_20 : decode cX9_isCell 20 = .ok (.aload_n 0, 1) := by decide +kernel
theorem dX9_isCell_21 : decode cX9_isCell 21 = .ok (.getfield 82, 3) := by decide +kernel
theorem dX9_isCell_24 : decode cX9_isCell 24 = .ok (.ifCond .ne 7, 3) := by decide +kernel
theorem dX9_isCell_27 : decode cX9_isCell 27 = .ok (.iconst 1, 1) := by decide +kernel
theorem dX9_isCell_28 : decode cX9_isCell 28 = .ok (.goto 4, 3) := by decide +kernel
theorem dX9_isCell_31 : decode cX9_isCell 31 = .ok (.iconst 0, 1) := by decide +kernel
theorem dX9_isCell_32 : decode cX9_isCell 32 = .ok (.ireturn, 1) := by decide +kernel
theorem dX9_isThick_0 : decode cX9_isThick 0 = .ok (.iload_n 0, 1) := by decide +kernel
theorem dX9_isThick_1 : decode cX9_isThick 1 = .ok (.ifCond .lt 14, 3) := by decide +kernel
theorem dX9_isThick_4 : decode cX9_isThick 4 = .ok (.iload_n 0, 1) := by decide +kernel
theorem dX9_isThick_5 : decode cX9_isThick 5 = .ok (.sipush 5000, 3) := by decide +kernel
theorem dX9_isThick_8 : decode cX9_isThick 8 = .ok (.if_icmp .gt 7, 3) := by decide +kernel
theorem dX9_isThick_11 : decode cX9_isThick 11 = .ok (.iconst 1, 1) := by decide +kernel
theorem dX9_isThick_12 : decode cX9_isThick 12 = .ok (.goto 4, 3) := by decide +kernel
theorem dX9_isThick_15 : decode cX9_isThick 15 = .ok (.iconst 0, 1) := by decide +kernel
theorem dX9_isThick_16 : decode cX9_isThick 16 = .ok (.ireturn, 1) := by decide +kernel
set_option maxRecDepth 20000 in
theorem ggX9_sounds_X9_within : GoodIn wsX9_sounds wsX9_within := goodIn_r _ [6] (by decide +kernel) (by decide +kernel)
set_option maxRecDepth 20000 in
theorem gX9_sounds_X9_within : GoodIn wsX9_sounds (va_wsS RX9 85 yX9_within wsX9_within) := goodIn_app (goodIn_of _ (by decide +kernel)) ggX9_sounds_X9_within
theorem dX9_sounds_0 : decode cX9_sounds 0 = .ok (.aload_n 0, 1) := by decide +kernel
theorem dX9_sounds_1 : decode cX9_sounds 1 = .ok (.getfield 9, 3) := by decide +kernel
theorem dX9_sounds_4 : decode cX9_sounds 4 = .ok (.iload_n 1, 1) := by decide +kernel
theorem dX9_sounds_5 : decode cX9_sounds 5 = .ok (.iload_n 2, 1) := by decide +kernel
theorem dX9_sounds_6 : decode cX9_sounds 6 = .ok (.iload_n 3, 1) := by decide +kernel
theorem dX9_sounds_7 : decode cX9_sounds 7 = .ok (.isub, 1) := by decide +kernel
theorem dX9_sounds_8 : decode cX9_sounds 8 = .ok (.invokestatic 85, 3) := by decide +kernel
theorem dX9_sounds_11 : decode cX9_sounds 11 = .ok (.iastore, 1) := by decide +kernel
theorem dX9_sounds_12 : decode cX9_sounds 12 = .ok (.aload_n 0, 1) := by decide +kernel
theorem dX9_sounds_13 : decode cX9_sounds 13 = .ok (.getfield 13, 3) := by decide +kernel
theorem dX9_sounds_16 : decode cX9_sounds 16 = .ok (.iload_n 1, 1) := by decide +kernel
theorem dX9_sounds_17 : decode cX9_sounds 17 = .ok (.iload_n 2, 1) := by decide +kernel
theorem dX9_sounds_18 : decode cX9_sounds 18 = .ok (.iload_n 3, 1) := by decide +kernel
theorem dX9_sounds_19 : decode cX9_sounds 19 = .ok (.iadd, 1) := by decide +kernel
theorem dX9_sounds_20 : decode cX9_sounds 20 = .ok (.invokestatic 85, 3) := by decide +kernel
theorem dX9_sounds_23 : decode cX9_sounds 23 = .ok (.iastore, 1) := by decide +kernel
theorem dX9_sounds_24 : decode cX9_sounds 24 = .ok (.return_, 1) := by decide +kernel
set_option maxRecDepth 20000 in
theorem ggX9_sound_X9_isCell : GoodIn wsX9_sound wsX9_isCell := goodIn_r _ [6, 7, 23, 24, 25, 26, 27, 28, 29, 30, 31, 32, 33, 34, 35, 36, 37, 38, 39, 40, 41, 42, 43, 44, 45, 46, 47, 48, 49, 50, 51, 52, 53, 54, 55, 56, 57, 58, 59, 60, 61, 62, 63] (by decide +kernel) (by decide +kernel)
set_option maxRecDepth 20000 in
theorem gX9_sound_X9_isCell : GoodIn wsX9_sound (wsV RX9 89 RX9 yX9_isCell wsX9_isCell) := goodIn_app (goodIn_of _ (by decide +kernel)) ggX9_sound_X9_isCell
set_option maxRecDepth 20000 in
theorem ggX9_sound_X9_isThick : GoodIn wsX9_sound wsX9_isThick := goodIn_r _ [10] (by decide +kernel) (by decide +kernel)
set_option maxRecDepth 20000 in
theorem gX9_sound_X9_isThick : GoodIn wsX9_sound (va_wsS RX9 93 yX9_isThick wsX9_isThick) := goodIn_app (goodIn_of _ (by decide +kernel)) ggX9_sound_X9_isThick
set_option maxRecDepth 20000 in
theorem ggX9_sound_X9_bad : GoodIn wsX9_sound wsX9_bad := goodIn_r _ [14, 7, 23, 24, 25, 26, 27, 28, 29, 30, 31, 32, 33, 34, 35, 36, 37, 38, 39, 40, 41, 42, 43, 44, 45, 46, 47, 48, 49, 50, 51, 52, 53, 54, 55, 56, 57, 58, 59, 60, 61, 62, 63] (by decide +kernel) (by decide +kernel)
set_option maxRecDepth 20000 in
theorem gX9_sound_X9_bad : GoodIn wsX9_sound (wsV RX9 96 RX9 yX9_bad wsX9_bad) := goodIn_app (goodIn_of _ (by decide +kernel)) ggX9_sound_X9_bad
set_option maxRecDepth 20000 in
theorem ggX9_sound_X9_sounds : GoodIn wsX9_sound wsX9_sounds := goodIn_r _ [18, 1, 19, 20, 21, 5, 22, 23, 24, 25, 26, 27, 28, 29, 30, 31, 32, 33, 34, 35, 36, 37, 38, 39, 40, 41, 42, 43, 44, 45, 46, 47, 48, 49, 50, 51, 52, 53, 54, 55, 56, 57, 58, 59, 60, 61, 62, 63] (by decide +kernel) (by decide +kernel)
set_option maxRecDepth 20000 in
theorem gX9_sound_X9_sounds : GoodIn wsX9_sound (wsV RX9 100 RX9 yX9_sounds wsX9_sounds) := goodIn_app (goodIn_of _ (by decide +kernel)) ggX9_sound_X9_sounds
theorem dX9_sound_0 : decode cX9_sound 0 = .ok (.aload_n 0, 1) := by decide +kernel
theorem dX9_sound_1 : decode cX9_sound 1 = .ok (.iload_n 1, 1) := by decide +kernel
theorem dX9_sound_2 : decode cX9_sound 2 = .ok (.invokevirtual 89, 3) := by decide +kernel
theorem dX9_sound_5 : decode cX9_sound 5 = .ok (.ifCond .eq 30, 3) := by decide +kernel
theorem dX9_sound_8 : decode cX9_sound 8 = .ok (.aload_n 0, 1) := by decide +kernel
theorem dX9_sound_9 : decode cX9_sound 9 = .ok (.iload_n 2, 1) := by decide +kernel
theorem dX9_sound_10 : decode cX9_sound 10 = .ok (.invokestatic 93, 3) := by decide +kernel
theorem dX9_sound_13 : decode cX9_sound 13 = .ok (.ifCond .eq 10, 3) := by decide +kernel
theorem dX9_sound_16 : decode cX9_sound 16 = .ok (.iload_n 3, 1) := by decide +kernel
theorem dX9_sound_17 : decode cX9_sound 17 = .ok (.invokestatic 93, 3) := by decide +kernel
theorem dX9_sound_20 : decode cX9_sound 20 = .ok (.ifCond .ne 7, 3) := by decide +kernel
theorem dX9_sound_23 : decode cX9_sound 23 = .ok (.iconst 1, 1) := by decide +kernel
theorem dX9_sound_24 : decode cX9_sound 24 = .ok (.goto 4, 3) := by decide +kernel
theorem dX9_sound_27 : decode cX9_sound 27 = .ok (.iconst 0, 1) := by decide +kernel
theorem dX9_sound_28 : decode cX9_sound 28 = .ok (.iconst 2, 1) := by decide +kernel
theorem dX9_sound_29 : decode cX9_sound 29 = .ok (.invokevirtual 96, 3) := by decide +kernel
theorem dX9_sound_32 : decode cX9_sound 32 = .ok (.ifCond .eq 5, 3) := by decide +kernel
theorem dX9_sound_35 : decode cX9_sound 35 = .ok (.iconst 0, 1) := by decide +kernel
theorem dX9_sound_36 : decode cX9_sound 36 = .ok (.ireturn, 1) := by decide +kernel
theorem dX9_sound_37 : decode cX9_sound 37 = .ok (.aload_n 0, 1) := by decide +kernel
theorem dX9_sound_38 : decode cX9_sound 38 = .ok (.iload_n 1, 1) := by decide +kernel
theorem dX9_sound_39 : decode cX9_sound 39 = .ok (.iload_n 2, 1) := by decide +kernel
theorem dX9_sound_40 : decode cX9_sound 40 = .ok (.iload_n 3, 1) := by decide +kernel
theorem dX9_sound_41 : decode cX9_sound 41 = .ok (.invokevirtual 100, 3) := by decide +kernel
theorem dX9_sound_44 : decode cX9_sound 44 = .ok (.aload_n 0, 1) := by decide +kernel
theorem dX9_sound_45 : decode cX9_sound 45 = .ok (.getfield 9, 3) := by decide +kernel
theorem dX9_sound_48 : decode cX9_sound 48 = .ok (.iload_n 1, 1) := by decide +kernel
theorem dX9_sound_49 : decode cX9_sound 49 = .ok (.iaload, 1) := by decide +kernel
theorem dX9_sound_50 : decode cX9_sound 50 = .ok (.ireturn, 1) := by decide +kernel
set_option maxRecDepth 20000 in
theorem ggX9_soundRow_X9_bad : GoodIn wsX9_soundRow wsX9_bad := goodIn_r _ [7, 1, 19, 20, 21, 22, 23, 24, 25, 26, 27, 28, 29, 30, 31, 32, 33, 34, 35, 36, 37, 38, 39, 40, 41, 42, 43, 44, 45, 46, 47, 48, 49, 50, 51, 52, 53, 54, 55, 56, 57, 58, 59] (by decide +kernel) (by decide +kernel)
set_option maxRecDepth 20000 in
theorem gX9_soundRow_X9_bad : GoodIn wsX9_soundRow (wsV RX9 96 RX9 yX9_bad wsX9_bad) := goodIn_app (goodIn_of _ (by decide +kernel)) ggX9_soundRow_X9_bad
set_option maxRecDepth 20000 in
theorem ggX9_soundRow_X9_isThick : GoodIn wsX9_soundRow wsX9_isThick := goodIn_r _ [10] (by decide +kernel) (by decide +kernel)
set_option maxRecDepth 20000 in
theorem gX9_soundRow_X9_isThick : GoodIn wsX9_soundRow (va_wsS RX9 93 yX9_isThick wsX9_isThick) := goodIn_app (goodIn_of _ (by decide +kernel)) ggX9_soundRow_X9_isThick
set_option maxRecDepth 20000 in
theorem ggX9_soundRow_X9_sounds : GoodIn wsX9_soundRow wsX9_sounds := goodIn_r _ [14, 2, 15, 16, 17, 6, 18, 19, 20, 21, 22, 23, 24, 25, 26, 27, 28, 29, 30, 31, 32, 33, 34, 35, 36, 37, 38, 39, 40, 41, 42, 43, 44, 45, 46, 47, 48, 49, 50, 51, 52, 53, 54, 55, 56, 57, 58, 59] (by decide +kernel) (by decide +kernel)
set_option maxRecDepth 20000 in
theorem gX9_soundRow_X9_sounds : GoodIn wsX9_soundRow (wsV RX9 100 RX9 yX9_sounds wsX9_sounds) := goodIn_app (goodIn_of _ (by decide +kernel)) ggX9_soundRow_X9_sounds
theorem dX9_soundRow_0 : decode cX9_soundRow 0 = .ok (.aload_n 0, 1) := by decide +kernel
theorem dX9_soundRow_1 : decode cX9_soundRow 1 = .ok (.iconst 0, 1) := by decide +kernel
theorem dX9_soundRow_2 : decode cX9_soundRow 2 = .ok (.putfield 82, 3) := by decide +kernel
theorem dX9_soundRow_5 : decode cX9_soundRow 5 = .ok (.aload_n 0, 1) := by decide +kernel
theorem dX9_soundRow_6 : decode cX9_soundRow 6 = .ok (.iload_n 1, 1) := by decide +kernel
theorem dX9_soundRow_7 : decode cX9_soundRow 7 = .ok (.ifCond .lt 9, 3) := by decide +kernel
theorem dX9_soundRow_10 : decode cX9_soundRow 10 = .ok (.iload_n 1, 1) := by decide +kernel
theorem dX9_soundRow_11 : decode cX9_soundRow 11 = .ok (.bipush 12, 2) := by decide +kernel
theorem dX9_soundRow_13 : decode cX9_soundRow 13 = .ok (.if_icmp .lt 7, 3) := by decide +kernel
theorem dX9_soundRow_16 : decode cX9_soundRow 16 = .ok (.iconst 1, 1) := by decide +kernel
theorem dX9_soundRow_17 : decode cX9_soundRow 17 = .ok (.goto 4, 3) := by decide +kernel
theorem dX9_soundRow_20 : decode cX9_soundRow 20 = .ok (.iconst 0, 1) := by decide +kernel
theorem dX9_soundRow_21 : decode cX9_soundRow 21 = .ok (.iconst 1, 1) := by decide +kernel
theorem dX9_soundRow_22 : decode cX9_soundRow 22 = .ok (.invokevirtual 96, 3) := by decide +kernel
theorem dX9_soundRow_25 : decode cX9_soundRow 25 = .ok (.ifCond .ne 30, 3) := by decide +kernel
theorem dX9_soundRow_28 : decode cX9_soundRow 28 = .ok (.aload_n 0, 1) := by decide +kernel
theorem dX9_soundRow_29 : decode cX9_soundRow 29 = .ok (.iload_n 2, 1) := by decide +kernel
theorem dX9_soundRow_30 : decode cX9_soundRow 30 = .ok (.invokestatic 93, 3) := by decide +kernel
theorem dX9_soundRow_33 : decode cX9_soundRow 33 = .ok (.ifCond .eq 10, 3) := by decide +kernel
theorem dX9_soundRow_36 : decode cX9_soundRow 36 = .ok (.iload_n 3, 1) := by decide +kernel
theorem dX9_soundRow_37 : decode cX9_soundRow 37 = .ok (.invokestatic 93, 3) := by decide +kernel
theorem dX9_soundRow_40 : decode cX9_soundRow 40 = .ok (.ifCond .ne 7, 3) := by decide +kernel
theorem dX9_soundRow_43 : decode cX9_soundRow 43 = .ok (.iconst 1, 1) := by decide +kernel
theorem dX9_soundRow_44 : decode cX9_soundRow 44 = .ok (.goto 4, 3) := by decide +kernel
theorem dX9_soundRow_47 : decode cX9_soundRow 47 = .ok (.iconst 0, 1) := by decide +kernel
theorem dX9_soundRow_48 : decode cX9_soundRow 48 = .ok (.iconst 2, 1) := by decide +kernel
theorem dX9_soundRow_49 : decode cX9_soundRow 49 = .ok (.invokevirtual 96, 3) := by decide +kernel
theorem dX9_soundRow_52 : decode cX9_soundRow 52 = .ok (.ifCond .eq 5, 3) := by decide +kernel
theorem dX9_soundRow_55 : decode cX9_soundRow 55 = .ok (.iconst 0, 1) := by decide +kernel
theorem dX9_soundRow_56 : decode cX9_soundRow 56 = .ok (.ireturn, 1) := by decide +kernel
theorem dX9_soundRow_57 : decode cX9_soundRow 57 = .ok (.iconst 0, 1) := by decide +kernel
theorem dX9_soundRow_58 : decode cX9_soundRow 58 = .ok (.istore 4, 2) := by decide +kernel
theorem dX9_soundRow_60 : decode cX9_soundRow 60 = .ok (.iload 4, 2) := by decide +kernel
theorem dX9_soundRow_62 : decode cX9_soundRow 62 = .ok (.bipush 12, 2) := by decide +kernel
theorem dX9_soundRow_64 : decode cX9_soundRow 64 = .ok (.if_icmp .ge 22, 3) := by decide +kernel
theorem dX9_soundRow_67 : decode cX9_soundRow 67 = .ok (.aload_n 0, 1) := by decide +kernel
theorem dX9_soundRow_68 : decode cX9_soundRow 68 = .ok (.bipush 12, 2) := by decide +kernel
theorem dX9_soundRow_70 : decode cX9_soundRow 70 = .ok (.iload_n 1, 1) := by decide +kernel
theorem dX9_soundRow_71 : decode cX9_soundRow 71 = .ok (.imul, 1) := by decide +kernel
theorem dX9_soundRow_72 : decode cX9_soundRow 72 = .ok (.iload 4, 2) := by decide +kernel
theorem dX9_soundRow_74 : decode cX9_soundRow 74 = .ok (.iadd, 1) := by decide +kernel
theorem dX9_soundRow_75 : decode cX9_soundRow 75 = .ok (.iload_n 2, 1) := by decide +kernel
theorem dX9_soundRow_76 : decode cX9_soundRow 76 = .ok (.iload_n 3, 1) := by decide +kernel
theorem dX9_soundRow_77 : decode cX9_soundRow 77 = .ok (.invokevirtual 100, 3) := by decide +kernel
theorem dX9_soundRow_80 : decode cX9_soundRow 80 = .ok (.iinc 4 1, 3) := by decide +kernel
theorem dX9_soundRow_83 : decode cX9_soundRow 83 = .ok (.goto (-23), 3) := by decide +kernel
theorem dX9_soundRow_86 : decode cX9_soundRow 86 = .ok (.aload_n 0, 1) := by decide +kernel
theorem dX9_soundRow_87 : decode cX9_soundRow 87 = .ok (.getfield 9, 3) := by decide +kernel
theorem dX9_soundRow_90 : decode cX9_soundRow 90 = .ok (.bipush 12, 2) := by decide +kernel
theorem dX9_soundRow_92 : decode cX9_soundRow 92 = .ok (.iload_n 1, 1) := by decide +kernel
theorem dX9_soundRow_93 : decode cX9_soundRow 93 = .ok (.imul, 1) := by decide +kernel
theorem dX9_soundRow_94 : decode cX9_soundRow 94 = .ok (.iaload, 1) := by decide +kernel
theorem dX9_soundRow_95 : decode cX9_soundRow 95 = .ok (.ireturn, 1) := by decide +kernel
set_option maxRecDepth 20000 in
theorem ggX9_crack_X9_isCell : GoodIn wsX9_crack wsX9_isCell := goodIn_r _ [6, 7, 8, 9, 10, 11, 12, 13, 14, 15, 16, 17, 18, 19, 20, 21, 22, 23, 24, 25, 26, 27, 28, 29, 30, 31, 32, 33, 34, 35, 36, 37, 38, 39, 40, 41, 42, 43, 44, 45, 46, 47, 48] (by decide +kernel) (by decide +kernel)
set_option maxRecDepth 20000 in
theorem gX9_crack_X9_isCell : GoodIn wsX9_crack (wsV RX9 89 RX9 yX9_isCell wsX9_isCell) := goodIn_app (goodIn_of _ (by decide +kernel)) ggX9_crack_X9_isCell
theorem dX9_crack_0 : decode cX9_crack 0 = .ok (.aload_n 0, 1) := by decide +kernel
theorem dX9_crack_1 : decode cX9_crack 1 = .ok (.iload_n 1, 1) := by decide +kernel
theorem dX9_crack_2 : decode cX9_crack 2 = .ok (.invokevirtual 89, 3) := by decide +kernel
theorem dX9_crack_5 : decode cX9_crack 5 = .ok (.ifCond .ne 5, 3) := by decide +kernel
theorem dX9_crack_8 : decode cX9_crack 8 = .ok (.iconst 0, 1) := by decide +kernel
theorem dX9_crack_9 : decode cX9_crack 9 = .ok (.ireturn, 1) := by decide +kernel
theorem dX9_crack_10 : decode cX9_crack 10 = .ok (.aload_n 0, 1) := by decide +kernel
theorem dX9_crack_11 : decode cX9_crack 11 = .ok (.getfield 16, 3) := by decide +kernel
theorem dX9_crack_14 : decode cX9_crack 14 = .ok (.iload_n 1, 1) := by decide +kernel
theorem dX9_crack_15 : decode cX9_crack 15 = .ok (.baload, 1) := by decide +kernel
theorem dX9_crack_16 : decode cX9_crack 16 = .ok (.istore_n 3, 1) := by decide +kernel
theorem dX9_crack_17 : decode cX9_crack 17 = .ok (.aload_n 0, 1) := by decide +kernel
theorem dX9_crack_18 : decode cX9_crack 18 = .ok (.getfield 16, 3) := by decide +kernel
theorem dX9_crack_21 : decode cX9_crack 21 = .ok (.iload_n 1, 1) := by decide +kernel
theorem dX9_crack_22 : decode cX9_crack 22 = .ok (.iload_n 2, 1) := by decide +kernel
theorem dX9_crack_23 : decode cX9_crack 23 = .ok (.bastore, 1) := by decide +kernel
theorem dX9_crack_24 : decode cX9_crack 24 = .ok (.iload_n 3, 1) := by decide +kernel
theorem dX9_crack_25 : decode cX9_crack 25 = .ok (.ireturn, 1) := by decide +kernel
theorem dX9_isSafe_0 : decode cX9_isSafe 0 = .ok (.aload_n 0, 1) := by decide +kernel
theorem dX9_isSafe_1 : decode cX9_isSafe 1 = .ok (.getfield 9, 3) := by decide +kernel
theorem dX9_isSafe_4 : decode cX9_isSafe 4 = .ok (.iload_n 1, 1) := by decide +kernel
theorem dX9_isSafe_5 : decode cX9_isSafe 5 = .ok (.iaload, 1) := by decide +kernel
theorem dX9_isSafe_6 : decode cX9_isSafe 6 = .ok (.aload_n 0, 1) := by decide +kernel
theorem dX9_isSafe_7 : decode cX9_isSafe 7 = .ok (.getfield 20, 3) := by decide +kernel
theorem dX9_isSafe_10 : decode cX9_isSafe 10 = .ok (.if_icmp .lt 16, 3) := by decide +kernel
theorem dX9_isSafe_13 : decode cX9_isSafe 13 = .ok (.aload_n 0, 1) := by decide +kernel
theorem dX9_isSafe_14 : decode cX9_isSafe 14 = .ok (.getfield 16, 3) := by decide +kernel
theorem dX9_isSafe_17 : decode cX9_isSafe 17 = .ok (.iload_n 1, 1) := by decide +kernel
theorem dX9_isSafe_18 : decode cX9_isSafe 18 = .ok (.baload, 1) := by decide +kernel
theorem dX9_isSafe_19 : decode cX9_isSafe 19 = .ok (.ifCond .ne 7, 3) := by decide +kernel
theorem dX9_isSafe_22 : decode cX9_isSafe 22 = .ok (.iconst 1, 1) := by decide +kernel
theorem dX9_isSafe_23 : decode cX9_isSafe 23 = .ok (.goto 4, 3) := by decide +kernel
theorem dX9_isSafe_26 : decode cX9_isSafe 26 = .ok (.iconst 0, 1) := by decide +kernel
theorem dX9_isSafe_27 : decode cX9_isSafe 27 = .ok (.ireturn, 1) := by decide +kernel
set_option maxRecDepth 20000 in
theorem ggX9_safeMany_X9_isSafe : GoodIn wsX9_safeMany wsX9_isSafe := goodIn_r _ [5, 6, 7, 8, 9, 10, 11, 12, 13, 14, 15, 16, 17, 18, 19, 20, 21, 22, 23, 24, 25, 26, 27, 28, 29, 30, 31, 32, 33, 34, 35, 36, 37, 38, 39, 40, 41, 42, 43, 44, 45, 46, 47, 48, 49] (by decide +kernel) (by decide +kernel)
set_option maxRecDepth 20000 in
theorem gX9_safeMany_X9_isSafe : GoodIn wsX9_safeMany (wsV RX9 104 RX9 yX9_isSafe wsX9_isSafe) := goodIn_app (goodIn_of _ (by decide +kernel)) ggX9_safeMany_X9_isSafe
theorem dX9_safeMany_0 : decode cX9_safeMany 0 = .ok (.iconst 0, 1) := by decide +kernel
theorem dX9_safeMany_1 : decode cX9_safeMany 1 = .ok (.istore_n 1, 1) := by decide +kernel
theorem dX9_safeMany_2 : decode cX9_safeMany 2 = .ok (.iconst 0, 1) := by decide +kernel
theorem dX9_safeMany_3 : decode cX9_safeMany 3 = .ok (.istore_n 2, 1) := by decide +kernel
theorem dX9_safeMany_4 : decode cX9_safeMany 4 = .ok (.iload_n 2, 1) := by decide +kernel
theorem dX9_safeMany_5 : decode cX9_safeMany 5 = .ok (.sipush 144, 3) := by decide +kernel
theorem dX9_safeMany_8 : decode cX9_safeMany 8 = .ok (.if_icmp .ge 25, 3) := by decide +kernel
theorem dX9_safeMany_11 : decode cX9_safeMany 11 = .ok (.iload_n 1, 1) := by decide +kernel
theorem dX9_safeMany_12 : decode cX9_safeMany 12 = .ok (.aload_n 0, 1) := by decide +kernel
theorem dX9_safeMany_13 : decode cX9_safeMany 13 = .ok (.iload_n 2, 1) := by decide +kernel
theorem dX9_safeMany_14 : decode cX9_safeMany 14 = .ok (.invokevirtual 104, 3) := by decide +kernel
theorem dX9_safeMany_17 : decode cX9_safeMany 17 = .ok (.ifCond .eq 7, 3) := by decide +kernel
theorem dX9_safeMany_20 : decode cX9_safeMany 20 = .ok (.iconst 1, 1) := by decide +kernel
theorem dX9_safeMany_21 : decode cX9_safeMany 21 = .ok (.goto 4, 3) := by decide +kernel
theorem dX9_safeMany_24 : decode cX9_safeMany 24 = .ok (.iconst 0, 1) := by decide +kernel
theorem dX9_safeMany_25 : decode cX9_safeMany 25 = .ok (.iadd, 1) := by decide +kernel
theorem dX9_safeMany_26 : decode cX9_safeMany 26 = .ok (.istore_n 1, 1) := by decide +kernel
theorem dX9_safeMany_27 : decode cX9_safeMany 27 = .ok (.iinc 2 1, 3) := by decide +kernel
theorem dX9_safeMany_30 : decode cX9_safeMany 30 = .ok (.goto (-26), 3) := by decide +kernel
theorem dX9_safeMany_33 : decode cX9_safeMany 33 = .ok (.iload_n 1, 1) := by decide +kernel
theorem dX9_safeMany_34 : decode cX9_safeMany 34 = .ok (.ireturn, 1) := by decide +kernel
theorem dX9_isDegrees_0 : decode cX9_isDegrees 0 = .ok (.iload_n 0, 1) := by decide +kernel
theorem dX9_isDegrees_1 : decode cX9_isDegrees 1 = .ok (.bipush (-40), 2) := by decide +kernel
theorem dX9_isDegrees_3 : decode cX9_isDegrees 3 = .ok (.if_icmp .lt 13, 3) := by decide +kernel
theorem dX9_isDegrees_6 : decode cX9_isDegrees 6 = .ok (.iload_n 0, 1) := by decide +kernel
theorem dX9_isDegrees_7 : decode cX9_isDegrees 7 = .ok (.bipush 20, 2) := by decide +kernel
theorem dX9_isDegrees_9 : decode cX9_isDegrees 9 = .ok (.if_icmp .gt 7, 3) := by decide +kernel
theorem dX9_isDegrees_12 : decode cX9_isDegrees 12 = .ok (.iconst 1, 1) := by decide +kernel
theorem dX9_isDegrees_13 : decode cX9_isDegrees 13 = .ok (.goto 4, 3) := by decide +kernel
theorem dX9_isDegrees_16 : decode cX9_isDegrees 16 = .ok (.iconst 0, 1) := by decide +kernel
theorem dX9_isDegrees_17 : decode cX9_isDegrees 17 = .ok (.ireturn, 1) := by decide +kernel
set_option maxRecDepth 20000 in
theorem ggX9_hour_X9_isDegrees : GoodIn wsX9_hour wsX9_isDegrees := goodIn_r _ [7] (by decide +kernel) (by decide +kernel)
set_option maxRecDepth 20000 in
theorem gX9_hour_X9_isDegrees : GoodIn wsX9_hour (va_wsS RX9 107 yX9_isDegrees wsX9_isDegrees) := goodIn_app (goodIn_of _ (by decide +kernel)) ggX9_hour_X9_isDegrees
set_option maxRecDepth 20000 in
theorem ggX9_hour_X9_bad : GoodIn wsX9_hour wsX9_bad := goodIn_r _ [11, 1, 25, 26, 27, 28, 29, 30, 31, 32, 33, 34, 35, 36, 37, 38, 39, 40, 41, 42, 43, 44, 45, 46, 47, 48, 49, 50, 51, 52, 53, 54, 55, 56, 57, 58, 59, 60, 61, 62, 63, 64, 65] (by decide +kernel) (by decide +kernel)
set_option maxRecDepth 20000 in
theorem gX9_hour_X9_bad : GoodIn wsX9_hour (wsV RX9 96 RX9 yX9_bad wsX9_bad) := goodIn_app (goodIn_of _ (by decide +kernel)) ggX9_hour_X9_bad
set_option maxRecDepth 20000 in
theorem ggX9_hour_X9_within : GoodIn wsX9_hour wsX9_within := goodIn_r _ [14] (by decide +kernel) (by decide +kernel)
set_option maxRecDepth 20000 in
theorem gX9_hour_X9_within : GoodIn wsX9_hour (va_wsS RX9 85 yX9_within wsX9_within) := goodIn_app (goodIn_of _ (by decide +kernel)) ggX9_hour_X9_within
set_option maxRecDepth 20000 in
theorem ggX9_hour_X9_safeMany : GoodIn wsX9_hour wsX9_safeMany := goodIn_r _ [18, 19, 20, 21, 6, 22, 2, 23, 24, 25, 26, 27, 28, 29, 30, 31, 32, 33, 34, 35, 36, 37, 38, 39, 40, 41, 42, 43, 44, 45, 46, 47, 48, 49, 50, 51, 52, 53, 54, 55, 56, 57, 58, 59, 60, 61, 62, 63, 64, 65] (by decide +kernel) (by decide +kernel)
set_option maxRecDepth 20000 in
theorem gX9_hour_X9_safeMany : GoodIn wsX9_hour (wsV RX9 110 RX9 yX9_safeMany wsX9_safeMany) := goodIn_app (goodIn_of _ (by decide +kernel)) ggX9_hour_X9_safeMany
theorem dX9_hour_0 : decode cX9_hour 0 = .ok (.aload_n 0, 1) := by decide +kernel
theorem dX9_hour_1 : decode cX9_hour 1 = .ok (.iconst 0, 1) := by decide +kernel
theorem dX9_hour_2 : decode cX9_hour 2 = .ok (.putfield 82, 3) := by decide +kernel
theorem dX9_hour_5 : decode cX9_hour 5 = .ok (.aload_n 0, 1) := by decide +kernel
theorem dX9_hour_6 : decode cX9_hour 6 = .ok (.iload_n 1, 1) := by decide +kernel
theorem dX9_hour_7 : decode cX9_hour 7 = .ok (.invokestatic 107, 3) := by decide +kernel
theorem dX9_hour_10 : decode cX9_hour 10 = .ok (.ifCond .ne 7, 3) := by decide +kernel
theorem dX9_hour_13 : decode cX9_hour 13 = .ok (.iconst 1, 1) := by decide +kernel
theorem dX9_hour_14 : decode cX9_hour 14 = .ok (.goto 4, 3) := by decide +kernel
theorem dX9_hour_17 : decode cX9_hour 17 = .ok (.iconst 0, 1) := by decide +kernel
theorem dX9_hour_18 : decode cX9_hour 18 = .ok (.iconst 1, 1) := by decide +kernel
theorem dX9_hour_19 : decode cX9_hour 19 = .ok (.invokevirtual 96, 3) := by decide +kernel
theorem dX9_hour_22 : decode cX9_hour 22 = .ok (.ifCond .eq 5, 3) := by decide +kernel
theorem dX9_hour_25 : decode cX9_hour 25 = .ok (.iconst 0, 1) := by decide +kernel
theorem dX9_hour_26 : decode cX9_hour 26 = .ok (.ireturn, 1) := by decide +kernel
theorem dX9_hour_27 : decode cX9_hour 27 = .ok (.iload_n 1, 1) := by decide +kernel
theorem dX9_hour_28 : decode cX9_hour 28 = .ok (.ifCond .ge 10, 3) := by decide +kernel
theorem dX9_hour_31 : decode cX9_hour 31 = .ok (.iload_n 1, 1) := by decide +kernel
theorem dX9_hour_32 : decode cX9_hour 32 = .ok (.ineg, 1) := by decide +kernel
theorem dX9_hour_33 : decode cX9_hour 33 = .ok (.iconst 4, 1) := by decide +kernel
theorem dX9_hour_34 : decode cX9_hour 34 = .ok (.idiv, 1) := by decide +kernel
theorem dX9_hour_35 : decode cX9_hour 35 = .ok (.goto 7, 3) := by decide +kernel
theorem dX9_hour_38 : decode cX9_hour 38 = .ok (.bipush (-3), 2) := by decide +kernel
theorem dX9_hour_40 : decode cX9_hour 40 = .ok (.iload_n 1, 1) := by decide +kernel
theorem dX9_hour_41 : decode cX9_hour 41 = .ok (.imul, 1) := by decide +kernel
theorem dX9_hour_42 : decode cX9_hour 42 = .ok (.istore_n 2, 1) := by decide +kernel
theorem dX9_hour_43 : decode cX9_hour 43 = .ok (.iload_n 1, 1) := by decide +kernel
theorem dX9_hour_44 : decode cX9_hour 44 = .ok (.ifCond .ge 11, 3) := by decide +kernel
theorem dX9_hour_47 : decode cX9_hour 47 = .ok (.iconst 3, 1) := by decide +kernel
theorem dX9_hour_48 : decode cX9_hour 48 = .ok (.iload_n 1, 1) := by decide +kernel
theorem dX9_hour_49 : decode cX9_hour 49 = .ok (.isub, 1) := by decide +kernel
theorem dX9_hour_50 : decode cX9_hour 50 = .ok (.iconst 4, 1) := by decide +kernel
theorem dX9_hour_51 : decode cX9_hour 51 = .ok (.idiv, 1) := by decide +kernel
theorem dX9_hour_52 : decode cX9_hour 52 = .ok (.goto 5, 3) := by decide +kernel
theorem dX9_hour_55 : decode cX9_hour 55 = .ok (.iload_n 1, 1) := by decide +kernel
theorem dX9_hour_56 : decode cX9_hour 56 = .ok (.ineg, 1) := by decide +kernel
theorem dX9_hour_57 : decode cX9_hour 57 = .ok (.istore_n 3, 1) := by decide +kernel
theorem dX9_hour_58 : decode cX9_hour 58 = .ok (.iconst 0, 1) := by decide +kernel
theorem dX9_hour_59 : decode cX9_hour 59 = .ok (.istore 4, 2) := by decide +kernel
theorem dX9_hour_61 : decode cX9_hour 61 = .ok (.iload 4, 2) := by decide +kernel
theorem dX9_hour_63 : decode cX9_hour 63 = .ok (.sipush 144, 3) := by decide +kernel
theorem dX9_hour_66 : decode cX9_hour 66 = .ok (.if_icmp .ge 47, 3) := by decide +kernel
theorem dX9_hour_69 : decode cX9_hour 69 = .ok (.aload_n 0, 1) := by decide +kernel
theorem dX9_hour_70 : decode cX9_hour 70 = .ok (.getfield 9, 3) := by decide +kernel
theorem dX9_hour_73 : decode cX9_hour 73 = .ok (.iload 4, 2) := by decide +kernel
theorem dX9_hour_75 : decode cX9_hour 75 = .ok (.aload_n 0, 1) := by decide +kernel
theorem dX9_hour_76 : decode cX9_hour 76 = .ok (.getfield 9, 3) := by decide +kernel
theorem dX9_hour_79 : decode cX9_hour 79 = .ok (.iload 4, 2) := by decide +kernel
theorem dX9_hour_81 : decode cX9_hour 81 = .ok (.iaload, 1) := by decide +kernel
theorem dX9_hour_82 : decode cX9_hour 82 = .ok (.iload_n 2, 1) := by decide +kernel
theorem dX9_hour_83 : decode cX9_hour 83 = .ok (.iadd, 1) := by decide +kernel
theorem dX9_hour_84 : decode cX9_hour 84 = .ok (.invokestatic 85, 3) := by decide +kernel
theorem dX9_hour_87 : decode cX9_hour 87 = .ok (.iastore, 1) := by decide +kernel
theorem dX9_hour_88 : decode cX9_hour 88 = .ok (.aload_n 0, 1) := by decide +kernel
theorem dX9_hour_89 : decode cX9_hour 89 = .ok (.getfield 13, 3) := by decide +kernel
theorem dX9_hour_92 : decode cX9_hour 92 = .ok (.iload 4, 2) := by decide +kernel
theorem dX9_hour_94 : decode cX9_hour 94 = .ok (.aload_n 0, 1) := by decide +kernel
theorem dX9_hour_95 : decode cX9_hour 95 = .ok (.getfield 13, 3) := by decide +kernel
theorem dX9_hour_98 : decode cX9_hour 98 = .ok (.iload 4, 2) := by decide +kernel
theorem dX9_hour_100 : decode cX9_hour 100 = .ok (.iaload, 1) := by decide +kernel
theorem dX9_hour_101 : decode cX9_hour 101 = .ok (.iload_n 3, 1) := by decide +kernel
theorem dX9_hour_102 : decode cX9_hour 102 = .ok (.iadd, 1) := by decide +kernel
theorem dX9_hour_103 : decode cX9_hour 103 = .ok (.invokestatic 85, 3) := by decide +kernel
theorem dX9_hour_106 : decode cX9_hour 106 = .ok (.iastore, 1) := by decide +kernel
theorem dX9_hour_107 : decode cX9_hour 107 = .ok (.iinc 4 1, 3) := by decide +kernel
theorem dX9_hour_110 : decode cX9_hour 110 = .ok (.goto (-49), 3) := by decide +kernel
theorem dX9_hour_113 : decode cX9_hour 113 = .ok (.aload_n 0, 1) := by decide +kernel
theorem dX9_hour_114 : decode cX9_hour 114 = .ok (.invokevirtual 110, 3) := by decide +kernel
theorem dX9_hour_117 : decode cX9_hour 117 = .ok (.ireturn, 1) := by decide +kernel
set_option maxRecDepth 20000 in
theorem ggX9_ice_X9_isCell : GoodIn wsX9_ice wsX9_isCell := goodIn_r _ [7, 8, 19, 20, 21, 22, 23, 24, 25, 26, 27, 28, 29, 30, 31, 32, 33, 34, 35, 36, 37, 38, 39, 40, 41, 42, 43, 44, 45, 46, 47, 48, 49, 50, 51, 52, 53, 54, 55, 56, 57, 58, 59] (by decide +kernel) (by decide +kernel)
set_option maxRecDepth 20000 in
theorem gX9_ice_X9_isCell : GoodIn wsX9_ice (wsV RX9 89 RX9 yX9_isCell wsX9_isCell) := goodIn_app (goodIn_of _ (by decide +kernel)) ggX9_ice_X9_isCell
set_option maxRecDepth 20000 in
theorem ggX9_ice_X9_bad : GoodIn wsX9_ice wsX9_bad := goodIn_r _ [12, 8, 19, 20, 21, 22, 23, 24, 25, 26, 27, 28, 29, 30, 31, 32, 33, 34, 35, 36, 37, 38, 39, 40, 41, 42, 43, 44, 45, 46, 47, 48, 49, 50, 51, 52, 53, 54, 55, 56, 57, 58, 59] (by decide +kernel) (by decide +kernel)
set_option maxRecDepth 20000 in
theorem gX9_ice_X9_bad : GoodIn wsX9_ice (wsV RX9 96 RX9 yX9_bad wsX9_bad) := goodIn_app (goodIn_of _ (by decide +kernel)) ggX9_ice_X9_bad
set_option maxRecDepth 20000 in
theorem ggX9_ice_X9_isSafe : GoodIn wsX9_ice wsX9_isSafe := goodIn_r _ [16, 1, 17, 18, 19, 20, 21, 22, 23, 24, 25, 26, 27, 28, 29, 30, 31, 32, 33, 34, 35, 36, 37, 38, 39, 40, 41, 42, 43, 44, 45, 46, 47, 48, 49, 50, 51, 52, 53, 54, 55, 56, 57, 58, 59] (by decide +kernel) (by decide +kernel)
set_option maxRecDepth 20000 in
theorem gX9_ice_X9_isSafe : GoodIn wsX9_ice (wsV RX9 104 RX9 yX9_isSafe wsX9_isSafe) := goodIn_app (goodIn_of _ (by decide +kernel)) ggX9_ice_X9_isSafe
theorem dX9_ice_0 : decode cX9_ice 0 = .ok (.aload_n 0, 1) := by decide +kernel
theorem dX9_ice_1 : decode cX9_ice 1 = .ok (.iload_n 1, 1) := by decide +kernel
theorem dX9_ice_2 : decode cX9_ice 2 = .ok (.invokevirtual 89, 3) := by decide +kernel
theorem dX9_ice_5 : decode cX9_ice 5 = .ok (.ifCond .eq 25, 3) := by decide +kernel
theorem dX9_ice_8 : decode cX9_ice 8 = .ok (.aload_n 0, 1) := by decide +kernel
theorem dX9_ice_9 : decode cX9_ice 9 = .ok (.iload_n 2, 1) := by decide +kernel
theorem dX9_ice_10 : decode cX9_ice 10 = .ok (.ifCond .lt 8, 3) := by decide +kernel
theorem dX9_ice_13 : decode cX9_ice 13 = .ok (.iload_n 2, 1) := by decide +kernel
theorem dX9_ice_14 : decode cX9_ice 14 = .ok (.iconst 2, 1) := by decide +kernel
theorem dX9_ice_15 : decode cX9_ice 15 = .ok (.if_icmp .le 7, 3) := by decide +kernel
theorem dX9_ice_18 : decode cX9_ice 18 = .ok (.iconst 1, 1) := by decide +kernel
theorem dX9_ice_19 : decode cX9_ice 19 = .ok (.goto 4, 3) := by decide +kernel
theorem dX9_ice_22 : decode cX9_ice 22 = .ok (.iconst 0, 1) := by decide +kernel
theorem dX9_ice_23 : decode cX9_ice 23 = .ok (.iconst 2, 1) := by decide +kernel
theorem dX9_ice_24 : decode cX9_ice 24 = .ok (.invokevirtual 96, 3) := by decide +kernel
theorem dX9_ice_27 : decode cX9_ice 27 = .ok (.ifCond .eq 5, 3) := by decide +kernel
theorem dX9_ice_30 : decode cX9_ice 30 = .ok (.iconst 0, 1) := by decide +kernel
theorem dX9_ice_31 : decode cX9_ice 31 = .ok (.ireturn, 1) := by decide +kernel
theorem dX9_ice_32 : decode cX9_ice 32 = .ok (.iload_n 2, 1) := by decide +kernel
theorem dX9_ice_33 : decode cX9_ice 33 = .ok (.ifCond .ne 12, 3) := by decide +kernel
theorem dX9_ice_36 : decode cX9_ice 36 = .ok (.aload_n 0, 1) := by decide +kernel
theorem dX9_ice_37 : decode cX9_ice 37 = .ok (.getfield 9, 3) := by decide +kernel
theorem dX9_ice_40 : decode cX9_ice 40 = .ok (.iload_n 1, 1) := by decide +kernel
theorem dX9_ice_41 : decode cX9_ice 41 = .ok (.iaload, 1) := by decide +kernel
theorem dX9_ice_42 : decode cX9_ice 42 = .ok (.goto 30, 3) := by decide +kernel
theorem dX9_ice_45 : decode cX9_ice 45 = .ok (.iload_n 2, 1) := by decide +kernel
theorem dX9_ice_46 : decode cX9_ice 46 = .ok (.iconst 1, 1) := by decide +kernel
theorem dX9_ice_47 : decode cX9_ice 47 = .ok (.if_icmp .ne 12, 3) := by decide +kernel
theorem dX9_ice_50 : decode cX9_ice 50 = .ok (.aload_n 0, 1) := by decide +kernel
theorem dX9_ice_51 : decode cX9_ice 51 = .ok (.getfield 13, 3) := by decide +kernel
theorem dX9_ice_54 : decode cX9_ice 54 = .ok (.iload_n 1, 1) := by decide +kernel
theorem dX9_ice_55 : decode cX9_ice 55 = .ok (.iaload, 1) := by decide +kernel
theorem dX9_ice_56 : decode cX9_ice 56 = .ok (.goto 16, 3) := by decide +kernel
theorem dX9_ice_59 : decode cX9_ice 59 = .ok (.aload_n 0, 1) := by decide +kernel
theorem dX9_ice_60 : decode cX9_ice 60 = .ok (.iload_n 1, 1) := by decide +kernel
theorem dX9_ice_61 : decode cX9_ice 61 = .ok (.invokevirtual 104, 3) := by decide +kernel
theorem dX9_ice_64 : decode cX9_ice 64 = .ok (.ifCond .eq 7, 3) := by decide +kernel
theorem dX9_ice_67 : decode cX9_ice 67 = .ok (.iconst 1, 1) := by decide +kernel
theorem dX9_ice_68 : decode cX9_ice 68 = .ok (.goto 4, 3) := by decide +kernel
theorem dX9_ice_71 : decode cX9_ice 71 = .ok (.iconst 0, 1) := by decide +kernel
theorem dX9_ice_72 : decode cX9_ice 72 = .ok (.ireturn, 1) := by decide +kernel
set_option maxRecDepth 20000 in
theorem ggX9_lasts_X9_isCell : GoodIn wsX9_lasts wsX9_isCell := goodIn_r _ [7, 8, 21, 22, 23, 24, 25, 26, 27, 28, 29, 30, 31, 32, 33, 34, 35, 36, 37, 38, 39, 40, 41, 42, 43, 44, 45, 46, 47, 48, 49, 50, 51, 52, 53, 54, 55, 56, 57, 58, 59, 60, 61] (by decide +kernel) (by decide +kernel)
set_option maxRecDepth 20000 in
theorem gX9_lasts_X9_isCell : GoodIn wsX9_lasts (wsV RX9 89 RX9 yX9_isCell wsX9_isCell) := goodIn_app (goodIn_of _ (by decide +kernel)) ggX9_lasts_X9_isCell
set_option maxRecDepth 20000 in
theorem ggX9_lasts_X9_isDegrees : GoodIn wsX9_lasts wsX9_isDegrees := goodIn_r _ [11] (by decide +kernel) (by decide +kernel)
set_option maxRecDepth 20000 in
theorem gX9_lasts_X9_isDegrees : GoodIn wsX9_lasts (va_wsS RX9 107 yX9_isDegrees wsX9_isDegrees) := goodIn_app (goodIn_of _ (by decide +kernel)) ggX9_lasts_X9_isDegrees
set_option maxRecDepth 20000 in
theorem ggX9_lasts_X9_bad : GoodIn wsX9_lasts wsX9_bad := goodIn_r _ [15, 8, 21, 22, 23, 24, 25, 26, 27, 28, 29, 30, 31, 32, 33, 34, 35, 36, 37, 38, 39, 40, 41, 42, 43, 44, 45, 46, 47, 48, 49, 50, 51, 52, 53, 54, 55, 56, 57, 58, 59, 60, 61] (by decide +kernel) (by decide +kernel)
set_option maxRecDepth 20000 in
theorem gX9_lasts_X9_bad : GoodIn wsX9_lasts (wsV RX9 96 RX9 yX9_bad wsX9_bad) := goodIn_app (goodIn_of _ (by decide +kernel)) ggX9_lasts_X9_bad
set_option maxRecDepth 20000 in
theorem ggX9_lasts_X9_isSafe : GoodIn wsX9_lasts wsX9_isSafe := goodIn_r _ [19, 2, 1, 20, 21, 22, 23, 24, 25, 26, 27, 28, 29, 30, 31, 32, 33, 34, 35, 36, 37, 38, 39, 40, 41, 42, 43, 44, 45, 46, 47, 48, 49, 50, 51, 52, 53, 54, 55, 56, 57, 58, 59, 60, 61] (by decide +kernel) (by decide +kernel)
set_option maxRecDepth 20000 in
theorem gX9_lasts_X9_isSafe : GoodIn wsX9_lasts (wsV RX9 104 RX9 yX9_isSafe wsX9_isSafe) := goodIn_app (goodIn_of _ (by decide +kernel)) ggX9_lasts_X9_isSafe
theorem dX9_lasts_0 : decode cX9_lasts 0 = .ok (.aload_n 0, 1) := by decide +kernel
theorem dX9_lasts_1 : decode cX9_lasts 1 = .ok (.iload_n 1, 1) := by decide +kernel
theorem dX9_lasts_2 : decode cX9_lasts 2 = .ok (.invokevirtual 89, 3) := by decide +kernel
theorem dX9_lasts_5 : decode cX9_lasts 5 = .ok (.ifCond .eq 23, 3) := by decide +kernel
theorem dX9_lasts_8 : decode cX9_lasts 8 = .ok (.aload_n 0, 1) := by decide +kernel
theorem dX9_lasts_9 : decode cX9_lasts 9 = .ok (.iload_n 2, 1) := by decide +kernel
theorem dX9_lasts_10 : decode cX9_lasts 10 = .ok (.invokestatic 107, 3) := by decide +kernel
theorem dX9_lasts_13 : decode cX9_lasts 13 = .ok (.ifCond .ne 7, 3) := by decide +kernel
theorem dX9_lasts_16 : decode cX9_lasts 16 = .ok (.iconst 1, 1) := by decide +kernel
theorem dX9_lasts_17 : decode cX9_lasts 17 = .ok (.goto 4, 3) := by decide +kernel
theorem dX9_lasts_20 : decode cX9_lasts 20 = .ok (.iconst 0, 1) := by decide +kernel
theorem dX9_lasts_21 : decode cX9_lasts 21 = .ok (.iconst 2, 1) := by decide +kernel
theorem dX9_lasts_22 : decode cX9_lasts 22 = .ok (.invokevirtual 96, 3) := by decide +kernel
theorem dX9_lasts_25 : decode cX9_lasts 25 = .ok (.ifCond .eq 5, 3) := by decide +kernel
theorem dX9_lasts_28 : decode cX9_lasts 28 = .ok (.iconst 0, 1) := by decide +kernel
theorem dX9_lasts_29 : decode cX9_lasts 29 = .ok (.ireturn, 1) := by decide +kernel
theorem dX9_lasts_30 : decode cX9_lasts 30 = .ok (.aload_n 0, 1) := by decide +kernel
theorem dX9_lasts_31 : decode cX9_lasts 31 = .ok (.iload_n 1, 1) := by decide +kernel
theorem dX9_lasts_32 : decode cX9_lasts 32 = .ok (.invokevirtual 104, 3) := by decide +kernel
theorem dX9_lasts_35 : decode cX9_lasts 35 = .ok (.ifCond .ne 5, 3) := by decide +kernel
theorem dX9_lasts_38 : decode cX9_lasts 38 = .ok (.iconst 0, 1) := by decide +kernel
theorem dX9_lasts_39 : decode cX9_lasts 39 = .ok (.ireturn, 1) := by decide +kernel
theorem dX9_lasts_40 : decode cX9_lasts 40 = .ok (.iload_n 2, 1) := by decide +kernel
theorem dX9_lasts_41 : decode cX9_lasts 41 = .ok (.ifCond .le 10, 3) := by decide +kernel
theorem dX9_lasts_44 : decode cX9_lasts 44 = .ok (.aload_n 0, 1) := by decide +kernel
theorem dX9_lasts_45 : decode cX9_lasts 45 = .ok (.getfield 20, 3) := by decide +kernel
theorem dX9_lasts_48 : decode cX9_lasts 48 = .ok (.ifCond .ne 7, 3) := by decide +kernel
theorem dX9_lasts_51 : decode cX9_lasts 51 = .ok (.iconst (-1), 1) := by decide +kernel
theorem dX9_lasts_52 : decode cX9_lasts 52 = .ok (.goto 18, 3) := by decide +kernel
theorem dX9_lasts_55 : decode cX9_lasts 55 = .ok (.aload_n 0, 1) := by decide +kernel
theorem dX9_lasts_56 : decode cX9_lasts 56 = .ok (.getfield 9, 3) := by decide +kernel
theorem dX9_lasts_59 : decode cX9_lasts 59 = .ok (.iload_n 1, 1) := by decide +kernel
theorem dX9_lasts_60 : decode cX9_lasts 60 = .ok (.iaload, 1) := by decide +kernel
theorem dX9_lasts_61 : decode cX9_lasts 61 = .ok (.aload_n 0, 1) := by decide +kernel
theorem dX9_lasts_62 : decode cX9_lasts 62 = .ok (.getfield 20, 3) := by decide +kernel
theorem dX9_lasts_65 : decode cX9_lasts 65 = .ok (.isub, 1) := by decide +kernel
theorem dX9_lasts_66 : decode cX9_lasts 66 = .ok (.iconst 3, 1) := by decide +kernel
theorem dX9_lasts_67 : decode cX9_lasts 67 = .ok (.iload_n 2, 1) := by decide +kernel
theorem dX9_lasts_68 : decode cX9_lasts 68 = .ok (.imul, 1) := by decide +kernel
theorem dX9_lasts_69 : decode cX9_lasts 69 = .ok (.idiv, 1) := by decide +kernel
theorem dX9_lasts_70 : decode cX9_lasts 70 = .ok (.ireturn, 1) := by decide +kernel
theorem dX9_wayX_0 : decode cX9_wayX 0 = .ok (.iload_n 0, 1) := by decide +kernel
theorem dX9_wayX_1 : decode cX9_wayX 1 = .ok (.ifCond .eq 8, 3) := by decide +kernel
theorem dX9_wayX_4 : decode cX9_wayX 4 = .ok (.iload_n 0, 1) := by decide +kernel
theorem dX9_wayX_5 : decode cX9_wayX 5 = .ok (.iconst 4, 1) := by decide +kernel
theorem dX9_wayX_6 : decode cX9_wayX 6 = .ok (.if_icmp .ne 7, 3) := by decide +kernel
theorem dX9_wayX_9 : decode cX9_wayX 9 = .ok (.iconst 0, 1) := by decide +kernel
theorem dX9_wayX_10 : decode cX9_wayX 10 = .ok (.goto 13, 3) := by decide +kernel
theorem dX9_wayX_13 : decode cX9_wayX 13 = .ok (.iload_n 0, 1) := by decide +kernel
theorem dX9_wayX_14 : decode cX9_wayX 14 = .ok (.iconst 4, 1) := by decide +kernel
theorem dX9_wayX_15 : decode cX9_wayX 15 = .ok (.if_icmp .ge 7, 3) := by decide +kernel
theorem dX9_wayX_18 : decode cX9_wayX 18 = .ok (.iconst 1, 1) := by decide +kernel
theorem dX9_wayX_19 : decode cX9_wayX 19 = .ok (.goto 4, 3) := by decide +kernel
theorem dX9_wayX_22 : decode cX9_wayX 22 = .ok (.iconst (-1), 1) := by decide +kernel
theorem dX9_wayX_23 : decode cX9_wayX 23 = .ok (.ireturn, 1) := by decide +kernel
theorem dX9_wayY_0 : decode cX9_wayY 0 = .ok (.iload_n 0, 1) := by decide +kernel
theorem dX9_wayY_1 : decode cX9_wayY 1 = .ok (.iconst 2, 1) := by decide +kernel
theorem dX9_wayY_2 : decode cX9_wayY 2 = .ok (.if_icmp .eq 9, 3) := by decide +kernel
theorem dX9_wayY_5 : decode cX9_wayY 5 = .ok (.iload_n 0, 1) := by decide +kernel
theorem dX9_wayY_6 : decode cX9_wayY 6 = .ok (.bipush 6, 2) := by decide +kernel
theorem dX9_wayY_8 : decode cX9_wayY 8 = .ok (.if_icmp .ne 7, 3) := by decide +kernel
theorem dX9_wayY_11 : decode cX9_wayY 11 = .ok (.iconst 0, 1) := by decide +kernel
theorem dX9_wayY_12 : decode cX9_wayY 12 = .ok (.goto 19, 3) := by decide +kernel
theorem dX9_wayY_15 : decode cX9_wayY 15 = .ok (.iload_n 0, 1) := by decide +kernel
theorem dX9_wayY_16 : decode cX9_wayY 16 = .ok (.bipush 7, 2) := by decide +kernel
theorem dX9_wayY_18 : decode cX9_wayY 18 = .ok (.if_icmp .eq 8, 3) := by decide +kernel
theorem dX9_wayY_21 : decode cX9_wayY 21 = .ok (.iload_n 0, 1) := by decide +kernel
theorem dX9_wayY_22 : decode cX9_wayY 22 = .ok (.iconst 2, 1) := by decide +kernel
theorem dX9_wayY_23 : decode cX9_wayY 23 = .ok (.if_icmp .ge 7, 3) := by decide +kernel
theorem dX9_wayY_26 : decode cX9_wayY 26 = .ok (.iconst (-1), 1) := by decide +kernel
theorem dX9_wayY_27 : decode cX9_wayY 27 = .ok (.goto 4, 3) := by decide +kernel
theorem dX9_wayY_30 : decode cX9_wayY 30 = .ok (.iconst 1, 1) := by decide +kernel
theorem dX9_wayY_31 : decode cX9_wayY 31 = .ok (.ireturn, 1) := by decide +kernel
theorem dX9_isWay_0 : decode cX9_isWay 0 = .ok (.iload_n 0, 1) := by decide +kernel
theorem dX9_isWay_1 : decode cX9_isWay 1 = .ok (.ifCond .lt 13, 3) := by decide +kernel
theorem dX9_isWay_4 : decode cX9_isWay 4 = .ok (.iload_n 0, 1) := by decide +kernel
theorem dX9_isWay_5 : decode cX9_isWay 5 = .ok (.bipush 8, 2) := by decide +kernel
theorem dX9_isWay_7 : decode cX9_isWay 7 = .ok (.if_icmp .ge 7, 3) := by decide +kernel
theorem dX9_isWay_10 : decode cX9_isWay 10 = .ok (.iconst 1, 1) := by decide +kernel
theorem dX9_isWay_11 : decode cX9_isWay 11 = .ok (.goto 4, 3) := by decide +kernel
theorem dX9_isWay_14 : decode cX9_isWay 14 = .ok (.iconst 0, 1) := by decide +kernel
theorem dX9_isWay_15 : decode cX9_isWay 15 = .ok (.ireturn, 1) := by decide +kernel
set_option maxRecDepth 20000 in
theorem ggX9_wind_X9_isWay : GoodIn wsX9_wind wsX9_isWay := goodIn_r _ [6] (by decide +kernel) (by decide +kernel)
set_option maxRecDepth 20000 in
theorem gX9_wind_X9_isWay : GoodIn wsX9_wind (va_wsS RX9 114 yX9_isWay wsX9_isWay) := goodIn_app (goodIn_of _ (by decide +kernel)) ggX9_wind_X9_isWay
set_option maxRecDepth 20000 in
theorem ggX9_wind_X9_bad : GoodIn wsX9_wind wsX9_bad := goodIn_r _ [10, 1, 11, 12, 13, 14, 15, 16, 17, 18, 19, 20, 21, 22, 23, 24, 25, 26, 27, 28, 29, 30, 31, 32, 33, 34, 35, 36, 37, 38, 39, 40, 41, 42, 43, 44, 45, 46, 47, 48, 49, 50, 51] (by decide +kernel) (by decide +kernel)
set_option maxRecDepth 20000 in
theorem gX9_wind_X9_bad : GoodIn wsX9_wind (wsV RX9 96 RX9 yX9_bad wsX9_bad) := goodIn_app (goodIn_of _ (by decide +kernel)) ggX9_wind_X9_bad
theorem dX9_wind_0 : decode cX9_wind 0 = .ok (.aload_n 0, 1) := by decide +kernel
theorem dX9_wind_1 : decode cX9_wind 1 = .ok (.iconst 0, 1) := by decide +kernel
theorem dX9_wind_2 : decode cX9_wind 2 = .ok (.putfield 82, 3) := by decide +kernel
theorem dX9_wind_5 : decode cX9_wind 5 = .ok (.aload_n 0, 1) := by decide +kernel
theorem dX9_wind_6 : decode cX9_wind 6 = .ok (.iload_n 1, 1) := by decide +kernel
theorem dX9_wind_7 : decode cX9_wind 7 = .ok (.invokestatic 114, 3) := by decide +kernel
theorem dX9_wind_10 : decode cX9_wind 10 = .ok (.ifCond .ne 7, 3) := by decide +kernel
theorem dX9_wind_13 : decode cX9_wind 13 = .ok (.iconst 1, 1) := by decide +kernel
theorem dX9_wind_14 : decode cX9_wind 14 = .ok (.goto 4, 3) := by decide +kernel
theorem dX9_wind_17 : decode cX9_wind 17 = .ok (.iconst 0, 1) := by decide +kernel
theorem dX9_wind_18 : decode cX9_wind 18 = .ok (.iconst 1, 1) := by decide +kernel
theorem dX9_wind_19 : decode cX9_wind 19 = .ok (.invokevirtual 96, 3) := by decide +kernel
theorem dX9_wind_22 : decode cX9_wind 22 = .ok (.ifCond .eq 5, 3) := by decide +kernel
theorem dX9_wind_25 : decode cX9_wind 25 = .ok (.iconst 0, 1) := by decide +kernel
theorem dX9_wind_26 : decode cX9_wind 26 = .ok (.ireturn, 1) := by decide +kernel
theorem dX9_wind_27 : decode cX9_wind 27 = .ok (.aload_n 0, 1) := by decide +kernel
theorem dX9_wind_28 : decode cX9_wind 28 = .ok (.getfield 117, 3) := by decide +kernel
theorem dX9_wind_31 : decode cX9_wind 31 = .ok (.istore_n 2, 1) := by decide +kernel
theorem dX9_wind_32 : decode cX9_wind 32 = .ok (.aload_n 0, 1) := by decide +kernel
theorem dX9_wind_33 : decode cX9_wind 33 = .ok (.iload_n 1, 1) := by decide +kernel
theorem dX9_wind_34 : decode cX9_wind 34 = .ok (.putfield 117, 3) := by decide +kernel
theorem dX9_wind_37 : decode cX9_wind 37 = .ok (.iload_n 2, 1) := by decide +kernel
theorem dX9_wind_38 : decode cX9_wind 38 = .ok (.ireturn, 1) := by decide +kernel
set_option maxRecDepth 20000 in
theorem ggX9_stepped_X9_wayX : GoodIn wsX9_stepped wsX9_wayX := goodIn_r _ [5] (by decide +kernel) (by decide +kernel)
set_option maxRecDepth 20000 in
theorem gX9_stepped_X9_wayX : GoodIn wsX9_stepped (va_wsS RX9 120 yX9_wayX wsX9_wayX) := goodIn_app (goodIn_of _ (by decide +kernel)) ggX9_stepped_X9_wayX
set_option maxRecDepth 20000 in
theorem ggX9_stepped_X9_wayY : GoodIn wsX9_stepped wsX9_wayY := goodIn_r _ [8] (by decide +kernel) (by decide +kernel)
set_option maxRecDepth 20000 in
theorem gX9_stepped_X9_wayY : GoodIn wsX9_stepped (va_wsS RX9 123 yX9_wayY wsX9_wayY) := goodIn_app (goodIn_of _ (by decide +kernel)) ggX9_stepped_X9_wayY
theorem dX9_stepped_0 : decode cX9_stepped 0 = .ok (.iload_n 1, 1) := by decide +kernel
theorem dX9_stepped_1 : decode cX9_stepped 1 = .ok (.bipush 12, 2) := by decide +kernel
theorem dX9_stepped_3 : decode cX9_stepped 3 = .ok (.irem, 1) := by decide +kernel
theorem dX9_stepped_4 : decode cX9_stepped 4 = .ok (.iload_n 2, 1) := by decide +kernel
theorem dX9_stepped_5 : decode cX9_stepped 5 = .ok (.aload_n 0, 1) := by decide +kernel
theorem dX9_stepped_6 : decode cX9_stepped 6 = .ok (.getfield 117, 3) := by decide +kernel
theorem dX9_stepped_9 : decode cX9_stepped 9 = .ok (.invokestatic 120, 3) := by decide +kernel
theorem dX9_stepped_12 : decode cX9_stepped 12 = .ok (.imul, 1) := by decide +kernel
theorem dX9_stepped_13 : decode cX9_stepped 13 = .ok (.iadd, 1) := by decide +kernel
theorem dX9_stepped_14 : decode cX9_stepped 14 = .ok (.istore_n 3, 1) := by decide +kernel
theorem dX9_stepped_15 : decode cX9_stepped 15 = .ok (.iload_n 1, 1) := by decide +kernel
theorem dX9_stepped_16 : decode cX9_stepped 16 = .ok (.bipush 12, 2) := by decide +kernel
theorem dX9_stepped_18 : decode cX9_stepped 18 = .ok (.idiv, 1) := by decide +kernel
theorem dX9_stepped_19 : decode cX9_stepped 19 = .ok (.iload_n 2, 1) := by decide +kernel
theorem dX9_stepped_20 : decode cX9_stepped 20 = .ok (.aload_n 0, 1) := by decide +kernel
theorem dX9_stepped_21 : decode cX9_stepped 21 = .ok (.getfield 117, 3) := by decide +kernel
theorem dX9_stepped_24 : decode cX9_stepped 24 = .ok (.invokestatic 123, 3) := by decide +kernel
theorem dX9_stepped_27 : decode cX9_stepped 27 = .ok (.imul, 1) := by decide +kernel
theorem dX9_stepped_28 : decode cX9_stepped 28 = .ok (.iadd, 1) := by decide +kernel
theorem dX9_stepped_29 : decode cX9_stepped 29 = .ok (.istore 4, 2) := by decide +kernel
theorem dX9_stepped_31 : decode cX9_stepped 31 = .ok (.iload_n 3, 1) := by decide +kernel
theorem dX9_stepped_32 : decode cX9_stepped 32 = .ok (.ifCond .lt 21, 3) := by decide +kernel
theorem dX9_stepped_35 : decode cX9_stepped 35 = .ok (.iload 4, 2) := by decide +kernel
theorem dX9_stepped_37 : decode cX9_stepped 37 = .ok (.ifCond .lt 16, 3) := by decide +kernel
theorem dX9_stepped_40 : decode cX9_stepped 40 = .ok (.iload_n 3, 1) := by decide +kernel
theorem dX9_stepped_41 : decode cX9_stepped 41 = .ok (.bipush 12, 2) := by decide +kernel
theorem dX9_stepped_43 : decode cX9_stepped 43 = .ok (.if_icmp .ge 10, 3) := by decide +kernel
theorem dX9_stepped_46 : decode cX9_stepped 46 = .ok (.iload 4, 2) := by decide +kernel
theorem dX9_stepped_48 : decode cX9_stepped 48 = .ok (.bipush 12, 2) := by decide +kernel
theorem dX9_stepped_50 : decode cX9_stepped 50 = .ok (.if_icmp .lt 7, 3) := by decide +kernel
theorem dX9_stepped_53 : decode cX9_stepped 53 = .ok (.iconst (-1), 1) := by decide +kernel
theorem dX9_stepped_54 : decode cX9_stepped 54 = .ok (.goto 10, 3) := by decide +kernel
theorem dX9_stepped_57 : decode cX9_stepped 57 = .ok (.bipush 12, 2) := by decide +kernel
theorem dX9_stepped_59 : decode cX9_stepped 59 = .ok (.iload 4, 2) := by decide +kernel
theorem dX9_stepped_61 : decode cX9_stepped 61 = .ok (.imul, 1) := by decide +kernel
theorem dX9_stepped_62 : decode cX9_stepped 62 = .ok (.iload_n 3, 1) := by decide +kernel
theorem dX9_stepped_63 : decode cX9_stepped 63 = .ok (.iadd, 1) := by decide +kernel
theorem dX9_stepped_64 : decode cX9_stepped 64 = .ok (.ireturn, 1) := by decide +kernel
set_option maxRecDepth 20000 in
theorem ggX9_lengthFrom_X9_stepped : GoodIn wsX9_lengthFrom wsX9_stepped := goodIn_r _ [5, 6, 7, 8, 4, 9, 10, 11, 12, 20, 21, 22, 23, 24, 25, 26, 27, 28, 29, 30, 31, 32, 33, 34, 35, 36, 37, 38, 39, 40, 41, 42, 43, 44, 45, 46, 47, 48, 49, 50, 51, 52, 53, 54, 55, 56, 57, 58, 59, 60] (by decide +kernel) (by decide +kernel)
set_option maxRecDepth 20000 in
theorem gX9_lengthFrom_X9_stepped : GoodIn wsX9_lengthFrom (wsV RX9 126 RX9 yX9_stepped wsX9_stepped) := goodIn_app (goodIn_of _ (by decide +kernel)) ggX9_lengthFrom_X9_stepped
set_option maxRecDepth 20000 in
theorem ggX9_lengthFrom_X9_isSafe : GoodIn wsX9_lengthFrom wsX9_isSafe := goodIn_r _ [16, 17, 18, 19, 20, 21, 22, 23, 24, 25, 26, 27, 28, 29, 30, 31, 32, 33, 34, 35, 36, 37, 38, 39, 40, 41, 42, 43, 44, 45, 46, 47, 48, 49, 50, 51, 52, 53, 54, 55, 56, 57, 58, 59, 60] (by decide +kernel) (by decide +kernel)
set_option maxRecDepth 20000 in
theorem gX9_lengthFrom_X9_isSafe : GoodIn wsX9_lengthFrom (wsV RX9 104 RX9 yX9_isSafe wsX9_isSafe) := goodIn_app (goodIn_of _ (by decide +kernel)) ggX9_lengthFrom_X9_isSafe
theorem dX9_lengthFrom_0 : decode cX9_lengthFrom 0 = .ok (.iconst 0, 1) := by decide +kernel
theorem dX9_lengthFrom_1 : decode cX9_lengthFrom 1 = .ok (.istore_n 2, 1) := by decide +kernel
theorem dX9_lengthFrom_2 : decode cX9_lengthFrom 2 = .ok (.aload_n 0, 1) := by decide +kernel
theorem dX9_lengthFrom_3 : decode cX9_lengthFrom 3 = .ok (.iload_n 1, 1) := by decide +kernel
theorem dX9_lengthFrom_4 : decode cX9_lengthFrom 4 = .ok (.iload_n 2, 1) := by decide +kernel
theorem dX9_lengthFrom_5 : decode cX9_lengthFrom 5 = .ok (.invokevirtual 126, 3) := by decide +kernel
theorem dX9_lengthFrom_8 : decode cX9_lengthFrom 8 = .ok (.ifCond .lt 22, 3) := by decide +kernel
theorem dX9_lengthFrom_11 : decode cX9_lengthFrom 11 = .ok (.aload_n 0, 1) := by decide +kernel
theorem dX9_lengthFrom_12 : decode cX9_lengthFrom 12 = .ok (.aload_n 0, 1) := by decide +kernel
theorem dX9_lengthFrom_13 : decode cX9_lengthFrom 13 = .ok (.iload_n 1, 1) := by decide +kernel
theorem dX9_lengthFrom_14 : decode cX9_lengthFrom 14 = .ok (.iload_n 2, 1) := by decide +kernel
theorem dX9_lengthFrom_15 : decode cX9_lengthFrom 15 = .ok (.invokevirtual 126, 3) := by decide +kernel
theorem dX9_lengthFrom_18 : decode cX9_lengthFrom 18 = .ok (.invokevirtual 104, 3) := by decide +kernel
theorem dX9_lengthFrom_21 : decode cX9_lengthFrom 21 = .ok (.ifCond .eq 9, 3) := by decide +kernel
theorem dX9_lengthFrom_24 : decode cX9_lengthFrom 24 = .ok (.iinc 2 1, 3) := by decide +kernel
theorem dX9_lengthFrom_27 : decode cX9_lengthFrom 27 = .ok (.goto (-25), 3) := by decide +kernel
theorem dX9_lengthFrom_30 : decode cX9_lengthFrom 30 = .ok (.iload_n 2, 1) := by decide +kernel
theorem dX9_lengthFrom_31 : decode cX9_lengthFrom 31 = .ok (.iconst 1, 1) := by decide +kernel
theorem dX9_lengthFrom_32 : decode cX9_lengthFrom 32 = .ok (.isub, 1) := by decide +kernel
theorem dX9_lengthFrom_33 : decode cX9_lengthFrom 33 = .ok (.ireturn, 1) := by decide +kernel
set_option maxRecDepth 20000 in
theorem ggX9_course_X9_lengthFrom : GoodIn wsX9_course wsX9_lengthFrom := goodIn_r _ [8, 9, 10, 11, 7, 12, 13, 14, 15, 16, 17, 18, 19, 20, 21, 22, 23, 24, 25, 26, 27, 28, 29, 30, 31, 32, 33, 34, 35, 36, 37, 38, 39, 40, 41, 42, 43, 44, 45, 46, 47, 48, 49, 50, 51, 52, 53, 54, 55, 56, 57, 58, 59, 60, 61, 62, 63, 64, 65, 66, 67] (by decide +kernel) (by decide +kernel)
set_option maxRecDepth 20000 in
theorem gX9_course_X9_lengthFrom : GoodIn wsX9_course (wsV RX9 130 RX9 yX9_lengthFrom wsX9_lengthFrom) := goodIn_app (goodIn_of _ (by decide +kernel)) ggX9_course_X9_lengthFrom
set_option maxRecDepth 20000 in
theorem ggX9_course_X9_stepped : GoodIn wsX9_course wsX9_stepped := goodIn_r _ [12, 13, 14, 15, 7, 16, 17, 18, 19, 27, 28, 29, 30, 31, 32, 33, 34, 35, 36, 37, 38, 39, 40, 41, 42, 43, 44, 45, 46, 47, 48, 49, 50, 51, 52, 53, 54, 55, 56, 57, 58, 59, 60, 61, 62, 63, 64, 65, 66, 67] (by decide +kernel) (by decide +kernel)
set_option maxRecDepth 20000 in
theorem gX9_course_X9_stepped : GoodIn wsX9_course (wsV RX9 126 RX9 yX9_stepped wsX9_stepped) := goodIn_app (goodIn_of _ (by decide +kernel)) ggX9_course_X9_stepped
theorem dX9_course_0 : decode cX9_course 0 = .ok (.aload_n 0, 1) := by decide +kernel
theorem dX9_course_1 : decode cX9_course 1 = .ok (.iconst 0, 1) := by decide +kernel
theorem dX9_course_2 : decode cX9_course 2 = .ok (.putfield 82, 3) := by decide +kernel
theorem dX9_course_5 : decode cX9_course 5 = .ok (.iconst 0, 1) := by decide +kernel
theorem dX9_course_6 : decode cX9_course 6 = .ok (.istore_n 1, 1) := by decide +kernel
theorem dX9_course_7 : decode cX9_course 7 = .ok (.iconst (-1), 1) := by decide +kernel
theorem dX9_course_8 : decode cX9_course 8 = .ok (.istore_n 2, 1) := by decide +kernel
theorem dX9_course_9 : decode cX9_course 9 = .ok (.iconst 0, 1) := by decide +kernel
theorem dX9_course_10 : decode cX9_course 10 = .ok (.istore_n 3, 1) := by decide +kernel
theorem dX9_course_11 : decode cX9_course 11 = .ok (.iload_n 3, 1) := by decide +kernel
theorem dX9_course_12 : decode cX9_course 12 = .ok (.sipush 144, 3) := by decide +kernel
theorem dX9_course_15 : decode cX9_course 15 = .ok (.if_icmp .ge 30, 3) := by decide +kernel
theorem dX9_course_18 : decode cX9_course 18 = .ok (.aload_n 0, 1) := by decide +kernel
theorem dX9_course_19 : decode cX9_course 19 = .ok (.iload_n 3, 1) := by decide +kernel
theorem dX9_course_20 : decode cX9_course 20 = .ok (.invokevirtual 130, 3) := by decide +kernel
theorem dX9_course_23 : decode cX9_course 23 = .ok (.istore 4, 2) := by decide +kernel
theorem dX9_course_25 : decode cX9_course 25 = .ok (.iload 4, 2) := by decide +kernel
theorem dX9_course_27 : decode cX9_course 27 = .ok (.iload_n 1, 1) := by decide +kernel
theorem dX9_course_28 : decode cX9_course 28 = .ok (.if_icmp .gt 6, 3) := by decide +kernel
theorem dX9_course_31 : decode cX9_course 31 = .ok (.goto 8, 3) := by decide +kernel
theorem dX9_course_34 : decode cX9_course 34 = .ok (.iload 4, 2) := by decide +kernel
theorem dX9_course_36 : decode cX9_course 36 = .ok (.istore_n 1, 1) := by decide +kernel
theorem dX9_course_37 : decode cX9_course 37 = .ok (.iload_n 3, 1) := by decide +kernel
theorem dX9_course_38 : decode cX9_course 38 = .ok (.istore_n 2, 1) := by decide +kernel
theorem dX9_course_39 : decode cX9_course 39 = .ok (.iinc 3 1, 3) := by decide +kernel
theorem dX9_course_42 : decode cX9_course 42 = .ok (.goto (-31), 3) := by decide +kernel
theorem dX9_course_45 : decode cX9_course 45 = .ok (.iload_n 2, 1) := by decide +kernel
theorem dX9_course_46 : decode cX9_course 46 = .ok (.ifCond .ge 5, 3) := by decide +kernel
theorem dX9_course_49 : decode cX9_course 49 = .ok (.iconst (-1), 1) := by decide +kernel
theorem dX9_course_50 : decode cX9_course 50 = .ok (.ireturn, 1) := by decide +kernel
theorem dX9_course_51 : decode cX9_course 51 = .ok (.aload_n 0, 1) := by decide +kernel
theorem dX9_course_52 : decode cX9_course 52 = .ok (.iload_n 2, 1) := by decide +kernel
theorem dX9_course_53 : decode cX9_course 53 = .ok (.putfield 24, 3) := by decide +kernel
theorem dX9_course_56 : decode cX9_course 56 = .ok (.aload_n 0, 1) := by decide +kernel
theorem dX9_course_57 : decode cX9_course 57 = .ok (.aload_n 0, 1) := by decide +kernel
theorem dX9_course_58 : decode cX9_course 58 = .ok (.iload_n 2, 1) := by decide +kernel
theorem dX9_course_59 : decode cX9_course 59 = .ok (.iload_n 1, 1) := by decide +kernel
theorem dX9_course_60 : decode cX9_course 60 = .ok (.invokevirtual 126, 3) := by decide +kernel
theorem dX9_course_63 : decode cX9_course 63 = .ok (.putfield 27, 3) := by decide +kernel
theorem dX9_course_66 : decode cX9_course 66 = .ok (.iload_n 1, 1) := by decide +kernel
theorem dX9_course_67 : decode cX9_course 67 = .ok (.ireturn, 1) := by decide +kernel
set_option maxRecDepth 20000 in
theorem ggX9_move_X9_bad : GoodIn wsX9_move wsX9_bad := goodIn_r _ [8, 1, 31, 32, 33, 34, 35, 36, 37, 38, 39, 40, 41, 42, 43, 44, 45, 46, 47, 48, 49, 50, 51, 52, 53, 54, 55, 56, 57, 58, 59, 60, 61, 62, 63, 64, 65, 66, 67, 68, 69, 70, 71] (by decide +kernel) (by decide +kernel)
set_option maxRecDepth 20000 in
theorem gX9_move_X9_bad : GoodIn wsX9_move (wsV RX9 96 RX9 yX9_bad wsX9_bad) := goodIn_app (goodIn_of _ (by decide +kernel)) ggX9_move_X9_bad
set_option maxRecDepth 20000 in
theorem ggX9_move_X9_lengthFrom : GoodIn wsX9_move wsX9_lengthFrom := goodIn_r _ [12, 13, 14, 15, 7, 16, 17, 18, 19, 20, 21, 22, 23, 24, 25, 26, 27, 28, 29, 30, 31, 32, 33, 34, 35, 36, 37, 38, 39, 40, 41, 42, 43, 44, 45, 46, 47, 48, 49, 50, 51, 52, 53, 54, 55, 56, 57, 58, 59, 60, 61, 62, 63, 64, 65, 66, 67, 68, 69, 70, 71] (by decide +kernel) (by decide +kernel)
set_option maxRecDepth 20000 in
theorem gX9_move_X9_lengthFrom : GoodIn wsX9_move (wsV RX9 130 RX9 yX9_lengthFrom wsX9_lengthFrom) := goodIn_app (goodIn_of _ (by decide +kernel)) ggX9_move_X9_lengthFrom
set_option maxRecDepth 20000 in
theorem ggX9_move_X9_stepped : GoodIn wsX9_move wsX9_stepped := goodIn_r _ [16, 17, 18, 19, 7, 20, 21, 22, 23, 31, 32, 33, 34, 35, 36, 37, 38, 39, 40, 41, 42, 43, 44, 45, 46, 47, 48, 49, 50, 51, 52, 53, 54, 55, 56, 57, 58, 59, 60, 61, 62, 63, 64, 65, 66, 67, 68, 69, 70, 71] (by decide +kernel) (by decide +kernel)
set_option maxRecDepth 20000 in
theorem gX9_move_X9_stepped : GoodIn wsX9_move (wsV RX9 126 RX9 yX9_stepped wsX9_stepped) := goodIn_app (goodIn_of _ (by decide +kernel)) ggX9_move_X9_stepped
theorem dX9_move_0 : decode cX9_move 0 = .ok (.aload_n 0, 1) := by decide +kernel
theorem dX9_move_1 : decode cX9_move 1 = .ok (.iconst 0, 1) := by decide +kernel
theorem dX9_move_2 : decode cX9_move 2 = .ok (.putfield 82, 3) := by decide +kernel
theorem dX9_move_5 : decode cX9_move 5 = .ok (.aload_n 0, 1) := by decide +kernel
theorem dX9_move_6 : decode cX9_move 6 = .ok (.iload_n 1, 1) := by decide +kernel
theorem dX9_move_7 : decode cX9_move 7 = .ok (.iconst 1, 1) := by decide +kernel
theorem dX9_move_8 : decode cX9_move 8 = .ok (.if_icmp .lt 9, 3) := by decide +kernel
theorem dX9_move_11 : decode cX9_move 11 = .ok (.iload_n 1, 1) := by decide +kernel
theorem dX9_move_12 : decode cX9_move 12 = .ok (.bipush 11, 2) := by decide +kernel
theorem dX9_move_14 : decode cX9_move 14 = .ok (.if_icmp .le 7, 3) := by decide +kernel
theorem dX9_move_17 : decode cX9_move 17 = .ok (.iconst 1, 1) := by decide +kernel
theorem dX9_move_18 : decode cX9_move 18 = .ok (.goto 4, 3) := by decide +kernel
theorem dX9_move_21 : decode cX9_move 21 = .ok (.iconst 0, 1) := by decide +kernel
theorem dX9_move_22 : decode cX9_move 22 = .ok (.iconst 1, 1) := by decide +kernel
theorem dX9_move_23 : decode cX9_move 23 = .ok (.invokevirtual 96, 3) := by decide +kernel
theorem dX9_move_26 : decode cX9_move 26 = .ok (.ifCond .eq 5, 3) := by decide +kernel
theorem dX9_move_29 : decode cX9_move 29 = .ok (.iconst 0, 1) := by decide +kernel
theorem dX9_move_30 : decode cX9_move 30 = .ok (.ireturn, 1) := by decide +kernel
theorem dX9_move_31 : decode cX9_move 31 = .ok (.aload_n 0, 1) := by decide +kernel
theorem dX9_move_32 : decode cX9_move 32 = .ok (.getfield 24, 3) := by decide +kernel
theorem dX9_move_35 : decode cX9_move 35 = .ok (.ifCond .ge 5, 3) := by decide +kernel
theorem dX9_move_38 : decode cX9_move 38 = .ok (.iconst (-1), 1) := by decide +kernel
theorem dX9_move_39 : decode cX9_move 39 = .ok (.ireturn, 1) := by decide +kernel
theorem dX9_move_40 : decode cX9_move 40 = .ok (.iconst 3, 1) := by decide +kernel
theorem dX9_move_41 : decode cX9_move 41 = .ok (.istore_n 2, 1) := by decide +kernel
theorem dX9_move_42 : decode cX9_move 42 = .ok (.iconst 0, 1) := by decide +kernel
theorem dX9_move_43 : decode cX9_move 43 = .ok (.istore_n 3, 1) := by decide +kernel
theorem dX9_move_44 : decode cX9_move 44 = .ok (.iconst (-1), 1) := by decide +kernel
theorem dX9_move_45 : decode cX9_move 45 = .ok (.istore 4, 2) := by decide +kernel
theorem dX9_move_47 : decode cX9_move 47 = .ok (.iconst 0, 1) := by decide +kernel
theorem dX9_move_48 : decode cX9_move 48 = .ok (.istore 5, 2) := by decide +kernel
theorem dX9_move_50 : decode cX9_move 50 = .ok (.iload 5, 2) := by decide +kernel
theorem dX9_move_52 : decode cX9_move 52 = .ok (.sipush 144, 3) := by decide +kernel
theorem dX9_move_55 : decode cX9_move 55 = .ok (.if_icmp .ge 101, 3) := by decide +kernel
theorem dX9_move_58 : decode cX9_move 58 = .ok (.aload_n 0, 1) := by decide +kernel
theorem dX9_move_59 : decode cX9_move 59 = .ok (.iload 5, 2) := by decide +kernel
theorem dX9_move_61 : decode cX9_move 61 = .ok (.invokevirtual 130, 3) := by decide +kernel
theorem dX9_move_64 : decode cX9_move 64 = .ok (.istore 6, 2) := by decide +kernel
theorem dX9_move_66 : decode cX9_move 66 = .ok (.iload_n 1, 1) := by decide +kernel
theorem dX9_move_67 : decode cX9_move 67 = .ok (.istore 7, 2) := by decide +kernel
theorem dX9_move_69 : decode cX9_move 69 = .ok (.iload 7, 2) := by decide +kernel
theorem dX9_move_71 : decode cX9_move 71 = .ok (.iload 6, 2) := by decide +kernel
theorem dX9_move_73 : decode cX9_move 73 = .ok (.if_icmp .gt 77, 3) := by decide +kernel
theorem dX9_move_76 : decode cX9_move 76 = .ok (.iload 5, 2) := by decide +kernel
theorem dX9_move_78 : decode cX9_move 78 = .ok (.aload_n 0, 1) := by decide +kernel
