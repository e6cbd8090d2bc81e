theorem dX9_part_48 : decode cX9_part 48 = .ok (.aload_n 0, 1) := by decide +kernel
theorem dX9_part_49 : decode cX9_part 49 = .ok (.getfield 67, 3) := by decide +kernel
theorem dX9_part_52 : decode cX9_part 52 = .ok (.iload_n 2, 1) := by decide +kernel
theorem dX9_part_53 : decode cX9_part 53 = .ok (.iaload, 1) := by decide +kernel
theorem dX9_part_54 : decode cX9_part 54 = .ok (.iload_n 2, 1) := by decide +kernel
theorem dX9_part_55 : decode cX9_part 55 = .ok (.iload_n 1, 1) := by decide +kernel
theorem dX9_part_56 : decode cX9_part 56 = .ok (.if_icmp .ge 7, 3) := by decide +kernel
theorem dX9_part_59 : decode cX9_part 59 = .ok (.iconst 0, 1) := by decide +kernel
theorem dX9_part_60 : decode cX9_part 60 = .ok (.goto 4, 3) := by decide +kernel
theorem dX9_part_63 : decode cX9_part 63 = .ok (.iconst 1, 1) := by decide +kernel
theorem dX9_part_64 : decode cX9_part 64 = .ok (.iastore, 1) := by decide +kernel
theorem dX9_part_65 : decode cX9_part 65 = .ok (.iinc 2 1, 3) := by decide +kernel
theorem dX9_part_68 : decode cX9_part 68 = .ok (.goto (-32), 3) := by decide +kernel
theorem dX9_part_71 : decode cX9_part 71 = .ok (.iload_n 1, 1) := by decide +kernel
theorem dX9_part_72 : decode cX9_part 72 = .ok (.aload_n 0, 1) := by decide +kernel
theorem dX9_part_73 : decode cX9_part 73 = .ok (.getfield 224, 3) := by decide +kernel
theorem dX9_part_76 : decode cX9_part 76 = .ok (.if_icmp .ge 7, 3) := by decide +kernel
theorem dX9_part_79 : decode cX9_part 79 = .ok (.iload_n 1, 1) := by decide +kernel
theorem dX9_part_80 : decode cX9_part 80 = .ok (.goto 7, 3) := by decide +kernel
theorem dX9_part_83 : decode cX9_part 83 = .ok (.aload_n 0, 1) := by decide +kernel
theorem dX9_part_84 : decode cX9_part 84 = .ok (.getfield 224, 3) := by decide +kernel
theorem dX9_part_87 : decode cX9_part 87 = .ok (.ireturn, 1) := by decide +kernel
set_option maxRecDepth 20000 in
theorem ggX9_promote_X9_bad : GoodIn wsX9_promote wsX9_bad := goodIn_r _ [10, 1, 28, 29, 30, 31, 32, 33, 34, 35, 36, 37, 38, 39, 40, 41, 42, 43, 44, 45, 46, 47, 48, 49, 50, 51, 52, 53, 54, 55, 56, 57, 58, 59, 60, 61, 62, 63, 64, 65, 66, 67, 68] (by decide +kernel) (by decide +kernel)
set_option maxRecDepth 20000 in
theorem gX9_promote_X9_bad : GoodIn wsX9_promote (wsV RX9 96 RX9 yX9_bad wsX9_bad) := goodIn_app (goodIn_of _ (by decide +kernel)) ggX9_promote_X9_bad
set_option maxRecDepth 20000 in
theorem ggX9_promote_X9_ranked : GoodIn wsX9_promote wsX9_ranked := goodIn_r _ [14, 2, 15, 5, 16, 17, 18, 9, 19, 20, 21, 22, 23, 24, 25, 26, 27, 28, 29, 30, 31, 32, 33, 34, 35, 36, 37, 38, 39, 40, 41, 42, 43, 44, 45, 46, 47, 48, 49, 50, 51, 52, 53, 54, 55, 56, 57, 58, 59, 60, 61, 62, 63, 64, 65, 66, 67, 68] (by decide +kernel) (by decide +kernel)
set_option maxRecDepth 20000 in
theorem gX9_promote_X9_ranked : GoodIn wsX9_promote (wsV RX9 252 RX9 yX9_ranked wsX9_ranked) := goodIn_app (goodIn_of _ (by decide +kernel)) ggX9_promote_X9_ranked
theorem dX9_promote_0 : decode cX9_promote 0 = .ok (.aload_n 0, 1) := by decide +kernel
theorem dX9_promote_1 : decode cX9_promote 1 = .ok (.iconst 0, 1) := by decide +kernel
theorem dX9_promote_2 : decode cX9_promote 2 = .ok (.putfield 82, 3) := by decide +kernel
theorem dX9_promote_5 : decode cX9_promote 5 = .ok (.aload_n 0, 1) := by decide +kernel
theorem dX9_promote_6 : decode cX9_promote 6 = .ok (.iload_n 1, 1) := by decide +kernel
theorem dX9_promote_7 : decode cX9_promote 7 = .ok (.ifCond .lt 9, 3) := by decide +kernel
theorem dX9_promote_10 : decode cX9_promote 10 = .ok (.iload_n 1, 1) := by decide +kernel
theorem dX9_promote_11 : decode cX9_promote 11 = .ok (.bipush 16, 2) := by decide +kernel
theorem dX9_promote_13 : decode cX9_promote 13 = .ok (.if_icmp .le 7, 3) := by decide +kernel
theorem dX9_promote_16 : decode cX9_promote 16 = .ok (.iconst 1, 1) := by decide +kernel
theorem dX9_promote_17 : decode cX9_promote 17 = .ok (.goto 4, 3) := by decide +kernel
theorem dX9_promote_20 : decode cX9_promote 20 = .ok (.iconst 0, 1) := by decide +kernel
theorem dX9_promote_21 : decode cX9_promote 21 = .ok (.iconst 1, 1) := by decide +kernel
theorem dX9_promote_22 : decode cX9_promote 22 = .ok (.invokevirtual 96, 3) := by decide +kernel
theorem dX9_promote_25 : decode cX9_promote 25 = .ok (.ifCond .eq 5, 3) := by decide +kernel
theorem dX9_promote_28 : decode cX9_promote 28 = .ok (.iconst 0, 1) := by decide +kernel
theorem dX9_promote_29 : decode cX9_promote 29 = .ok (.ireturn, 1) := by decide +kernel
theorem dX9_promote_30 : decode cX9_promote 30 = .ok (.aload_n 0, 1) := by decide +kernel
theorem dX9_promote_31 : decode cX9_promote 31 = .ok (.invokevirtual 252, 3) := by decide +kernel
theorem dX9_promote_34 : decode cX9_promote 34 = .ok (.iconst 0, 1) := by decide +kernel
theorem dX9_promote_35 : decode cX9_promote 35 = .ok (.istore_n 2, 1) := by decide +kernel
theorem dX9_promote_36 : decode cX9_promote 36 = .ok (.iconst 0, 1) := by decide +kernel
theorem dX9_promote_37 : decode cX9_promote 37 = .ok (.istore_n 3, 1) := by decide +kernel
theorem dX9_promote_38 : decode cX9_promote 38 = .ok (.iload_n 3, 1) := by decide +kernel
theorem dX9_promote_39 : decode cX9_promote 39 = .ok (.aload_n 0, 1) := by decide +kernel
theorem dX9_promote_40 : decode cX9_promote 40 = .ok (.getfield 224, 3) := by decide +kernel
theorem dX9_promote_43 : decode cX9_promote 43 = .ok (.if_icmp .ge 18, 3) := by decide +kernel
theorem dX9_promote_46 : decode cX9_promote 46 = .ok (.iload_n 2, 1) := by decide +kernel
theorem dX9_promote_47 : decode cX9_promote 47 = .ok (.aload_n 0, 1) := by decide +kernel
theorem dX9_promote_48 : decode cX9_promote 48 = .ok (.getfield 70, 3) := by decide +kernel
theorem dX9_promote_51 : decode cX9_promote 51 = .ok (.iload_n 3, 1) := by decide +kernel
theorem dX9_promote_52 : decode cX9_promote 52 = .ok (.iaload, 1) := by decide +kernel
theorem dX9_promote_53 : decode cX9_promote 53 = .ok (.iadd, 1) := by decide +kernel
theorem dX9_promote_54 : decode cX9_promote 54 = .ok (.istore_n 2, 1) := by decide +kernel
theorem dX9_promote_55 : decode cX9_promote 55 = .ok (.iinc 3 1, 3) := by decide +kernel
theorem dX9_promote_58 : decode cX9_promote 58 = .ok (.goto (-20), 3) := by decide +kernel
theorem dX9_promote_61 : decode cX9_promote 61 = .ok (.iload_n 1, 1) := by decide +kernel
theorem dX9_promote_62 : decode cX9_promote 62 = .ok (.iload_n 2, 1) := by decide +kernel
theorem dX9_promote_63 : decode cX9_promote 63 = .ok (.if_icmp .ge 7, 3) := by decide +kernel
theorem dX9_promote_66 : decode cX9_promote 66 = .ok (.iload_n 1, 1) := by decide +kernel
theorem dX9_promote_67 : decode cX9_promote 67 = .ok (.goto 4, 3) := by decide +kernel
theorem dX9_promote_70 : decode cX9_promote 70 = .ok (.iload_n 2, 1) := by decide +kernel
theorem dX9_promote_71 : decode cX9_promote 71 = .ok (.istore_n 3, 1) := by decide +kernel
theorem dX9_promote_72 : decode cX9_promote 72 = .ok (.iload_n 3, 1) := by decide +kernel
theorem dX9_promote_73 : decode cX9_promote 73 = .ok (.aload_n 0, 1) := by decide +kernel
theorem dX9_promote_74 : decode cX9_promote 74 = .ok (.getfield 224, 3) := by decide +kernel
theorem dX9_promote_77 : decode cX9_promote 77 = .ok (.iload_n 2, 1) := by decide +kernel
theorem dX9_promote_78 : decode cX9_promote 78 = .ok (.isub, 1) := by decide +kernel
theorem dX9_promote_79 : decode cX9_promote 79 = .ok (.if_icmp .ge 7, 3) := by decide +kernel
theorem dX9_promote_82 : decode cX9_promote 82 = .ok (.iload_n 3, 1) := by decide +kernel
theorem dX9_promote_83 : decode cX9_promote 83 = .ok (.goto 9, 3) := by decide +kernel
theorem dX9_promote_86 : decode cX9_promote 86 = .ok (.aload_n 0, 1) := by decide +kernel
theorem dX9_promote_87 : decode cX9_promote 87 = .ok (.getfield 224, 3) := by decide +kernel
theorem dX9_promote_90 : decode cX9_promote 90 = .ok (.iload_n 2, 1) := by decide +kernel
theorem dX9_promote_91 : decode cX9_promote 91 = .ok (.isub, 1) := by decide +kernel
theorem dX9_promote_92 : decode cX9_promote 92 = .ok (.istore_n 3, 1) := by decide +kernel
theorem dX9_promote_93 : decode cX9_promote 93 = .ok (.iload_n 3, 1) := by decide +kernel
theorem dX9_promote_94 : decode cX9_promote 94 = .ok (.istore 4, 2) := by decide +kernel
theorem dX9_promote_96 : decode cX9_promote 96 = .ok (.iload_n 3, 1) := by decide +kernel
theorem dX9_promote_97 : decode cX9_promote 97 = .ok (.istore 5, 2) := by decide +kernel
theorem dX9_promote_99 : decode cX9_promote 99 = .ok (.iconst 0, 1) := by decide +kernel
theorem dX9_promote_100 : decode cX9_promote 100 = .ok (.istore 6, 2) := by decide +kernel
theorem dX9_promote_102 : decode cX9_promote 102 = .ok (.iload 6, 2) := by decide +kernel
theorem dX9_promote_104 : decode cX9_promote 104 = .ok (.aload_n 0, 1) := by decide +kernel
theorem dX9_promote_105 : decode cX9_promote 105 = .ok (.getfield 224, 3) := by decide +kernel
theorem dX9_promote_108 : decode cX9_promote 108 = .ok (.if_icmp .ge 23, 3) := by decide +kernel
theorem dX9_promote_111 : decode cX9_promote 111 = .ok (.aload_n 0, 1) := by decide +kernel
theorem dX9_promote_112 : decode cX9_promote 112 = .ok (.getfield 73, 3) := by decide +kernel
theorem dX9_promote_115 : decode cX9_promote 115 = .ok (.iload 6, 2) := by decide +kernel
theorem dX9_promote_117 : decode cX9_promote 117 = .ok (.aload_n 0, 1) := by decide +kernel
theorem dX9_promote_118 : decode cX9_promote 118 = .ok (.getfield 70, 3) := by decide +kernel
theorem dX9_promote_121 : decode cX9_promote 121 = .ok (.iload 6, 2) := by decide +kernel
theorem dX9_promote_123 : decode cX9_promote 123 = .ok (.iaload, 1) := by decide +kernel
theorem dX9_promote_124 : decode cX9_promote 124 = .ok (.iastore, 1) := by decide +kernel
theorem dX9_promote_125 : decode cX9_promote 125 = .ok (.iinc 6 1, 3) := by decide +kernel
theorem dX9_promote_128 : decode cX9_promote 128 = .ok (.goto (-26), 3) := by decide +kernel
theorem dX9_promote_131 : decode cX9_promote 131 = .ok (.aload_n 0, 1) := by decide +kernel
theorem dX9_promote_132 : decode cX9_promote 132 = .ok (.getfield 224, 3) := by decide +kernel
theorem dX9_promote_135 : decode cX9_promote 135 = .ok (.iconst 1, 1) := by decide +kernel
theorem dX9_promote_136 : decode cX9_promote 136 = .ok (.isub, 1) := by decide +kernel
theorem dX9_promote_137 : decode cX9_promote 137 = .ok (.istore 6, 2) := by decide +kernel
theorem dX9_promote_139 : decode cX9_promote 139 = .ok (.iload 6, 2) := by decide +kernel
theorem dX9_promote_141 : decode cX9_promote 141 = .ok (.ifCond .lt 48, 3) := by decide +kernel
theorem dX9_promote_144 : decode cX9_promote 144 = .ok (.iload 4, 2) := by decide +kernel
theorem dX9_promote_146 : decode cX9_promote 146 = .ok (.ifCond .le 43, 3) := by decide +kernel
theorem dX9_promote_149 : decode cX9_promote 149 = .ok (.aload_n 0, 1) := by decide +kernel
theorem dX9_promote_150 : decode cX9_promote 150 = .ok (.getfield 73, 3) := by decide +kernel
theorem dX9_promote_153 : decode cX9_promote 153 = .ok (.aload_n 0, 1) := by decide +kernel
theorem dX9_promote_154 : decode cX9_promote 154 = .ok (.getfield 67, 3) := by decide +kernel
theorem dX9_promote_157 : decode cX9_promote 157 = .ok (.iload 6, 2) := by decide +kernel
theorem dX9_promote_159 : decode cX9_promote 159 = .ok (.iaload, 1) := by decide +kernel
theorem dX9_promote_160 : decode cX9_promote 160 = .ok (.iaload, 1) := by decide +kernel
theorem dX9_promote_161 : decode cX9_promote 161 = .ok (.ifCond .eq 6, 3) := by decide +kernel
theorem dX9_promote_164 : decode cX9_promote 164 = .ok (.goto 19, 3) := by decide +kernel
theorem dX9_promote_167 : decode cX9_promote 167 = .ok (.aload_n 0, 1) := by decide +kernel
theorem dX9_promote_168 : decode cX9_promote 168 = .ok (.getfield 70, 3) := by decide +kernel
theorem dX9_promote_171 : decode cX9_promote 171 = .ok (.aload_n 0, 1) := by decide +kernel
theorem dX9_promote_172 : decode cX9_promote 172 = .ok (.getfield 67, 3) := by decide +kernel
theorem dX9_promote_175 : decode cX9_promote 175 = .ok (.iload 6, 2) := by decide +kernel
theorem dX9_promote_177 : decode cX9_promote 177 = .ok (.iaload, 1) := by decide +kernel
theorem dX9_promote_178 : decode cX9_promote 178 = .ok (.iconst 1, 1) := by decide +kernel
theorem dX9_promote_179 : decode cX9_promote 179 = .ok (.iastore, 1) := by decide +kernel
theorem dX9_promote_180 : decode cX9_promote 180 = .ok (.iinc 4 (-1), 3) := by decide +kernel
theorem dX9_promote_183 : decode cX9_promote 183 = .ok (.iinc 6 (-1), 3) := by decide +kernel
theorem dX9_promote_186 : decode cX9_promote 186 = .ok (.goto (-47), 3) := by decide +kernel
theorem dX9_promote_189 : decode cX9_promote 189 = .ok (.iconst 0, 1) := by decide +kernel
theorem dX9_promote_190 : decode cX9_promote 190 = .ok (.istore 6, 2) := by decide +kernel
theorem dX9_promote_192 : decode cX9_promote 192 = .ok (.iload 6, 2) := by decide +kernel
theorem dX9_promote_194 : decode cX9_promote 194 = .ok (.aload_n 0, 1) := by decide +kernel
theorem dX9_promote_195 : decode cX9_promote 195 = .ok (.getfield 224, 3) := by decide +kernel
theorem dX9_promote_198 : decode cX9_promote 198 = .ok (.if_icmp .ge 49, 3) := by decide +kernel
theorem dX9_promote_201 : decode cX9_promote 201 = .ok (.iload 5, 2) := by decide +kernel
theorem dX9_promote_203 : decode cX9_promote 203 = .ok (.ifCond .le 44, 3) := by decide +kernel
theorem dX9_promote_206 : decode cX9_promote 206 = .ok (.aload_n 0, 1) := by decide +kernel
theorem dX9_promote_207 : decode cX9_promote 207 = .ok (.getfield 73, 3) := by decide +kernel
theorem dX9_promote_210 : decode cX9_promote 210 = .ok (.aload_n 0, 1) := by decide +kernel
theorem dX9_promote_211 : decode cX9_promote 211 = .ok (.getfield 67, 3) := by decide +kernel
theorem dX9_promote_214 : decode cX9_promote 214 = .ok (.iload 6, 2) := by decide +kernel
theorem dX9_promote_216 : decode cX9_promote 216 = .ok (.iaload, 1) := by decide +kernel
theorem dX9_promote_217 : decode cX9_promote 217 = .ok (.iaload, 1) := by decide +kernel
theorem dX9_promote_218 : decode cX9_promote 218 = .ok (.iconst 1, 1) := by decide +kernel
theorem dX9_promote_219 : decode cX9_promote 219 = .ok (.if_icmp .eq 6, 3) := by decide +kernel
theorem dX9_promote_222 : decode cX9_promote 222 = .ok (.goto 19, 3) := by decide +kernel
theorem dX9_promote_225 : decode cX9_promote 225 = .ok (.aload_n 0, 1) := by decide +kernel
theorem dX9_promote_226 : decode cX9_promote 226 = .ok (.getfield 70, 3) := by decide +kernel
theorem dX9_promote_229 : decode cX9_promote 229 = .ok (.aload_n 0, 1) := by decide +kernel
theorem dX9_promote_230 : decode cX9_promote 230 = .ok (.getfield 67, 3) := by decide +kernel
theorem dX9_promote_233 : decode cX9_promote 233 = .ok (.iload 6, 2) := by decide +kernel
theorem dX9_promote_235 : decode cX9_promote 235 = .ok (.iaload, 1) := by decide +kernel
theorem dX9_promote_236 : decode cX9_promote 236 = .ok (.iconst 0, 1) := by decide +kernel
theorem dX9_promote_237 : decode cX9_promote 237 = .ok (.iastore, 1) := by decide +kernel
theorem dX9_promote_238 : decode cX9_promote 238 = .ok (.iinc 5 (-1), 3) := by decide +kernel
theorem dX9_promote_241 : decode cX9_promote 241 = .ok (.iinc 6 1, 3) := by decide +kernel
theorem dX9_promote_244 : decode cX9_promote 244 = .ok (.goto (-52), 3) := by decide +kernel
theorem dX9_promote_247 : decode cX9_promote 247 = .ok (.iload_n 3, 1) := by decide +kernel
theorem dX9_promote_248 : decode cX9_promote 248 = .ok (.ireturn, 1) := by decide +kernel
set_option maxRecDepth 20000 in
theorem ggX9_fleet_X9_isBoat : GoodIn wsX9_fleet wsX9_isBoat := goodIn_r _ [7, 8, 13, 14, 15, 16, 17, 18, 19, 20, 21, 22, 23, 24, 25, 26, 27, 28, 29, 30, 31, 32, 33, 34, 35, 36, 37, 38, 39, 40, 41, 42, 43, 44, 45, 46, 47, 48, 49, 50, 51, 52, 53] (by decide +kernel) (by decide +kernel)
set_option maxRecDepth 20000 in
theorem gX9_fleet_X9_isBoat : GoodIn wsX9_fleet (wsV RX9 230 RX9 yX9_isBoat wsX9_isBoat) := goodIn_app (goodIn_of _ (by decide +kernel)) ggX9_fleet_X9_isBoat
set_option maxRecDepth 20000 in
theorem ggX9_fleet_X9_bad : GoodIn wsX9_fleet wsX9_bad := goodIn_r _ [12, 1, 13, 14, 15, 16, 17, 18, 19, 20, 21, 22, 23, 24, 25, 26, 27, 28, 29, 30, 31, 32, 33, 34, 35, 36, 37, 38, 39, 40, 41, 42, 43, 44, 45, 46, 47, 48, 49, 50, 51, 52, 53] (by decide +kernel) (by decide +kernel)
set_option maxRecDepth 20000 in
theorem gX9_fleet_X9_bad : GoodIn wsX9_fleet (wsV RX9 96 RX9 yX9_bad wsX9_bad) := goodIn_app (goodIn_of _ (by decide +kernel)) ggX9_fleet_X9_bad
theorem dX9_fleet_0 : decode cX9_fleet 0 = .ok (.aload_n 0, 1) := by decide +kernel
theorem dX9_fleet_1 : decode cX9_fleet 1 = .ok (.iconst 0, 1) := by decide +kernel
theorem dX9_fleet_2 : decode cX9_fleet 2 = .ok (.putfield 82, 3) := by decide +kernel
theorem dX9_fleet_5 : decode cX9_fleet 5 = .ok (.aload_n 0, 1) := by decide +kernel
theorem dX9_fleet_6 : decode cX9_fleet 6 = .ok (.aload_n 0, 1) := by decide +kernel
theorem dX9_fleet_7 : decode cX9_fleet 7 = .ok (.iload_n 1, 1) := by decide +kernel
theorem dX9_fleet_8 : decode cX9_fleet 8 = .ok (.invokevirtual 230, 3) := by decide +kernel
theorem dX9_fleet_11 : decode cX9_fleet 11 = .ok (.ifCond .ne 7, 3) := by decide +kernel
theorem dX9_fleet_14 : decode cX9_fleet 14 = .ok (.iconst 1, 1) := by decide +kernel
theorem dX9_fleet_15 : decode cX9_fleet 15 = .ok (.goto 4, 3) := by decide +kernel
theorem dX9_fleet_18 : decode cX9_fleet 18 = .ok (.iconst 0, 1) := by decide +kernel
theorem dX9_fleet_19 : decode cX9_fleet 19 = .ok (.iconst 1, 1) := by decide +kernel
theorem dX9_fleet_20 : decode cX9_fleet 20 = .ok (.invokevirtual 96, 3) := by decide +kernel
theorem dX9_fleet_23 : decode cX9_fleet 23 = .ok (.ifCond .eq 7, 3) := by decide +kernel
theorem dX9_fleet_26 : decode cX9_fleet 26 = .ok (.iconst 0, 1) := by decide +kernel
theorem dX9_fleet_27 : decode cX9_fleet 27 = .ok (.goto 9, 3) := by decide +kernel
theorem dX9_fleet_30 : decode cX9_fleet 30 = .ok (.aload_n 0, 1) := by decide +kernel
theorem dX9_fleet_31 : decode cX9_fleet 31 = .ok (.getfield 70, 3) := by decide +kernel
theorem dX9_fleet_34 : decode cX9_fleet 34 = .ok (.iload_n 1, 1) := by decide +kernel
theorem dX9_fleet_35 : decode cX9_fleet 35 = .ok (.iaload, 1) := by decide +kernel
theorem dX9_fleet_36 : decode cX9_fleet 36 = .ok (.ireturn, 1) := by decide +kernel
theorem dX9_noise_0 : decode cX9_noise 0 = .ok (.aload_n 0, 1) := by decide +kernel
theorem dX9_noise_1 : decode cX9_noise 1 = .ok (.iconst 0, 1) := by decide +kernel
theorem dX9_noise_2 : decode cX9_noise 2 = .ok (.putfield 82, 3) := by decide +kernel
theorem dX9_noise_5 : decode cX9_noise 5 = .ok (.aload_n 0, 1) := by decide +kernel
theorem dX9_noise_6 : decode cX9_noise 6 = .ok (.getfield 255, 3) := by decide +kernel
theorem dX9_noise_9 : decode cX9_noise 9 = .ok (.bipush 20, 2) := by decide +kernel
theorem dX9_noise_11 : decode cX9_noise 11 = .ok (.if_icmp .ne 5, 3) := by decide +kernel
theorem dX9_noise_14 : decode cX9_noise 14 = .ok (.iconst (-1), 1) := by decide +kernel
theorem dX9_noise_15 : decode cX9_noise 15 = .ok (.ireturn, 1) := by decide +kernel
theorem dX9_noise_16 : decode cX9_noise 16 = .ok (.aload_n 0, 1) := by decide +kernel
theorem dX9_noise_17 : decode cX9_noise 17 = .ok (.getfield 76, 3) := by decide +kernel
theorem dX9_noise_20 : decode cX9_noise 20 = .ok (.aload_n 0, 1) := by decide +kernel
theorem dX9_noise_21 : decode cX9_noise 21 = .ok (.getfield 255, 3) := by decide +kernel
theorem dX9_noise_24 : decode cX9_noise 24 = .ok (.iload_n 1, 1) := by decide +kernel
theorem dX9_noise_25 : decode cX9_noise 25 = .ok (.iastore, 1) := by decide +kernel
theorem dX9_noise_26 : decode cX9_noise 26 = .ok (.aload_n 0, 1) := by decide +kernel
theorem dX9_noise_27 : decode cX9_noise 27 = .ok (.dup, 1) := by decide +kernel
theorem dX9_noise_28 : decode cX9_noise 28 = .ok (.getfield 255, 3) := by decide +kernel
theorem dX9_noise_31 : decode cX9_noise 31 = .ok (.iconst 1, 1) := by decide +kernel
theorem dX9_noise_32 : decode cX9_noise 32 = .ok (.iadd, 1) := by decide +kernel
theorem dX9_noise_33 : decode cX9_noise 33 = .ok (.putfield 255, 3) := by decide +kernel
theorem dX9_noise_36 : decode cX9_noise 36 = .ok (.aload_n 0, 1) := by decide +kernel
theorem dX9_noise_37 : decode cX9_noise 37 = .ok (.getfield 255, 3) := by decide +kernel
theorem dX9_noise_40 : decode cX9_noise 40 = .ok (.ireturn, 1) := by decide +kernel
theorem dX9_draw_0 : decode cX9_draw 0 = .ok (.aload_n 0, 1) := by decide +kernel
theorem dX9_draw_1 : decode cX9_draw 1 = .ok (.iconst 0, 1) := by decide +kernel
theorem dX9_draw_2 : decode cX9_draw 2 = .ok (.putfield 82, 3) := by decide +kernel
theorem dX9_draw_5 : decode cX9_draw 5 = .ok (.aload_n 0, 1) := by decide +kernel
theorem dX9_draw_6 : decode cX9_draw 6 = .ok (.getfield 224, 3) := by decide +kernel
theorem dX9_draw_9 : decode cX9_draw 9 = .ok (.ifCond .eq 16, 3) := by decide +kernel
theorem dX9_draw_12 : decode cX9_draw 12 = .ok (.aload_n 0, 1) := by decide +kernel
theorem dX9_draw_13 : decode cX9_draw 13 = .ok (.getfield 255, 3) := by decide +kernel
theorem dX9_draw_16 : decode cX9_draw 16 = .ok (.aload_n 0, 1) := by decide +kernel
theorem dX9_draw_17 : decode cX9_draw 17 = .ok (.getfield 224, 3) := by decide +kernel
theorem dX9_draw_20 : decode cX9_draw 20 = .ok (.iconst 1, 1) := by decide +kernel
theorem dX9_draw_21 : decode cX9_draw 21 = .ok (.isub, 1) := by decide +kernel
theorem dX9_draw_22 : decode cX9_draw 22 = .ok (.if_icmp .ge 5, 3) := by decide +kernel
theorem dX9_draw_25 : decode cX9_draw 25 = .ok (.iconst (-1), 1) := by decide +kernel
theorem dX9_draw_26 : decode cX9_draw 26 = .ok (.ireturn, 1) := by decide +kernel
theorem dX9_draw_27 : decode cX9_draw 27 = .ok (.aload_n 0, 1) := by decide +kernel
theorem dX9_draw_28 : decode cX9_draw 28 = .ok (.aload_n 0, 1) := by decide +kernel
theorem dX9_draw_29 : decode cX9_draw 29 = .ok (.getfield 224, 3) := by decide +kernel
theorem dX9_draw_32 : decode cX9_draw 32 = .ok (.putfield 258, 3) := by decide +kernel
theorem dX9_draw_35 : decode cX9_draw 35 = .ok (.iconst 0, 1) := by decide +kernel
theorem dX9_draw_36 : decode cX9_draw 36 = .ok (.istore_n 1, 1) := by decide +kernel
theorem dX9_draw_37 : decode cX9_draw 37 = .ok (.iload_n 1, 1) := by decide +kernel
theorem dX9_draw_38 : decode cX9_draw 38 = .ok (.aload_n 0, 1) := by decide +kernel
theorem dX9_draw_39 : decode cX9_draw 39 = .ok (.getfield 224, 3) := by decide +kernel
theorem dX9_draw_42 : decode cX9_draw 42 = .ok (.if_icmp .ge 16, 3) := by decide +kernel
theorem dX9_draw_45 : decode cX9_draw 45 = .ok (.aload_n 0, 1) := by decide +kernel
theorem dX9_draw_46 : decode cX9_draw 46 = .ok (.getfield 79, 3) := by decide +kernel
theorem dX9_draw_49 : decode cX9_draw 49 = .ok (.iload_n 1, 1) := by decide +kernel
theorem dX9_draw_50 : decode cX9_draw 50 = .ok (.iload_n 1, 1) := by decide +kernel
theorem dX9_draw_51 : decode cX9_draw 51 = .ok (.iastore, 1) := by decide +kernel
theorem dX9_draw_52 : decode cX9_draw 52 = .ok (.iinc 1 1, 3) := by decide +kernel
theorem dX9_draw_55 : decode cX9_draw 55 = .ok (.goto (-18), 3) := by decide +kernel
theorem dX9_draw_58 : decode cX9_draw 58 = .ok (.iconst 0, 1) := by decide +kernel
theorem dX9_draw_59 : decode cX9_draw 59 = .ok (.istore_n 1, 1) := by decide +kernel
theorem dX9_draw_60 : decode cX9_draw 60 = .ok (.aload_n 0, 1) := by decide +kernel
theorem dX9_draw_61 : decode cX9_draw 61 = .ok (.getfield 224, 3) := by decide +kernel
theorem dX9_draw_64 : decode cX9_draw 64 = .ok (.iconst 1, 1) := by decide +kernel
theorem dX9_draw_65 : decode cX9_draw 65 = .ok (.isub, 1) := by decide +kernel
theorem dX9_draw_66 : decode cX9_draw 66 = .ok (.istore_n 2, 1) := by decide +kernel
theorem dX9_draw_67 : decode cX9_draw 67 = .ok (.iload_n 2, 1) := by decide +kernel
theorem dX9_draw_68 : decode cX9_draw 68 = .ok (.ifCond .le 58, 3) := by decide +kernel
theorem dX9_draw_71 : decode cX9_draw 71 = .ok (.aload_n 0, 1) := by decide +kernel
theorem dX9_draw_72 : decode cX9_draw 72 = .ok (.getfield 76, 3) := by decide +kernel
theorem dX9_draw_75 : decode cX9_draw 75 = .ok (.iload_n 1, 1) := by decide +kernel
theorem dX9_draw_76 : decode cX9_draw 76 = .ok (.iaload, 1) := by decide +kernel
theorem dX9_draw_77 : decode cX9_draw 77 = .ok (.i2l, 1) := by decide +kernel
theorem dX9_draw_78 : decode cX9_draw 78 = .ok (.ldc2_w 261, 3) := by decide +kernel
theorem dX9_draw_81 : decode cX9_draw 81 = .ok (.land, 1) := by decide +kernel
theorem dX9_draw_82 : decode cX9_draw 82 = .ok (.iload_n 2, 1) := by decide +kernel
theorem dX9_draw_83 : decode cX9_draw 83 = .ok (.iconst 1, 1) := by decide +kernel
theorem dX9_draw_84 : decode cX9_draw 84 = .ok (.iadd, 1) := by decide +kernel
theorem dX9_draw_85 : decode cX9_draw 85 = .ok (.i2l, 1) := by decide +kernel
theorem dX9_draw_86 : decode cX9_draw 86 = .ok (.lrem, 1) := by decide +kernel
theorem dX9_draw_87 : decode cX9_draw 87 = .ok (.l2i, 1) := by decide +kernel
theorem dX9_draw_88 : decode cX9_draw 88 = .ok (.istore_n 3, 1) := by decide +kernel
theorem dX9_draw_89 : decode cX9_draw 89 = .ok (.iinc 1 1, 3) := by decide +kernel
theorem dX9_draw_92 : decode cX9_draw 92 = .ok (.aload_n 0, 1) := by decide +kernel
theorem dX9_draw_93 : decode cX9_draw 93 = .ok (.getfield 79, 3) := by decide +kernel
theorem dX9_draw_96 : decode cX9_draw 96 = .ok (.iload_n 2, 1) := by decide +kernel
theorem dX9_draw_97 : decode cX9_draw 97 = .ok (.iaload, 1) := by decide +kernel
theorem dX9_draw_98 : decode cX9_draw 98 = .ok (.istore 4, 2) := by decide +kernel
theorem dX9_draw_100 : decode cX9_draw 100 = .ok (.aload_n 0, 1) := by decide +kernel
theorem dX9_draw_101 : decode cX9_draw 101 = .ok (.getfield 79, 3) := by decide +kernel
theorem dX9_draw_104 : decode cX9_draw 104 = .ok (.iload_n 2, 1) := by decide +kernel
theorem dX9_draw_105 : decode cX9_draw 105 = .ok (.aload_n 0, 1) := by decide +kernel
theorem dX9_draw_106 : decode cX9_draw 106 = .ok (.getfield 79, 3) := by decide +kernel
theorem dX9_draw_109 : decode cX9_draw 109 = .ok (.iload_n 3, 1) := by decide +kernel
theorem dX9_draw_110 : decode cX9_draw 110 = .ok (.iaload, 1) := by decide +kernel
theorem dX9_draw_111 : decode cX9_draw 111 = .ok (.iastore, 1) := by decide +kernel
theorem dX9_draw_112 : decode cX9_draw 112 = .ok (.aload_n 0, 1) := by decide +kernel
theorem dX9_draw_113 : decode cX9_draw 113 = .ok (.getfield 79, 3) := by decide +kernel
theorem dX9_draw_116 : decode cX9_draw 116 = .ok (.iload_n 3, 1) := by decide +kernel
theorem dX9_draw_117 : decode cX9_draw 117 = .ok (.iload 4, 2) := by decide +kernel
theorem dX9_draw_119 : decode cX9_draw 119 = .ok (.iastore, 1) := by decide +kernel
theorem dX9_draw_120 : decode cX9_draw 120 = .ok (.iinc 2 (-1), 3) := by decide +kernel
theorem dX9_draw_123 : decode cX9_draw 123 = .ok (.goto (-56), 3) := by decide +kernel
theorem dX9_draw_126 : decode cX9_draw 126 = .ok (.aload_n 0, 1) := by decide +kernel
theorem dX9_draw_127 : decode cX9_draw 127 = .ok (.iconst 0, 1) := by decide +kernel
theorem dX9_draw_128 : decode cX9_draw 128 = .ok (.putfield 255, 3) := by decide +kernel
theorem dX9_draw_131 : decode cX9_draw 131 = .ok (.aload_n 0, 1) := by decide +kernel
theorem dX9_draw_132 : decode cX9_draw 132 = .ok (.getfield 224, 3) := by decide +kernel
theorem dX9_draw_135 : decode cX9_draw 135 = .ok (.ireturn, 1) := by decide +kernel
theorem dX9_lot_0 : decode cX9_lot 0 = .ok (.aload_n 0, 1) := by decide +kernel
theorem dX9_lot_1 : decode cX9_lot 1 = .ok (.iconst 0, 1) := by decide +kernel
theorem dX9_lot_2 : decode cX9_lot 2 = .ok (.putfield 82, 3) := by decide +kernel
theorem dX9_lot_5 : decode cX9_lot 5 = .ok (.iload_n 1, 1) := by decide +kernel
theorem dX9_lot_6 : decode cX9_lot 6 = .ok (.ifCond .lt 20, 3) := by decide +kernel
theorem dX9_lot_9 : decode cX9_lot 9 = .ok (.iload_n 1, 1) := by decide +kernel
theorem dX9_lot_10 : decode cX9_lot 10 = .ok (.aload_n 0, 1) := by decide +kernel
theorem dX9_lot_11 : decode cX9_lot 11 = .ok (.getfield 258, 3) := by decide +kernel
theorem dX9_lot_14 : decode cX9_lot 14 = .ok (.if_icmp .ge 12, 3) := by decide +kernel
theorem dX9_lot_17 : decode cX9_lot 17 = .ok (.aload_n 0, 1) := by decide +kernel
theorem dX9_lot_18 : decode cX9_lot 18 = .ok (.getfield 79, 3) := by decide +kernel
theorem dX9_lot_21 : decode cX9_lot 21 = .ok (.iload_n 1, 1) := by decide +kernel
theorem dX9_lot_22 : decode cX9_lot 22 = .ok (.iaload, 1) := by decide +kernel
theorem dX9_lot_23 : decode cX9_lot 23 = .ok (.goto 4, 3) := by decide +kernel
theorem dX9_lot_26 : decode cX9_lot 26 = .ok (.iconst (-1), 1) := by decide +kernel
theorem dX9_lot_27 : decode cX9_lot 27 = .ok (.ireturn, 1) := by decide +kernel
set_option maxRecDepth 20000 in
theorem ggX9_count_X9_safeMany : GoodIn wsX9_count wsX9_safeMany := goodIn_r _ [12, 13, 14, 15, 11, 16, 17, 18, 19, 20, 21, 22, 23, 24, 25, 26, 27, 28, 29, 30, 31, 32, 33, 34, 35, 36, 37, 38, 39, 40, 41, 42, 43, 44, 45, 46, 47, 48, 49, 50, 51, 52, 53, 54, 55, 56, 57, 58, 59, 60] (by decide +kernel) (by decide +kernel)
set_option maxRecDepth 20000 in
theorem gX9_count_X9_safeMany : GoodIn wsX9_count (wsV RX9 110 RX9 yX9_safeMany wsX9_safeMany) := goodIn_app (goodIn_of _ (by decide +kernel)) ggX9_count_X9_safeMany
theorem dX9_count_0 : decode cX9_count 0 = .ok (.aload_n 0, 1) := by decide +kernel
theorem dX9_count_1 : decode cX9_count 1 = .ok (.iconst 0, 1) := by decide +kernel
theorem dX9_count_2 : decode cX9_count 2 = .ok (.putfield 82, 3) := by decide +kernel
theorem dX9_count_5 : decode cX9_count 5 = .ok (.iload_n 1, 1) := by decide +kernel
theorem dX9_count_6 : decode cX9_count 6 = .ok (.tableswitch 77 0 6 #[42, 47, 52, 57, 62, 67, 72], 42) := by decide +kernel
theorem dX9_count_48 : decode cX9_count 48 = .ok (.aload_n 0, 1) := by decide +kernel
theorem dX9_count_49 : decode cX9_count 49 = .ok (.getfield 224, 3) := by decide +kernel
theorem dX9_count_52 : decode cX9_count 52 = .ok (.ireturn, 1) := by decide +kernel
theorem dX9_count_53 : decode cX9_count 53 = .ok (.aload_n 0, 1) := by decide +kernel
theorem dX9_count_54 : decode cX9_count 54 = .ok (.getfield 227, 3) := by decide +kernel
theorem dX9_count_57 : decode cX9_count 57 = .ok (.ireturn, 1) := by decide +kernel
theorem dX9_count_58 : decode cX9_count 58 = .ok (.aload_n 0, 1) := by decide +kernel
theorem dX9_count_59 : decode cX9_count 59 = .ok (.getfield 221, 3) := by decide +kernel
theorem dX9_count_62 : decode cX9_count 62 = .ok (.ireturn, 1) := by decide +kernel
theorem dX9_count_63 : decode cX9_count 63 = .ok (.aload_n 0, 1) := by decide +kernel
theorem dX9_count_64 : decode cX9_count 64 = .ok (.invokevirtual 110, 3) := by decide +kernel
theorem dX9_count_67 : decode cX9_count 67 = .ok (.ireturn, 1) := by decide +kernel
theorem dX9_count_68 : decode cX9_count 68 = .ok (.aload_n 0, 1) := by decide +kernel
theorem dX9_count_69 : decode cX9_count 69 = .ok (.getfield 255, 3) := by decide +kernel
theorem dX9_count_72 : decode cX9_count 72 = .ok (.ireturn, 1) := by decide +kernel
theorem dX9_count_73 : decode cX9_count 73 = .ok (.aload_n 0, 1) := by decide +kernel
theorem dX9_count_74 : decode cX9_count 74 = .ok (.getfield 133, 3) := by decide +kernel
theorem dX9_count_77 : decode cX9_count 77 = .ok (.ireturn, 1) := by decide +kernel
theorem dX9_count_78 : decode cX9_count 78 = .ok (.aload_n 0, 1) := by decide +kernel
theorem dX9_count_79 : decode cX9_count 79 = .ok (.getfield 242, 3) := by decide +kernel
theorem dX9_count_82 : decode cX9_count 82 = .ok (.ireturn, 1) := by decide +kernel
theorem dX9_count_83 : decode cX9_count 83 = .ok (.iconst (-1), 1) := by decide +kernel
theorem dX9_count_84 : decode cX9_count 84 = .ok (.ireturn, 1) := by decide +kernel
theorem dJ9_floorMod_7cf53_0 : decode cJ9_floorMod_7cf53 0 = .ok (.iload_n 0, 1) := by decide +kernel
theorem dJ9_floorMod_7cf53_1 : decode cJ9_floorMod_7cf53 1 = .ok (.iload_n 1, 1) := by decide +kernel
theorem dJ9_floorMod_7cf53_2 : decode cJ9_floorMod_7cf53 2 = .ok (.irem, 1) := by decide +kernel
theorem dJ9_floorMod_7cf53_3 : decode cJ9_floorMod_7cf53 3 = .ok (.istore_n 2, 1) := by decide +kernel
theorem dJ9_floorMod_7cf53_4 : decode cJ9_floorMod_7cf53 4 = .ok (.iload_n 0, 1) := by decide +kernel
theorem dJ9_floorMod_7cf53_5 : decode cJ9_floorMod_7cf53 5 = .ok (.iload_n 1, 1) := by decide +kernel
theorem dJ9_floorMod_7cf53_6 : decode cJ9_floorMod_7cf53 6 = .ok (.ixor, 1) := by decide +kernel
theorem dJ9_floorMod_7cf53_7 : decode cJ9_floorMod_7cf53 7 = .ok (.ifCond .ge 11, 3) := by decide +kernel
theorem dJ9_floorMod_7cf53_10 : decode cJ9_floorMod_7cf53 10 = .ok (.iload_n 2, 1) := by decide +kernel
theorem dJ9_floorMod_7cf53_11 : decode cJ9_floorMod_7cf53 11 = .ok (.ifCond .eq 7, 3) := by decide +kernel
theorem dJ9_floorMod_7cf53_14 : decode cJ9_floorMod_7cf53 14 = .ok (.iload_n 2, 1) := by decide +kernel
theorem dJ9_floorMod_7cf53_15 : decode cJ9_floorMod_7cf53 15 = .ok (.iload_n 1, 1) := by decide +kernel
theorem dJ9_floorMod_7cf53_16 : decode cJ9_floorMod_7cf53 16 = .ok (.iadd, 1) := by decide +kernel
theorem dJ9_floorMod_7cf53_17 : decode cJ9_floorMod_7cf53 17 = .ok (.ireturn, 1) := by decide +kernel
theorem dJ9_floorMod_7cf53_18 : decode cJ9_floorMod_7cf53 18 = .ok (.iload_n 2, 1) := by decide +kernel
theorem dJ9_floorMod_7cf53_19 : decode cJ9_floorMod_7cf53 19 = .ok (.ireturn, 1) := by decide +kernel
theorem dJ9_max_7cf53_0 : decode cJ9_max_7cf53 0 = .ok (.iload_n 0, 1) := by decide +kernel
theorem dJ9_max_7cf53_1 : decode cJ9_max_7cf53 1 = .ok (.iload_n 1, 1) := by decide +kernel
theorem dJ9_max_7cf53_2 : decode cJ9_max_7cf53 2 = .ok (.if_icmp .lt 7, 3) := by decide +kernel
theorem dJ9_max_7cf53_5 : decode cJ9_max_7cf53 5 = .ok (.iload_n 0, 1) := by decide +kernel
theorem dJ9_max_7cf53_6 : decode cJ9_max_7cf53 6 = .ok (.goto 4, 3) := by decide +kernel
theorem dJ9_max_7cf53_9 : decode cJ9_max_7cf53 9 = .ok (.iload_n 1, 1) := by decide +kernel
theorem dJ9_max_7cf53_10 : decode cJ9_max_7cf53 10 = .ok (.ireturn, 1) := by decide +kernel
theorem dJ9_min_7cf53_0 : decode cJ9_min_7cf53 0 = .ok (.iload_n 0, 1) := by decide +kernel
theorem dJ9_min_7cf53_1 : decode cJ9_min_7cf53 1 = .ok (.iload_n 1, 1) := by decide +kernel
theorem dJ9_min_7cf53_2 : decode cJ9_min_7cf53 2 = .ok (.if_icmp .gt 7, 3) := by decide +kernel
theorem dJ9_min_7cf53_5 : decode cJ9_min_7cf53 5 = .ok (.iload_n 0, 1) := by decide +kernel
theorem dJ9_min_7cf53_6 : decode cJ9_min_7cf53 6 = .ok (.goto 4, 3) := by decide +kernel
theorem dJ9_min_7cf53_9 : decode cJ9_min_7cf53 9 = .ok (.iload_n 1, 1) := by decide +kernel
theorem dJ9_min_7cf53_10 : decode cJ9_min_7cf53 10 = .ok (.ireturn, 1) := by decide +kernel
set_option maxRecDepth 20000 in
theorem ggJ0_length_8abf5_J0_coder_7d493 : GoodIn wsJ0_length_8abf5 wsJ0_coder_7d493 := goodIn_r _ [6, 7, 8] (by decide +kernel) (by decide +kernel)
set_option maxRecDepth 20000 in
theorem gJ0_length_8abf5_J0_coder_7d493 : GoodIn wsJ0_length_8abf5 (wsV RJ0 335 RJ0 yJ0_coder_7d493 wsJ0_coder_7d493) := goodIn_app (goodIn_of _ (by decide +kernel)) ggJ0_length_8abf5_J0_coder_7d493
theorem dJ0_length_8abf5_0 : decode cJ0_length_8abf5 0 = .ok (.aload_n 0, 1) := by decide +kernel
theorem dJ0_length_8abf5_1 : decode cJ0_length_8abf5 1 = .ok (.getfield 9, 3) := by decide +kernel
theorem dJ0_length_8abf5_4 : decode cJ0_length_8abf5 4 = .ok (.arraylength, 1) := by decide +kernel
theorem dJ0_length_8abf5_5 : decode cJ0_length_8abf5 5 = .ok (.aload_n 0, 1) := by decide +kernel
theorem dJ0_length_8abf5_6 : decode cJ0_length_8abf5 6 = .ok (.invokevirtual 335, 3) := by decide +kernel
theorem dJ0_length_8abf5_9 : decode cJ0_length_8abf5 9 = .ok (.ishr, 1) := by decide +kernel
theorem dJ0_length_8abf5_10 : decode cJ0_length_8abf5 10 = .ok (.ireturn, 1) := by decide +kernel
set_option maxRecDepth 20000 in
theorem ggJ0_charAt_5068e_J0_isLatin1_aae02 : GoodIn wsJ0_charAt_5068e wsJ0_isLatin1_aae02 := goodIn_r _ [6, 7, 8] (by decide +kernel) (by decide +kernel)
set_option maxRecDepth 20000 in
theorem gJ0_charAt_5068e_J0_isLatin1_aae02 : GoodIn wsJ0_charAt_5068e (wsV RJ0 492 RJ0 yJ0_isLatin1_aae02 wsJ0_isLatin1_aae02) := goodIn_app (goodIn_of _ (by decide +kernel)) ggJ0_charAt_5068e_J0_isLatin1_aae02
set_option maxRecDepth 20000 in
theorem ggJ0_charAt_5068e_J1_charAt_3b067 : GoodIn wsJ0_charAt_5068e wsJ1_charAt_3b067 := goodIn_r _ [12, 13, 14, 5, 15, 16, 17, 18, 19, 20] (by decide +kernel) (by decide +kernel)
set_option maxRecDepth 20000 in
theorem gJ0_charAt_5068e_J1_charAt_3b067 : GoodIn wsJ0_charAt_5068e (va_wsS RJ0 495 yJ1_charAt_3b067 wsJ1_charAt_3b067) := goodIn_app (goodIn_of _ (by decide +kernel)) ggJ0_charAt_5068e_J1_charAt_3b067
set_option maxRecDepth 20000 in
theorem ggJ0_charAt_5068e_J2_charAt_3b067 : GoodIn wsJ0_charAt_5068e wsJ2_charAt_3b067 := goodIn_r _ [24, 25, 26, 23, 27, 28, 29, 30, 31, 14, 5, 15, 16, 17, 18, 19, 20, 32, 33, 34, 35, 36, 37] (by decide +kernel) (by decide +kernel)
set_option maxRecDepth 20000 in
theorem gJ0_charAt_5068e_J2_charAt_3b067 : GoodIn wsJ0_charAt_5068e (va_wsS RJ0 498 yJ2_charAt_3b067 wsJ2_charAt_3b067) := goodIn_app (goodIn_of _ (by decide +kernel)) ggJ0_charAt_5068e_J2_charAt_3b067
theorem dJ0_charAt_5068e_0 : decode cJ0_charAt_5068e 0 = .ok (.aload_n 0, 1) := by decide +kernel
theorem dJ0_charAt_5068e_1 : decode cJ0_charAt_5068e 1 = .ok (.invokevirtual 492, 3) := by decide +kernel
theorem dJ0_charAt_5068e_4 : decode cJ0_charAt_5068e 4 = .ok (.ifCond .eq 12, 3) := by decide +kernel
theorem dJ0_charAt_5068e_7 : decode cJ0_charAt_5068e 7 = .ok (.aload_n 0, 1) := by decide +kernel
theorem dJ0_charAt_5068e_8 : decode cJ0_charAt_5068e 8 = .ok (.getfield 9, 3) := by decide +kernel
theorem dJ0_charAt_5068e_11 : decode cJ0_charAt_5068e 11 = .ok (.iload_n 1, 1) := by decide +kernel
theorem dJ0_charAt_5068e_12 : decode cJ0_charAt_5068e 12 = .ok (.invokestatic 495, 3) := by decide +kernel
theorem dJ0_charAt_5068e_15 : decode cJ0_charAt_5068e 15 = .ok (.ireturn, 1) := by decide +kernel
theorem dJ0_charAt_5068e_16 : decode cJ0_charAt_5068e 16 = .ok (.aload_n 0, 1) := by decide +kernel
theorem dJ0_charAt_5068e_17 : decode cJ0_charAt_5068e 17 = .ok (.getfield 9, 3) := by decide +kernel
theorem dJ0_charAt_5068e_20 : decode cJ0_charAt_5068e 20 = .ok (.iload_n 1, 1) := by decide +kernel
theorem dJ0_charAt_5068e_21 : decode cJ0_charAt_5068e 21 = .ok (.invokestatic 498, 3) := by decide +kernel
theorem dJ0_charAt_5068e_24 : decode cJ0_charAt_5068e 24 = .ok (.ireturn, 1) := by decide +kernel
theorem dJ0_coder_7d493_0 : decode cJ0_coder_7d493 0 = .ok (.getstatic 38, 3) := by decide +kernel
theorem dJ0_coder_7d493_3 : decode cJ0_coder_7d493 3 = .ok (.ifCond .eq 10, 3) := by decide +kernel
theorem dJ0_coder_7d493_6 : decode cJ0_coder_7d493 6 = .ok (.aload_n 0, 1) := by decide +kernel
theorem dJ0_coder_7d493_7 : decode cJ0_coder_7d493 7 = .ok (.getfield 15, 3) := by decide +kernel
theorem dJ0_coder_7d493_10 : decode cJ0_coder_7d493 10 = .ok (.goto 4, 3) := by decide +kernel
theorem dJ0_coder_7d493_13 : decode cJ0_coder_7d493 13 = .ok (.iconst 1, 1) := by decide +kernel
theorem dJ0_coder_7d493_14 : decode cJ0_coder_7d493 14 = .ok (.ireturn, 1) := by decide +kernel
theorem dJ0_isLatin1_aae02_0 : decode cJ0_isLatin1_aae02 0 = .ok (.getstatic 38, 3) := by decide +kernel
theorem dJ0_isLatin1_aae02_3 : decode cJ0_isLatin1_aae02 3 = .ok (.ifCond .eq 14, 3) := by decide +kernel
theorem dJ0_isLatin1_aae02_6 : decode cJ0_isLatin1_aae02 6 = .ok (.aload_n 0, 1) := by decide +kernel
theorem dJ0_isLatin1_aae02_7 : decode cJ0_isLatin1_aae02 7 = .ok (.getfield 15, 3) := by decide +kernel
theorem dJ0_isLatin1_aae02_10 : decode cJ0_isLatin1_aae02 10 = .ok (.ifCond .ne 7, 3) := by decide +kernel
theorem dJ0_isLatin1_aae02_13 : decode cJ0_isLatin1_aae02 13 = .ok (.iconst 1, 1) := by decide +kernel
theorem dJ0_isLatin1_aae02_14 : decode cJ0_isLatin1_aae02 14 = .ok (.goto 4, 3) := by decide +kernel
theorem dJ0_isLatin1_aae02_17 : decode cJ0_isLatin1_aae02 17 = .ok (.iconst 0, 1) := by decide +kernel
theorem dJ0_isLatin1_aae02_18 : decode cJ0_isLatin1_aae02 18 = .ok (.ireturn, 1) := by decide +kernel
set_option maxRecDepth 20000 in
theorem ggJ0_checkIndex_df160_J3_checkIndex_8e157 : GoodIn wsJ0_checkIndex_df160 wsJ3_checkIndex_8e157 := goodIn_r _ [5] (by decide +kernel) (by decide +kernel)
set_option maxRecDepth 20000 in
theorem gJ0_checkIndex_df160_J3_checkIndex_8e157 : GoodIn wsJ0_checkIndex_df160 (va_wsS RJ0 1059 yJ3_checkIndex_8e157 wsJ3_checkIndex_8e157) := goodIn_app (goodIn_of _ (by decide +kernel)) ggJ0_checkIndex_df160_J3_checkIndex_8e157
theorem dJ0_checkIndex_df160_0 : decode cJ0_checkIndex_df160 0 = .ok (.iload_n 0, 1) := by decide +kernel
theorem dJ0_checkIndex_df160_1 : decode cJ0_checkIndex_df160 1 = .ok (.iload_n 1, 1) := by decide +kernel
theorem dJ0_checkIndex_df160_2 : decode cJ0_checkIndex_df160 2 = .ok (.getstatic 1053, 3) := by decide +kernel
theorem dJ0_checkIndex_df160_5 : decode cJ0_checkIndex_df160 5 = .ok (.invokestatic 1059, 3) := by decide +kernel
theorem dJ0_checkIndex_df160_8 : decode cJ0_checkIndex_df160 8 = .ok (.pop, 1) := by decide +kernel
theorem dJ0_checkIndex_df160_9 : decode cJ0_checkIndex_df160 9 = .ok (.return_, 1) := by decide +kernel
set_option maxRecDepth 20000 in
theorem ggJ1_charAt_3b067_J0_checkIndex_df160 : GoodIn wsJ1_charAt_3b067 wsJ0_checkIndex_df160 := goodIn_r _ [4, 5, 6, 7, 8, 9] (by decide +kernel) (by decide +kernel)
set_option maxRecDepth 20000 in
theorem gJ1_charAt_3b067_J0_checkIndex_df160 : GoodIn wsJ1_charAt_3b067 (va_wsS RJ1 9 yJ0_checkIndex_df160 wsJ0_checkIndex_df160) := goodIn_app (goodIn_of _ (by decide +kernel)) ggJ1_charAt_3b067_J0_checkIndex_df160
theorem dJ1_charAt_3b067_0 : decode cJ1_charAt_3b067 0 = .ok (.iload_n 1, 1) := by decide +kernel
theorem dJ1_charAt_3b067_1 : decode cJ1_charAt_3b067 1 = .ok (.aload_n 0, 1) := by decide +kernel
theorem dJ1_charAt_3b067_2 : decode cJ1_charAt_3b067 2 = .ok (.arraylength, 1) := by decide +kernel
theorem dJ1_charAt_3b067_3 : decode cJ1_charAt_3b067 3 = .ok (.invokestatic 9, 3) := by decide +kernel
theorem dJ1_charAt_3b067_6 : decode cJ1_charAt_3b067 6 = .ok (.aload_n 0, 1) := by decide +kernel
theorem dJ1_charAt_3b067_7 : decode cJ1_charAt_3b067 7 = .ok (.iload_n 1, 1) := by decide +kernel
theorem dJ1_charAt_3b067_8 : decode cJ1_charAt_3b067 8 = .ok (.baload, 1) := by decide +kernel
theorem dJ1_charAt_3b067_9 : decode cJ1_charAt_3b067 9 = .ok (.sipush 255, 3) := by decide +kernel
theorem dJ1_charAt_3b067_12 : decode cJ1_charAt_3b067 12 = .ok (.iand, 1) := by decide +kernel
theorem dJ1_charAt_3b067_13 : decode cJ1_charAt_3b067 13 = .ok (.i2c, 1) := by decide +kernel
theorem dJ1_charAt_3b067_14 : decode cJ1_charAt_3b067 14 = .ok (.ireturn, 1) := by decide +kernel
set_option maxRecDepth 20000 in
theorem ggJ2_getChar_3b067_J2_length_9d52b : GoodIn wsJ2_getChar_3b067 wsJ2_length_9d52b := goodIn_r _ [7] (by decide +kernel) (by decide +kernel)
set_option maxRecDepth 20000 in
theorem gJ2_getChar_3b067_J2_length_9d52b : GoodIn wsJ2_getChar_3b067 (va_wsS RJ2 48 yJ2_length_9d52b wsJ2_length_9d52b) := goodIn_app (goodIn_of _ (by decide +kernel)) ggJ2_getChar_3b067_J2_length_9d52b
theorem dJ2_getChar_3b067_0 : decode cJ2_getChar_3b067 0 = .ok (.getstatic 44, 3) := by decide +kernel
theorem dJ2_getChar_3b067_3 : decode cJ2_getChar_3b067 3 = .ok (.ifCond .ne 25, 3) := by decide +kernel
theorem dJ2_getChar_3b067_6 : decode cJ2_getChar_3b067 6 = .ok (.iload_n 1, 1) := by decide +kernel
theorem dJ2_getChar_3b067_7 : decode cJ2_getChar_3b067 7 = .ok (.ifCond .lt 11, 3) := by decide +kernel
theorem dJ2_getChar_3b067_10 : decode cJ2_getChar_3b067 10 = .ok (.iload_n 1, 1) := by decide +kernel
theorem dJ2_getChar_3b067_11 : decode cJ2_getChar_3b067 11 = .ok (.aload_n 0, 1) := by decide +kernel
theorem dJ2_getChar_3b067_12 : decode cJ2_getChar_3b067 12 = .ok (.invokestatic 48, 3) := by decide +kernel
theorem dJ2_getChar_3b067_15 : decode cJ2_getChar_3b067 15 = .ok (.if_icmp .lt 13, 3) := by decide +kernel
theorem dJ2_getChar_3b067_18 : decode cJ2_getChar_3b067 18 = .ok (.new 52, 3) := by decide +kernel
theorem dJ2_getChar_3b067_21 : decode cJ2_getChar_3b067 21 = .ok (.dup, 1) := by decide +kernel
theorem dJ2_getChar_3b067_22 : decode cJ2_getChar_3b067 22 = .ok (.ldc 54, 2) := by decide +kernel
theorem dJ2_getChar_3b067_24 : decode cJ2_getChar_3b067 24 = .ok (.invokespecial 56, 3) := by decide +kernel
theorem dJ2_getChar_3b067_27 : decode cJ2_getChar_3b067 27 = .ok (.athrow, 1) := by decide +kernel
theorem dJ2_getChar_3b067_28 : decode cJ2_getChar_3b067 28 = .ok (.iload_n 1, 1) := by decide +kernel
theorem dJ2_getChar_3b067_29 : decode cJ2_getChar_3b067 29 = .ok (.iconst 1, 1) := by decide +kernel
theorem dJ2_getChar_3b067_30 : decode cJ2_getChar_3b067 30 = .ok (.ishl, 1) := by decide +kernel
theorem dJ2_getChar_3b067_31 : decode cJ2_getChar_3b067 31 = .ok (.istore_n 1, 1) := by decide +kernel
theorem dJ2_getChar_3b067_32 : decode cJ2_getChar_3b067 32 = .ok (.aload_n 0, 1) := by decide +kernel
theorem dJ2_getChar_3b067_33 : decode cJ2_getChar_3b067 33 = .ok (.iload_n 1, 1) := by decide +kernel
theorem dJ2_getChar_3b067_34 : decode cJ2_getChar_3b067 34 = .ok (.iinc 1 1, 3) := by decide +kernel
theorem dJ2_getChar_3b067_37 : decode cJ2_getChar_3b067 37 = .ok (.baload, 1) := by decide +kernel
theorem dJ2_getChar_3b067_38 : decode cJ2_getChar_3b067 38 = .ok (.sipush 255, 3) := by decide +kernel
theorem dJ2_getChar_3b067_41 : decode cJ2_getChar_3b067 41 = .ok (.iand, 1) := by decide +kernel
theorem dJ2_getChar_3b067_42 : decode cJ2_getChar_3b067 42 = .ok (.getstatic 59, 3) := by decide +kernel
theorem dJ2_getChar_3b067_45 : decode cJ2_getChar_3b067 45 = .ok (.ishl, 1) := by decide +kernel
theorem dJ2_getChar_3b067_46 : decode cJ2_getChar_3b067 46 = .ok (.aload_n 0, 1) := by decide +kernel
theorem dJ2_getChar_3b067_47 : decode cJ2_getChar_3b067 47 = .ok (.iload_n 1, 1) := by decide +kernel
theorem dJ2_getChar_3b067_48 : decode cJ2_getChar_3b067 48 = .ok (.baload, 1) := by decide +kernel
theorem dJ2_getChar_3b067_49 : decode cJ2_getChar_3b067 49 = .ok (.sipush 255, 3) := by decide +kernel
theorem dJ2_getChar_3b067_52 : decode cJ2_getChar_3b067 52 = .ok (.iand, 1) := by decide +kernel
theorem dJ2_getChar_3b067_53 : decode cJ2_getChar_3b067 53 = .ok (.getstatic 63, 3) := by decide +kernel
theorem dJ2_getChar_3b067_56 : decode cJ2_getChar_3b067 56 = .ok (.ishl, 1) := by decide +kernel
theorem dJ2_getChar_3b067_57 : decode cJ2_getChar_3b067 57 = .ok (.ior, 1) := by decide +kernel
theorem dJ2_getChar_3b067_58 : decode cJ2_getChar_3b067 58 = .ok (.i2c, 1) := by decide +kernel
theorem dJ2_getChar_3b067_59 : decode cJ2_getChar_3b067 59 = .ok (.ireturn, 1) := by decide +kernel
theorem dJ2_length_9d52b_0 : decode cJ2_length_9d52b 0 = .ok (.aload_n 0, 1) := by decide +kernel
theorem dJ2_length_9d52b_1 : decode cJ2_length_9d52b 1 = .ok (.arraylength, 1) := by decide +kernel
theorem dJ2_length_9d52b_2 : decode cJ2_length_9d52b 2 = .ok (.iconst 1, 1) := by decide +kernel
theorem dJ2_length_9d52b_3 : decode cJ2_length_9d52b 3 = .ok (.ishr, 1) := by decide +kernel
theorem dJ2_length_9d52b_4 : decode cJ2_length_9d52b 4 = .ok (.ireturn, 1) := by decide +kernel
set_option maxRecDepth 20000 in
theorem ggJ2_charAt_3b067_J2_checkIndex_2214a : GoodIn wsJ2_charAt_3b067 wsJ2_checkIndex_2214a := goodIn_r _ [4, 5, 6, 3, 7, 8, 9, 10, 11, 12, 13, 14, 15, 16] (by decide +kernel) (by decide +kernel)
set_option maxRecDepth 20000 in
theorem gJ2_charAt_3b067_J2_checkIndex_2214a : GoodIn wsJ2_charAt_3b067 (va_wsS RJ2 67 yJ2_checkIndex_2214a wsJ2_checkIndex_2214a) := goodIn_app (goodIn_of _ (by decide +kernel)) ggJ2_charAt_3b067_J2_checkIndex_2214a
set_option maxRecDepth 20000 in
theorem ggJ2_charAt_3b067_J2_getChar_3b067 : GoodIn wsJ2_charAt_3b067 wsJ2_getChar_3b067 := goodIn_r _ [19, 20, 21, 22, 5, 6, 3, 7] (by decide +kernel) (by decide +kernel)
set_option maxRecDepth 20000 in
theorem gJ2_charAt_3b067_J2_getChar_3b067 : GoodIn wsJ2_charAt_3b067 (va_wsS RJ2 71 yJ2_getChar_3b067 wsJ2_getChar_3b067) := goodIn_app (goodIn_of _ (by decide +kernel)) ggJ2_charAt_3b067_J2_getChar_3b067
theorem dJ2_charAt_3b067_0 : decode cJ2_charAt_3b067 0 = .ok (.iload_n 1, 1) := by decide +kernel
theorem dJ2_charAt_3b067_1 : decode cJ2_charAt_3b067 1 = .ok (.aload_n 0, 1) := by decide +kernel
theorem dJ2_charAt_3b067_2 : decode cJ2_charAt_3b067 2 = .ok (.invokestatic 67, 3) := by decide +kernel
theorem dJ2_charAt_3b067_5 : decode cJ2_charAt_3b067 5 = .ok (.aload_n 0, 1) := by decide +kernel
theorem dJ2_charAt_3b067_6 : decode cJ2_charAt_3b067 6 = .ok (.iload_n 1, 1) := by decide +kernel
theorem dJ2_charAt_3b067_7 : decode cJ2_charAt_3b067 7 = .ok (.invokestatic 71, 3) := by decide +kernel
theorem dJ2_charAt_3b067_10 : decode cJ2_charAt_3b067 10 = .ok (.ireturn, 1) := by decide +kernel
set_option maxRecDepth 20000 in
theorem ggJ2_checkIndex_2214a_J2_length_9d52b : GoodIn wsJ2_checkIndex_2214a wsJ2_length_9d52b := goodIn_r _ [4] (by decide +kernel) (by decide +kernel)
set_option maxRecDepth 20000 in
theorem gJ2_checkIndex_2214a_J2_length_9d52b : GoodIn wsJ2_checkIndex_2214a (va_wsS RJ2 48 yJ2_length_9d52b wsJ2_length_9d52b) := goodIn_app (goodIn_of _ (by decide +kernel)) ggJ2_checkIndex_2214a_J2_length_9d52b
set_option maxRecDepth 20000 in
theorem ggJ2_checkIndex_2214a_J0_checkIndex_df160 : GoodIn wsJ2_checkIndex_2214a wsJ0_checkIndex_df160 := goodIn_r _ [8, 9, 10, 11, 12, 13] (by decide +kernel) (by decide +kernel)
set_option maxRecDepth 20000 in
theorem gJ2_checkIndex_2214a_J0_checkIndex_df160 : GoodIn wsJ2_checkIndex_2214a (va_wsS RJ2 414 yJ0_checkIndex_df160 wsJ0_checkIndex_df160) := goodIn_app (goodIn_of _ (by decide +kernel)) ggJ2_checkIndex_2214a_J0_checkIndex_df160
theorem dJ2_checkIndex_2214a_0 : decode cJ2_checkIndex_2214a 0 = .ok (.iload_n 0, 1) := by decide +kernel
theorem dJ2_checkIndex_2214a_1 : decode cJ2_checkIndex_2214a 1 = .ok (.aload_n 1, 1) := by decide +kernel
theorem dJ2_checkIndex_2214a_2 : decode cJ2_checkIndex_2214a 2 = .ok (.invokestatic 48, 3) := by decide +kernel
theorem dJ2_checkIndex_2214a_5 : decode cJ2_checkIndex_2214a 5 = .ok (.invokestatic 414, 3) := by decide +kernel
theorem dJ2_checkIndex_2214a_8 : decode cJ2_checkIndex_2214a 8 = .ok (.return_, 1) := by decide +kernel
theorem dJ3_checkIndex_8e157_0 : decode cJ3_checkIndex_8e157 0 = .ok (.iload_n 0, 1) := by decide +kernel
theorem dJ3_checkIndex_8e157_1 : decode cJ3_checkIndex_8e157 1 = .ok (.ifCond .lt 8, 3) := by decide +kernel
theorem dJ3_checkIndex_8e157_4 : decode cJ3_checkIndex_8e157 4 = .ok (.iload_n 0, 1) := by decide +kernel
theorem dJ3_checkIndex_8e157_5 : decode cJ3_checkIndex_8e157 5 = .ok (.iload_n 1, 1) := by decide +kernel
theorem dJ3_checkIndex_8e157_6 : decode cJ3_checkIndex_8e157 6 = .ok (.if_icmp .lt 10, 3) := by decide +kernel
theorem dJ3_checkIndex_8e157_9 : decode cJ3_checkIndex_8e157 9 = .ok (.aload_n 2, 1) := by decide +kernel
theorem dJ3_checkIndex_8e157_10 : decode cJ3_checkIndex_8e157 10 = .ok (.iload_n 0, 1) := by decide +kernel
theorem dJ3_checkIndex_8e157_11 : decode cJ3_checkIndex_8e157 11 = .ok (.iload_n 1, 1) := by decide +kernel
theorem dJ3_checkIndex_8e157_12 : decode cJ3_checkIndex_8e157 12 = .ok (.invokestatic 95, 3) := by decide +kernel
theorem dJ3_checkIndex_8e157_15 : decode cJ3_checkIndex_8e157 15 = .ok (.athrow, 1) := by decide +kernel
theorem dJ3_checkIndex_8e157_16 : decode cJ3_checkIndex_8e157 16 = .ok (.iload_n 0, 1) := by decide +kernel
theorem dJ3_checkIndex_8e157_17 : decode cJ3_checkIndex_8e157 17 = .ok (.ireturn, 1) := by decide +kernel
set_option maxRecDepth 20000 in
theorem ggL_sound_X8_sound : GoodIn wsL_sound wsX8_sound := goodIn_ca (goodIn_ca (goodIn_r _ [7, 8, 9, 10, 6, 11, 12, 13, 14, 15, 16, 17, 18, 19, 20, 21, 22, 23, 24, 25, 26, 27, 28, 29, 30, 31, 32, 33, 34, 35, 36, 37, 38, 39, 40, 41, 42, 43, 44, 45, 46, 47, 48, 49, 50] (by decide +kernel) (by decide +kernel)) (goodIn_sub (fun _ h => List.mem_cons_of_mem _ (List.mem_append_left _ (List.mem_append_right _ h))) (by decide +kernel))) (goodIn_sub (fun _ h => List.mem_cons_of_mem _ (List.mem_append_right _ h)) (by decide +kernel))
set_option maxRecDepth 20000 in
theorem gL_sound_X8_sound : GoodIn wsL_sound (wsV RL 7 RX8 yX8_sound wsX8_sound) := goodIn_app (goodIn_of _ (by decide +kernel)) ggL_sound_X8_sound
theorem dL_sound_0 : decode cL_sound 0 = .ok (.aload 4, 2) := by decide +kernel
theorem dL_sound_2 : decode cL_sound 2 = .ok (.iconst 0, 1) := by decide +kernel
theorem dL_sound_3 : decode cL_sound 3 = .ok (.aload_n 0, 1) := by decide +kernel
theorem dL_sound_4 : decode cL_sound 4 = .ok (.iload_n 1, 1) := by decide +kernel
theorem dL_sound_5 : decode cL_sound 5 = .ok (.iload_n 2, 1) := by decide +kernel
theorem dL_sound_6 : decode cL_sound 6 = .ok (.iload_n 3, 1) := by decide +kernel
theorem dL_sound_7 : decode cL_sound 7 = .ok (.invokevirtual 7, 3) := by decide +kernel
theorem dL_sound_10 : decode cL_sound 10 = .ok (.i2l, 1) := by decide +kernel
theorem dL_sound_11 : decode cL_sound 11 = .ok (.lastore, 1) := by decide +kernel
theorem dL_sound_12 : decode cL_sound 12 = .ok (.goto 11, 3) := by decide +kernel
theorem dL_sound_15 : decode cL_sound 15 = .ok (.astore 5, 2) := by decide +kernel
theorem dL_sound_17 : decode cL_sound 17 = .ok (.iconst 1, 1) := by decide +kernel
theorem dL_sound_18 : decode cL_sound 18 = .ok (.ireturn, 1) := by decide +kernel
theorem dL_sound_19 : decode cL_sound 19 = .ok (.astore 5, 2) := by decide +kernel
theorem dL_sound_21 : decode cL_sound 21 = .ok (.iconst 2, 1) := by decide +kernel
theorem dL_sound_22 : decode cL_sound 22 = .ok (.ireturn, 1) := by decide +kernel
theorem dL_sound_23 : decode cL_sound 23 = .ok (.iconst 0, 1) := by decide +kernel
theorem dL_sound_24 : decode cL_sound 24 = .ok (.ireturn, 1) := by decide +kernel
set_option maxRecDepth 20000 in
theorem ggL_soundRow_X8_soundRow : GoodIn wsL_soundRow wsX8_soundRow := goodIn_ca (goodIn_ca (goodIn_r _ [7, 8, 9, 10, 11, 12, 13, 14, 15, 16, 6, 17, 18, 19, 20, 21, 22, 23, 24, 25, 26, 27, 28, 29, 30, 31, 32, 33, 34, 35, 36, 37, 38, 39, 40, 41, 42, 43, 44, 45] (by decide +kernel) (by decide +kernel)) (goodIn_sub (fun _ h => List.mem_cons_of_mem _ (List.mem_append_left _ (List.mem_append_right _ h))) (by decide +kernel))) (goodIn_sub (fun _ h => List.mem_cons_of_mem _ (List.mem_append_right _ h)) (by decide +kernel))
set_option maxRecDepth 20000 in
theorem gL_soundRow_X8_soundRow : GoodIn wsL_soundRow (wsV RL 17 RX8 yX8_soundRow wsX8_soundRow) := goodIn_app (goodIn_of _ (by decide +kernel)) ggL_soundRow_X8_soundRow
theorem dL_soundRow_0 : decode cL_soundRow 0 = .ok (.aload 4, 2) := by decide +kernel
theorem dL_soundRow_2 : decode cL_soundRow 2 = .ok (.iconst 0, 1) := by decide +kernel
theorem dL_soundRow_3 : decode cL_soundRow 3 = .ok (.aload_n 0, 1) := by decide +kernel
theorem dL_soundRow_4 : decode cL_soundRow 4 = .ok (.iload_n 1, 1) := by decide +kernel
theorem dL_soundRow_5 : decode cL_soundRow 5 = .ok (.iload_n 2, 1) := by decide +kernel
theorem dL_soundRow_6 : decode cL_soundRow 6 = .ok (.iload_n 3, 1) := by decide +kernel
theorem dL_soundRow_7 : decode cL_soundRow 7 = .ok (.invokevirtual 17, 3) := by decide +kernel
theorem dL_soundRow_10 : decode cL_soundRow 10 = .ok (.i2l, 1) := by decide +kernel
theorem dL_soundRow_11 : decode cL_soundRow 11 = .ok (.lastore, 1) := by decide +kernel
theorem dL_soundRow_12 : decode cL_soundRow 12 = .ok (.goto 11, 3) := by decide +kernel
theorem dL_soundRow_15 : decode cL_soundRow 15 = .ok (.astore 5, 2) := by decide +kernel
theorem dL_soundRow_17 : decode cL_soundRow 17 = .ok (.iconst 1, 1) := by decide +kernel
theorem dL_soundRow_18 : decode cL_soundRow 18 = .ok (.ireturn, 1) := by decide +kernel
theorem dL_soundRow_19 : decode cL_soundRow 19 = .ok (.astore 5, 2) := by decide +kernel
theorem dL_soundRow_21 : decode cL_soundRow 21 = .ok (.iconst 2, 1) := by decide +kernel
theorem dL_soundRow_22 : decode cL_soundRow 22 = .ok (.ireturn, 1) := by decide +kernel
theorem dL_soundRow_23 : decode cL_soundRow 23 = .ok (.iconst 0, 1) := by decide +kernel
theorem dL_soundRow_24 : decode cL_soundRow 24 = .ok (.ireturn, 1) := by decide +kernel
set_option maxRecDepth 20000 in
theorem ggL_crack_X8_crack : GoodIn wsL_crack wsX8_crack := goodIn_ca (goodIn_r _ [6, 7, 8, 9, 5, 10, 11, 12, 13, 14, 15, 16, 17, 18, 19, 20, 21, 22, 23, 24, 25, 26, 27, 28, 29, 30, 31, 32, 33] (by decide +kernel) (by decide +kernel)) (goodIn_sub (fun _ h => List.mem_cons_of_mem _ (List.mem_append_right _ h)) (by decide +kernel))
set_option maxRecDepth 20000 in
theorem gL_crack_X8_crack : GoodIn wsL_crack (wsV RL 20 RX8 yX8_crack wsX8_crack) := goodIn_app (goodIn_of _ (by decide +kernel)) ggL_crack_X8_crack
theorem dL_crack_0 : decode cL_crack 0 = .ok (.aload_n 3, 1) := by decide +kernel
theorem dL_crack_1 : decode cL_crack 1 = .ok (.iconst 0, 1) := by decide +kernel
theorem dL_crack_2 : decode cL_crack 2 = .ok (.aload_n 0, 1) := by decide +kernel
theorem dL_crack_3 : decode cL_crack 3 = .ok (.iload_n 1, 1) := by decide +kernel
theorem dL_crack_4 : decode cL_crack 4 = .ok (.iload_n 2, 1) := by decide +kernel
theorem dL_crack_5 : decode cL_crack 5 = .ok (.invokevirtual 20, 3) := by decide +kernel
theorem dL_crack_8 : decode cL_crack 8 = .ok (.ifCond .eq 7, 3) := by decide +kernel
theorem dL_crack_11 : decode cL_crack 11 = .ok (.lconst 1, 1) := by decide +kernel
theorem dL_crack_12 : decode cL_crack 12 = .ok (.goto 4, 3) := by decide +kernel
theorem dL_crack_15 : decode cL_crack 15 = .ok (.lconst 0, 1) := by decide +kernel
theorem dL_crack_16 : decode cL_crack 16 = .ok (.lastore, 1) := by decide +kernel
theorem dL_crack_17 : decode cL_crack 17 = .ok (.goto 7, 3) := by decide +kernel
theorem dL_crack_20 : decode cL_crack 20 = .ok (.astore 4, 2) := by decide +kernel
theorem dL_crack_22 : decode cL_crack 22 = .ok (.iconst 1, 1) := by decide +kernel
theorem dL_crack_23 : decode cL_crack 23 = .ok (.ireturn, 1) := by decide +kernel
theorem dL_crack_24 : decode cL_crack 24 = .ok (.iconst 0, 1) := by decide +kernel
theorem dL_crack_25 : decode cL_crack 25 = .ok (.ireturn, 1) := by decide +kernel
set_option maxRecDepth 20000 in
theorem ggL_hour_X8_hour : GoodIn wsL_hour wsX8_hour := goodIn_ca (goodIn_r _ [6, 7, 8, 9, 10, 5, 11, 12, 13, 14, 15, 16, 17, 18, 19, 20, 21, 22, 23, 24, 25, 26, 27, 28, 29, 30, 31, 32, 33, 34, 35, 36, 37, 38, 39, 40, 41, 42, 43, 44, 45, 46, 47, 48, 49, 50, 51, 52, 53, 54, 55, 56, 57, 58, 59] (by decide +kernel) (by decide +kernel)) (goodIn_sub (fun _ h => List.mem_cons_of_mem _ (List.mem_append_right _ h)) (by decide +kernel))
set_option maxRecDepth 20000 in
theorem gL_hour_X8_hour : GoodIn wsL_hour (wsV RL 24 RX8 yX8_hour wsX8_hour) := goodIn_app (goodIn_of _ (by decide +kernel)) ggL_hour_X8_hour
theorem dL_hour_0 : decode cL_hour 0 = .ok (.aload_n 2, 1) := by decide +kernel
theorem dL_hour_1 : decode cL_hour 1 = .ok (.iconst 0, 1) := by decide +kernel
theorem dL_hour_2 : decode cL_hour 2 = .ok (.aload_n 0, 1) := by decide +kernel
theorem dL_hour_3 : decode cL_hour 3 = .ok (.iload_n 1, 1) := by decide +kernel
theorem dL_hour_4 : decode cL_hour 4 = .ok (.invokevirtual 24, 3) := by decide +kernel
theorem dL_hour_7 : decode cL_hour 7 = .ok (.i2l, 1) := by decide +kernel
theorem dL_hour_8 : decode cL_hour 8 = .ok (.lastore, 1) := by decide +kernel
theorem dL_hour_9 : decode cL_hour 9 = .ok (.goto 6, 3) := by decide +kernel
theorem dL_hour_12 : decode cL_hour 12 = .ok (.astore_n 3, 1) := by decide +kernel
theorem dL_hour_13 : decode cL_hour 13 = .ok (.iconst 1, 1) := by decide +kernel
theorem dL_hour_14 : decode cL_hour 14 = .ok (.ireturn, 1) := by decide +kernel
theorem dL_hour_15 : decode cL_hour 15 = .ok (.iconst 0, 1) := by decide +kernel
theorem dL_hour_16 : decode cL_hour 16 = .ok (.ireturn, 1) := by decide +kernel
set_option maxRecDepth 20000 in
theorem ggL_ice_X8_ice : GoodIn wsL_ice wsX8_ice := goodIn_ca (goodIn_ca (goodIn_r _ [7, 8, 9, 10, 11, 12, 13, 6, 14, 15, 16, 17, 18, 19, 20, 21, 22, 23, 24, 25, 26, 27, 28, 29, 30, 31, 32, 33, 34, 35, 36, 37, 38, 39, 40, 41, 42, 43, 44, 45, 46, 47, 48, 49, 50, 51, 52, 53] (by decide +kernel) (by decide +kernel)) (goodIn_sub (fun _ h => List.mem_cons_of_mem _ (List.mem_append_left _ (List.mem_append_right _ h))) (by decide +kernel))) (goodIn_sub (fun _ h => List.mem_cons_of_mem _ (List.mem_append_right _ h)) (by decide +kernel))
set_option maxRecDepth 20000 in
theorem gL_ice_X8_ice : GoodIn wsL_ice (wsV RL 28 RX8 yX8_ice wsX8_ice) := goodIn_app (goodIn_of _ (by decide +kernel)) ggL_ice_X8_ice
theorem dL_ice_0 : decode cL_ice 0 = .ok (.aload_n 3, 1) := by decide +kernel
theorem dL_ice_1 : decode cL_ice 1 = .ok (.iconst 0, 1) := by decide +kernel
theorem dL_ice_2 : decode cL_ice 2 = .ok (.aload_n 0, 1) := by decide +kernel
theorem dL_ice_3 : decode cL_ice 3 = .ok (.iload_n 1, 1) := by decide +kernel
theorem dL_ice_4 : decode cL_ice 4 = .ok (.iload_n 2, 1) := by decide +kernel
theorem dL_ice_5 : decode cL_ice 5 = .ok (.invokevirtual 28, 3) := by decide +kernel
theorem dL_ice_8 : decode cL_ice 8 = .ok (.i2l, 1) := by decide +kernel
theorem dL_ice_9 : decode cL_ice 9 = .ok (.lastore, 1) := by decide +kernel
theorem dL_ice_10 : decode cL_ice 10 = .ok (.goto 11, 3) := by decide +kernel
theorem dL_ice_13 : decode cL_ice 13 = .ok (.astore 4, 2) := by decide +kernel
theorem dL_ice_15 : decode cL_ice 15 = .ok (.iconst 1, 1) := by decide +kernel
theorem dL_ice_16 : decode cL_ice 16 = .ok (.ireturn, 1) := by decide +kernel
theorem dL_ice_17 : decode cL_ice 17 = .ok (.astore 4, 2) := by decide +kernel
theorem dL_ice_19 : decode cL_ice 19 = .ok (.iconst 2, 1) := by decide +kernel
theorem dL_ice_20 : decode cL_ice 20 = .ok (.ireturn, 1) := by decide +kernel
theorem dL_ice_21 : decode cL_ice 21 = .ok (.iconst 0, 1) := by decide +kernel
theorem dL_ice_22 : decode cL_ice 22 = .ok (.ireturn, 1) := by decide +kernel
set_option maxRecDepth 20000 in
theorem ggL_lasts_X8_lasts : GoodIn wsL_lasts wsX8_lasts := goodIn_ca (goodIn_ca (goodIn_r _ [7, 8, 9, 10, 11, 6, 12, 13, 14, 15, 16, 17, 18, 19, 20, 21, 22, 23, 24, 25, 26, 27, 28, 29, 30, 31, 32, 33, 34, 35, 36, 37, 38, 39, 40, 41, 42, 43, 44, 45, 46, 47, 48, 49, 50, 51] (by decide +kernel) (by decide +kernel)) (goodIn_sub (fun _ h => List.mem_cons_of_mem _ (List.mem_append_left _ (List.mem_append_right _ h))) (by decide +kernel))) (goodIn_sub (fun _ h => List.mem_cons_of_mem _ (List.mem_append_right _ h)) (by decide +kernel))
set_option maxRecDepth 20000 in
theorem gL_lasts_X8_lasts : GoodIn wsL_lasts (wsV RL 32 RX8 yX8_lasts wsX8_lasts) := goodIn_app (goodIn_of _ (by decide +kernel)) ggL_lasts_X8_lasts
theorem dL_lasts_0 : decode cL_lasts 0 = .ok (.aload_n 3, 1) := by decide +kernel
theorem dL_lasts_1 : decode cL_lasts 1 = .ok (.iconst 0, 1) := by decide +kernel
theorem dL_lasts_2 : decode cL_lasts 2 = .ok (.aload_n 0, 1) := by decide +kernel
theorem dL_lasts_3 : decode cL_lasts 3 = .ok (.iload_n 1, 1) := by decide +kernel
theorem dL_lasts_4 : decode cL_lasts 4 = .ok (.iload_n 2, 1) := by decide +kernel
theorem dL_lasts_5 : decode cL_lasts 5 = .ok (.invokevirtual 32, 3) := by decide +kernel
theorem dL_lasts_8 : decode cL_lasts 8 = .ok (.i2l, 1) := by decide +kernel
theorem dL_lasts_9 : decode cL_lasts 9 = .ok (.lastore, 1) := by decide +kernel
theorem dL_lasts_10 : decode cL_lasts 10 = .ok (.goto 11, 3) := by decide +kernel
theorem dL_lasts_13 : decode cL_lasts 13 = .ok (.astore 4, 2) := by decide +kernel
theorem dL_lasts_15 : decode cL_lasts 15 = .ok (.iconst 1, 1) := by decide +kernel
theorem dL_lasts_16 : decode cL_lasts 16 = .ok (.ireturn, 1) := by decide +kernel
theorem dL_lasts_17 : decode cL_lasts 17 = .ok (.astore 4, 2) := by decide +kernel
theorem dL_lasts_19 : decode cL_lasts 19 = .ok (.iconst 2, 1) := by decide +kernel
theorem dL_lasts_20 : decode cL_lasts 20 = .ok (.ireturn, 1) := by decide +kernel
theorem dL_lasts_21 : decode cL_lasts 21 = .ok (.iconst 0, 1) := by decide +kernel
theorem dL_lasts_22 : decode cL_lasts 22 = .ok (.ireturn, 1) := by decide +kernel
set_option maxRecDepth 20000 in
theorem ggL_wind_X8_wind : GoodIn wsL_wind wsX8_wind := goodIn_ca (goodIn_r _ [6, 7, 8, 9, 5, 10, 11, 12, 13, 14, 15, 16, 17, 18, 19, 20, 21, 22, 23, 24] (by decide +kernel) (by decide +kernel)) (goodIn_sub (fun _ h => List.mem_cons_of_mem _ (List.mem_append_right _ h)) (by decide +kernel))
set_option maxRecDepth 20000 in
theorem gL_wind_X8_wind : GoodIn wsL_wind (wsV RL 35 RX8 yX8_wind wsX8_wind) := goodIn_app (goodIn_of _ (by decide +kernel)) ggL_wind_X8_wind
theorem dL_wind_0 : decode cL_wind 0 = .ok (.aload_n 2, 1) := by decide +kernel
theorem dL_wind_1 : decode cL_wind 1 = .ok (.iconst 0, 1) := by decide +kernel
theorem dL_wind_2 : decode cL_wind 2 = .ok (.aload_n 0, 1) := by decide +kernel
theorem dL_wind_3 : decode cL_wind 3 = .ok (.iload_n 1, 1) := by decide +kernel
theorem dL_wind_4 : decode cL_wind 4 = .ok (.invokevirtual 35, 3) := by decide +kernel
theorem dL_wind_7 : decode cL_wind 7 = .ok (.i2l, 1) := by decide +kernel
theorem dL_wind_8 : decode cL_wind 8 = .ok (.lastore, 1) := by decide +kernel
theorem dL_wind_9 : decode cL_wind 9 = .ok (.goto 6, 3) := by decide +kernel
theorem dL_wind_12 : decode cL_wind 12 = .ok (.astore_n 3, 1) := by decide +kernel
theorem dL_wind_13 : decode cL_wind 13 = .ok (.iconst 1, 1) := by decide +kernel
theorem dL_wind_14 : decode cL_wind 14 = .ok (.ireturn, 1) := by decide +kernel
theorem dL_wind_15 : decode cL_wind 15 = .ok (.iconst 0, 1) := by decide +kernel
theorem dL_wind_16 : decode cL_wind 16 = .ok (.ireturn, 1) := by decide +kernel
set_option maxRecDepth 20000 in
theorem ggL_move_X8_move : GoodIn wsL_move wsX8_move := goodIn_ca (goodIn_r _ [6, 7, 8, 9, 10, 11, 12, 13, 14, 15, 16, 17, 18, 19, 20, 21, 22, 23, 24, 5, 25, 26, 27, 28, 29, 30, 31, 32, 33, 34, 35, 36, 37, 38, 39, 40, 41, 42, 43, 44, 45, 46, 47, 48, 49, 50, 51, 52, 53, 54, 55, 56, 57, 58, 59, 60, 61, 62, 63, 64, 65, 66, 67, 68, 69, 70, 71, 72, 73] (by decide +kernel) (by decide +kernel)) (goodIn_sub (fun _ h => List.mem_cons_of_mem _ (List.mem_append_right _ h)) (by decide +kernel))
set_option maxRecDepth 20000 in
theorem gL_move_X8_move : GoodIn wsL_move (wsV RL 38 RX8 yX8_move wsX8_move) := goodIn_app (goodIn_of _ (by decide +kernel)) ggL_move_X8_move
theorem dL_move_0 : decode cL_move 0 = .ok (.aload_n 2, 1) := by decide +kernel
theorem dL_move_1 : decode cL_move 1 = .ok (.iconst 0, 1) := by decide +kernel
theorem dL_move_2 : decode cL_move 2 = .ok (.aload_n 0, 1) := by decide +kernel
theorem dL_move_3 : decode cL_move 3 = .ok (.iload_n 1, 1) := by decide +kernel
theorem dL_move_4 : decode cL_move 4 = .ok (.invokevirtual 38, 3) := by decide +kernel
theorem dL_move_7 : decode cL_move 7 = .ok (.i2l, 1) := by decide +kernel
theorem dL_move_8 : decode cL_move 8 = .ok (.lastore, 1) := by decide +kernel
theorem dL_move_9 : decode cL_move 9 = .ok (.goto 6, 3) := by decide +kernel
theorem dL_move_12 : decode cL_move 12 = .ok (.astore_n 3, 1) := by decide +kernel
theorem dL_move_13 : decode cL_move 13 = .ok (.iconst 1, 1) := by decide +kernel
theorem dL_move_14 : decode cL_move 14 = .ok (.ireturn, 1) := by decide +kernel
theorem dL_move_15 : decode cL_move 15 = .ok (.iconst 0, 1) := by decide +kernel
theorem dL_move_16 : decode cL_move 16 = .ok (.ireturn, 1) := by decide +kernel
set_option maxRecDepth 20000 in
theorem ggL_mark_X8_mark : GoodIn wsL_mark wsX8_mark := goodIn_ca (goodIn_r _ [6, 7, 8, 9, 10, 11, 12, 13, 14, 15, 16, 17, 18, 19, 20] (by decide +kernel) (by decide +kernel)) (goodIn_sub (fun _ h => List.mem_cons_of_mem _ (List.mem_append_right _ h)) (by decide +kernel))
set_option maxRecDepth 20000 in
theorem gL_mark_X8_mark : GoodIn wsL_mark (wsV RL 41 RX8 yX8_mark wsX8_mark) := goodIn_app (goodIn_of _ (by decide +kernel)) ggL_mark_X8_mark
theorem dL_mark_0 : decode cL_mark 0 = .ok (.aload_n 2, 1) := by decide +kernel
theorem dL_mark_1 : decode cL_mark 1 = .ok (.iconst 0, 1) := by decide +kernel
theorem dL_mark_2 : decode cL_mark 2 = .ok (.aload_n 0, 1) := by decide +kernel
theorem dL_mark_3 : decode cL_mark 3 = .ok (.iload_n 1, 1) := by decide +kernel
theorem dL_mark_4 : decode cL_mark 4 = .ok (.invokevirtual 41, 3) := by decide +kernel
theorem dL_mark_7 : decode cL_mark 7 = .ok (.i2l, 1) := by decide +kernel
theorem dL_mark_8 : decode cL_mark 8 = .ok (.lastore, 1) := by decide +kernel
theorem dL_mark_9 : decode cL_mark 9 = .ok (.goto 6, 3) := by decide +kernel
theorem dL_mark_12 : decode cL_mark 12 = .ok (.astore_n 3, 1) := by decide +kernel
theorem dL_mark_13 : decode cL_mark 13 = .ok (.iconst 1, 1) := by decide +kernel
theorem dL_mark_14 : decode cL_mark 14 = .ok (.ireturn, 1) := by decide +kernel
theorem dL_mark_15 : decode cL_mark 15 = .ok (.iconst 0, 1) := by decide +kernel
theorem dL_mark_16 : decode cL_mark 16 = .ok (.ireturn, 1) := by decide +kernel
set_option maxRecDepth 20000 in
theorem ggL_rule_X8_rule : GoodIn wsL_rule wsX8_rule := goodIn_ca (goodIn_r _ [6, 7, 8, 9, 10, 11, 12, 13, 14, 15, 16, 17, 18, 19, 20, 21, 22, 23, 24, 25, 26, 27, 28, 29, 30, 31, 32, 33, 34, 35, 36, 37, 38, 39, 40, 41, 42, 43, 44, 45, 46, 47, 48, 49, 50, 51, 52, 53, 54, 55, 56, 57, 58, 59, 60, 61, 62, 63, 64, 65, 66, 67, 68, 69, 70, 71, 72, 73, 74, 75, 76, 77, 78, 79, 80, 81, 82, 83, 84, 85, 86, 87, 88, 89, 90, 91, 92, 93, 94, 95, 96, 97, 98, 99, 100, 101, 102, 103, 104, 105, 106, 107, 108, 109, 110, 111, 112, 113, 114, 115, 116, 117, 118, 119, 120, 121, 122, 123, 124, 125, 126, 127, 128, 129, 130, 131, 132, 133, 134, 135, 136, 137, 138, 139, 140, 141, 142, 143, 144, 145, 146, 147, 148, 149, 150, 151, 152, 153, 154, 155, 156, 157, 158, 159, 160, 161, 162, 163, 164, 165, 166, 167, 168, 169, 170, 171] (by decide +kernel) (by decide +kernel)) (goodIn_sub (fun _ h => List.mem_cons_of_mem _ (List.mem_append_right _ h)) (by decide +kernel))
set_option maxRecDepth 20000 in
theorem gL_rule_X8_rule : GoodIn wsL_rule (wsV RL 44 RX8 yX8_rule wsX8_rule) := goodIn_app (goodIn_of _ (by decide +kernel)) ggL_rule_X8_rule
theorem dL_rule_0 : decode cL_rule 0 = .ok (.aload_n 2, 1) := by decide +kernel
theorem dL_rule_1 : decode cL_rule 1 = .ok (.iconst 0, 1) := by decide +kernel
theorem dL_rule_2 : decode cL_rule 2 = .ok (.aload_n 0, 1) := by decide +kernel
theorem dL_rule_3 : decode cL_rule 3 = .ok (.iload_n 1, 1) := by decide +kernel
theorem dL_rule_4 : decode cL_rule 4 = .ok (.invokevirtual 44, 3) := by decide +kernel
theorem dL_rule_7 : decode cL_rule 7 = .ok (.i2l, 1) := by decide +kernel
theorem dL_rule_8 : decode cL_rule 8 = .ok (.lastore, 1) := by decide +kernel
theorem dL_rule_9 : decode cL_rule 9 = .ok (.goto 6, 3) := by decide +kernel
theorem dL_rule_12 : decode cL_rule 12 = .ok (.astore_n 3, 1) := by decide +kernel
theorem dL_rule_13 : decode cL_rule 13 = .ok (.iconst 1, 1) := by decide +kernel
theorem dL_rule_14 : decode cL_rule 14 = .ok (.ireturn, 1) := by decide +kernel
theorem dL_rule_15 : decode cL_rule 15 = .ok (.iconst 0, 1) := by decide +kernel
theorem dL_rule_16 : decode cL_rule 16 = .ok (.ireturn, 1) := by decide +kernel
set_option maxRecDepth 20000 in
theorem ggL_boat_X8_boat : GoodIn wsL_boat wsX8_boat := goodIn_ca (goodIn_r _ [6, 7, 8, 9, 10, 11, 12, 13, 14, 15, 16, 17, 18, 19, 20, 21, 22] (by decide +kernel) (by decide +kernel)) (goodIn_sub (fun _ h => List.mem_cons_of_mem _ (List.mem_append_right _ h)) (by decide +kernel))
set_option maxRecDepth 20000 in
theorem gL_boat_X8_boat : GoodIn wsL_boat (wsV RL 47 RX8 yX8_boat wsX8_boat) := goodIn_app (goodIn_of _ (by decide +kernel)) ggL_boat_X8_boat
theorem dL_boat_0 : decode cL_boat 0 = .ok (.aload_n 1, 1) := by decide +kernel
theorem dL_boat_1 : decode cL_boat 1 = .ok (.iconst 0, 1) := by decide +kernel
theorem dL_boat_2 : decode cL_boat 2 = .ok (.aload_n 0, 1) := by decide +kernel
theorem dL_boat_3 : decode cL_boat 3 = .ok (.invokevirtual 47, 3) := by decide +kernel
theorem dL_boat_6 : decode cL_boat 6 = .ok (.i2l, 1) := by decide +kernel
theorem dL_boat_7 : decode cL_boat 7 = .ok (.lastore, 1) := by decide +kernel
theorem dL_boat_8 : decode cL_boat 8 = .ok (.goto 6, 3) := by decide +kernel
theorem dL_boat_11 : decode cL_boat 11 = .ok (.astore_n 2, 1) := by decide +kernel
theorem dL_boat_12 : decode cL_boat 12 = .ok (.iconst 1, 1) := by decide +kernel
theorem dL_boat_13 : decode cL_boat 13 = .ok (.ireturn, 1) := by decide +kernel
theorem dL_boat_14 : decode cL_boat 14 = .ok (.iconst 0, 1) := by decide +kernel
theorem dL_boat_15 : decode cL_boat 15 = .ok (.ireturn, 1) := by decide +kernel
set_option maxRecDepth 20000 in
theorem ggL_place_X8_place : GoodIn wsL_place wsX8_place := goodIn_ca (goodIn_ca (goodIn_r _ [7, 8, 9, 10, 11, 12, 6, 13, 14, 15, 16, 17, 18, 19, 20, 21, 22, 23, 24, 25, 26, 27, 28, 29, 30, 31, 32, 33, 34, 35, 36, 37, 38, 39, 40, 41, 42, 43, 44, 45, 46, 47, 48, 49, 50, 51, 52, 53, 54, 55] (by decide +kernel) (by decide +kernel)) (goodIn_sub (fun _ h => List.mem_cons_of_mem _ (List.mem_append_left _ (List.mem_append_right _ h))) (by decide +kernel))) (goodIn_sub (fun _ h => List.mem_cons_of_mem _ (List.mem_append_right _ h)) (by decide +kernel))
set_option maxRecDepth 20000 in
theorem gL_place_X8_place : GoodIn wsL_place (wsV RL 53 RX8 yX8_place wsX8_place) := goodIn_app (goodIn_of _ (by decide +kernel)) ggL_place_X8_place
theorem dL_place_0 : decode cL_place 0 = .ok (.aload 5, 2) := by decide +kernel
theorem dL_place_2 : decode cL_place 2 = .ok (.iconst 0, 1) := by decide +kernel
theorem dL_place_3 : decode cL_place 3 = .ok (.aload_n 0, 1) := by decide +kernel
theorem dL_place_4 : decode cL_place 4 = .ok (.iload_n 1, 1) := by decide +kernel
theorem dL_place_5 : decode cL_place 5 = .ok (.iload_n 2, 1) := by decide +kernel
theorem dL_place_6 : decode cL_place 6 = .ok (.iload_n 3, 1) := by decide +kernel
theorem dL_place_7 : decode cL_place 7 = .ok (.iload 4, 2) := by decide +kernel
theorem dL_place_9 : decode cL_place 9 = .ok (.invokevirtual 53, 3) := by decide +kernel
theorem dL_place_12 : decode cL_place 12 = .ok (.i2l, 1) := by decide +kernel
theorem dL_place_13 : decode cL_place 13 = .ok (.lastore, 1) := by decide +kernel
theorem dL_place_14 : decode cL_place 14 = .ok (.goto 11, 3) := by decide +kernel
theorem dL_place_17 : decode cL_place 17 = .ok (.astore 6, 2) := by decide +kernel
theorem dL_place_19 : decode cL_place 19 = .ok (.iconst 1, 1) := by decide +kernel
theorem dL_place_20 : decode cL_place 20 = .ok (.ireturn, 1) := by decide +kernel
theorem dL_place_21 : decode cL_place 21 = .ok (.astore 6, 2) := by decide +kernel
theorem dL_place_23 : decode cL_place 23 = .ok (.iconst 2, 1) := by decide +kernel
theorem dL_place_24 : decode cL_place 24 = .ok (.ireturn, 1) := by decide +kernel
theorem dL_place_25 : decode cL_place 25 = .ok (.iconst 0, 1) := by decide +kernel
theorem dL_place_26 : decode cL_place 26 = .ok (.ireturn, 1) := by decide +kernel
set_option maxRecDepth 20000 in
theorem ggL_clear_X8_clear : GoodIn wsL_clear wsX8_clear := goodIn_ca (goodIn_r _ [6, 7, 8, 9, 10, 11, 12, 5, 13, 14, 15, 16, 17, 18, 19, 20, 21, 22, 23, 24, 25, 26, 27, 28, 29, 30, 31, 32, 33, 34, 35, 36, 37, 38, 39, 40, 41, 42, 43, 44, 45, 46, 47, 48, 49, 50, 51, 52, 53, 54, 55, 56, 57, 58, 59, 60, 61, 62, 63, 64, 65, 66, 67, 68, 69, 70, 71, 72, 73, 74, 75, 76, 77, 78, 79, 80, 81, 82, 83] (by decide +kernel) (by decide +kernel)) (goodIn_sub (fun _ h => List.mem_cons_of_mem _ (List.mem_append_right _ h)) (by decide +kernel))
set_option maxRecDepth 20000 in
theorem gL_clear_X8_clear : GoodIn wsL_clear (wsV RL 57 RX8 yX8_clear wsX8_clear) := goodIn_app (goodIn_of _ (by decide +kernel)) ggL_clear_X8_clear
theorem dL_clear_0 : decode cL_clear 0 = .ok (.aload_n 3, 1) := by decide +kernel
theorem dL_clear_1 : decode cL_clear 1 = .ok (.iconst 0, 1) := by decide +kernel
theorem dL_clear_2 : decode cL_clear 2 = .ok (.aload_n 0, 1) := by decide +kernel
theorem dL_clear_3 : decode cL_clear 3 = .ok (.iload_n 1, 1) := by decide +kernel
theorem dL_clear_4 : decode cL_clear 4 = .ok (.iload_n 2, 1) := by decide +kernel
theorem dL_clear_5 : decode cL_clear 5 = .ok (.invokevirtual 57, 3) := by decide +kernel
theorem dL_clear_8 : decode cL_clear 8 = .ok (.i2l, 1) := by decide +kernel
theorem dL_clear_9 : decode cL_clear 9 = .ok (.lastore, 1) := by decide +kernel
theorem dL_clear_10 : decode cL_clear 10 = .ok (.goto 7, 3) := by decide +kernel
theorem dL_clear_13 : decode cL_clear 13 = .ok (.astore 4, 2) := by decide +kernel
theorem dL_clear_15 : decode cL_clear 15 = .ok (.iconst 1, 1) := by decide +kernel
theorem dL_clear_16 : decode cL_clear 16 = .ok (.ireturn, 1) := by decide +kernel
theorem dL_clear_17 : decode cL_clear 17 = .ok (.iconst 0, 1) := by decide +kernel
theorem dL_clear_18 : decode cL_clear 18 = .ok (.ireturn, 1) := by decide +kernel
set_option maxRecDepth 20000 in
theorem ggL_finish_X8_finish : GoodIn wsL_finish wsX8_finish := goodIn_ca (goodIn_r _ [6, 7, 8, 9, 10, 5, 11, 12, 13, 14, 15, 16, 17, 18, 19, 20, 21, 22, 23, 24, 25, 26, 27, 28, 29, 30, 31, 32, 33, 34, 35, 36, 37, 38, 39, 40, 41, 42] (by decide +kernel) (by decide +kernel)) (goodIn_sub (fun _ h => List.mem_cons_of_mem _ (List.mem_append_right _ h)) (by decide +kernel))
set_option maxRecDepth 20000 in
theorem gL_finish_X8_finish : GoodIn wsL_finish (wsV RL 60 RX8 yX8_finish wsX8_finish) := goodIn_app (goodIn_of _ (by decide +kernel)) ggL_finish_X8_finish
theorem dL_finish_0 : decode cL_finish 0 = .ok (.aload_n 2, 1) := by decide +kernel
theorem dL_finish_1 : decode cL_finish 1 = .ok (.iconst 0, 1) := by decide +kernel
theorem dL_finish_2 : decode cL_finish 2 = .ok (.aload_n 0, 1) := by decide +kernel
theorem dL_finish_3 : decode cL_finish 3 = .ok (.iload_n 1, 1) := by decide +kernel
theorem dL_finish_4 : decode cL_finish 4 = .ok (.invokevirtual 60, 3) := by decide +kernel
theorem dL_finish_7 : decode cL_finish 7 = .ok (.i2l, 1) := by decide +kernel
theorem dL_finish_8 : decode cL_finish 8 = .ok (.lastore, 1) := by decide +kernel
