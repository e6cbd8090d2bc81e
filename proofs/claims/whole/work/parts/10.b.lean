set_option maxRecDepth 20000 in
theorem ggL_law_X8_init : GoodIn wsL_law wsX8_init := goodIn_r _ [9, 10, 11, 12, 13, 14, 15, 16, 17, 18, 19, 20, 21, 22, 23, 24, 25, 26, 27, 28, 29, 30, 31, 32, 33, 34, 35, 36, 37, 38, 39, 40, 41, 42, 43, 44, 45, 46, 47, 48, 49, 50, 51, 52, 53, 54, 55, 56, 57, 58, 59, 60, 61, 62, 63, 64, 65, 66, 67, 68, 69, 70, 71, 72, 73, 74, 75, 76, 77, 78, 79, 80, 81, 82, 83, 84, 85, 86, 87, 88, 89, 90, 91, 92, 93, 94, 95, 96, 97, 98, 99, 100, 101, 102, 103, 104, 105, 106, 107, 108, 989, 990, 991, 939, 940, 941, 942, 943, 944, 945, 946, 947, 992, 993, 994, 995, 996, 997, 998, 999, 1000, 1001, 1002, 1003, 1004, 1005, 1006, 1007, 1008, 1009, 1010, 1011, 1012, 1013, 1014, 1015, 1016, 1017, 1018, 1019, 1020, 1021, 1022, 1023] (by decide +kernel) (by decide +kernel)
set_option maxRecDepth 20000 in
theorem gL_law_X8_init : GoodIn wsL_law (wsX8_init) := ggL_law_X8_init
set_option maxRecDepth 20000 in
theorem ggL_law_X9_init : GoodIn wsL_law wsX9_init := goodIn_r _ [111, 112, 11, 12, 50, 113, 114, 53, 115, 116, 117, 118, 119, 120, 121, 122, 123, 124, 125, 126, 127, 128, 129, 130, 131, 132, 133, 134, 135, 136, 948, 949, 950, 951, 952, 953, 954, 955, 956, 957, 958, 959, 960, 961, 962, 963, 964, 965, 966, 967, 968, 969, 970, 971, 972, 973, 974, 975, 976, 977, 978, 979, 980, 981, 982, 983, 984, 985, 986, 987, 988] (by decide +kernel) (by decide +kernel)
set_option maxRecDepth 20000 in
theorem gL_law_X9_init : GoodIn wsL_law (wsX9_init) := ggL_law_X9_init
set_option maxRecDepth 20000 in
theorem ggL_law_L_sound : GoodIn wsL_law wsL_sound := goodIn_ca (goodIn_ca (goodIn_r _ [140, 141, 142, 143, 144, 145, 2, 146, 16, 147, 148, 149, 150, 151, 152, 153, 154, 155, 156, 157, 158, 159, 160, 161, 162, 15, 163, 51, 52, 164, 165, 166, 167, 168, 169, 170, 171, 172, 173, 939, 940, 941, 942, 943, 944, 945, 946, 947, 989, 990, 991] (by decide +kernel) (by decide +kernel)) (goodIn_sub (fun _ h => List.mem_append_left _ (List.mem_append_left _ (List.mem_append_right _ h))) (by decide +kernel))) (goodIn_sub (fun _ h => List.mem_append_left _ (List.mem_append_right _ h)) (by decide +kernel))
set_option maxRecDepth 20000 in
theorem gL_law_L_sound : GoodIn wsL_law (va_wsS RL 82 yL_sound wsL_sound) := goodIn_app (goodIn_of _ (by decide +kernel)) ggL_law_L_sound
set_option maxRecDepth 20000 in
theorem ggL_law_X9_sound : GoodIn wsL_law wsX9_sound := goodIn_r _ [177, 113, 178, 179, 180, 5, 181, 182, 183, 184, 185, 186, 187, 188, 189, 190, 191, 192, 193, 114, 194, 195, 196, 948, 949, 950, 951, 952, 953, 954, 955, 956, 957, 958, 959, 960, 961, 962, 963, 964, 965, 966, 967, 968, 969, 970, 971, 972, 973, 974, 975, 976, 977, 978, 979, 980, 981, 982, 983, 984, 985, 986, 987, 988] (by decide +kernel) (by decide +kernel)
set_option maxRecDepth 20000 in
theorem gL_law_X9_sound : GoodIn wsL_law (wsV RL 87 RX9 yX9_sound wsX9_sound) := goodIn_app (goodIn_of _ (by decide +kernel)) ggL_law_X9_sound
set_option maxRecDepth 20000 in
theorem ggL_law_X9_thrown : GoodIn wsL_law wsX9_thrown := goodIn_r _ [200, 182, 948, 949, 950, 951, 952, 953, 954, 955, 956, 957, 958, 959, 960, 961, 962, 963, 964, 965, 966, 967, 968, 969, 970, 971, 972, 973, 974, 975, 976, 977, 978, 979, 980, 981, 982, 983, 984, 985, 986, 987, 988] (by decide +kernel) (by decide +kernel)
set_option maxRecDepth 20000 in
theorem gL_law_X9_thrown : GoodIn wsL_law (wsV RL 88 RX9 yX9_thrown wsX9_thrown) := goodIn_app (goodIn_of _ (by decide +kernel)) ggL_law_X9_thrown
set_option maxRecDepth 20000 in
theorem ggL_law_L_soundRow : GoodIn wsL_law wsL_soundRow := goodIn_ca (goodIn_ca (goodIn_r _ [203, 141, 142, 204, 205, 206, 2, 207, 150, 151, 16, 208, 172, 169, 173, 155, 156, 157, 158, 159, 160, 161, 162, 15, 163, 51, 52, 164, 165, 166, 167, 168, 170, 171, 939, 940, 941, 942, 943, 944, 945, 946, 947, 989, 990, 991] (by decide +kernel) (by decide +kernel)) (goodIn_sub (fun _ h => List.mem_append_left _ (List.mem_append_left _ (List.mem_append_right _ h))) (by decide +kernel))) (goodIn_sub (fun _ h => List.mem_append_left _ (List.mem_append_right _ h)) (by decide +kernel))
set_option maxRecDepth 20000 in
theorem gL_law_L_soundRow : GoodIn wsL_law (va_wsS RL 91 yL_soundRow wsL_soundRow) := goodIn_app (goodIn_of _ (by decide +kernel)) ggL_law_L_soundRow
set_option maxRecDepth 20000 in
theorem ggL_law_X9_soundRow : GoodIn wsL_law wsX9_soundRow := goodIn_r _ [212, 182, 113, 186, 187, 188, 5, 189, 183, 184, 185, 190, 191, 192, 193, 114, 194, 195, 196, 948, 949, 950, 951, 952, 953, 954, 955, 956, 957, 958, 959, 960, 961, 962, 963, 964, 965, 966, 967, 968, 969, 970, 971, 972, 973, 974, 975, 976, 977, 978, 979, 980, 981, 982, 983, 984, 985, 986, 987, 988] (by decide +kernel) (by decide +kernel)
set_option maxRecDepth 20000 in
theorem gL_law_X9_soundRow : GoodIn wsL_law (wsV RL 93 RX9 yX9_soundRow wsX9_soundRow) := goodIn_app (goodIn_of _ (by decide +kernel)) ggL_law_X9_soundRow
set_option maxRecDepth 20000 in
theorem ggL_law_L_crack : GoodIn wsL_law wsL_crack := goodIn_ca (goodIn_r _ [215, 141, 216, 217, 218, 2, 219, 16, 147, 148, 149, 150, 151, 152, 153, 154, 220, 221, 222, 15, 223, 54, 939, 940, 941, 942, 943, 944, 945, 946, 947, 989, 990, 991] (by decide +kernel) (by decide +kernel)) (goodIn_sub (fun _ h => List.mem_append_left _ (List.mem_append_left _ (List.mem_append_right _ h))) (by decide +kernel))
set_option maxRecDepth 20000 in
theorem gL_law_L_crack : GoodIn wsL_law (va_wsS RL 94 yL_crack wsL_crack) := goodIn_app (goodIn_of _ (by decide +kernel)) ggL_law_L_crack
set_option maxRecDepth 20000 in
theorem ggL_law_X9_crack : GoodIn wsL_law wsX9_crack := goodIn_r _ [227, 115, 178, 179, 180, 5, 181, 182, 948, 949, 950, 951, 952, 953, 954, 955, 956, 957, 958, 959, 960, 961, 962, 963, 964, 965, 966, 967, 968, 969, 970, 971, 972, 973, 974, 975, 976, 977, 978, 979, 980, 981, 982, 983, 984, 985, 986, 987, 988] (by decide +kernel) (by decide +kernel)
set_option maxRecDepth 20000 in
theorem gL_law_X9_crack : GoodIn wsL_law (wsV RL 97 RX9 yX9_crack wsX9_crack) := goodIn_app (goodIn_of _ (by decide +kernel)) ggL_law_X9_crack
set_option maxRecDepth 20000 in
theorem ggL_law_L_hour : GoodIn wsL_law wsL_hour := goodIn_ca (goodIn_r _ [230, 142, 231, 232, 233, 2, 234, 16, 28, 235, 236, 237, 158, 159, 238, 239, 240, 15, 241, 51, 52, 164, 165, 166, 167, 168, 169, 170, 171, 172, 173, 242, 243, 244, 245, 246, 247, 248, 249, 54, 153, 154, 939, 940, 941, 942, 943, 944, 945, 946, 947, 1001, 1002, 1003, 1004, 1005, 1006, 989, 990, 991] (by decide +kernel) (by decide +kernel)) (goodIn_sub (fun _ h => List.mem_append_left _ (List.mem_append_right _ h)) (by decide +kernel))
set_option maxRecDepth 20000 in
theorem gL_law_L_hour : GoodIn wsL_law (va_wsS RL 98 yL_hour wsL_hour) := goodIn_app (goodIn_of _ (by decide +kernel)) ggL_law_L_hour
set_option maxRecDepth 20000 in
theorem ggL_law_X9_hour : GoodIn wsL_law wsX9_hour := goodIn_r _ [253, 182, 113, 114, 254, 255, 5, 256, 186, 187, 188, 189, 194, 195, 196, 257, 258, 259, 260, 261, 262, 263, 264, 116, 115, 948, 949, 950, 951, 952, 953, 954, 955, 956, 957, 958, 959, 960, 961, 962, 963, 964, 965, 966, 967, 968, 969, 970, 971, 972, 973, 974, 975, 976, 977, 978, 979, 980, 981, 982, 983, 984, 985, 986, 987, 988] (by decide +kernel) (by decide +kernel)
set_option maxRecDepth 20000 in
theorem gL_law_X9_hour : GoodIn wsL_law (wsV RL 101 RX9 yX9_hour wsX9_hour) := goodIn_app (goodIn_of _ (by decide +kernel)) ggL_law_X9_hour
set_option maxRecDepth 20000 in
theorem ggL_law_L_ice : GoodIn wsL_law wsL_ice := goodIn_ca (goodIn_ca (goodIn_r _ [267, 141, 142, 268, 269, 270, 2, 271, 158, 159, 16, 28, 147, 148, 149, 150, 151, 152, 153, 154, 272, 273, 274, 15, 275, 51, 276, 277, 278, 279, 52, 280, 247, 248, 249, 54, 939, 940, 941, 942, 943, 944, 945, 946, 947, 1001, 1002, 1003, 1004, 1005, 1006, 989, 990, 991] (by decide +kernel) (by decide +kernel)) (goodIn_sub (fun _ h => List.mem_append_left _ (List.mem_append_right _ h)) (by decide +kernel))) (goodIn_sub (fun _ h => List.mem_append_left _ (List.mem_append_left _ (List.mem_append_right _ h))) (by decide +kernel))
set_option maxRecDepth 20000 in
theorem gL_law_L_ice : GoodIn wsL_law (va_wsS RL 102 yL_ice wsL_ice) := goodIn_app (goodIn_of _ (by decide +kernel)) ggL_law_L_ice
set_option maxRecDepth 20000 in
theorem ggL_law_X9_ice : GoodIn wsL_law wsX9_ice := goodIn_r _ [284, 113, 114, 178, 179, 180, 5, 181, 182, 186, 187, 188, 189, 261, 262, 263, 264, 116, 115, 948, 949, 950, 951, 952, 953, 954, 955, 956, 957, 958, 959, 960, 961, 962, 963, 964, 965, 966, 967, 968, 969, 970, 971, 972, 973, 974, 975, 976, 977, 978, 979, 980, 981, 982, 983, 984, 985, 986, 987, 988] (by decide +kernel) (by decide +kernel)
set_option maxRecDepth 20000 in
theorem gL_law_X9_ice : GoodIn wsL_law (wsV RL 105 RX9 yX9_ice wsX9_ice) := goodIn_app (goodIn_of _ (by decide +kernel)) ggL_law_X9_ice
set_option maxRecDepth 20000 in
theorem ggL_law_L_lasts : GoodIn wsL_law wsL_lasts := goodIn_ca (goodIn_ca (goodIn_r _ [287, 141, 142, 288, 289, 290, 2, 291, 16, 28, 147, 148, 149, 150, 151, 152, 153, 154, 235, 236, 237, 158, 159, 292, 293, 294, 15, 295, 51, 246, 247, 248, 249, 54, 939, 940, 941, 942, 943, 944, 945, 946, 947, 1001, 1002, 1003, 1004, 1005, 1006, 989, 990, 991] (by decide +kernel) (by decide +kernel)) (goodIn_sub (fun _ h => List.mem_append_left _ (List.mem_append_left _ (List.mem_append_right _ h))) (by decide +kernel))) (goodIn_sub (fun _ h => List.mem_append_left _ (List.mem_append_right _ h)) (by decide +kernel))
set_option maxRecDepth 20000 in
theorem gL_law_L_lasts : GoodIn wsL_law (va_wsS RL 106 yL_lasts wsL_lasts) := goodIn_app (goodIn_of _ (by decide +kernel)) ggL_law_L_lasts
set_option maxRecDepth 20000 in
theorem ggL_law_X9_lasts : GoodIn wsL_law wsX9_lasts := goodIn_r _ [299, 116, 113, 178, 179, 180, 5, 181, 182, 254, 255, 256, 186, 187, 188, 189, 261, 262, 263, 264, 115, 948, 949, 950, 951, 952, 953, 954, 955, 956, 957, 958, 959, 960, 961, 962, 963, 964, 965, 966, 967, 968, 969, 970, 971, 972, 973, 974, 975, 976, 977, 978, 979, 980, 981, 982, 983, 984, 985, 986, 987, 988] (by decide +kernel) (by decide +kernel)
set_option maxRecDepth 20000 in
theorem gL_law_X9_lasts : GoodIn wsL_law (wsV RL 108 RX9 yX9_lasts wsX9_lasts) := goodIn_app (goodIn_of _ (by decide +kernel)) ggL_law_X9_lasts
set_option maxRecDepth 20000 in
theorem ggL_law_L_wind : GoodIn wsL_law wsL_wind := goodIn_ca (goodIn_r _ [302, 142, 303, 304, 305, 2, 306, 45, 307, 308, 309, 158, 159, 310, 311, 312, 939, 940, 941, 942, 943, 944, 945, 946, 947] (by decide +kernel) (by decide +kernel)) (goodIn_sub (fun _ h => List.mem_append_left _ (List.mem_append_right _ h)) (by decide +kernel))
set_option maxRecDepth 20000 in
theorem gL_law_L_wind : GoodIn wsL_law (va_wsS RL 109 yL_wind wsL_wind) := goodIn_app (goodIn_of _ (by decide +kernel)) ggL_law_L_wind
set_option maxRecDepth 20000 in
theorem ggL_law_X9_wind : GoodIn wsL_law wsX9_wind := goodIn_r _ [316, 182, 317, 318, 319, 5, 320, 186, 187, 188, 189, 948, 949, 950, 951, 952, 953, 954, 955, 956, 957, 958, 959, 960, 961, 962, 963, 964, 965, 966, 967, 968, 969, 970, 971, 972, 973, 974, 975, 976, 977, 978, 979, 980, 981, 982, 983, 984, 985, 986, 987, 988] (by decide +kernel) (by decide +kernel)
set_option maxRecDepth 20000 in
theorem gL_law_X9_wind : GoodIn wsL_law (wsV RL 111 RX9 yX9_wind wsX9_wind) := goodIn_app (goodIn_of _ (by decide +kernel)) ggL_law_X9_wind
set_option maxRecDepth 20000 in
theorem ggL_law_X8_course : GoodIn wsL_law wsX8_course := goodIn_r _ [324, 20, 16, 45, 28, 325, 326, 327, 19, 328, 329, 330, 331, 15, 332, 333, 2, 334, 335, 336, 337, 338, 310, 311, 312, 339, 340, 341, 342, 246, 247, 248, 249, 51, 54, 153, 154, 343, 344, 345, 346, 58, 59, 939, 940, 941, 942, 943, 944, 945, 946, 947, 1001, 1002, 1003, 1004, 1005, 1006, 989, 990, 991, 992, 993] (by decide +kernel) (by decide +kernel)
set_option maxRecDepth 20000 in
theorem gL_law_X8_course : GoodIn wsL_law (wsV RL 112 RX8 yX8_course wsX8_course) := goodIn_app (goodIn_of _ (by decide +kernel)) ggL_law_X8_course
set_option maxRecDepth 20000 in
theorem ggL_law_X9_course : GoodIn wsL_law wsX9_course := goodIn_r _ [350, 182, 117, 118, 351, 352, 353, 5, 354, 355, 356, 357, 358, 317, 359, 360, 361, 362, 363, 364, 261, 262, 263, 264, 113, 116, 115, 948, 949, 950, 951, 952, 953, 954, 955, 956, 957, 958, 959, 960, 961, 962, 963, 964, 965, 966, 967, 968, 969, 970, 971, 972, 973, 974, 975, 976, 977, 978, 979, 980, 981, 982, 983, 984, 985, 986, 987, 988] (by decide +kernel) (by decide +kernel)
set_option maxRecDepth 20000 in
theorem gL_law_X9_course : GoodIn wsL_law (wsV RL 115 RX9 yX9_course wsX9_course) := goodIn_app (goodIn_of _ (by decide +kernel)) ggL_law_X9_course
set_option maxRecDepth 20000 in
theorem ggL_law_L_move : GoodIn wsL_law wsL_move := goodIn_ca (goodIn_r _ [367, 142, 368, 369, 370, 2, 371, 158, 159, 20, 16, 45, 28, 372, 373, 374, 19, 375, 58, 329, 330, 331, 15, 332, 333, 334, 335, 336, 337, 338, 310, 311, 312, 339, 340, 341, 342, 246, 247, 248, 249, 51, 54, 153, 154, 376, 377, 378, 379, 59, 343, 344, 345, 346, 939, 940, 941, 942, 943, 944, 945, 946, 947, 1001, 1002, 1003, 1004, 1005, 1006, 992, 993, 989, 990, 991] (by decide +kernel) (by decide +kernel)) (goodIn_sub (fun _ h => List.mem_append_left _ (List.mem_append_right _ h)) (by decide +kernel))
set_option maxRecDepth 20000 in
theorem gL_law_L_move : GoodIn wsL_law (va_wsS RL 116 yL_move wsL_move) := goodIn_app (goodIn_of _ (by decide +kernel)) ggL_law_L_move
set_option maxRecDepth 20000 in
theorem ggL_law_X9_move : GoodIn wsL_law wsX9_move := goodIn_r _ [383, 182, 117, 118, 186, 187, 188, 5, 189, 351, 352, 353, 354, 355, 356, 357, 358, 317, 359, 360, 361, 362, 363, 364, 261, 262, 263, 264, 113, 116, 115, 948, 949, 950, 951, 952, 953, 954, 955, 956, 957, 958, 959, 960, 961, 962, 963, 964, 965, 966, 967, 968, 969, 970, 971, 972, 973, 974, 975, 976, 977, 978, 979, 980, 981, 982, 983, 984, 985, 986, 987, 988] (by decide +kernel) (by decide +kernel)
set_option maxRecDepth 20000 in
theorem gL_law_X9_move : GoodIn wsL_law (wsV RL 118 RX9 yX9_move wsX9_move) := goodIn_app (goodIn_of _ (by decide +kernel)) ggL_law_X9_move
set_option maxRecDepth 20000 in
theorem ggL_law_L_mark : GoodIn wsL_law wsL_mark := goodIn_ca (goodIn_r _ [386, 142, 387, 388, 389, 2, 390, 158, 159, 20, 939, 940, 941, 942, 943, 944, 945, 946, 947, 992, 993] (by decide +kernel) (by decide +kernel)) (goodIn_sub (fun _ h => List.mem_append_left _ (List.mem_append_right _ h)) (by decide +kernel))
set_option maxRecDepth 20000 in
theorem gL_law_L_mark : GoodIn wsL_law (va_wsS RL 119 yL_mark wsL_mark) := goodIn_app (goodIn_of _ (by decide +kernel)) ggL_law_L_mark
set_option maxRecDepth 20000 in
theorem ggL_law_X9_mark : GoodIn wsL_law wsX9_mark := goodIn_r _ [394, 182, 117, 118, 186, 187, 188, 5, 189, 948, 949, 950, 951, 952, 953, 954, 955, 956, 957, 958, 959, 960, 961, 962, 963, 964, 965, 966, 967, 968, 969, 970, 971, 972, 973, 974, 975, 976, 977, 978, 979, 980, 981, 982, 983, 984, 985, 986, 987, 988] (by decide +kernel) (by decide +kernel)
set_option maxRecDepth 20000 in
theorem gL_law_X9_mark : GoodIn wsL_law (wsV RL 121 RX9 yX9_mark wsX9_mark) := goodIn_app (goodIn_of _ (by decide +kernel)) ggL_law_X9_mark
set_option maxRecDepth 20000 in
theorem ggL_law_X8_holds : GoodIn wsL_law wsX8_holds := goodIn_r _ [398, 20, 16, 45, 28, 399, 400, 401, 19, 402, 58, 59, 329, 330, 331, 15, 332, 333, 2, 334, 335, 336, 337, 338, 310, 311, 312, 339, 340, 341, 342, 246, 247, 248, 249, 51, 54, 153, 154, 939, 940, 941, 942, 943, 944, 945, 946, 947, 1001, 1002, 1003, 1004, 1005, 1006, 992, 993, 989, 990, 991] (by decide +kernel) (by decide +kernel)
set_option maxRecDepth 20000 in
theorem gL_law_X8_holds : GoodIn wsL_law (wsV RL 122 RX8 yX8_holds wsX8_holds) := goodIn_app (goodIn_of _ (by decide +kernel)) ggL_law_X8_holds
set_option maxRecDepth 20000 in
theorem ggL_law_X9_holds : GoodIn wsL_law wsX9_holds := goodIn_r _ [406, 182, 117, 118, 351, 352, 353, 5, 354, 355, 356, 357, 358, 317, 359, 360, 361, 362, 363, 364, 261, 262, 263, 264, 113, 116, 115, 948, 949, 950, 951, 952, 953, 954, 955, 956, 957, 958, 959, 960, 961, 962, 963, 964, 965, 966, 967, 968, 969, 970, 971, 972, 973, 974, 975, 976, 977, 978, 979, 980, 981, 982, 983, 984, 985, 986, 987, 988] (by decide +kernel) (by decide +kernel)
set_option maxRecDepth 20000 in
theorem gL_law_X9_holds : GoodIn wsL_law (wsV RL 126 RX9 yX9_holds wsX9_holds) := goodIn_app (goodIn_of _ (by decide +kernel)) ggL_law_X9_holds
set_option maxRecDepth 20000 in
theorem ggL_law_X8_feed : GoodIn wsL_law wsX8_feed := goodIn_r _ [410, 24, 411, 412, 413, 23, 414, 64, 415, 416, 417, 418, 63, 939, 940, 941, 942, 943, 944, 945, 946, 947, 994, 995, 996, 997, 998, 999, 1000] (by decide +kernel) (by decide +kernel)
set_option maxRecDepth 20000 in
theorem gL_law_X8_feed : GoodIn wsL_law (wsV RL 127 RX8 yX8_feed wsX8_feed) := goodIn_app (goodIn_of _ (by decide +kernel)) ggL_law_X8_feed
set_option maxRecDepth 20000 in
theorem ggL_law_X9_feed : GoodIn wsL_law wsX9_feed := goodIn_r _ [422, 182, 423, 120, 948, 949, 950, 951, 952, 953, 954, 955, 956, 957, 958, 959, 960, 961, 962, 963, 964, 965, 966, 967, 968, 969, 970, 971, 972, 973, 974, 975, 976, 977, 978, 979, 980, 981, 982, 983, 984, 985, 986, 987, 988] (by decide +kernel) (by decide +kernel)
set_option maxRecDepth 20000 in
theorem gL_law_X9_feed : GoodIn wsL_law (wsV RL 131 RX9 yX9_feed wsX9_feed) := goodIn_app (goodIn_of _ (by decide +kernel)) ggL_law_X9_feed
set_option maxRecDepth 20000 in
theorem ggL_law_L_rule : GoodIn wsL_law wsL_rule := goodIn_ca (goodIn_r _ [426, 142, 427, 428, 429, 2, 430, 158, 159, 24, 28, 431, 432, 433, 23, 434, 64, 435, 168, 169, 170, 436, 172, 173, 67, 68, 69, 70, 66, 437, 438, 439, 27, 440, 74, 75, 76, 77, 79, 441, 442, 443, 444, 445, 446, 447, 448, 63, 449, 450, 451, 452, 453, 454, 455, 456, 457, 458, 459, 460, 461, 462, 463, 464, 465, 466, 467, 468, 469, 470, 471, 472, 473, 474, 475, 476, 477, 478, 479, 480, 481, 482, 483, 484, 485, 486, 487, 488, 489, 490, 491, 492, 493, 494, 495, 496, 497, 498, 499, 500, 501, 502, 503, 504, 505, 506, 507, 508, 509, 510, 511, 512, 513, 514, 515, 516, 517, 518, 519, 520, 521, 522, 523, 524, 525, 526, 527, 528, 529, 530, 531, 532, 533, 534, 535, 536, 537, 538, 539, 540, 541, 78, 542, 543, 544, 545, 546, 547, 548, 549, 939, 940, 941, 942, 943, 944, 945, 946, 947, 994, 995, 996, 997, 998, 999, 1000, 1001, 1002, 1003, 1004, 1005, 1006] (by decide +kernel) (by decide +kernel)) (goodIn_sub (fun _ h => List.mem_append_left _ (List.mem_append_right _ h)) (by decide +kernel))
set_option maxRecDepth 20000 in
theorem gL_law_L_rule : GoodIn wsL_law (va_wsS RL 132 yL_rule wsL_rule) := goodIn_app (goodIn_of _ (by decide +kernel)) ggL_law_L_rule
set_option maxRecDepth 20000 in
theorem ggL_law_X9_rule : GoodIn wsL_law wsX9_rule := goodIn_r _ [553, 182, 423, 554, 555, 556, 121, 557, 558, 559, 560, 116, 561, 122, 562, 123, 124, 563, 186, 187, 188, 5, 189, 564, 565, 566, 567, 568, 569, 570, 571, 120, 572, 573, 574, 575, 576, 462, 463, 464, 465, 466, 467, 468, 469, 470, 471, 472, 577, 474, 475, 476, 477, 478, 479, 480, 481, 482, 483, 484, 485, 486, 487, 488, 489, 490, 491, 492, 493, 494, 495, 496, 497, 498, 499, 500, 501, 502, 503, 504, 505, 506, 507, 508, 509, 578, 579, 580, 581, 582, 583, 584, 585, 586, 587, 588, 589, 590, 591, 592, 593, 594, 595, 596, 597, 598, 599, 600, 601, 602, 603, 604, 605, 606, 607, 948, 949, 950, 951, 952, 953, 954, 955, 956, 957, 958, 959, 960, 961, 962, 963, 964, 965, 966, 967, 968, 969, 970, 971, 972, 973, 974, 975, 976, 977, 978, 979, 980, 981, 982, 983, 984, 985, 986, 987, 988] (by decide +kernel) (by decide +kernel)
set_option maxRecDepth 20000 in
theorem gL_law_X9_rule : GoodIn wsL_law (wsV RL 134 RX9 yX9_rule wsX9_rule) := goodIn_app (goodIn_of _ (by decide +kernel)) ggL_law_X9_rule
set_option maxRecDepth 20000 in
theorem ggL_law_X8_fault : GoodIn wsL_law wsX8_fault := goodIn_r _ [611, 24, 939, 940, 941, 942, 943, 944, 945, 946, 947, 994, 995, 996, 997, 998, 999, 1000] (by decide +kernel) (by decide +kernel)
set_option maxRecDepth 20000 in
theorem gL_law_X8_fault : GoodIn wsL_law (wsV RL 135 RX8 yX8_fault wsX8_fault) := goodIn_app (goodIn_of _ (by decide +kernel)) ggL_law_X8_fault
set_option maxRecDepth 20000 in
theorem ggL_law_X9_fault : GoodIn wsL_law wsX9_fault := goodIn_r _ [615, 182, 121, 948, 949, 950, 951, 952, 953, 954, 955, 956, 957, 958, 959, 960, 961, 962, 963, 964, 965, 966, 967, 968, 969, 970, 971, 972, 973, 974, 975, 976, 977, 978, 979, 980, 981, 982, 983, 984, 985, 986, 987, 988] (by decide +kernel) (by decide +kernel)
