set_option maxRecDepth 20000 in
theorem gL_law_X9_fault : GoodIn wsL_law (wsV RL 138 RX9 yX9_fault wsX9_fault) := goodIn_app (goodIn_of _ (by decide +kernel)) ggL_law_X9_fault
set_option maxRecDepth 20000 in
theorem ggL_law_L_boat : GoodIn wsL_law wsL_boat := goodIn_ca (goodIn_r _ [618, 619, 620, 621, 622, 2, 623, 624, 625, 32, 939, 940, 941, 942, 943, 944, 945, 946, 947, 1007, 1008, 1009, 1010] (by decide +kernel) (by decide +kernel)) (goodIn_sub (fun _ h => List.mem_append_right _ h) (by decide +kernel))
set_option maxRecDepth 20000 in
theorem gL_law_L_boat : GoodIn wsL_law (va_wsS RL 139 yL_boat wsL_boat) := goodIn_app (goodIn_of _ (by decide +kernel)) ggL_law_L_boat
set_option maxRecDepth 20000 in
theorem ggL_law_X9_boat : GoodIn wsL_law wsX9_boat := goodIn_r _ [629, 182, 630, 631, 128, 129, 186, 187, 188, 5, 189, 948, 949, 950, 951, 952, 953, 954, 955, 956, 957, 958, 959, 960, 961, 962, 963, 964, 965, 966, 967, 968, 969, 970, 971, 972, 973, 974, 975, 976, 977, 978, 979, 980, 981, 982, 983, 984, 985, 986, 987, 988] (by decide +kernel) (by decide +kernel)
set_option maxRecDepth 20000 in
theorem gL_law_X9_boat : GoodIn wsL_law (wsV RL 142 RX9 yX9_boat wsX9_boat) := goodIn_app (goodIn_of _ (by decide +kernel)) ggL_law_X9_boat
set_option maxRecDepth 20000 in
theorem ggL_law_L_place : GoodIn wsL_law wsL_place := goodIn_ca (goodIn_ca (goodIn_r _ [634, 141, 142, 635, 636, 637, 2, 638, 32, 45, 639, 640, 641, 642, 150, 151, 643, 644, 645, 158, 159, 307, 308, 309, 310, 311, 312, 646, 647, 648, 31, 649, 83, 84, 85, 650, 651, 652, 653, 654, 655, 656, 657, 939, 940, 941, 942, 943, 944, 945, 946, 947, 1007, 1008, 1009, 1010] (by decide +kernel) (by decide +kernel)) (goodIn_sub (fun _ h => List.mem_append_left _ (List.mem_append_left _ (List.mem_append_right _ h))) (by decide +kernel))) (goodIn_sub (fun _ h => List.mem_append_left _ (List.mem_append_right _ h)) (by decide +kernel))
set_option maxRecDepth 20000 in
theorem gL_law_L_place : GoodIn wsL_law (va_wsS RL 143 yL_place wsL_place) := goodIn_app (goodIn_of _ (by decide +kernel)) ggL_law_L_place
set_option maxRecDepth 20000 in
theorem ggL_law_X9_place : GoodIn wsL_law wsX9_place := goodIn_r _ [661, 182, 125, 126, 127, 662, 663, 664, 5, 665, 630, 186, 187, 188, 189, 666, 667, 668, 318, 319, 320, 669, 670, 671, 672, 317, 948, 949, 950, 951, 952, 953, 954, 955, 956, 957, 958, 959, 960, 961, 962, 963, 964, 965, 966, 967, 968, 969, 970, 971, 972, 973, 974, 975, 976, 977, 978, 979, 980, 981, 982, 983, 984, 985, 986, 987, 988] (by decide +kernel) (by decide +kernel)
set_option maxRecDepth 20000 in
theorem gL_law_X9_place : GoodIn wsL_law (wsV RL 146 RX9 yX9_place wsX9_place) := goodIn_app (goodIn_of _ (by decide +kernel)) ggL_law_X9_place
set_option maxRecDepth 20000 in
theorem ggL_law_L_clear : GoodIn wsL_law wsL_clear := goodIn_ca (goodIn_r _ [675, 141, 676, 677, 678, 2, 679, 32, 28, 45, 639, 640, 641, 642, 150, 151, 680, 681, 682, 31, 683, 684, 685, 686, 687, 688, 689, 690, 691, 692, 651, 652, 653, 85, 654, 655, 656, 657, 693, 694, 695, 696, 697, 698, 699, 700, 701, 702, 703, 704, 83, 84, 336, 337, 338, 310, 311, 312, 340, 341, 342, 705, 706, 707, 708, 939, 940, 941, 942, 943, 944, 945, 946, 947, 1007, 1008, 1009, 1010, 1001, 1002, 1003, 1004, 1005, 1006] (by decide +kernel) (by decide +kernel)) (goodIn_sub (fun _ h => List.mem_append_left _ (List.mem_append_left _ (List.mem_append_right _ h))) (by decide +kernel))
set_option maxRecDepth 20000 in
theorem gL_law_L_clear : GoodIn wsL_law (va_wsS RL 147 yL_clear wsL_clear) := goodIn_app (goodIn_of _ (by decide +kernel)) ggL_law_L_clear
set_option maxRecDepth 20000 in
theorem ggL_law_X9_clear : GoodIn wsL_law wsX9_clear := goodIn_r _ [712, 182, 562, 123, 317, 127, 662, 663, 664, 5, 665, 630, 186, 187, 188, 189, 669, 670, 671, 672, 713, 714, 715, 716, 125, 126, 359, 360, 361, 362, 363, 364, 948, 949, 950, 951, 952, 953, 954, 955, 956, 957, 958, 959, 960, 961, 962, 963, 964, 965, 966, 967, 968, 969, 970, 971, 972, 973, 974, 975, 976, 977, 978, 979, 980, 981, 982, 983, 984, 985, 986, 987, 988] (by decide +kernel) (by decide +kernel)
set_option maxRecDepth 20000 in
theorem gL_law_X9_clear : GoodIn wsL_law (wsV RL 149 RX9 yX9_clear wsX9_clear) := goodIn_app (goodIn_of _ (by decide +kernel)) ggL_law_X9_clear
set_option maxRecDepth 20000 in
theorem ggL_law_L_finish : GoodIn wsL_law wsL_finish := goodIn_ca (goodIn_r _ [719, 141, 720, 721, 722, 2, 723, 36, 639, 640, 641, 642, 150, 151, 32, 724, 725, 726, 35, 727, 91, 92, 93, 939, 940, 941, 942, 943, 944, 945, 946, 947, 1007, 1008, 1009, 1010, 1011, 1012, 1013, 1014, 1015, 1016, 1017] (by decide +kernel) (by decide +kernel)) (goodIn_sub (fun _ h => List.mem_append_left _ (List.mem_append_left _ (List.mem_append_right _ h))) (by decide +kernel))
set_option maxRecDepth 20000 in
theorem gL_law_L_finish : GoodIn wsL_law (va_wsS RL 150 yL_finish wsL_finish) := goodIn_app (goodIn_of _ (by decide +kernel)) ggL_law_L_finish
set_option maxRecDepth 20000 in
theorem ggL_law_X9_finish : GoodIn wsL_law wsX9_finish := goodIn_r _ [731, 182, 130, 631, 732, 662, 663, 664, 5, 665, 630, 186, 187, 188, 189, 948, 949, 950, 951, 952, 953, 954, 955, 956, 957, 958, 959, 960, 961, 962, 963, 964, 965, 966, 967, 968, 969, 970, 971, 972, 973, 974, 975, 976, 977, 978, 979, 980, 981, 982, 983, 984, 985, 986, 987, 988] (by decide +kernel) (by decide +kernel)
set_option maxRecDepth 20000 in
theorem gL_law_X9_finish : GoodIn wsL_law (wsV RL 152 RX9 yX9_finish wsX9_finish) := goodIn_app (goodIn_of _ (by decide +kernel)) ggL_law_X9_finish
set_option maxRecDepth 20000 in
theorem ggL_law_X8_end : GoodIn wsL_law wsX8_end := goodIn_r _ [736, 36, 32, 737, 738, 739, 35, 740, 91, 90, 92, 93, 939, 940, 941, 942, 943, 944, 945, 946, 947, 1007, 1008, 1009, 1010, 1011, 1012, 1013, 1014, 1015, 1016, 1017] (by decide +kernel) (by decide +kernel)
set_option maxRecDepth 20000 in
theorem gL_law_X8_end : GoodIn wsL_law (wsV RL 153 RX8 yX8_end wsX8_end) := goodIn_app (goodIn_of _ (by decide +kernel)) ggL_law_X8_end
set_option maxRecDepth 20000 in
theorem ggL_law_X9_end : GoodIn wsL_law wsX9_end := goodIn_r _ [744, 182, 631, 630, 128, 130, 129, 732, 948, 949, 950, 951, 952, 953, 954, 955, 956, 957, 958, 959, 960, 961, 962, 963, 964, 965, 966, 967, 968, 969, 970, 971, 972, 973, 974, 975, 976, 977, 978, 979, 980, 981, 982, 983, 984, 985, 986, 987, 988] (by decide +kernel) (by decide +kernel)
set_option maxRecDepth 20000 in
theorem gL_law_X9_end : GoodIn wsL_law (wsV RL 156 RX9 yX9_end wsX9_end) := goodIn_app (goodIn_of _ (by decide +kernel)) ggL_law_X9_end
set_option maxRecDepth 20000 in
theorem ggL_law_L_points : GoodIn wsL_law wsL_points := goodIn_ca (goodIn_r _ [747, 141, 748, 749, 750, 2, 751, 150, 151, 36, 639, 640, 641, 642, 32, 752, 753, 754, 35, 755, 90, 939, 940, 941, 942, 943, 944, 945, 946, 947, 1011, 1012, 1013, 1014, 1015, 1016, 1017, 1007, 1008, 1009, 1010] (by decide +kernel) (by decide +kernel)) (goodIn_sub (fun _ h => List.mem_append_left _ (List.mem_append_left _ (List.mem_append_right _ h))) (by decide +kernel))
set_option maxRecDepth 20000 in
theorem gL_law_L_points : GoodIn wsL_law (va_wsS RL 157 yL_points wsL_points) := goodIn_app (goodIn_of _ (by decide +kernel)) ggL_law_L_points
set_option maxRecDepth 20000 in
theorem ggL_law_X9_points : GoodIn wsL_law wsX9_points := goodIn_r _ [759, 182, 631, 128, 662, 663, 664, 5, 665, 630, 186, 187, 188, 189, 948, 949, 950, 951, 952, 953, 954, 955, 956, 957, 958, 959, 960, 961, 962, 963, 964, 965, 966, 967, 968, 969, 970, 971, 972, 973, 974, 975, 976, 977, 978, 979, 980, 981, 982, 983, 984, 985, 986, 987, 988] (by decide +kernel) (by decide +kernel)
set_option maxRecDepth 20000 in
theorem gL_law_X9_points : GoodIn wsL_law (wsV RL 159 RX9 yX9_points wsX9_points) := goodIn_app (goodIn_of _ (by decide +kernel)) ggL_law_X9_points
set_option maxRecDepth 20000 in
theorem ggL_law_L_score : GoodIn wsL_law wsL_score := goodIn_ca (goodIn_r _ [762, 141, 763, 764, 765, 2, 766, 36, 28, 639, 640, 641, 642, 150, 151, 32, 767, 768, 769, 35, 770, 91, 771, 753, 754, 755, 90, 772, 773, 774, 27, 775, 77, 76, 776, 168, 169, 170, 777, 778, 779, 780, 94, 781, 939, 940, 941, 942, 943, 944, 945, 946, 947, 1007, 1008, 1009, 1010, 1011, 1012, 1013, 1014, 1015, 1016, 1017, 1001, 1002, 1003, 1004, 1005, 1006] (by decide +kernel) (by decide +kernel)) (goodIn_sub (fun _ h => List.mem_append_left _ (List.mem_append_left _ (List.mem_append_right _ h))) (by decide +kernel))
set_option maxRecDepth 20000 in
theorem gL_law_L_score : GoodIn wsL_law (va_wsS RL 160 yL_score wsL_score) := goodIn_app (goodIn_of _ (by decide +kernel)) ggL_law_L_score
set_option maxRecDepth 20000 in
theorem ggL_law_X9_score : GoodIn wsL_law wsX9_score := goodIn_r _ [785, 182, 662, 663, 664, 5, 665, 630, 186, 187, 188, 189, 786, 787, 788, 789, 631, 128, 122, 561, 948, 949, 950, 951, 952, 953, 954, 955, 956, 957, 958, 959, 960, 961, 962, 963, 964, 965, 966, 967, 968, 969, 970, 971, 972, 973, 974, 975, 976, 977, 978, 979, 980, 981, 982, 983, 984, 985, 986, 987, 988] (by decide +kernel) (by decide +kernel)
set_option maxRecDepth 20000 in
theorem gL_law_X9_score : GoodIn wsL_law (wsV RL 162 RX9 yX9_score wsX9_score) := goodIn_app (goodIn_of _ (by decide +kernel)) ggL_law_X9_score
set_option maxRecDepth 20000 in
theorem ggL_law_X8_rank : GoodIn wsL_law wsX8_rank := goodIn_r _ [793, 32, 36, 28, 794, 795, 796, 35, 797, 781, 168, 169, 170, 95, 96, 798, 768, 769, 770, 91, 771, 753, 754, 755, 90, 772, 773, 774, 27, 775, 77, 76, 776, 777, 778, 779, 780, 94, 799, 800, 801, 802, 803, 804, 805, 806, 807, 2, 808, 939, 940, 941, 942, 943, 944, 945, 946, 947, 1007, 1008, 1009, 1010, 1011, 1012, 1013, 1014, 1015, 1016, 1017, 1001, 1002, 1003, 1004, 1005, 1006] (by decide +kernel) (by decide +kernel)
set_option maxRecDepth 20000 in
theorem gL_law_X8_rank : GoodIn wsL_law (wsV RL 163 RX8 yX8_rank wsX8_rank) := goodIn_app (goodIn_of _ (by decide +kernel)) ggL_law_X8_rank
set_option maxRecDepth 20000 in
theorem ggL_law_X9_rank : GoodIn wsL_law wsX9_rank := goodIn_r _ [812, 182, 132, 813, 814, 815, 5, 816, 630, 131, 786, 787, 788, 789, 631, 128, 122, 561, 817, 818, 819, 820, 662, 663, 664, 665, 948, 949, 950, 951, 952, 953, 954, 955, 956, 957, 958, 959, 960, 961, 962, 963, 964, 965, 966, 967, 968, 969, 970, 971, 972, 973, 974, 975, 976, 977, 978, 979, 980, 981, 982, 983, 984, 985, 986, 987, 988] (by decide +kernel) (by decide +kernel)
set_option maxRecDepth 20000 in
theorem gL_law_X9_rank : GoodIn wsL_law (wsV RL 166 RX9 yX9_rank wsX9_rank) := goodIn_app (goodIn_of _ (by decide +kernel)) ggL_law_X9_rank
set_option maxRecDepth 20000 in
theorem ggL_law_L_part : GoodIn wsL_law wsL_part := goodIn_ca (goodIn_r _ [823, 142, 824, 825, 826, 2, 827, 36, 32, 28, 40, 828, 829, 830, 158, 159, 794, 795, 796, 35, 797, 781, 168, 169, 170, 95, 96, 798, 768, 769, 770, 91, 771, 753, 754, 755, 90, 772, 773, 774, 27, 775, 77, 76, 776, 777, 778, 779, 780, 94, 799, 800, 801, 802, 803, 804, 805, 806, 807, 808, 831, 832, 833, 39, 834, 100, 835, 939, 940, 941, 942, 943, 944, 945, 946, 947, 1007, 1008, 1009, 1010, 1011, 1012, 1013, 1014, 1015, 1016, 1017, 1001, 1002, 1003, 1004, 1005, 1006, 1018, 1019] (by decide +kernel) (by decide +kernel)) (goodIn_sub (fun _ h => List.mem_append_left _ (List.mem_append_right _ h)) (by decide +kernel))
set_option maxRecDepth 20000 in
theorem gL_law_L_part : GoodIn wsL_law (va_wsS RL 167 yL_part wsL_part) := goodIn_app (goodIn_of _ (by decide +kernel)) ggL_law_L_part
set_option maxRecDepth 20000 in
theorem ggL_law_X9_part : GoodIn wsL_law wsX9_part := goodIn_r _ [839, 182, 630, 133, 132, 186, 187, 188, 5, 189, 813, 814, 815, 816, 131, 786, 787, 788, 789, 631, 128, 122, 561, 817, 818, 819, 820, 948, 949, 950, 951, 952, 953, 954, 955, 956, 957, 958, 959, 960, 961, 962, 963, 964, 965, 966, 967, 968, 969, 970, 971, 972, 973, 974, 975, 976, 977, 978, 979, 980, 981, 982, 983, 984, 985, 986, 987, 988] (by decide +kernel) (by decide +kernel)
set_option maxRecDepth 20000 in
theorem gL_law_X9_part : GoodIn wsL_law (wsV RL 169 RX9 yX9_part wsX9_part) := goodIn_app (goodIn_of _ (by decide +kernel)) ggL_law_X9_part
set_option maxRecDepth 20000 in
theorem ggL_law_L_promote : GoodIn wsL_law wsL_promote := goodIn_ca (goodIn_r _ [842, 142, 843, 844, 845, 2, 846, 36, 32, 28, 40, 828, 829, 830, 158, 159, 794, 795, 796, 35, 797, 781, 168, 169, 170, 95, 96, 798, 768, 769, 770, 91, 771, 753, 754, 755, 90, 772, 773, 774, 27, 775, 77, 76, 776, 777, 778, 779, 780, 94, 799, 800, 801, 802, 803, 804, 805, 806, 807, 808, 847, 848, 849, 39, 850, 835, 100, 101, 851, 852, 853, 854, 855, 856, 857, 858, 859, 860, 861, 862, 863, 864, 865, 866, 867, 868, 869, 870, 871, 872, 873, 874, 939, 940, 941, 942, 943, 944, 945, 946, 947, 1007, 1008, 1009, 1010, 1011, 1012, 1013, 1014, 1015, 1016, 1017, 1001, 1002, 1003, 1004, 1005, 1006, 1018, 1019] (by decide +kernel) (by decide +kernel)) (goodIn_sub (fun _ h => List.mem_append_left _ (List.mem_append_right _ h)) (by decide +kernel))
set_option maxRecDepth 20000 in
theorem gL_law_L_promote : GoodIn wsL_law (va_wsS RL 170 yL_promote wsL_promote) := goodIn_app (goodIn_of _ (by decide +kernel)) ggL_law_L_promote
set_option maxRecDepth 20000 in
theorem ggL_law_X9_promote : GoodIn wsL_law wsX9_promote := goodIn_r _ [878, 182, 630, 133, 134, 132, 186, 187, 188, 5, 189, 813, 814, 815, 816, 131, 786, 787, 788, 789, 631, 128, 122, 561, 817, 818, 819, 820, 948, 949, 950, 951, 952, 953, 954, 955, 956, 957, 958, 959, 960, 961, 962, 963, 964, 965, 966, 967, 968, 969, 970, 971, 972, 973, 974, 975, 976, 977, 978, 979, 980, 981, 982, 983, 984, 985, 986, 987, 988] (by decide +kernel) (by decide +kernel)
set_option maxRecDepth 20000 in
theorem gL_law_X9_promote : GoodIn wsL_law (wsV RL 172 RX9 yX9_promote wsX9_promote) := goodIn_app (goodIn_of _ (by decide +kernel)) ggL_law_X9_promote
set_option maxRecDepth 20000 in
theorem ggL_law_L_fleet : GoodIn wsL_law wsL_fleet := goodIn_ca (goodIn_r _ [881, 141, 882, 883, 884, 2, 885, 40, 639, 640, 641, 642, 150, 151, 32, 886, 856, 857, 39, 858, 859, 860, 861, 862, 100, 807, 808, 939, 940, 941, 942, 943, 944, 945, 946, 947, 1007, 1008, 1009, 1010, 1018, 1019] (by decide +kernel) (by decide +kernel)) (goodIn_sub (fun _ h => List.mem_append_left _ (List.mem_append_left _ (List.mem_append_right _ h))) (by decide +kernel))
set_option maxRecDepth 20000 in
theorem gL_law_L_fleet : GoodIn wsL_law (va_wsS RL 173 yL_fleet wsL_fleet) := goodIn_app (goodIn_of _ (by decide +kernel)) ggL_law_L_fleet
set_option maxRecDepth 20000 in
theorem ggL_law_X9_fleet : GoodIn wsL_law wsX9_fleet := goodIn_r _ [890, 182, 133, 662, 663, 664, 5, 665, 630, 186, 187, 188, 189, 948, 949, 950, 951, 952, 953, 954, 955, 956, 957, 958, 959, 960, 961, 962, 963, 964, 965, 966, 967, 968, 969, 970, 971, 972, 973, 974, 975, 976, 977, 978, 979, 980, 981, 982, 983, 984, 985, 986, 987, 988] (by decide +kernel) (by decide +kernel)
set_option maxRecDepth 20000 in
theorem gL_law_X9_fleet : GoodIn wsL_law (wsV RL 175 RX9 yX9_fleet wsX9_fleet) := goodIn_app (goodIn_of _ (by decide +kernel)) ggL_law_X9_fleet
set_option maxRecDepth 20000 in
theorem ggL_law_X8_noise : GoodIn wsL_law wsX8_noise := goodIn_r _ [894, 44, 895, 896, 897, 43, 898, 106, 105, 939, 940, 941, 942, 943, 944, 945, 946, 947, 1020, 1021, 1022, 1023] (by decide +kernel) (by decide +kernel)
set_option maxRecDepth 20000 in
theorem gL_law_X8_noise : GoodIn wsL_law (wsV RL 176 RX8 yX8_noise wsX8_noise) := goodIn_app (goodIn_of _ (by decide +kernel)) ggL_law_X8_noise
set_option maxRecDepth 20000 in
theorem ggL_law_X9_noise : GoodIn wsL_law wsX9_noise := goodIn_r _ [902, 182, 903, 135, 948, 949, 950, 951, 952, 953, 954, 955, 956, 957, 958, 959, 960, 961, 962, 963, 964, 965, 966, 967, 968, 969, 970, 971, 972, 973, 974, 975, 976, 977, 978, 979, 980, 981, 982, 983, 984, 985, 986, 987, 988] (by decide +kernel) (by decide +kernel)
set_option maxRecDepth 20000 in
theorem gL_law_X9_noise : GoodIn wsL_law (wsV RL 179 RX9 yX9_noise wsX9_noise) := goodIn_app (goodIn_of _ (by decide +kernel)) ggL_law_X9_noise
set_option maxRecDepth 20000 in
theorem ggL_law_X8_draw : GoodIn wsL_law wsX8_draw := goodIn_r _ [907, 44, 32, 908, 909, 910, 43, 911, 106, 107, 105, 912, 108, 913, 914, 915, 916, 807, 2, 808, 939, 940, 941, 942, 943, 944, 945, 946, 947, 1007, 1008, 1009, 1010, 1020, 1021, 1022, 1023] (by decide +kernel) (by decide +kernel)
set_option maxRecDepth 20000 in
theorem gL_law_X8_draw : GoodIn wsL_law (wsV RL 180 RX8 yX8_draw wsX8_draw) := goodIn_app (goodIn_of _ (by decide +kernel)) ggL_law_X8_draw
set_option maxRecDepth 20000 in
theorem ggL_law_X9_draw : GoodIn wsL_law wsX9_draw := goodIn_r _ [920, 182, 630, 903, 921, 136, 135, 922, 948, 949, 950, 951, 952, 953, 954, 955, 956, 957, 958, 959, 960, 961, 962, 963, 964, 965, 966, 967, 968, 969, 970, 971, 972, 973, 974, 975, 976, 977, 978, 979, 980, 981, 982, 983, 984, 985, 986, 987, 988] (by decide +kernel) (by decide +kernel)
set_option maxRecDepth 20000 in
theorem gL_law_X9_draw : GoodIn wsL_law (wsV RL 183 RX9 yX9_draw wsX9_draw) := goodIn_app (goodIn_of _ (by decide +kernel)) ggL_law_X9_draw
set_option maxRecDepth 20000 in
theorem ggL_law_X8_lot : GoodIn wsL_law wsX8_lot := goodIn_r _ [926, 44, 939, 940, 941, 942, 943, 944, 945, 946, 947, 1020, 1021, 1022, 1023] (by decide +kernel) (by decide +kernel)
set_option maxRecDepth 20000 in
theorem gL_law_X8_lot : GoodIn wsL_law (wsV RL 184 RX8 yX8_lot wsX8_lot) := goodIn_app (goodIn_of _ (by decide +kernel)) ggL_law_X8_lot
set_option maxRecDepth 20000 in
theorem ggL_law_X9_lot : GoodIn wsL_law wsX9_lot := goodIn_r _ [930, 182, 921, 136, 948, 949, 950, 951, 952, 953, 954, 955, 956, 957, 958, 959, 960, 961, 962, 963, 964, 965, 966, 967, 968, 969, 970, 971, 972, 973, 974, 975, 976, 977, 978, 979, 980, 981, 982, 983, 984, 985, 986, 987, 988] (by decide +kernel) (by decide +kernel)
set_option maxRecDepth 20000 in
theorem gL_law_X9_lot : GoodIn wsL_law (wsV RL 187 RX9 yX9_lot wsX9_lot) := goodIn_app (goodIn_of _ (by decide +kernel)) ggL_law_X9_lot
set_option maxRecDepth 20000 in
theorem ggL_law_X8_count : GoodIn wsL_law wsX8_count := goodIn_r _ [934, 32, 36, 28, 16, 44, 24, 242, 243, 244, 15, 245, 246, 247, 248, 249, 51, 54, 153, 2, 154, 939, 940, 941, 942, 943, 944, 945, 946, 947, 1007, 1008, 1009, 1010, 1011, 1012, 1013, 1014, 1015, 1016, 1017, 1001, 1002, 1003, 1004, 1005, 1006, 1020, 1021, 1022, 1023, 994, 995, 996, 997, 998, 999, 1000, 989, 990, 991] (by decide +kernel) (by decide +kernel)
set_option maxRecDepth 20000 in
theorem gL_law_X8_count : GoodIn wsL_law (wsV RL 188 RX8 yX8_count wsX8_count) := goodIn_app (goodIn_of _ (by decide +kernel)) ggL_law_X8_count
set_option maxRecDepth 20000 in
theorem ggL_law_X9_count : GoodIn wsL_law wsX9_count := goodIn_r _ [938, 182, 630, 631, 563, 903, 423, 732, 257, 258, 259, 5, 260, 261, 262, 263, 264, 113, 116, 115, 948, 949, 950, 951, 952, 953, 954, 955, 956, 957, 958, 959, 960, 961, 962, 963, 964, 965, 966, 967, 968, 969, 970, 971, 972, 973, 974, 975, 976, 977, 978, 979, 980, 981, 982, 983, 984, 985, 986, 987, 988] (by decide +kernel) (by decide +kernel)
set_option maxRecDepth 20000 in
theorem gL_law_X9_count : GoodIn wsL_law (wsV RL 191 RX9 yX9_count wsX9_count) := goodIn_app (goodIn_of _ (by decide +kernel)) ggL_law_X9_count
