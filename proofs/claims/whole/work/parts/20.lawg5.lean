set_option maxRecDepth 20000 in
theorem ggL_law_X5_debt : GoodIn wsL_law wsX5_debt := goodIn_r _ [777, 131, 63, 132, 133, 5, 134, 135, 136, 137, 256, 257, 258, 138, 139, 140, 141, 991, 992, 993, 994, 995, 996, 997, 998, 999, 1000, 1001, 1002, 1003, 1004] (by decide +kernel) (by decide +kernel)
set_option maxRecDepth 20000 in
theorem gL_law_X5_debt : GoodIn wsL_law (wsV RL 144 RX5 yX5_debt wsX5_debt) := goodIn_app (goodIn_of _ (by decide +kernel)) ggL_law_X5_debt
set_option maxRecDepth 20000 in
theorem ggL_law_L_count : GoodIn wsL_law wsL_count := goodIn_ca (goodIn_r _ [780, 74, 781, 782, 783, 2, 784, 16, 20, 88, 89, 90, 91, 92, 298, 177, 178, 15, 179, 34, 785, 786, 787, 788, 176, 180, 181, 182, 183, 789, 790, 791, 792, 192, 124, 125, 126, 793, 794, 795, 796, 797, 798, 799, 800, 801, 703, 704, 705, 706, 245, 246, 247, 679, 680, 681, 19, 682, 98, 987, 988, 989, 990, 1005, 1006, 1007, 1008] (by decide +kernel) (by decide +kernel)) (goodIn_sub (fun _ h => List.mem_append_left _ (List.mem_append_right _ h)) (by decide +kernel))
set_option maxRecDepth 20000 in
theorem gL_law_L_count : GoodIn wsL_law (va_wsS RL 145 yL_count wsL_count) := goodIn_app (goodIn_of _ (by decide +kernel)) ggL_law_L_count
set_option maxRecDepth 20000 in
theorem ggL_law_X5_count : GoodIn wsL_law wsX5_count := goodIn_r _ [805, 131, 135, 136, 5, 137, 806, 807, 808, 809, 63, 150, 810, 811, 812, 813, 387, 388, 389, 390, 205, 206, 207, 814, 815, 816, 817, 723, 724, 725, 726, 727, 728, 729, 730, 256, 257, 258, 201, 202, 203, 204, 208, 209, 210, 731, 732, 733, 734, 735, 736, 737, 738, 138, 139, 140, 141, 991, 992, 993, 994, 995, 996, 997, 998, 999, 1000, 1001, 1002, 1003, 1004] (by decide +kernel) (by decide +kernel)
set_option maxRecDepth 20000 in
theorem gL_law_X5_count : GoodIn wsL_law (wsV RL 147 RX5 yX5_count wsX5_count) := goodIn_app (goodIn_of _ (by decide +kernel)) ggL_law_X5_count
set_option maxRecDepth 20000 in
theorem ggL_law_L_setting : GoodIn wsL_law wsL_setting := goodIn_ca (goodIn_r _ [820, 73, 821, 822, 823, 2, 824, 16, 266, 267, 268, 82, 83, 275, 189, 190, 15, 191, 34, 987, 988, 989, 990, 1005] (by decide +kernel) (by decide +kernel)) (goodIn_sub (fun _ h => List.mem_append_left _ (List.mem_append_left _ (List.mem_append_right _ h))) (by decide +kernel))
set_option maxRecDepth 20000 in
theorem gL_law_L_setting : GoodIn wsL_law (va_wsS RL 148 yL_setting wsL_setting) := goodIn_app (goodIn_of _ (by decide +kernel)) ggL_law_L_setting
set_option maxRecDepth 20000 in
theorem ggL_law_X5_setting : GoodIn wsL_law wsX5_setting := goodIn_r _ [828, 131, 63, 135, 136, 5, 137, 138, 139, 140, 141, 991, 992, 993, 994, 995, 996, 997, 998, 999, 1000, 1001, 1002, 1003, 1004] (by decide +kernel) (by decide +kernel)
set_option maxRecDepth 20000 in
theorem gL_law_X5_setting : GoodIn wsL_law (wsV RL 150 RX5 yX5_setting wsX5_setting) := goodIn_app (goodIn_of _ (by decide +kernel)) ggL_law_X5_setting
set_option maxRecDepth 20000 in
theorem ggL_law_L_ifCalled : GoodIn wsL_law wsL_ifCalled := goodIn_ca (goodIn_ca (goodIn_r _ [831, 73, 74, 832, 833, 834, 2, 835, 28, 16, 294, 295, 296, 297, 82, 83, 298, 177, 178, 15, 179, 34, 84, 85, 86, 87, 88, 89, 90, 91, 92, 304, 305, 306, 27, 307, 308, 53, 309, 310, 100, 101, 102, 311, 312, 313, 56, 314, 315, 316, 317, 54, 55, 318, 319, 124, 125, 126, 320, 181, 182, 183, 321, 322, 323, 324, 180, 325, 326, 327, 328, 329, 330, 331, 58, 332, 333, 334, 335, 336, 184, 185, 186, 187, 337, 338, 339, 340, 341, 342, 343, 344, 345, 57, 346, 347, 348, 349, 350, 223, 224, 836, 837, 838, 839, 840, 841, 842, 843, 844, 845, 846, 847, 987, 988, 989, 990, 1005, 1021, 1022, 1023, 1024, 1025, 1026, 1027, 1028, 1029, 1030, 1031, 1032] (by decide +kernel) (by decide +kernel)) (goodIn_sub (fun _ h => List.mem_append_left _ (List.mem_append_left _ (List.mem_append_right _ h))) (by decide +kernel))) (goodIn_sub (fun _ h => List.mem_append_left _ (List.mem_append_right _ h)) (by decide +kernel))
set_option maxRecDepth 20000 in
theorem gL_law_L_ifCalled : GoodIn wsL_law (va_wsS RL 151 yL_ifCalled wsL_ifCalled) := goodIn_app (goodIn_of _ (by decide +kernel)) ggL_law_L_ifCalled
set_option maxRecDepth 20000 in
theorem ggL_law_X5_ifCalled : GoodIn wsL_law wsX5_ifCalled := goodIn_r _ [851, 131, 383, 384, 385, 5, 386, 63, 135, 136, 137, 138, 139, 140, 141, 142, 143, 144, 145, 852, 853, 854, 855, 382, 396, 387, 388, 389, 390, 205, 206, 207, 856, 857, 858, 859, 65, 391, 392, 393, 394, 395, 67, 397, 398, 399, 400, 401, 402, 403, 404, 405, 406, 407, 408, 409, 410, 411, 412, 208, 209, 210, 413, 414, 415, 416, 417, 418, 419, 420, 256, 257, 258, 421, 422, 423, 424, 860, 861, 862, 863, 991, 992, 993, 994, 995, 996, 997, 998, 999, 1000, 1001, 1002, 1003, 1004] (by decide +kernel) (by decide +kernel)
set_option maxRecDepth 20000 in
theorem gL_law_X5_ifCalled : GoodIn wsL_law (wsV RL 153 RX5 yX5_ifCalled wsX5_ifCalled) := goodIn_app (goodIn_of _ (by decide +kernel)) ggL_law_X5_ifCalled
set_option maxRecDepth 20000 in
theorem ggL_law_L_thin : GoodIn wsL_law wsL_thin := goodIn_ca (goodIn_r _ [866, 73, 867, 868, 869, 2, 870, 28, 16, 294, 295, 296, 297, 82, 83, 298, 177, 178, 15, 179, 34, 437, 322, 323, 324, 180, 181, 182, 183, 304, 305, 306, 27, 307, 308, 53, 309, 310, 100, 101, 102, 311, 312, 313, 56, 314, 315, 316, 317, 54, 55, 318, 319, 124, 125, 126, 320, 321, 325, 326, 327, 328, 329, 330, 331, 58, 332, 333, 334, 335, 336, 184, 185, 186, 187, 337, 338, 339, 340, 341, 342, 343, 344, 345, 57, 346, 347, 348, 349, 350, 223, 224, 871, 872, 873, 874, 987, 988, 989, 990, 1005, 1021, 1022, 1023, 1024, 1025, 1026, 1027, 1028, 1029, 1030, 1031, 1032] (by decide +kernel) (by decide +kernel)) (goodIn_sub (fun _ h => List.mem_append_left _ (List.mem_append_left _ (List.mem_append_right _ h))) (by decide +kernel))
set_option maxRecDepth 20000 in
theorem gL_law_L_thin : GoodIn wsL_law (va_wsS RL 154 yL_thin wsL_thin) := goodIn_app (goodIn_of _ (by decide +kernel)) ggL_law_L_thin
set_option maxRecDepth 20000 in
theorem ggL_law_X5_thin : GoodIn wsL_law wsX5_thin := goodIn_r _ [878, 131, 383, 384, 385, 5, 386, 63, 135, 136, 137, 879, 880, 881, 882, 395, 387, 388, 389, 390, 205, 206, 207, 856, 857, 858, 859, 65, 397, 398, 399, 400, 391, 392, 393, 394, 382, 67, 396, 401, 402, 403, 404, 405, 406, 407, 408, 409, 410, 411, 412, 208, 209, 210, 413, 414, 415, 416, 417, 418, 419, 420, 256, 257, 258, 421, 422, 423, 424, 860, 861, 862, 863, 138, 139, 140, 141, 991, 992, 993, 994, 995, 996, 997, 998, 999, 1000, 1001, 1002, 1003, 1004] (by decide +kernel) (by decide +kernel)
set_option maxRecDepth 20000 in
theorem gL_law_X5_thin : GoodIn wsL_law (wsV RL 156 RX5 yX5_thin wsX5_thin) := goodIn_app (goodIn_of _ (by decide +kernel)) ggL_law_X5_thin
