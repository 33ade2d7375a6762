set_option maxRecDepth 20000 in
theorem ggL_law_X4_worst : GoodIn wsL_law wsX4_worst := goodIn_r _ [886, 16, 28, 298, 177, 178, 15, 179, 34, 437, 322, 323, 324, 180, 181, 182, 183, 304, 305, 306, 27, 307, 308, 53, 309, 310, 100, 101, 102, 311, 312, 313, 56, 314, 315, 316, 317, 54, 55, 318, 319, 124, 125, 126, 320, 321, 325, 326, 327, 328, 329, 330, 331, 58, 332, 333, 334, 335, 336, 184, 185, 186, 187, 337, 338, 339, 340, 341, 342, 343, 344, 345, 57, 346, 347, 348, 349, 350, 223, 224, 887, 841, 842, 843, 987, 988, 989, 990, 1005, 1021, 1022, 1023, 1024, 1025, 1026, 1027, 1028, 1029, 1030, 1031, 1032] (by decide +kernel) (by decide +kernel)
set_option maxRecDepth 20000 in
theorem gL_law_X4_worst : GoodIn wsL_law (wsV RL 157 RX4 yX4_worst wsX4_worst) := goodIn_app (goodIn_of _ (by decide +kernel)) ggL_law_X4_worst
set_option maxRecDepth 20000 in
theorem ggL_law_X5_worst : GoodIn wsL_law wsX5_worst := goodIn_r _ [891, 131, 892, 893, 894, 5, 895, 63, 397, 398, 399, 400, 205, 206, 207, 852, 853, 854, 855, 382, 396, 387, 388, 389, 390, 856, 857, 858, 859, 65, 391, 392, 393, 394, 395, 67, 401, 402, 403, 404, 405, 406, 407, 408, 409, 410, 411, 412, 208, 209, 210, 413, 414, 415, 416, 417, 418, 419, 420, 256, 257, 258, 421, 422, 423, 424, 860, 861, 862, 863, 991, 992, 993, 994, 995, 996, 997, 998, 999, 1000, 1001, 1002, 1003, 1004] (by decide +kernel) (by decide +kernel)
set_option maxRecDepth 20000 in
theorem gL_law_X5_worst : GoodIn wsL_law (wsV RL 160 RX5 yX5_worst wsX5_worst) := goodIn_app (goodIn_of _ (by decide +kernel)) ggL_law_X5_worst
set_option maxRecDepth 20000 in
theorem ggL_law_L_spare : GoodIn wsL_law wsL_spare := goodIn_ca (goodIn_r _ [898, 73, 899, 900, 901, 2, 902, 16, 79, 80, 81, 82, 83, 165, 166, 167, 15, 168, 169, 170, 101, 171, 172, 173, 174, 175, 176, 177, 178, 179, 34, 180, 181, 182, 183, 184, 185, 186, 187, 188, 189, 190, 191, 192, 124, 125, 126, 987, 988, 989, 990, 1005] (by decide +kernel) (by decide +kernel)) (goodIn_sub (fun _ h => List.mem_append_left _ (List.mem_append_left _ (List.mem_append_right _ h))) (by decide +kernel))
set_option maxRecDepth 20000 in
theorem gL_law_L_spare : GoodIn wsL_law (va_wsS RL 161 yL_spare wsL_spare) := goodIn_app (goodIn_of _ (by decide +kernel)) ggL_law_L_spare
set_option maxRecDepth 20000 in
theorem ggL_law_X5_spare : GoodIn wsL_law wsX5_spare := goodIn_r _ [906, 131, 132, 133, 5, 134, 135, 136, 137, 197, 198, 199, 200, 63, 201, 202, 203, 204, 205, 206, 207, 208, 209, 210, 138, 139, 140, 141, 991, 992, 993, 994, 995, 996, 997, 998, 999, 1000, 1001, 1002, 1003, 1004] (by decide +kernel) (by decide +kernel)
set_option maxRecDepth 20000 in
theorem gL_law_X5_spare : GoodIn wsL_law (wsV RL 163 RX5 yX5_spare wsX5_spare) := goodIn_app (goodIn_of _ (by decide +kernel)) ggL_law_X5_spare
set_option maxRecDepth 20000 in
theorem ggL_law_X4_paidShare : GoodIn wsL_law wsX4_paidShare := goodIn_r _ [910, 16, 785, 786, 787, 15, 788, 176, 177, 178, 179, 34, 180, 181, 182, 183, 987, 988, 989, 990, 1005] (by decide +kernel) (by decide +kernel)
set_option maxRecDepth 20000 in
theorem gL_law_X4_paidShare : GoodIn wsL_law (wsV RL 164 RX4 yX4_paidShare wsX4_paidShare) := goodIn_app (goodIn_of _ (by decide +kernel)) ggL_law_X4_paidShare
set_option maxRecDepth 20000 in
theorem ggL_law_X5_paidShare : GoodIn wsL_law wsX5_paidShare := goodIn_r _ [914, 131, 915, 916, 917, 5, 918, 63, 991, 992, 993, 994, 995, 996, 997, 998, 999, 1000, 1001, 1002, 1003, 1004] (by decide +kernel) (by decide +kernel)
set_option maxRecDepth 20000 in
theorem gL_law_X5_paidShare : GoodIn wsL_law (wsV RL 168 RX5 yX5_paidShare wsX5_paidShare) := goodIn_app (goodIn_of _ (by decide +kernel)) ggL_law_X5_paidShare
set_option maxRecDepth 20000 in
theorem gcX4_digest_0 : GoodIn wsL_law (Cond.code yX4_digest cX4_digest 4 (some .long) :: wsX4_digest_r1) := goodIn_r _ [922, 923, 16, 24, 924, 782, 783, 2, 784, 20, 88, 89, 90, 91, 92, 298, 177, 178, 15, 179, 34, 785, 786, 787, 788] (by decide +kernel) (by decide +kernel)
set_option maxRecDepth 20000 in
theorem gcX4_digest_wsX4_digest_r2 : GoodIn wsL_law wsX4_digest_r2 := goodIn_r _ [176, 180, 181, 182, 183, 789, 790, 791, 792, 192, 124, 125, 126, 793, 794, 795, 796, 797, 798, 799, 800, 801, 703, 704] (by decide +kernel) (by decide +kernel)
set_option maxRecDepth 20000 in
theorem gcX4_digest_wsX4_digest_r3 : GoodIn wsL_law wsX4_digest_r3 := goodIn_r _ [705, 706, 245, 246, 247, 679, 680, 681, 19, 682, 98, 925, 926, 927, 928, 929, 822, 823, 824, 266, 267, 268, 82, 83] (by decide +kernel) (by decide +kernel)
set_option maxRecDepth 20000 in
theorem gcX4_digest_wsX4_digest_r4 : GoodIn wsL_law wsX4_digest_r4 := goodIn_r _ [275, 189, 190, 191, 930, 931, 932, 933, 934, 699, 700, 701, 79, 80, 81, 123, 702, 707, 708, 709, 710, 623, 173, 174] (by decide +kernel) (by decide +kernel)
set_option maxRecDepth 20000 in
theorem gcX4_digest_wsX4_digest_r5 : GoodIn wsL_law wsX4_digest_r5 := goodIn_r _ [175, 184, 185, 186, 187, 711, 712, 713, 714, 222, 223, 224, 715, 716, 717, 718, 935, 900, 901, 902, 165, 166, 167, 168] (by decide +kernel) (by decide +kernel)
set_option maxRecDepth 20000 in
theorem gcX4_digest_wsX4_digest_r6 : GoodIn wsL_law wsX4_digest_r6 := goodIn_r _ [169, 170, 101, 171, 172, 188, 936, 771, 772, 773, 244, 937, 938, 939, 940, 28, 941, 743, 744, 745, 294, 295, 296, 297] (by decide +kernel) (by decide +kernel)
set_option maxRecDepth 20000 in
theorem gcX4_digest_wsX4_digest_r7 : GoodIn wsL_law wsX4_digest_r7 := goodIn_r _ [437, 322, 323, 324, 746, 334, 335, 336, 303, 942, 759, 760, 761, 762, 304, 305, 306, 27, 307, 308, 53, 309, 310, 100] (by decide +kernel) (by decide +kernel)
set_option maxRecDepth 20000 in
theorem gcX4_digest_wsX4_digest_r8 : GoodIn wsL_law wsX4_digest_r8 := goodIn_r _ [102, 311, 312, 313, 56, 314, 315, 316, 317, 54, 55, 318, 319, 320, 321, 325, 326, 327, 328, 329, 330, 331, 58, 332] (by decide +kernel) (by decide +kernel)
set_option maxRecDepth 20000 in
theorem gcX4_digest_wsX4_digest_r9 : GoodIn wsL_law wsX4_digest_r9 := goodIn_r _ [333, 337, 338, 339, 340, 341, 342, 343, 344, 345, 57, 346, 347, 348, 349, 350, 836, 837, 838, 839, 840, 841, 842, 843] (by decide +kernel) (by decide +kernel)
set_option maxRecDepth 20000 in
theorem gcX4_digest_wsX4_digest_r10 : GoodIn wsL_law wsX4_digest_r10 := goodIn_r _ [844, 845, 846, 847, 943, 868, 869, 870, 871, 872, 873, 874, 944, 884, 885, 886, 887, 945, 908, 909, 910, 946, 947, 948] (by decide +kernel) (by decide +kernel)
set_option maxRecDepth 20000 in
theorem gcX4_digest_wsX4_digest_r11 : GoodIn wsL_law wsX4_digest_r11 := goodIn_r _ [949, 950, 951, 476, 477, 478, 23, 479, 480, 952, 953, 954, 955, 45] (by decide +kernel) (by decide +kernel)
set_option maxRecDepth 20000 in
theorem gcX4_digest_wsX40 : GoodIn wsL_law wsX40 := goodIn_r _ [987, 988, 989, 990] (by decide +kernel) (by decide +kernel)
set_option maxRecDepth 20000 in
theorem gcX4_digest_wsX30 : GoodIn wsL_law wsX30 := goodIn_r _ [1005] (by decide +kernel) (by decide +kernel)
set_option maxRecDepth 20000 in
theorem gcX4_digest_wsX10 : GoodIn wsL_law wsX10 := goodIn_r _ [1006, 1007, 1008] (by decide +kernel) (by decide +kernel)
set_option maxRecDepth 20000 in
theorem gcX4_digest_wsX20 : GoodIn wsL_law wsX20 := goodIn_r _ [1021, 1022, 1023, 1024, 1025, 1026, 1027, 1028, 1029, 1030, 1031, 1032] (by decide +kernel) (by decide +kernel)
set_option maxRecDepth 20000 in
theorem gcX4_digest_wsX00 : GoodIn wsL_law wsX00 := goodIn_r _ [1009, 1010, 1011, 1012, 1013, 1014, 1015, 1016, 1017, 1018, 1019, 1020] (by decide +kernel) (by decide +kernel)
theorem ggL_law_X4_digest : GoodIn wsL_law wsX4_digest := goodIn_ca (goodIn_ca (goodIn_ca (goodIn_ca (goodIn_ca (goodIn_ca (goodIn_ca (goodIn_ca gcX4_digest_0 (goodIn_app gcX4_digest_wsX4_digest_r2 (goodIn_app gcX4_digest_wsX4_digest_r3 (goodIn_app gcX4_digest_wsX4_digest_r4 (goodIn_app gcX4_digest_wsX4_digest_r5 (goodIn_app gcX4_digest_wsX4_digest_r6 (goodIn_app gcX4_digest_wsX4_digest_r7 (goodIn_app gcX4_digest_wsX4_digest_r8 (goodIn_app gcX4_digest_wsX4_digest_r9 (goodIn_app gcX4_digest_wsX4_digest_r10 gcX4_digest_wsX4_digest_r11)))))))))) gcX4_digest_wsX40) gcX4_digest_wsX30) gcX4_digest_wsX10) gcX4_digest_wsX20) gcX4_digest_wsX00) (goodIn_sub (fun _ h => List.mem_append_left _ (List.mem_append_right _ h)) (by decide +kernel))) (goodIn_sub (fun _ h => List.mem_append_left _ (List.mem_append_left _ (List.mem_append_right _ h))) (by decide +kernel))
set_option maxRecDepth 20000 in
theorem gL_law_X4_digest : GoodIn wsL_law (wsV RL 169 RX4 yX4_digest wsX4_digest) := goodIn_app (goodIn_of _ (by decide +kernel)) ggL_law_X4_digest
set_option maxRecDepth 20000 in
theorem gcX5_digest_0 : GoodIn wsL_law (Cond.code yX5_digest cX5_digest 2 (some .long) :: wsX5_digest_r1) := goodIn_r _ [959, 131, 960, 961, 63, 489, 66, 806, 807, 808, 5, 809, 150, 810, 811, 812, 813, 387, 388, 389, 390, 205, 206, 207, 814] (by decide +kernel) (by decide +kernel)
set_option maxRecDepth 20000 in
theorem gcX5_digest_wsX5_digest_r2 : GoodIn wsL_law wsX5_digest_r2 := goodIn_r _ [815, 816, 817, 723, 724, 725, 726, 727, 728, 729, 730, 256, 257, 258, 201, 202, 203, 204, 208, 209, 210, 731, 732, 733] (by decide +kernel) (by decide +kernel)
set_option maxRecDepth 20000 in
theorem gcX5_digest_wsX5_digest_r3 : GoodIn wsL_law wsX5_digest_r3 := goodIn_r _ [734, 735, 736, 737, 738, 962, 963, 964, 965, 966, 967, 968, 969, 970, 197, 198, 199, 200, 971, 972, 973, 974, 751, 752] (by decide +kernel) (by decide +kernel)
set_option maxRecDepth 20000 in
theorem gcX5_digest_wsX5_digest_r4 : GoodIn wsL_law wsX5_digest_r4 := goodIn_r _ [753, 754, 397, 398, 399, 400, 409, 410, 411, 412, 852, 853, 854, 855, 382, 396, 856, 857, 858, 859, 65, 391, 392, 393] (by decide +kernel) (by decide +kernel)
set_option maxRecDepth 20000 in
theorem gcX5_digest_wsX5_digest_r5 : GoodIn wsL_law wsX5_digest_r5 := goodIn_r _ [394, 395, 67, 401, 402, 403, 404, 405, 406, 407, 408, 413, 414, 415, 416, 417, 418, 419, 420, 421, 422, 423, 424, 860] (by decide +kernel) (by decide +kernel)
set_option maxRecDepth 20000 in
theorem gcX5_digest_wsX5_digest_r6 : GoodIn wsL_law wsX5_digest_r6 := goodIn_r _ [861, 862, 863, 879, 880, 881, 882, 892, 893, 894, 895, 915, 916, 917, 918, 975, 976, 977, 978, 979, 980, 981, 982, 983] (by decide +kernel) (by decide +kernel)
set_option maxRecDepth 20000 in
theorem gcX5_digest_wsX5_digest_r7 : GoodIn wsL_law wsX5_digest_r7 := goodIn_r _ [984, 985, 986] (by decide +kernel) (by decide +kernel)
set_option maxRecDepth 20000 in
theorem gcX5_digest_wsX50 : GoodIn wsL_law wsX50 := goodIn_r _ [991, 992, 993, 994, 995, 996, 997, 998, 999, 1000, 1001, 1002, 1003, 1004] (by decide +kernel) (by decide +kernel)
theorem ggL_law_X5_digest : GoodIn wsL_law wsX5_digest := (goodIn_ca (goodIn_ca gcX5_digest_0 (goodIn_app gcX5_digest_wsX5_digest_r2 (goodIn_app gcX5_digest_wsX5_digest_r3 (goodIn_app gcX5_digest_wsX5_digest_r4 (goodIn_app gcX5_digest_wsX5_digest_r5 (goodIn_app gcX5_digest_wsX5_digest_r6 gcX5_digest_wsX5_digest_r7)))))) gcX5_digest_wsX50)
set_option maxRecDepth 20000 in
theorem gL_law_X5_digest : GoodIn wsL_law (wsV RL 173 RX5 yX5_digest wsX5_digest) := goodIn_app (goodIn_of _ (by decide +kernel)) ggL_law_X5_digest
