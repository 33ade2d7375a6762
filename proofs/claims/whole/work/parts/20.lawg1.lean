set_option maxRecDepth 20000 in
theorem ggL_law_X4_init : GoodIn wsL_law wsX4_init := goodIn_r _ [9, 10, 11, 12, 13, 14, 15, 16, 17, 18, 19, 20, 21, 22, 23, 24, 25, 26, 27, 28, 29, 30, 31, 32, 33, 34, 35, 36, 37, 38, 39, 40, 41, 42, 43, 44, 45, 46, 47, 48, 49, 50, 51, 52, 53, 54, 55, 56, 57, 6, 58, 1005, 987, 988, 989, 990, 1006, 1007, 1008, 1009, 1010, 1011, 1012, 1013, 1014, 1015, 1016, 1017, 1018, 1019, 1020, 1021, 1022, 1023, 1024, 1025, 1026, 1027, 1028, 1029, 1030, 1031, 1032] (by decide +kernel) (by decide +kernel)
set_option maxRecDepth 20000 in
theorem gL_law_X4_init : GoodIn wsL_law (wsX4_init) := ggL_law_X4_init
set_option maxRecDepth 20000 in
theorem ggL_law_X5_init : GoodIn wsL_law wsX5_init := goodIn_r _ [61, 62, 11, 12, 33, 63, 64, 65, 66, 67, 68, 991, 992, 993, 994, 995, 996, 997, 998, 999, 1000, 1001, 1002, 1003, 1004] (by decide +kernel) (by decide +kernel)
set_option maxRecDepth 20000 in
theorem gL_law_X5_init : GoodIn wsL_law (wsX5_init) := ggL_law_X5_init
set_option maxRecDepth 20000 in
theorem ggL_law_L_bring : GoodIn wsL_law wsL_bring := goodIn_ca (goodIn_ca (goodIn_r _ [72, 73, 74, 75, 76, 77, 2, 78, 20, 16, 79, 80, 81, 82, 83, 84, 85, 86, 87, 88, 89, 90, 91, 92, 93, 94, 95, 19, 96, 40, 97, 98, 99, 100, 101, 102, 103, 104, 105, 15, 106, 34, 107, 108, 109, 110, 111, 112, 113, 114, 115, 116, 117, 118, 119, 120, 121, 122, 123, 124, 125, 126, 987, 988, 989, 990, 1006, 1007, 1008, 1005] (by decide +kernel) (by decide +kernel)) (goodIn_sub (fun _ h => List.mem_append_left _ (List.mem_append_left _ (List.mem_append_right _ h))) (by decide +kernel))) (goodIn_sub (fun _ h => List.mem_append_left _ (List.mem_append_right _ h)) (by decide +kernel))
set_option maxRecDepth 20000 in
theorem gL_law_L_bring : GoodIn wsL_law (va_wsS RL 83 yL_bring wsL_bring) := goodIn_app (goodIn_of _ (by decide +kernel)) ggL_law_L_bring
set_option maxRecDepth 20000 in
theorem ggL_law_X5_bring : GoodIn wsL_law wsX5_bring := goodIn_r _ [130, 131, 63, 132, 133, 5, 134, 135, 136, 137, 138, 139, 140, 141, 142, 143, 144, 145, 146, 147, 148, 149, 150, 64, 991, 992, 993, 994, 995, 996, 997, 998, 999, 1000, 1001, 1002, 1003, 1004] (by decide +kernel) (by decide +kernel)
set_option maxRecDepth 20000 in
theorem gL_law_X5_bring : GoodIn wsL_law (wsV RL 88 RX5 yX5_bring wsX5_bring) := goodIn_app (goodIn_of _ (by decide +kernel)) ggL_law_X5_bring
set_option maxRecDepth 20000 in
theorem ggL_law_X5_thrown : GoodIn wsL_law wsX5_thrown := goodIn_r _ [154, 131, 991, 992, 993, 994, 995, 996, 997, 998, 999, 1000, 1001, 1002, 1003, 1004] (by decide +kernel) (by decide +kernel)
set_option maxRecDepth 20000 in
theorem gL_law_X5_thrown : GoodIn wsL_law (wsV RL 89 RX5 yX5_thrown wsX5_thrown) := goodIn_app (goodIn_of _ (by decide +kernel)) ggL_law_X5_thrown
set_option maxRecDepth 20000 in
theorem ggL_law_L_takeOut : GoodIn wsL_law wsL_takeOut := goodIn_ca (goodIn_ca (goodIn_ca (goodIn_r _ [157, 73, 74, 158, 159, 160, 161, 2, 162, 163, 164, 16, 20, 79, 80, 81, 82, 83, 84, 85, 86, 87, 88, 89, 90, 91, 92, 165, 166, 167, 15, 168, 169, 170, 101, 171, 172, 173, 174, 175, 176, 177, 178, 179, 34, 180, 181, 182, 183, 184, 185, 186, 187, 188, 189, 190, 191, 192, 124, 125, 126, 93, 94, 95, 19, 96, 40, 97, 98, 99, 100, 102, 103, 104, 105, 106, 107, 108, 109, 110, 111, 112, 113, 114, 115, 116, 117, 118, 119, 120, 121, 122, 123, 987, 988, 989, 990, 1005, 1006, 1007, 1008] (by decide +kernel) (by decide +kernel)) (goodIn_sub (fun _ h => List.mem_append_right _ h) (by decide +kernel))) (goodIn_sub (fun _ h => List.mem_append_left _ (List.mem_append_left _ (List.mem_append_right _ h))) (by decide +kernel))) (goodIn_sub (fun _ h => List.mem_append_left _ (List.mem_append_right _ h)) (by decide +kernel))
set_option maxRecDepth 20000 in
theorem gL_law_L_takeOut : GoodIn wsL_law (va_wsS RL 92 yL_takeOut wsL_takeOut) := goodIn_app (goodIn_of _ (by decide +kernel)) ggL_law_L_takeOut
set_option maxRecDepth 20000 in
theorem ggL_law_X5_takeOut : GoodIn wsL_law wsX5_takeOut := goodIn_r _ [196, 131, 63, 132, 133, 5, 134, 135, 136, 137, 138, 139, 140, 141, 142, 143, 144, 145, 197, 198, 199, 200, 201, 202, 203, 204, 205, 206, 207, 208, 209, 210, 146, 147, 148, 149, 150, 64, 991, 992, 993, 994, 995, 996, 997, 998, 999, 1000, 1001, 1002, 1003, 1004] (by decide +kernel) (by decide +kernel)
set_option maxRecDepth 20000 in
theorem gL_law_X5_takeOut : GoodIn wsL_law (wsV RL 94 RX5 yX5_takeOut wsX5_takeOut) := goodIn_app (goodIn_of _ (by decide +kernel)) ggL_law_X5_takeOut
set_option maxRecDepth 20000 in
theorem ggL_law_L_guarantee : GoodIn wsL_law wsL_guarantee := goodIn_ca (goodIn_ca (goodIn_ca (goodIn_r _ [213, 73, 74, 158, 214, 215, 216, 2, 217, 163, 164, 16, 20, 79, 80, 81, 82, 83, 88, 89, 90, 91, 92, 218, 219, 220, 15, 221, 222, 223, 224, 192, 124, 125, 126, 34, 93, 94, 95, 19, 96, 40, 97, 98, 99, 100, 101, 102, 103, 104, 105, 106, 107, 108, 109, 110, 123, 225, 226, 227, 228, 987, 988, 989, 990, 1005, 1006, 1007, 1008] (by decide +kernel) (by decide +kernel)) (goodIn_sub (fun _ h => List.mem_append_right _ h) (by decide +kernel))) (goodIn_sub (fun _ h => List.mem_append_left _ (List.mem_append_left _ (List.mem_append_right _ h))) (by decide +kernel))) (goodIn_sub (fun _ h => List.mem_append_left _ (List.mem_append_right _ h)) (by decide +kernel))
set_option maxRecDepth 20000 in
theorem gL_law_L_guarantee : GoodIn wsL_law (va_wsS RL 95 yL_guarantee wsL_guarantee) := goodIn_app (goodIn_of _ (by decide +kernel)) ggL_law_L_guarantee
set_option maxRecDepth 20000 in
theorem ggL_law_X5_guarantee : GoodIn wsL_law wsX5_guarantee := goodIn_r _ [232, 131, 63, 132, 133, 5, 134, 135, 136, 137, 138, 139, 140, 141, 233, 234, 235, 236, 146, 147, 148, 149, 150, 64, 991, 992, 993, 994, 995, 996, 997, 998, 999, 1000, 1001, 1002, 1003, 1004] (by decide +kernel) (by decide +kernel)
set_option maxRecDepth 20000 in
theorem gL_law_X5_guarantee : GoodIn wsL_law (wsV RL 98 RX5 yX5_guarantee wsX5_guarantee) := goodIn_app (goodIn_of _ (by decide +kernel)) ggL_law_X5_guarantee
