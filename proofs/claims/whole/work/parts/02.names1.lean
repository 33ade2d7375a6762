theorem dX0_init_0 : decode cX0_init 0 = .ok (.aload_n 0, 1) := by decide +kernel
theorem dX0_init_1 : decode cX0_init 1 = .ok (.invokespecial 3, 3) := by decide +kernel
theorem dX0_init_4 : decode cX0_init 4 = .ok (.aload_n 0, 1) := by decide +kernel
theorem dX0_init_5 : decode cX0_init 5 = .ok (.bipush 60, 2) := by decide +kernel
theorem dX0_init_7 : decode cX0_init 7 = .ok (.newarray .int, 2) := by decide +kernel
theorem dX0_init_9 : decode cX0_init 9 = .ok (.putfield 9, 3) := by decide +kernel
theorem dX0_init_12 : decode cX0_init 12 = .ok (.aload_n 0, 1) := by decide +kernel
theorem dX0_init_13 : decode cX0_init 13 = .ok (.iconst 4, 1) := by decide +kernel
theorem dX0_init_14 : decode cX0_init 14 = .ok (.newarray .int, 2) := by decide +kernel
theorem dX0_init_16 : decode cX0_init 16 = .ok (.putfield 15, 3) := by decide +kernel
theorem dX0_init_19 : decode cX0_init 19 = .ok (.aload_n 0, 1) := by decide +kernel
theorem dX0_init_20 : decode cX0_init 20 = .ok (.iconst 4, 1) := by decide +kernel
theorem dX0_init_21 : decode cX0_init 21 = .ok (.newarray .int, 2) := by decide +kernel
theorem dX0_init_23 : decode cX0_init 23 = .ok (.putfield 18, 3) := by decide +kernel
theorem dX0_init_26 : decode cX0_init 26 = .ok (.aload_n 0, 1) := by decide +kernel
theorem dX0_init_27 : decode cX0_init 27 = .ok (.iconst 5, 1) := by decide +kernel
theorem dX0_init_28 : decode cX0_init 28 = .ok (.newarray .int, 2) := by decide +kernel
theorem dX0_init_30 : decode cX0_init 30 = .ok (.putfield 21, 3) := by decide +kernel
theorem dX0_init_33 : decode cX0_init 33 = .ok (.return_, 1) := by decide +kernel
theorem dX0_length_0 : decode cX0_length 0 = .ok (.aload_n 0, 1) := by decide +kernel
theorem dX0_length_1 : decode cX0_length 1 = .ok (.getfield 24, 3) := by decide +kernel
theorem dX0_length_4 : decode cX0_length 4 = .ok (.ireturn, 1) := by decide +kernel
theorem dX0_codeAt_0 : decode cX0_codeAt 0 = .ok (.aload_n 0, 1) := by decide +kernel
theorem dX0_codeAt_1 : decode cX0_codeAt 1 = .ok (.getfield 9, 3) := by decide +kernel
theorem dX0_codeAt_4 : decode cX0_codeAt 4 = .ok (.iload_n 1, 1) := by decide +kernel
theorem dX0_codeAt_5 : decode cX0_codeAt 5 = .ok (.iaload, 1) := by decide +kernel
theorem dX0_codeAt_6 : decode cX0_codeAt 6 = .ok (.ireturn, 1) := by decide +kernel
theorem dX0_principal_0 : decode cX0_principal 0 = .ok (.aload_n 0, 1) := by decide +kernel
theorem dX0_principal_1 : decode cX0_principal 1 = .ok (.getfield 28, 3) := by decide +kernel
theorem dX0_principal_4 : decode cX0_principal 4 = .ok (.ireturn, 1) := by decide +kernel
theorem dX0_sum_0 : decode cX0_sum 0 = .ok (.aload_n 0, 1) := by decide +kernel
theorem dX0_sum_1 : decode cX0_sum 1 = .ok (.getfield 31, 3) := by decide +kernel
theorem dX0_sum_4 : decode cX0_sum 4 = .ok (.ireturn, 1) := by decide +kernel
theorem dX0_way_0 : decode cX0_way 0 = .ok (.aload_n 0, 1) := by decide +kernel
theorem dX0_way_1 : decode cX0_way 1 = .ok (.getfield 34, 3) := by decide +kernel
theorem dX0_way_4 : decode cX0_way 4 = .ok (.ireturn, 1) := by decide +kernel
theorem dX0_layers_0 : decode cX0_layers 0 = .ok (.aload_n 0, 1) := by decide +kernel
theorem dX0_layers_1 : decode cX0_layers 1 = .ok (.getfield 37, 3) := by decide +kernel
theorem dX0_layers_4 : decode cX0_layers 4 = .ok (.ireturn, 1) := by decide +kernel
theorem dX0_surety_0 : decode cX0_surety 0 = .ok (.aload_n 0, 1) := by decide +kernel
theorem dX0_surety_1 : decode cX0_surety 1 = .ok (.getfield 15, 3) := by decide +kernel
theorem dX0_surety_4 : decode cX0_surety 4 = .ok (.iload_n 1, 1) := by decide +kernel
theorem dX0_surety_5 : decode cX0_surety 5 = .ok (.iaload, 1) := by decide +kernel
theorem dX0_surety_6 : decode cX0_surety 6 = .ok (.ireturn, 1) := by decide +kernel
theorem dX0_limit_0 : decode cX0_limit 0 = .ok (.aload_n 0, 1) := by decide +kernel
theorem dX0_limit_1 : decode cX0_limit 1 = .ok (.getfield 18, 3) := by decide +kernel
theorem dX0_limit_4 : decode cX0_limit 4 = .ok (.iload_n 1, 1) := by decide +kernel
theorem dX0_limit_5 : decode cX0_limit 5 = .ok (.iaload, 1) := by decide +kernel
theorem dX0_limit_6 : decode cX0_limit 6 = .ok (.ireturn, 1) := by decide +kernel
theorem dX0_milestones_0 : decode cX0_milestones 0 = .ok (.aload_n 0, 1) := by decide +kernel
theorem dX0_milestones_1 : decode cX0_milestones 1 = .ok (.getfield 40, 3) := by decide +kernel
theorem dX0_milestones_4 : decode cX0_milestones 4 = .ok (.ireturn, 1) := by decide +kernel
theorem dX0_share_0 : decode cX0_share 0 = .ok (.aload_n 0, 1) := by decide +kernel
theorem dX0_share_1 : decode cX0_share 1 = .ok (.getfield 21, 3) := by decide +kernel
theorem dX0_share_4 : decode cX0_share 4 = .ok (.iload_n 1, 1) := by decide +kernel
theorem dX0_share_5 : decode cX0_share 5 = .ok (.iaload, 1) := by decide +kernel
theorem dX0_share_6 : decode cX0_share 6 = .ok (.ireturn, 1) := by decide +kernel
theorem dX0_add_0 : decode cX0_add 0 = .ok (.aload_n 0, 1) := by decide +kernel
theorem dX0_add_1 : decode cX0_add 1 = .ok (.getfield 9, 3) := by decide +kernel
theorem dX0_add_4 : decode cX0_add 4 = .ok (.aload_n 0, 1) := by decide +kernel
theorem dX0_add_5 : decode cX0_add 5 = .ok (.getfield 24, 3) := by decide +kernel
theorem dX0_add_8 : decode cX0_add 8 = .ok (.iload_n 1, 1) := by decide +kernel
theorem dX0_add_9 : decode cX0_add 9 = .ok (.iastore, 1) := by decide +kernel
theorem dX0_add_10 : decode cX0_add 10 = .ok (.aload_n 0, 1) := by decide +kernel
theorem dX0_add_11 : decode cX0_add 11 = .ok (.dup, 1) := by decide +kernel
theorem dX0_add_12 : decode cX0_add 12 = .ok (.getfield 24, 3) := by decide +kernel
theorem dX0_add_15 : decode cX0_add 15 = .ok (.iconst 1, 1) := by decide +kernel
theorem dX0_add_16 : decode cX0_add 16 = .ok (.iadd, 1) := by decide +kernel
theorem dX0_add_17 : decode cX0_add 17 = .ok (.putfield 24, 3) := by decide +kernel
theorem dX0_add_20 : decode cX0_add 20 = .ok (.return_, 1) := by decide +kernel
theorem dX0_clear_0 : decode cX0_clear 0 = .ok (.aload_n 0, 1) := by decide +kernel
theorem dX0_clear_1 : decode cX0_clear 1 = .ok (.iconst 0, 1) := by decide +kernel
theorem dX0_clear_2 : decode cX0_clear 2 = .ok (.putfield 24, 3) := by decide +kernel
theorem dX0_clear_5 : decode cX0_clear 5 = .ok (.return_, 1) := by decide +kernel
set_option maxRecDepth 20000 in
theorem ggX0_read_X0_accepts : GoodIn wsX0_read wsX0_accepts := goodIn_r _ [11, 1, 12, 13, 14, 15, 10, 16, 17, 18, 19, 20, 21, 22, 23, 24, 25, 26, 27, 28, 29, 2, 30, 31, 32, 33, 34, 35, 36, 37, 38, 39, 40, 41, 42, 3, 43, 44, 45, 46, 47, 48, 49, 50, 51, 52, 4, 53, 54, 55, 56, 57, 58, 59, 60, 61, 62, 63, 64, 65, 66] (by decide +kernel) (by decide +kernel)
set_option maxRecDepth 20000 in
theorem gX0_read_X0_accepts : GoodIn wsX0_read (wsV RX0 49 RX0 yX0_accepts wsX0_accepts) := goodIn_app (goodIn_of _ (by decide +kernel)) ggX0_read_X0_accepts
theorem dX0_read_0 : decode cX0_read 0 = .ok (.aload_n 0, 1) := by decide +kernel
theorem dX0_read_1 : decode cX0_read 1 = .ok (.iconst 0, 1) := by decide +kernel
theorem dX0_read_2 : decode cX0_read 2 = .ok (.putfield 43, 3) := by decide +kernel
theorem dX0_read_5 : decode cX0_read 5 = .ok (.aload_n 0, 1) := by decide +kernel
theorem dX0_read_6 : decode cX0_read 6 = .ok (.iconst 0, 1) := by decide +kernel
theorem dX0_read_7 : decode cX0_read 7 = .ok (.putfield 46, 3) := by decide +kernel
theorem dX0_read_10 : decode cX0_read 10 = .ok (.aload_n 0, 1) := by decide +kernel
theorem dX0_read_11 : decode cX0_read 11 = .ok (.iconst 0, 1) := by decide +kernel
theorem dX0_read_12 : decode cX0_read 12 = .ok (.putfield 37, 3) := by decide +kernel
theorem dX0_read_15 : decode cX0_read 15 = .ok (.aload_n 0, 1) := by decide +kernel
theorem dX0_read_16 : decode cX0_read 16 = .ok (.iconst 0, 1) := by decide +kernel
theorem dX0_read_17 : decode cX0_read 17 = .ok (.putfield 40, 3) := by decide +kernel
theorem dX0_read_20 : decode cX0_read 20 = .ok (.iconst 0, 1) := by decide +kernel
theorem dX0_read_21 : decode cX0_read 21 = .ok (.istore_n 1, 1) := by decide +kernel
theorem dX0_read_22 : decode cX0_read 22 = .ok (.iload_n 1, 1) := by decide +kernel
theorem dX0_read_23 : decode cX0_read 23 = .ok (.aload_n 0, 1) := by decide +kernel
theorem dX0_read_24 : decode cX0_read 24 = .ok (.getfield 24, 3) := by decide +kernel
theorem dX0_read_27 : decode cX0_read 27 = .ok (.if_icmp .ge 29, 3) := by decide +kernel
theorem dX0_read_30 : decode cX0_read 30 = .ok (.aload_n 0, 1) := by decide +kernel
theorem dX0_read_31 : decode cX0_read 31 = .ok (.aload_n 0, 1) := by decide +kernel
theorem dX0_read_32 : decode cX0_read 32 = .ok (.getfield 9, 3) := by decide +kernel
theorem dX0_read_35 : decode cX0_read 35 = .ok (.iload_n 1, 1) := by decide +kernel
theorem dX0_read_36 : decode cX0_read 36 = .ok (.iaload, 1) := by decide +kernel
theorem dX0_read_37 : decode cX0_read 37 = .ok (.invokevirtual 49, 3) := by decide +kernel
theorem dX0_read_40 : decode cX0_read 40 = .ok (.ifCond .ne 10, 3) := by decide +kernel
theorem dX0_read_43 : decode cX0_read 43 = .ok (.aload_n 0, 1) := by decide +kernel
theorem dX0_read_44 : decode cX0_read 44 = .ok (.iconst 0, 1) := by decide +kernel
theorem dX0_read_45 : decode cX0_read 45 = .ok (.putfield 43, 3) := by decide +kernel
theorem dX0_read_48 : decode cX0_read 48 = .ok (.iload_n 1, 1) := by decide +kernel
theorem dX0_read_49 : decode cX0_read 49 = .ok (.ireturn, 1) := by decide +kernel
theorem dX0_read_50 : decode cX0_read 50 = .ok (.iinc 1 1, 3) := by decide +kernel
theorem dX0_read_53 : decode cX0_read 53 = .ok (.goto (-31), 3) := by decide +kernel
theorem dX0_read_56 : decode cX0_read 56 = .ok (.aload_n 0, 1) := by decide +kernel
theorem dX0_read_57 : decode cX0_read 57 = .ok (.getfield 24, 3) := by decide +kernel
theorem dX0_read_60 : decode cX0_read 60 = .ok (.ireturn, 1) := by decide +kernel
theorem dX0_isBond_0 : decode cX0_isBond 0 = .ok (.aload_n 0, 1) := by decide +kernel
theorem dX0_isBond_1 : decode cX0_isBond 1 = .ok (.getfield 43, 3) := by decide +kernel
theorem dX0_isBond_4 : decode cX0_isBond 4 = .ok (.bipush 8, 2) := by decide +kernel
theorem dX0_isBond_6 : decode cX0_isBond 6 = .ok (.if_icmp .ne 7, 3) := by decide +kernel
theorem dX0_isBond_9 : decode cX0_isBond 9 = .ok (.iconst 1, 1) := by decide +kernel
theorem dX0_isBond_10 : decode cX0_isBond 10 = .ok (.goto 4, 3) := by decide +kernel
theorem dX0_isBond_13 : decode cX0_isBond 13 = .ok (.iconst 0, 1) := by decide +kernel
theorem dX0_isBond_14 : decode cX0_isBond 14 = .ok (.ireturn, 1) := by decide +kernel
set_option maxRecDepth 20000 in
theorem ggX0_isSound_X0_standsAhead : GoodIn wsX0_isSound wsX0_standsAhead := goodIn_r _ [12, 2, 13, 14, 15, 16, 17, 18, 19, 20, 21, 22, 23, 24] (by decide +kernel) (by decide +kernel)
set_option maxRecDepth 20000 in
theorem gX0_isSound_X0_standsAhead : GoodIn wsX0_isSound (wsV RX0 53 RX0 yX0_standsAhead wsX0_standsAhead) := goodIn_app (goodIn_of _ (by decide +kernel)) ggX0_isSound_X0_standsAhead
theorem dX0_isSound_0 : decode cX0_isSound 0 = .ok (.iconst 0, 1) := by decide +kernel
theorem dX0_isSound_1 : decode cX0_isSound 1 = .ok (.istore_n 1, 1) := by decide +kernel
theorem dX0_isSound_2 : decode cX0_isSound 2 = .ok (.iconst 0, 1) := by decide +kernel
theorem dX0_isSound_3 : decode cX0_isSound 3 = .ok (.istore_n 2, 1) := by decide +kernel
theorem dX0_isSound_4 : decode cX0_isSound 4 = .ok (.iload_n 2, 1) := by decide +kernel
theorem dX0_isSound_5 : decode cX0_isSound 5 = .ok (.aload_n 0, 1) := by decide +kernel
theorem dX0_isSound_6 : decode cX0_isSound 6 = .ok (.getfield 37, 3) := by decide +kernel
theorem dX0_isSound_9 : decode cX0_isSound 9 = .ok (.if_icmp .ge 41, 3) := by decide +kernel
theorem dX0_isSound_12 : decode cX0_isSound 12 = .ok (.aload_n 0, 1) := by decide +kernel
theorem dX0_isSound_13 : decode cX0_isSound 13 = .ok (.getfield 15, 3) := by decide +kernel
theorem dX0_isSound_16 : decode cX0_isSound 16 = .ok (.iload_n 2, 1) := by decide +kernel
theorem dX0_isSound_17 : decode cX0_isSound 17 = .ok (.iaload, 1) := by decide +kernel
theorem dX0_isSound_18 : decode cX0_isSound 18 = .ok (.aload_n 0, 1) := by decide +kernel
theorem dX0_isSound_19 : decode cX0_isSound 19 = .ok (.getfield 28, 3) := by decide +kernel
theorem dX0_isSound_22 : decode cX0_isSound 22 = .ok (.if_icmp .eq 11, 3) := by decide +kernel
theorem dX0_isSound_25 : decode cX0_isSound 25 = .ok (.aload_n 0, 1) := by decide +kernel
theorem dX0_isSound_26 : decode cX0_isSound 26 = .ok (.iload_n 2, 1) := by decide +kernel
theorem dX0_isSound_27 : decode cX0_isSound 27 = .ok (.invokevirtual 53, 3) := by decide +kernel
theorem dX0_isSound_30 : decode cX0_isSound 30 = .ok (.ifCond .eq 5, 3) := by decide +kernel
theorem dX0_isSound_33 : decode cX0_isSound 33 = .ok (.iconst 0, 1) := by decide +kernel
theorem dX0_isSound_34 : decode cX0_isSound 34 = .ok (.ireturn, 1) := by decide +kernel
theorem dX0_isSound_35 : decode cX0_isSound 35 = .ok (.iload_n 1, 1) := by decide +kernel
theorem dX0_isSound_36 : decode cX0_isSound 36 = .ok (.aload_n 0, 1) := by decide +kernel
theorem dX0_isSound_37 : decode cX0_isSound 37 = .ok (.getfield 18, 3) := by decide +kernel
theorem dX0_isSound_40 : decode cX0_isSound 40 = .ok (.iload_n 2, 1) := by decide +kernel
theorem dX0_isSound_41 : decode cX0_isSound 41 = .ok (.iaload, 1) := by decide +kernel
theorem dX0_isSound_42 : decode cX0_isSound 42 = .ok (.iadd, 1) := by decide +kernel
theorem dX0_isSound_43 : decode cX0_isSound 43 = .ok (.istore_n 1, 1) := by decide +kernel
theorem dX0_isSound_44 : decode cX0_isSound 44 = .ok (.iinc 2 1, 3) := by decide +kernel
theorem dX0_isSound_47 : decode cX0_isSound 47 = .ok (.goto (-43), 3) := by decide +kernel
theorem dX0_isSound_50 : decode cX0_isSound 50 = .ok (.iconst 0, 1) := by decide +kernel
theorem dX0_isSound_51 : decode cX0_isSound 51 = .ok (.istore_n 2, 1) := by decide +kernel
theorem dX0_isSound_52 : decode cX0_isSound 52 = .ok (.iconst 0, 1) := by decide +kernel
theorem dX0_isSound_53 : decode cX0_isSound 53 = .ok (.istore_n 3, 1) := by decide +kernel
theorem dX0_isSound_54 : decode cX0_isSound 54 = .ok (.iload_n 3, 1) := by decide +kernel
theorem dX0_isSound_55 : decode cX0_isSound 55 = .ok (.aload_n 0, 1) := by decide +kernel
theorem dX0_isSound_56 : decode cX0_isSound 56 = .ok (.getfield 40, 3) := by decide +kernel
theorem dX0_isSound_59 : decode cX0_isSound 59 = .ok (.if_icmp .ge 18, 3) := by decide +kernel
theorem dX0_isSound_62 : decode cX0_isSound 62 = .ok (.iload_n 2, 1) := by decide +kernel
theorem dX0_isSound_63 : decode cX0_isSound 63 = .ok (.aload_n 0, 1) := by decide +kernel
theorem dX0_isSound_64 : decode cX0_isSound 64 = .ok (.getfield 21, 3) := by decide +kernel
theorem dX0_isSound_67 : decode cX0_isSound 67 = .ok (.iload_n 3, 1) := by decide +kernel
theorem dX0_isSound_68 : decode cX0_isSound 68 = .ok (.iaload, 1) := by decide +kernel
theorem dX0_isSound_69 : decode cX0_isSound 69 = .ok (.iadd, 1) := by decide +kernel
theorem dX0_isSound_70 : decode cX0_isSound 70 = .ok (.istore_n 2, 1) := by decide +kernel
theorem dX0_isSound_71 : decode cX0_isSound 71 = .ok (.iinc 3 1, 3) := by decide +kernel
theorem dX0_isSound_74 : decode cX0_isSound 74 = .ok (.goto (-20), 3) := by decide +kernel
theorem dX0_isSound_77 : decode cX0_isSound 77 = .ok (.iload_n 1, 1) := by decide +kernel
theorem dX0_isSound_78 : decode cX0_isSound 78 = .ok (.aload_n 0, 1) := by decide +kernel
theorem dX0_isSound_79 : decode cX0_isSound 79 = .ok (.getfield 31, 3) := by decide +kernel
theorem dX0_isSound_82 : decode cX0_isSound 82 = .ok (.if_icmp .gt 14, 3) := by decide +kernel
theorem dX0_isSound_85 : decode cX0_isSound 85 = .ok (.iload_n 2, 1) := by decide +kernel
theorem dX0_isSound_86 : decode cX0_isSound 86 = .ok (.sipush 1000, 3) := by decide +kernel
theorem dX0_isSound_89 : decode cX0_isSound 89 = .ok (.if_icmp .gt 7, 3) := by decide +kernel
theorem dX0_isSound_92 : decode cX0_isSound 92 = .ok (.iconst 1, 1) := by decide +kernel
theorem dX0_isSound_93 : decode cX0_isSound 93 = .ok (.goto 4, 3) := by decide +kernel
theorem dX0_isSound_96 : decode cX0_isSound 96 = .ok (.iconst 0, 1) := by decide +kernel
theorem dX0_isSound_97 : decode cX0_isSound 97 = .ok (.ireturn, 1) := by decide +kernel
theorem dX0_standsAhead_0 : decode cX0_standsAhead 0 = .ok (.iconst 0, 1) := by decide +kernel
theorem dX0_standsAhead_1 : decode cX0_standsAhead 1 = .ok (.istore_n 2, 1) := by decide +kernel
theorem dX0_standsAhead_2 : decode cX0_standsAhead 2 = .ok (.iload_n 2, 1) := by decide +kernel
theorem dX0_standsAhead_3 : decode cX0_standsAhead 3 = .ok (.iload_n 1, 1) := by decide +kernel
theorem dX0_standsAhead_4 : decode cX0_standsAhead 4 = .ok (.if_icmp .ge 26, 3) := by decide +kernel
theorem dX0_standsAhead_7 : decode cX0_standsAhead 7 = .ok (.aload_n 0, 1) := by decide +kernel
theorem dX0_standsAhead_8 : decode cX0_standsAhead 8 = .ok (.getfield 15, 3) := by decide +kernel
theorem dX0_standsAhead_11 : decode cX0_standsAhead 11 = .ok (.iload_n 2, 1) := by decide +kernel
theorem dX0_standsAhead_12 : decode cX0_standsAhead 12 = .ok (.iaload, 1) := by decide +kernel
theorem dX0_standsAhead_13 : decode cX0_standsAhead 13 = .ok (.aload_n 0, 1) := by decide +kernel
theorem dX0_standsAhead_14 : decode cX0_standsAhead 14 = .ok (.getfield 15, 3) := by decide +kernel
theorem dX0_standsAhead_17 : decode cX0_standsAhead 17 = .ok (.iload_n 1, 1) := by decide +kernel
theorem dX0_standsAhead_18 : decode cX0_standsAhead 18 = .ok (.iaload, 1) := by decide +kernel
theorem dX0_standsAhead_19 : decode cX0_standsAhead 19 = .ok (.if_icmp .ne 5, 3) := by decide +kernel
theorem dX0_standsAhead_22 : decode cX0_standsAhead 22 = .ok (.iconst 1, 1) := by decide +kernel
theorem dX0_standsAhead_23 : decode cX0_standsAhead 23 = .ok (.ireturn, 1) := by decide +kernel
theorem dX0_standsAhead_24 : decode cX0_standsAhead 24 = .ok (.iinc 2 1, 3) := by decide +kernel
theorem dX0_standsAhead_27 : decode cX0_standsAhead 27 = .ok (.goto (-25), 3) := by decide +kernel
theorem dX0_standsAhead_30 : decode cX0_standsAhead 30 = .ok (.iconst 0, 1) := by decide +kernel
theorem dX0_standsAhead_31 : decode cX0_standsAhead 31 = .ok (.ireturn, 1) := by decide +kernel
set_option maxRecDepth 20000 in
theorem ggX0_accepts_X0_acceptsSign : GoodIn wsX0_accepts wsX0_acceptsSign := goodIn_r _ [7, 1, 49, 50, 51, 52, 53, 54, 55, 56, 57, 58, 59, 60] (by decide +kernel) (by decide +kernel)
set_option maxRecDepth 20000 in
theorem gX0_accepts_X0_acceptsSign : GoodIn wsX0_accepts (wsV RX0 56 RX0 yX0_acceptsSign wsX0_acceptsSign) := goodIn_app (goodIn_of _ (by decide +kernel)) ggX0_accepts_X0_acceptsSign
set_option maxRecDepth 20000 in
theorem ggX0_accepts_X0_acceptsPrincipal : GoodIn wsX0_accepts wsX0_acceptsPrincipal := goodIn_r _ [11, 12, 1, 13, 14, 15, 16, 49, 50, 51, 52, 53, 54, 55, 56, 57, 58, 59, 60] (by decide +kernel) (by decide +kernel)
set_option maxRecDepth 20000 in
theorem gX0_accepts_X0_acceptsPrincipal : GoodIn wsX0_accepts (wsV RX0 60 RX0 yX0_acceptsPrincipal wsX0_acceptsPrincipal) := goodIn_app (goodIn_of _ (by decide +kernel)) ggX0_accepts_X0_acceptsPrincipal
set_option maxRecDepth 20000 in
theorem ggX0_accepts_X0_extendsNumber : GoodIn wsX0_accepts wsX0_extendsNumber := goodIn_r _ [20, 21, 49, 50, 51, 52, 53, 54, 55, 56, 57, 58, 59, 60] (by decide +kernel) (by decide +kernel)
set_option maxRecDepth 20000 in
theorem gX0_accepts_X0_extendsNumber : GoodIn wsX0_accepts (wsV RX0 64 RX0 yX0_extendsNumber wsX0_extendsNumber) := goodIn_app (goodIn_of _ (by decide +kernel)) ggX0_accepts_X0_extendsNumber
set_option maxRecDepth 20000 in
theorem ggX0_accepts_X0_endsSum : GoodIn wsX0_accepts wsX0_endsSum := goodIn_r _ [25, 21, 26, 1, 27, 28, 29, 6, 30, 49, 50, 51, 52, 53, 54, 55, 56, 57, 58, 59, 60] (by decide +kernel) (by decide +kernel)
set_option maxRecDepth 20000 in
theorem gX0_accepts_X0_endsSum : GoodIn wsX0_accepts (wsV RX0 68 RX0 yX0_endsSum wsX0_endsSum) := goodIn_app (goodIn_of _ (by decide +kernel)) ggX0_accepts_X0_endsSum
set_option maxRecDepth 20000 in
theorem ggX0_accepts_X0_acceptsSurety : GoodIn wsX0_accepts wsX0_acceptsSurety := goodIn_r _ [34, 35, 36, 1, 13, 14, 15, 16, 49, 50, 51, 52, 53, 54, 55, 56, 57, 58, 59, 60] (by decide +kernel) (by decide +kernel)
set_option maxRecDepth 20000 in
theorem gX0_accepts_X0_acceptsSurety : GoodIn wsX0_accepts (wsV RX0 71 RX0 yX0_acceptsSurety wsX0_acceptsSurety) := goodIn_app (goodIn_of _ (by decide +kernel)) ggX0_accepts_X0_acceptsSurety
set_option maxRecDepth 20000 in
theorem ggX0_accepts_X0_endsLimit : GoodIn wsX0_accepts wsX0_endsLimit := goodIn_r _ [40, 35, 21, 41, 1, 27, 28, 29, 6, 30, 49, 50, 51, 52, 53, 54, 55, 56, 57, 58, 59, 60] (by decide +kernel) (by decide +kernel)
set_option maxRecDepth 20000 in
theorem gX0_accepts_X0_endsLimit : GoodIn wsX0_accepts (wsV RX0 74 RX0 yX0_endsLimit wsX0_endsLimit) := goodIn_app (goodIn_of _ (by decide +kernel)) ggX0_accepts_X0_endsLimit
set_option maxRecDepth 20000 in
theorem ggX0_accepts_X0_endsShare : GoodIn wsX0_accepts wsX0_endsShare := goodIn_r _ [45, 46, 21, 47, 48, 1, 27, 28, 29, 6, 30, 49, 50, 51, 52, 53, 54, 55, 56, 57, 58, 59, 60] (by decide +kernel) (by decide +kernel)
set_option maxRecDepth 20000 in
theorem gX0_accepts_X0_endsShare : GoodIn wsX0_accepts (wsV RX0 77 RX0 yX0_endsShare wsX0_endsShare) := goodIn_app (goodIn_of _ (by decide +kernel)) ggX0_accepts_X0_endsShare
theorem dX0_accepts_0 : decode cX0_accepts 0 = .ok (.aload_n 0, 1) := by decide +kernel
theorem dX0_accepts_1 : decode cX0_accepts 1 = .ok (.getfield 43, 3) := by decide +kernel
theorem dX0_accepts_4 : decode cX0_accepts 4 = .ok (.tableswitch 161 0 7 #[48, 57, 63, 72, 96, 102, 112, 136], 48) := by decide +kernel
theorem dX0_accepts_52 : decode cX0_accepts 52 = .ok (.aload_n 0, 1) := by decide +kernel
theorem dX0_accepts_53 : decode cX0_accepts 53 = .ok (.iload_n 1, 1) := by decide +kernel
theorem dX0_accepts_54 : decode cX0_accepts 54 = .ok (.bipush 112, 2) := by decide +kernel
theorem dX0_accepts_56 : decode cX0_accepts 56 = .ok (.iconst 1, 1) := by decide +kernel
theorem dX0_accepts_57 : decode cX0_accepts 57 = .ok (.invokevirtual 56, 3) := by decide +kernel
theorem dX0_accepts_60 : decode cX0_accepts 60 = .ok (.ireturn, 1) := by decide +kernel
theorem dX0_accepts_61 : decode cX0_accepts 61 = .ok (.aload_n 0, 1) := by decide +kernel
theorem dX0_accepts_62 : decode cX0_accepts 62 = .ok (.iload_n 1, 1) := by decide +kernel
theorem dX0_accepts_63 : decode cX0_accepts 63 = .ok (.invokevirtual 60, 3) := by decide +kernel
theorem dX0_accepts_66 : decode cX0_accepts 66 = .ok (.ireturn, 1) := by decide +kernel
theorem dX0_accepts_67 : decode cX0_accepts 67 = .ok (.aload_n 0, 1) := by decide +kernel
theorem dX0_accepts_68 : decode cX0_accepts 68 = .ok (.iload_n 1, 1) := by decide +kernel
theorem dX0_accepts_69 : decode cX0_accepts 69 = .ok (.bipush 115, 2) := by decide +kernel
theorem dX0_accepts_71 : decode cX0_accepts 71 = .ok (.iconst 3, 1) := by decide +kernel
theorem dX0_accepts_72 : decode cX0_accepts 72 = .ok (.invokevirtual 56, 3) := by decide +kernel
theorem dX0_accepts_75 : decode cX0_accepts 75 = .ok (.ireturn, 1) := by decide +kernel
theorem dX0_accepts_76 : decode cX0_accepts 76 = .ok (.aload_n 0, 1) := by decide +kernel
theorem dX0_accepts_77 : decode cX0_accepts 77 = .ok (.iload_n 1, 1) := by decide +kernel
theorem dX0_accepts_78 : decode cX0_accepts 78 = .ok (.ldc 63, 2) := by decide +kernel
theorem dX0_accepts_80 : decode cX0_accepts 80 = .ok (.invokevirtual 64, 3) := by decide +kernel
theorem dX0_accepts_83 : decode cX0_accepts 83 = .ok (.ifCond .ne 11, 3) := by decide +kernel
theorem dX0_accepts_86 : decode cX0_accepts 86 = .ok (.aload_n 0, 1) := by decide +kernel
theorem dX0_accepts_87 : decode cX0_accepts 87 = .ok (.iload_n 1, 1) := by decide +kernel
theorem dX0_accepts_88 : decode cX0_accepts 88 = .ok (.invokevirtual 68, 3) := by decide +kernel
theorem dX0_accepts_91 : decode cX0_accepts 91 = .ok (.ifCond .eq 7, 3) := by decide +kernel
theorem dX0_accepts_94 : decode cX0_accepts 94 = .ok (.iconst 1, 1) := by decide +kernel
theorem dX0_accepts_95 : decode cX0_accepts 95 = .ok (.goto 4, 3) := by decide +kernel
theorem dX0_accepts_98 : decode cX0_accepts 98 = .ok (.iconst 0, 1) := by decide +kernel
theorem dX0_accepts_99 : decode cX0_accepts 99 = .ok (.ireturn, 1) := by decide +kernel
theorem dX0_accepts_100 : decode cX0_accepts 100 = .ok (.aload_n 0, 1) := by decide +kernel
theorem dX0_accepts_101 : decode cX0_accepts 101 = .ok (.iload_n 1, 1) := by decide +kernel
theorem dX0_accepts_102 : decode cX0_accepts 102 = .ok (.invokevirtual 71, 3) := by decide +kernel
theorem dX0_accepts_105 : decode cX0_accepts 105 = .ok (.ireturn, 1) := by decide +kernel
theorem dX0_accepts_106 : decode cX0_accepts 106 = .ok (.aload_n 0, 1) := by decide +kernel
theorem dX0_accepts_107 : decode cX0_accepts 107 = .ok (.iload_n 1, 1) := by decide +kernel
theorem dX0_accepts_108 : decode cX0_accepts 108 = .ok (.bipush 42, 2) := by decide +kernel
theorem dX0_accepts_110 : decode cX0_accepts 110 = .ok (.bipush 6, 2) := by decide +kernel
theorem dX0_accepts_112 : decode cX0_accepts 112 = .ok (.invokevirtual 56, 3) := by decide +kernel
theorem dX0_accepts_115 : decode cX0_accepts 115 = .ok (.ireturn, 1) := by decide +kernel
theorem dX0_accepts_116 : decode cX0_accepts 116 = .ok (.aload_n 0, 1) := by decide +kernel
theorem dX0_accepts_117 : decode cX0_accepts 117 = .ok (.iload_n 1, 1) := by decide +kernel
theorem dX0_accepts_118 : decode cX0_accepts 118 = .ok (.ldc 63, 2) := by decide +kernel
theorem dX0_accepts_120 : decode cX0_accepts 120 = .ok (.invokevirtual 64, 3) := by decide +kernel
theorem dX0_accepts_123 : decode cX0_accepts 123 = .ok (.ifCond .ne 11, 3) := by decide +kernel
theorem dX0_accepts_126 : decode cX0_accepts 126 = .ok (.aload_n 0, 1) := by decide +kernel
theorem dX0_accepts_127 : decode cX0_accepts 127 = .ok (.iload_n 1, 1) := by decide +kernel
theorem dX0_accepts_128 : decode cX0_accepts 128 = .ok (.invokevirtual 74, 3) := by decide +kernel
theorem dX0_accepts_131 : decode cX0_accepts 131 = .ok (.ifCond .eq 7, 3) := by decide +kernel
theorem dX0_accepts_134 : decode cX0_accepts 134 = .ok (.iconst 1, 1) := by decide +kernel
theorem dX0_accepts_135 : decode cX0_accepts 135 = .ok (.goto 4, 3) := by decide +kernel
theorem dX0_accepts_138 : decode cX0_accepts 138 = .ok (.iconst 0, 1) := by decide +kernel
theorem dX0_accepts_139 : decode cX0_accepts 139 = .ok (.ireturn, 1) := by decide +kernel
theorem dX0_accepts_140 : decode cX0_accepts 140 = .ok (.aload_n 0, 1) := by decide +kernel
theorem dX0_accepts_141 : decode cX0_accepts 141 = .ok (.iload_n 1, 1) := by decide +kernel
theorem dX0_accepts_142 : decode cX0_accepts 142 = .ok (.sipush 1000, 3) := by decide +kernel
theorem dX0_accepts_145 : decode cX0_accepts 145 = .ok (.invokevirtual 64, 3) := by decide +kernel
theorem dX0_accepts_148 : decode cX0_accepts 148 = .ok (.ifCond .ne 11, 3) := by decide +kernel
theorem dX0_accepts_151 : decode cX0_accepts 151 = .ok (.aload_n 0, 1) := by decide +kernel
theorem dX0_accepts_152 : decode cX0_accepts 152 = .ok (.iload_n 1, 1) := by decide +kernel
theorem dX0_accepts_153 : decode cX0_accepts 153 = .ok (.invokevirtual 77, 3) := by decide +kernel
theorem dX0_accepts_156 : decode cX0_accepts 156 = .ok (.ifCond .eq 7, 3) := by decide +kernel
theorem dX0_accepts_159 : decode cX0_accepts 159 = .ok (.iconst 1, 1) := by decide +kernel
theorem dX0_accepts_160 : decode cX0_accepts 160 = .ok (.goto 4, 3) := by decide +kernel
theorem dX0_accepts_163 : decode cX0_accepts 163 = .ok (.iconst 0, 1) := by decide +kernel
theorem dX0_accepts_164 : decode cX0_accepts 164 = .ok (.ireturn, 1) := by decide +kernel
theorem dX0_accepts_165 : decode cX0_accepts 165 = .ok (.iconst 0, 1) := by decide +kernel
theorem dX0_accepts_166 : decode cX0_accepts 166 = .ok (.ireturn, 1) := by decide +kernel
theorem dX0_acceptsSign_0 : decode cX0_acceptsSign 0 = .ok (.iload_n 1, 1) := by decide +kernel
theorem dX0_acceptsSign_1 : decode cX0_acceptsSign 1 = .ok (.iload_n 2, 1) := by decide +kernel
theorem dX0_acceptsSign_2 : decode cX0_acceptsSign 2 = .ok (.if_icmp .eq 5, 3) := by decide +kernel
theorem dX0_acceptsSign_5 : decode cX0_acceptsSign 5 = .ok (.iconst 0, 1) := by decide +kernel
theorem dX0_acceptsSign_6 : decode cX0_acceptsSign 6 = .ok (.ireturn, 1) := by decide +kernel
theorem dX0_acceptsSign_7 : decode cX0_acceptsSign 7 = .ok (.aload_n 0, 1) := by decide +kernel
theorem dX0_acceptsSign_8 : decode cX0_acceptsSign 8 = .ok (.iload_n 3, 1) := by decide +kernel
theorem dX0_acceptsSign_9 : decode cX0_acceptsSign 9 = .ok (.putfield 43, 3) := by decide +kernel
theorem dX0_acceptsSign_12 : decode cX0_acceptsSign 12 = .ok (.iconst 1, 1) := by decide +kernel
theorem dX0_acceptsSign_13 : decode cX0_acceptsSign 13 = .ok (.ireturn, 1) := by decide +kernel
set_option maxRecDepth 20000 in
theorem ggX0_acceptsPrincipal_X3_isPerson : GoodIn wsX0_acceptsPrincipal wsX3_isPerson := goodIn_r _ [6] (by decide +kernel) (by decide +kernel)
set_option maxRecDepth 20000 in
theorem gX0_acceptsPrincipal_X3_isPerson : GoodIn wsX0_acceptsPrincipal (va_wsS RX0 80 yX3_isPerson wsX3_isPerson) := goodIn_app (goodIn_of _ (by decide +kernel)) ggX0_acceptsPrincipal_X3_isPerson
theorem dX0_acceptsPrincipal_0 : decode cX0_acceptsPrincipal 0 = .ok (.iload_n 1, 1) := by decide +kernel
theorem dX0_acceptsPrincipal_1 : decode cX0_acceptsPrincipal 1 = .ok (.bipush 48, 2) := by decide +kernel
theorem dX0_acceptsPrincipal_3 : decode cX0_acceptsPrincipal 3 = .ok (.isub, 1) := by decide +kernel
theorem dX0_acceptsPrincipal_4 : decode cX0_acceptsPrincipal 4 = .ok (.invokestatic 80, 3) := by decide +kernel
theorem dX0_acceptsPrincipal_7 : decode cX0_acceptsPrincipal 7 = .ok (.ifCond .ne 5, 3) := by decide +kernel
theorem dX0_acceptsPrincipal_10 : decode cX0_acceptsPrincipal 10 = .ok (.iconst 0, 1) := by decide +kernel
theorem dX0_acceptsPrincipal_11 : decode cX0_acceptsPrincipal 11 = .ok (.ireturn, 1) := by decide +kernel
theorem dX0_acceptsPrincipal_12 : decode cX0_acceptsPrincipal 12 = .ok (.aload_n 0, 1) := by decide +kernel
theorem dX0_acceptsPrincipal_13 : decode cX0_acceptsPrincipal 13 = .ok (.iload_n 1, 1) := by decide +kernel
theorem dX0_acceptsPrincipal_14 : decode cX0_acceptsPrincipal 14 = .ok (.bipush 48, 2) := by decide +kernel
theorem dX0_acceptsPrincipal_16 : decode cX0_acceptsPrincipal 16 = .ok (.isub, 1) := by decide +kernel
theorem dX0_acceptsPrincipal_17 : decode cX0_acceptsPrincipal 17 = .ok (.putfield 28, 3) := by decide +kernel
theorem dX0_acceptsPrincipal_20 : decode cX0_acceptsPrincipal 20 = .ok (.aload_n 0, 1) := by decide +kernel
theorem dX0_acceptsPrincipal_21 : decode cX0_acceptsPrincipal 21 = .ok (.iconst 2, 1) := by decide +kernel
theorem dX0_acceptsPrincipal_22 : decode cX0_acceptsPrincipal 22 = .ok (.putfield 43, 3) := by decide +kernel
theorem dX0_acceptsPrincipal_25 : decode cX0_acceptsPrincipal 25 = .ok (.iconst 1, 1) := by decide +kernel
theorem dX0_acceptsPrincipal_26 : decode cX0_acceptsPrincipal 26 = .ok (.ireturn, 1) := by decide +kernel
set_option maxRecDepth 20000 in
theorem ggX0_acceptsSurety_X3_isPerson : GoodIn wsX0_acceptsSurety wsX3_isPerson := goodIn_r _ [7] (by decide +kernel) (by decide +kernel)
set_option maxRecDepth 20000 in
theorem gX0_acceptsSurety_X3_isPerson : GoodIn wsX0_acceptsSurety (va_wsS RX0 80 yX3_isPerson wsX3_isPerson) := goodIn_app (goodIn_of _ (by decide +kernel)) ggX0_acceptsSurety_X3_isPerson
theorem dX0_acceptsSurety_0 : decode cX0_acceptsSurety 0 = .ok (.iload_n 1, 1) := by decide +kernel
theorem dX0_acceptsSurety_1 : decode cX0_acceptsSurety 1 = .ok (.bipush 48, 2) := by decide +kernel
theorem dX0_acceptsSurety_3 : decode cX0_acceptsSurety 3 = .ok (.isub, 1) := by decide +kernel
theorem dX0_acceptsSurety_4 : decode cX0_acceptsSurety 4 = .ok (.invokestatic 80, 3) := by decide +kernel
theorem dX0_acceptsSurety_7 : decode cX0_acceptsSurety 7 = .ok (.ifCond .eq 11, 3) := by decide +kernel
theorem dX0_acceptsSurety_10 : decode cX0_acceptsSurety 10 = .ok (.aload_n 0, 1) := by decide +kernel
theorem dX0_acceptsSurety_11 : decode cX0_acceptsSurety 11 = .ok (.getfield 37, 3) := by decide +kernel
theorem dX0_acceptsSurety_14 : decode cX0_acceptsSurety 14 = .ok (.iconst 4, 1) := by decide +kernel
theorem dX0_acceptsSurety_15 : decode cX0_acceptsSurety 15 = .ok (.if_icmp .lt 5, 3) := by decide +kernel
theorem dX0_acceptsSurety_18 : decode cX0_acceptsSurety 18 = .ok (.iconst 0, 1) := by decide +kernel
theorem dX0_acceptsSurety_19 : decode cX0_acceptsSurety 19 = .ok (.ireturn, 1) := by decide +kernel
theorem dX0_acceptsSurety_20 : decode cX0_acceptsSurety 20 = .ok (.aload_n 0, 1) := by decide +kernel
theorem dX0_acceptsSurety_21 : decode cX0_acceptsSurety 21 = .ok (.getfield 15, 3) := by decide +kernel
theorem dX0_acceptsSurety_24 : decode cX0_acceptsSurety 24 = .ok (.aload_n 0, 1) := by decide +kernel
theorem dX0_acceptsSurety_25 : decode cX0_acceptsSurety 25 = .ok (.getfield 37, 3) := by decide +kernel
theorem dX0_acceptsSurety_28 : decode cX0_acceptsSurety 28 = .ok (.iload_n 1, 1) := by decide +kernel
theorem dX0_acceptsSurety_29 : decode cX0_acceptsSurety 29 = .ok (.bipush 48, 2) := by decide +kernel
theorem dX0_acceptsSurety_31 : decode cX0_acceptsSurety 31 = .ok (.isub, 1) := by decide +kernel
theorem dX0_acceptsSurety_32 : decode cX0_acceptsSurety 32 = .ok (.iastore, 1) := by decide +kernel
theorem dX0_acceptsSurety_33 : decode cX0_acceptsSurety 33 = .ok (.aload_n 0, 1) := by decide +kernel
theorem dX0_acceptsSurety_34 : decode cX0_acceptsSurety 34 = .ok (.iconst 5, 1) := by decide +kernel
theorem dX0_acceptsSurety_35 : decode cX0_acceptsSurety 35 = .ok (.putfield 43, 3) := by decide +kernel
theorem dX0_acceptsSurety_38 : decode cX0_acceptsSurety 38 = .ok (.iconst 1, 1) := by decide +kernel
theorem dX0_acceptsSurety_39 : decode cX0_acceptsSurety 39 = .ok (.ireturn, 1) := by decide +kernel
theorem dX0_extendsNumber_0 : decode cX0_extendsNumber 0 = .ok (.iload_n 1, 1) := by decide +kernel
theorem dX0_extendsNumber_1 : decode cX0_extendsNumber 1 = .ok (.bipush 48, 2) := by decide +kernel
theorem dX0_extendsNumber_3 : decode cX0_extendsNumber 3 = .ok (.if_icmp .lt 9, 3) := by decide +kernel
theorem dX0_extendsNumber_6 : decode cX0_extendsNumber 6 = .ok (.iload_n 1, 1) := by decide +kernel
theorem dX0_extendsNumber_7 : decode cX0_extendsNumber 7 = .ok (.bipush 57, 2) := by decide +kernel
theorem dX0_extendsNumber_9 : decode cX0_extendsNumber 9 = .ok (.if_icmp .le 5, 3) := by decide +kernel
theorem dX0_extendsNumber_12 : decode cX0_extendsNumber 12 = .ok (.iconst 0, 1) := by decide +kernel
theorem dX0_extendsNumber_13 : decode cX0_extendsNumber 13 = .ok (.ireturn, 1) := by decide +kernel
theorem dX0_extendsNumber_14 : decode cX0_extendsNumber 14 = .ok (.aload_n 0, 1) := by decide +kernel
theorem dX0_extendsNumber_15 : decode cX0_extendsNumber 15 = .ok (.getfield 46, 3) := by decide +kernel
theorem dX0_extendsNumber_18 : decode cX0_extendsNumber 18 = .ok (.bipush 10, 2) := by decide +kernel
theorem dX0_extendsNumber_20 : decode cX0_extendsNumber 20 = .ok (.imul, 1) := by decide +kernel
theorem dX0_extendsNumber_21 : decode cX0_extendsNumber 21 = .ok (.iload_n 1, 1) := by decide +kernel
theorem dX0_extendsNumber_22 : decode cX0_extendsNumber 22 = .ok (.bipush 48, 2) := by decide +kernel
theorem dX0_extendsNumber_24 : decode cX0_extendsNumber 24 = .ok (.isub, 1) := by decide +kernel
theorem dX0_extendsNumber_25 : decode cX0_extendsNumber 25 = .ok (.iadd, 1) := by decide +kernel
theorem dX0_extendsNumber_26 : decode cX0_extendsNumber 26 = .ok (.istore_n 3, 1) := by decide +kernel
theorem dX0_extendsNumber_27 : decode cX0_extendsNumber 27 = .ok (.iload_n 3, 1) := by decide +kernel
theorem dX0_extendsNumber_28 : decode cX0_extendsNumber 28 = .ok (.iconst 1, 1) := by decide +kernel
theorem dX0_extendsNumber_29 : decode cX0_extendsNumber 29 = .ok (.if_icmp .lt 8, 3) := by decide +kernel
theorem dX0_extendsNumber_32 : decode cX0_extendsNumber 32 = .ok (.iload_n 3, 1) := by decide +kernel
theorem dX0_extendsNumber_33 : decode cX0_extendsNumber 33 = .ok (.iload_n 2, 1) := by decide +kernel
theorem dX0_extendsNumber_34 : decode cX0_extendsNumber 34 = .ok (.if_icmp .le 5, 3) := by decide +kernel
theorem dX0_extendsNumber_37 : decode cX0_extendsNumber 37 = .ok (.iconst 0, 1) := by decide +kernel
theorem dX0_extendsNumber_38 : decode cX0_extendsNumber 38 = .ok (.ireturn, 1) := by decide +kernel
theorem dX0_extendsNumber_39 : decode cX0_extendsNumber 39 = .ok (.aload_n 0, 1) := by decide +kernel
theorem dX0_extendsNumber_40 : decode cX0_extendsNumber 40 = .ok (.iload_n 3, 1) := by decide +kernel
theorem dX0_extendsNumber_41 : decode cX0_extendsNumber 41 = .ok (.putfield 46, 3) := by decide +kernel
theorem dX0_extendsNumber_44 : decode cX0_extendsNumber 44 = .ok (.iconst 1, 1) := by decide +kernel
theorem dX0_extendsNumber_45 : decode cX0_extendsNumber 45 = .ok (.ireturn, 1) := by decide +kernel
set_option maxRecDepth 20000 in
theorem ggX0_endsSum_X0_takeNumber : GoodIn wsX0_endsSum wsX0_takeNumber := goodIn_r _ [8, 1, 9, 10, 11, 12, 13, 14, 15, 16, 17, 18, 19, 20] (by decide +kernel) (by decide +kernel)
set_option maxRecDepth 20000 in
theorem gX0_endsSum_X0_takeNumber : GoodIn wsX0_endsSum (wsV RX0 85 RX0 yX0_takeNumber wsX0_takeNumber) := goodIn_app (goodIn_of _ (by decide +kernel)) ggX0_endsSum_X0_takeNumber
theorem dX0_endsSum_0 : decode cX0_endsSum 0 = .ok (.aload_n 0, 1) := by decide +kernel
theorem dX0_endsSum_1 : decode cX0_endsSum 1 = .ok (.getfield 46, 3) := by decide +kernel
theorem dX0_endsSum_4 : decode cX0_endsSum 4 = .ok (.ifCond .eq 9, 3) := by decide +kernel
theorem dX0_endsSum_7 : decode cX0_endsSum 7 = .ok (.iload_n 1, 1) := by decide +kernel
theorem dX0_endsSum_8 : decode cX0_endsSum 8 = .ok (.bipush 58, 2) := by decide +kernel
theorem dX0_endsSum_10 : decode cX0_endsSum 10 = .ok (.if_icmp .eq 5, 3) := by decide +kernel
theorem dX0_endsSum_13 : decode cX0_endsSum 13 = .ok (.iconst 0, 1) := by decide +kernel
theorem dX0_endsSum_14 : decode cX0_endsSum 14 = .ok (.ireturn, 1) := by decide +kernel
theorem dX0_endsSum_15 : decode cX0_endsSum 15 = .ok (.aload_n 0, 1) := by decide +kernel
theorem dX0_endsSum_16 : decode cX0_endsSum 16 = .ok (.aload_n 0, 1) := by decide +kernel
theorem dX0_endsSum_17 : decode cX0_endsSum 17 = .ok (.invokevirtual 85, 3) := by decide +kernel
theorem dX0_endsSum_20 : decode cX0_endsSum 20 = .ok (.putfield 31, 3) := by decide +kernel
theorem dX0_endsSum_23 : decode cX0_endsSum 23 = .ok (.aload_n 0, 1) := by decide +kernel
theorem dX0_endsSum_24 : decode cX0_endsSum 24 = .ok (.iconst 4, 1) := by decide +kernel
theorem dX0_endsSum_25 : decode cX0_endsSum 25 = .ok (.putfield 43, 3) := by decide +kernel
theorem dX0_endsSum_28 : decode cX0_endsSum 28 = .ok (.iconst 1, 1) := by decide +kernel
theorem dX0_endsSum_29 : decode cX0_endsSum 29 = .ok (.ireturn, 1) := by decide +kernel
set_option maxRecDepth 20000 in
theorem ggX0_endsLimit_X0_takeNumber : GoodIn wsX0_endsLimit wsX0_takeNumber := goodIn_r _ [9, 2, 10, 11, 12, 13, 14, 15, 16, 17, 18, 19, 20, 21] (by decide +kernel) (by decide +kernel)
set_option maxRecDepth 20000 in
theorem gX0_endsLimit_X0_takeNumber : GoodIn wsX0_endsLimit (wsV RX0 85 RX0 yX0_takeNumber wsX0_takeNumber) := goodIn_app (goodIn_of _ (by decide +kernel)) ggX0_endsLimit_X0_takeNumber
theorem dX0_endsLimit_0 : decode cX0_endsLimit 0 = .ok (.iload_n 1, 1) := by decide +kernel
theorem dX0_endsLimit_1 : decode cX0_endsLimit 1 = .ok (.bipush 43, 2) := by decide +kernel
theorem dX0_endsLimit_3 : decode cX0_endsLimit 3 = .ok (.if_icmp .ne 17, 3) := by decide +kernel
theorem dX0_endsLimit_6 : decode cX0_endsLimit 6 = .ok (.aload_n 0, 1) := by decide +kernel
theorem dX0_endsLimit_7 : decode cX0_endsLimit 7 = .ok (.getfield 37, 3) := by decide +kernel
theorem dX0_endsLimit_10 : decode cX0_endsLimit 10 = .ok (.iconst 1, 1) := by decide +kernel
theorem dX0_endsLimit_11 : decode cX0_endsLimit 11 = .ok (.iadd, 1) := by decide +kernel
theorem dX0_endsLimit_12 : decode cX0_endsLimit 12 = .ok (.iconst 4, 1) := by decide +kernel
theorem dX0_endsLimit_13 : decode cX0_endsLimit 13 = .ok (.if_icmp .ge 7, 3) := by decide +kernel
theorem dX0_endsLimit_16 : decode cX0_endsLimit 16 = .ok (.iconst 1, 1) := by decide +kernel
theorem dX0_endsLimit_17 : decode cX0_endsLimit 17 = .ok (.goto 4, 3) := by decide +kernel
theorem dX0_endsLimit_20 : decode cX0_endsLimit 20 = .ok (.iconst 0, 1) := by decide +kernel
theorem dX0_endsLimit_21 : decode cX0_endsLimit 21 = .ok (.istore_n 2, 1) := by decide +kernel
theorem dX0_endsLimit_22 : decode cX0_endsLimit 22 = .ok (.aload_n 0, 1) := by decide +kernel
theorem dX0_endsLimit_23 : decode cX0_endsLimit 23 = .ok (.getfield 46, 3) := by decide +kernel
theorem dX0_endsLimit_26 : decode cX0_endsLimit 26 = .ok (.ifCond .eq 21, 3) := by decide +kernel
theorem dX0_endsLimit_29 : decode cX0_endsLimit 29 = .ok (.aload_n 0, 1) := by decide +kernel
theorem dX0_endsLimit_30 : decode cX0_endsLimit 30 = .ok (.getfield 37, 3) := by decide +kernel
theorem dX0_endsLimit_33 : decode cX0_endsLimit 33 = .ok (.iconst 4, 1) := by decide +kernel
theorem dX0_endsLimit_34 : decode cX0_endsLimit 34 = .ok (.if_icmp .ge 13, 3) := by decide +kernel
theorem dX0_endsLimit_37 : decode cX0_endsLimit 37 = .ok (.iload_n 2, 1) := by decide +kernel
theorem dX0_endsLimit_38 : decode cX0_endsLimit 38 = .ok (.ifCond .ne 11, 3) := by decide +kernel
theorem dX0_endsLimit_41 : decode cX0_endsLimit 41 = .ok (.iload_n 1, 1) := by decide +kernel
theorem dX0_endsLimit_42 : decode cX0_endsLimit 42 = .ok (.bipush 64, 2) := by decide +kernel
theorem dX0_endsLimit_44 : decode cX0_endsLimit 44 = .ok (.if_icmp .eq 5, 3) := by decide +kernel
theorem dX0_endsLimit_47 : decode cX0_endsLimit 47 = .ok (.iconst 0, 1) := by decide +kernel
theorem dX0_endsLimit_48 : decode cX0_endsLimit 48 = .ok (.ireturn, 1) := by decide +kernel
theorem dX0_endsLimit_49 : decode cX0_endsLimit 49 = .ok (.aload_n 0, 1) := by decide +kernel
theorem dX0_endsLimit_50 : decode cX0_endsLimit 50 = .ok (.getfield 18, 3) := by decide +kernel
theorem dX0_endsLimit_53 : decode cX0_endsLimit 53 = .ok (.aload_n 0, 1) := by decide +kernel
theorem dX0_endsLimit_54 : decode cX0_endsLimit 54 = .ok (.getfield 37, 3) := by decide +kernel
theorem dX0_endsLimit_57 : decode cX0_endsLimit 57 = .ok (.aload_n 0, 1) := by decide +kernel
theorem dX0_endsLimit_58 : decode cX0_endsLimit 58 = .ok (.invokevirtual 85, 3) := by decide +kernel
theorem dX0_endsLimit_61 : decode cX0_endsLimit 61 = .ok (.iastore, 1) := by decide +kernel
theorem dX0_endsLimit_62 : decode cX0_endsLimit 62 = .ok (.aload_n 0, 1) := by decide +kernel
theorem dX0_endsLimit_63 : decode cX0_endsLimit 63 = .ok (.dup, 1) := by decide +kernel
theorem dX0_endsLimit_64 : decode cX0_endsLimit 64 = .ok (.getfield 37, 3) := by decide +kernel
theorem dX0_endsLimit_67 : decode cX0_endsLimit 67 = .ok (.iconst 1, 1) := by decide +kernel
theorem dX0_endsLimit_68 : decode cX0_endsLimit 68 = .ok (.iadd, 1) := by decide +kernel
theorem dX0_endsLimit_69 : decode cX0_endsLimit 69 = .ok (.putfield 37, 3) := by decide +kernel
theorem dX0_endsLimit_72 : decode cX0_endsLimit 72 = .ok (.aload_n 0, 1) := by decide +kernel
theorem dX0_endsLimit_73 : decode cX0_endsLimit 73 = .ok (.iload_n 2, 1) := by decide +kernel
theorem dX0_endsLimit_74 : decode cX0_endsLimit 74 = .ok (.ifCond .eq 7, 3) := by decide +kernel
theorem dX0_endsLimit_77 : decode cX0_endsLimit 77 = .ok (.iconst 4, 1) := by decide +kernel
theorem dX0_endsLimit_78 : decode cX0_endsLimit 78 = .ok (.goto 5, 3) := by decide +kernel
theorem dX0_endsLimit_81 : decode cX0_endsLimit 81 = .ok (.bipush 7, 2) := by decide +kernel
theorem dX0_endsLimit_83 : decode cX0_endsLimit 83 = .ok (.putfield 43, 3) := by decide +kernel
theorem dX0_endsLimit_86 : decode cX0_endsLimit 86 = .ok (.iconst 1, 1) := by decide +kernel
theorem dX0_endsLimit_87 : decode cX0_endsLimit 87 = .ok (.ireturn, 1) := by decide +kernel
set_option maxRecDepth 20000 in
theorem ggX0_endsShare_X0_takeNumber : GoodIn wsX0_endsShare wsX0_takeNumber := goodIn_r _ [10, 2, 11, 12, 13, 14, 15, 16, 17, 18, 19, 20, 21, 22] (by decide +kernel) (by decide +kernel)
set_option maxRecDepth 20000 in
theorem gX0_endsShare_X0_takeNumber : GoodIn wsX0_endsShare (wsV RX0 85 RX0 yX0_takeNumber wsX0_takeNumber) := goodIn_app (goodIn_of _ (by decide +kernel)) ggX0_endsShare_X0_takeNumber
theorem dX0_endsShare_0 : decode cX0_endsShare 0 = .ok (.iload_n 1, 1) := by decide +kernel
theorem dX0_endsShare_1 : decode cX0_endsShare 1 = .ok (.bipush 43, 2) := by decide +kernel
theorem dX0_endsShare_3 : decode cX0_endsShare 3 = .ok (.if_icmp .ne 17, 3) := by decide +kernel
theorem dX0_endsShare_6 : decode cX0_endsShare 6 = .ok (.aload_n 0, 1) := by decide +kernel
theorem dX0_endsShare_7 : decode cX0_endsShare 7 = .ok (.getfield 40, 3) := by decide +kernel
theorem dX0_endsShare_10 : decode cX0_endsShare 10 = .ok (.iconst 1, 1) := by decide +kernel
theorem dX0_endsShare_11 : decode cX0_endsShare 11 = .ok (.iadd, 1) := by decide +kernel
theorem dX0_endsShare_12 : decode cX0_endsShare 12 = .ok (.iconst 5, 1) := by decide +kernel
theorem dX0_endsShare_13 : decode cX0_endsShare 13 = .ok (.if_icmp .ge 7, 3) := by decide +kernel
theorem dX0_endsShare_16 : decode cX0_endsShare 16 = .ok (.iconst 1, 1) := by decide +kernel
theorem dX0_endsShare_17 : decode cX0_endsShare 17 = .ok (.goto 4, 3) := by decide +kernel
theorem dX0_endsShare_20 : decode cX0_endsShare 20 = .ok (.iconst 0, 1) := by decide +kernel
theorem dX0_endsShare_21 : decode cX0_endsShare 21 = .ok (.istore_n 2, 1) := by decide +kernel
theorem dX0_endsShare_22 : decode cX0_endsShare 22 = .ok (.iload_n 1, 1) := by decide +kernel
theorem dX0_endsShare_23 : decode cX0_endsShare 23 = .ok (.bipush 108, 2) := by decide +kernel
theorem dX0_endsShare_25 : decode cX0_endsShare 25 = .ok (.if_icmp .eq 9, 3) := by decide +kernel
theorem dX0_endsShare_28 : decode cX0_endsShare 28 = .ok (.iload_n 1, 1) := by decide +kernel
theorem dX0_endsShare_29 : decode cX0_endsShare 29 = .ok (.bipush 101, 2) := by decide +kernel
theorem dX0_endsShare_31 : decode cX0_endsShare 31 = .ok (.if_icmp .ne 7, 3) := by decide +kernel
theorem dX0_endsShare_34 : decode cX0_endsShare 34 = .ok (.iconst 1, 1) := by decide +kernel
theorem dX0_endsShare_35 : decode cX0_endsShare 35 = .ok (.goto 4, 3) := by decide +kernel
theorem dX0_endsShare_38 : decode cX0_endsShare 38 = .ok (.iconst 0, 1) := by decide +kernel
theorem dX0_endsShare_39 : decode cX0_endsShare 39 = .ok (.istore_n 3, 1) := by decide +kernel
theorem dX0_endsShare_40 : decode cX0_endsShare 40 = .ok (.aload_n 0, 1) := by decide +kernel
theorem dX0_endsShare_41 : decode cX0_endsShare 41 = .ok (.getfield 46, 3) := by decide +kernel
theorem dX0_endsShare_44 : decode cX0_endsShare 44 = .ok (.ifCond .eq 19, 3) := by decide +kernel
theorem dX0_endsShare_47 : decode cX0_endsShare 47 = .ok (.aload_n 0, 1) := by decide +kernel
theorem dX0_endsShare_48 : decode cX0_endsShare 48 = .ok (.getfield 40, 3) := by decide +kernel
theorem dX0_endsShare_51 : decode cX0_endsShare 51 = .ok (.iconst 5, 1) := by decide +kernel
theorem dX0_endsShare_52 : decode cX0_endsShare 52 = .ok (.if_icmp .ge 11, 3) := by decide +kernel
theorem dX0_endsShare_55 : decode cX0_endsShare 55 = .ok (.iload_n 2, 1) := by decide +kernel
theorem dX0_endsShare_56 : decode cX0_endsShare 56 = .ok (.ifCond .ne 9, 3) := by decide +kernel
theorem dX0_endsShare_59 : decode cX0_endsShare 59 = .ok (.iload_n 3, 1) := by decide +kernel
theorem dX0_endsShare_60 : decode cX0_endsShare 60 = .ok (.ifCond .ne 5, 3) := by decide +kernel
theorem dX0_endsShare_63 : decode cX0_endsShare 63 = .ok (.iconst 0, 1) := by decide +kernel
theorem dX0_endsShare_64 : decode cX0_endsShare 64 = .ok (.ireturn, 1) := by decide +kernel
theorem dX0_endsShare_65 : decode cX0_endsShare 65 = .ok (.aload_n 0, 1) := by decide +kernel
theorem dX0_endsShare_66 : decode cX0_endsShare 66 = .ok (.getfield 21, 3) := by decide +kernel
theorem dX0_endsShare_69 : decode cX0_endsShare 69 = .ok (.aload_n 0, 1) := by decide +kernel
theorem dX0_endsShare_70 : decode cX0_endsShare 70 = .ok (.getfield 40, 3) := by decide +kernel
theorem dX0_endsShare_73 : decode cX0_endsShare 73 = .ok (.aload_n 0, 1) := by decide +kernel
theorem dX0_endsShare_74 : decode cX0_endsShare 74 = .ok (.invokevirtual 85, 3) := by decide +kernel
theorem dX0_endsShare_77 : decode cX0_endsShare 77 = .ok (.iastore, 1) := by decide +kernel
theorem dX0_endsShare_78 : decode cX0_endsShare 78 = .ok (.aload_n 0, 1) := by decide +kernel
theorem dX0_endsShare_79 : decode cX0_endsShare 79 = .ok (.dup, 1) := by decide +kernel
theorem dX0_endsShare_80 : decode cX0_endsShare 80 = .ok (.getfield 40, 3) := by decide +kernel
theorem dX0_endsShare_83 : decode cX0_endsShare 83 = .ok (.iconst 1, 1) := by decide +kernel
theorem dX0_endsShare_84 : decode cX0_endsShare 84 = .ok (.iadd, 1) := by decide +kernel
theorem dX0_endsShare_85 : decode cX0_endsShare 85 = .ok (.putfield 40, 3) := by decide +kernel
theorem dX0_endsShare_88 : decode cX0_endsShare 88 = .ok (.iload_n 3, 1) := by decide +kernel
theorem dX0_endsShare_89 : decode cX0_endsShare 89 = .ok (.ifCond .eq 24, 3) := by decide +kernel
theorem dX0_endsShare_92 : decode cX0_endsShare 92 = .ok (.aload_n 0, 1) := by decide +kernel
theorem dX0_endsShare_93 : decode cX0_endsShare 93 = .ok (.iload_n 1, 1) := by decide +kernel
theorem dX0_endsShare_94 : decode cX0_endsShare 94 = .ok (.bipush 101, 2) := by decide +kernel
theorem dX0_endsShare_96 : decode cX0_endsShare 96 = .ok (.if_icmp .ne 7, 3) := by decide +kernel
theorem dX0_endsShare_99 : decode cX0_endsShare 99 = .ok (.iconst 1, 1) := by decide +kernel
theorem dX0_endsShare_100 : decode cX0_endsShare 100 = .ok (.goto 4, 3) := by decide +kernel
theorem dX0_endsShare_103 : decode cX0_endsShare 103 = .ok (.iconst 0, 1) := by decide +kernel
theorem dX0_endsShare_104 : decode cX0_endsShare 104 = .ok (.putfield 34, 3) := by decide +kernel
theorem dX0_endsShare_107 : decode cX0_endsShare 107 = .ok (.aload_n 0, 1) := by decide +kernel
theorem dX0_endsShare_108 : decode cX0_endsShare 108 = .ok (.bipush 8, 2) := by decide +kernel
theorem dX0_endsShare_110 : decode cX0_endsShare 110 = .ok (.putfield 43, 3) := by decide +kernel
theorem dX0_endsShare_113 : decode cX0_endsShare 113 = .ok (.iconst 1, 1) := by decide +kernel
theorem dX0_endsShare_114 : decode cX0_endsShare 114 = .ok (.ireturn, 1) := by decide +kernel
theorem dX0_takeNumber_0 : decode cX0_takeNumber 0 = .ok (.aload_n 0, 1) := by decide +kernel
theorem dX0_takeNumber_1 : decode cX0_takeNumber 1 = .ok (.getfield 46, 3) := by decide +kernel
theorem dX0_takeNumber_4 : decode cX0_takeNumber 4 = .ok (.istore_n 1, 1) := by decide +kernel
theorem dX0_takeNumber_5 : decode cX0_takeNumber 5 = .ok (.aload_n 0, 1) := by decide +kernel
theorem dX0_takeNumber_6 : decode cX0_takeNumber 6 = .ok (.iconst 0, 1) := by decide +kernel
theorem dX0_takeNumber_7 : decode cX0_takeNumber 7 = .ok (.putfield 46, 3) := by decide +kernel
theorem dX0_takeNumber_10 : decode cX0_takeNumber 10 = .ok (.iload_n 1, 1) := by decide +kernel
theorem dX0_takeNumber_11 : decode cX0_takeNumber 11 = .ok (.ireturn, 1) := by decide +kernel
theorem dX1_init_0 : decode cX1_init 0 = .ok (.aload_n 0, 1) := by decide +kernel
theorem dX1_init_1 : decode cX1_init 1 = .ok (.invokespecial 3, 3) := by decide +kernel
theorem dX1_init_4 : decode cX1_init 4 = .ok (.aload_n 0, 1) := by decide +kernel
theorem dX1_init_5 : decode cX1_init 5 = .ok (.bipush 6, 2) := by decide +kernel
theorem dX1_init_7 : decode cX1_init 7 = .ok (.sipush 427, 3) := by decide +kernel
theorem dX1_init_10 : decode cX1_init 10 = .ok (.multianewarray 11 2, 4) := by decide +kernel
theorem dX1_init_14 : decode cX1_init 14 = .ok (.putfield 13, 3) := by decide +kernel
theorem dX1_init_17 : decode cX1_init 17 = .ok (.return_, 1) := by decide +kernel
theorem dX1_size_0 : decode cX1_size 0 = .ok (.aload_n 0, 1) := by decide +kernel
theorem dX1_size_1 : decode cX1_size 1 = .ok (.getfield 18, 3) := by decide +kernel
theorem dX1_size_4 : decode cX1_size 4 = .ok (.ireturn, 1) := by decide +kernel
set_option maxRecDepth 20000 in
theorem ggX1_save_X3_copyTo : GoodIn wsX1_save wsX3_copyTo := goodIn_r _ [12, 13, 14, 15, 16, 17, 21] (by decide +kernel) (by decide +kernel)
set_option maxRecDepth 20000 in
theorem gX1_save_X3_copyTo : GoodIn wsX1_save (wsV RX1 25 RX3 yX3_copyTo wsX3_copyTo) := goodIn_app (goodIn_of _ (by decide +kernel)) ggX1_save_X3_copyTo
theorem dX1_save_0 : decode cX1_save 0 = .ok (.aload_n 1, 1) := by decide +kernel
theorem dX1_save_1 : decode cX1_save 1 = .ok (.aload_n 0, 1) := by decide +kernel
theorem dX1_save_2 : decode cX1_save 2 = .ok (.getfield 13, 3) := by decide +kernel
theorem dX1_save_5 : decode cX1_save 5 = .ok (.aload_n 0, 1) := by decide +kernel
theorem dX1_save_6 : decode cX1_save 6 = .ok (.getfield 22, 3) := by decide +kernel
theorem dX1_save_9 : decode cX1_save 9 = .ok (.aaload, 1) := by decide +kernel
theorem dX1_save_10 : decode cX1_save 10 = .ok (.invokevirtual 25, 3) := by decide +kernel
theorem dX1_save_13 : decode cX1_save 13 = .ok (.aload_n 0, 1) := by decide +kernel
theorem dX1_save_14 : decode cX1_save 14 = .ok (.aload_n 0, 1) := by decide +kernel
theorem dX1_save_15 : decode cX1_save 15 = .ok (.getfield 22, 3) := by decide +kernel
theorem dX1_save_18 : decode cX1_save 18 = .ok (.iconst 1, 1) := by decide +kernel
theorem dX1_save_19 : decode cX1_save 19 = .ok (.iadd, 1) := by decide +kernel
theorem dX1_save_20 : decode cX1_save 20 = .ok (.bipush 6, 2) := by decide +kernel
theorem dX1_save_22 : decode cX1_save 22 = .ok (.irem, 1) := by decide +kernel
theorem dX1_save_23 : decode cX1_save 23 = .ok (.putfield 22, 3) := by decide +kernel
theorem dX1_save_26 : decode cX1_save 26 = .ok (.aload_n 0, 1) := by decide +kernel
theorem dX1_save_27 : decode cX1_save 27 = .ok (.bipush 6, 2) := by decide +kernel
theorem dX1_save_29 : decode cX1_save 29 = .ok (.aload_n 0, 1) := by decide +kernel
theorem dX1_save_30 : decode cX1_save 30 = .ok (.getfield 18, 3) := by decide +kernel
theorem dX1_save_33 : decode cX1_save 33 = .ok (.iconst 1, 1) := by decide +kernel
theorem dX1_save_34 : decode cX1_save 34 = .ok (.iadd, 1) := by decide +kernel
theorem dX1_save_35 : decode cX1_save 35 = .ok (.invokestatic 29, 3) := by decide +kernel
theorem dX1_save_38 : decode cX1_save 38 = .ok (.putfield 18, 3) := by decide +kernel
theorem dX1_save_41 : decode cX1_save 41 = .ok (.return_, 1) := by decide +kernel
set_option maxRecDepth 20000 in
theorem ggX1_restoreLatest_X3_copyFrom : GoodIn wsX1_restoreLatest wsX3_copyFrom := goodIn_r _ [8, 9, 10, 11, 12, 13, 17] (by decide +kernel) (by decide +kernel)
set_option maxRecDepth 20000 in
theorem gX1_restoreLatest_X3_copyFrom : GoodIn wsX1_restoreLatest (wsV RX1 35 RX3 yX3_copyFrom wsX3_copyFrom) := goodIn_app (goodIn_of _ (by decide +kernel)) ggX1_restoreLatest_X3_copyFrom
theorem dX1_restoreLatest_0 : decode cX1_restoreLatest 0 = .ok (.aload_n 0, 1) := by decide +kernel
theorem dX1_restoreLatest_1 : decode cX1_restoreLatest 1 = .ok (.aload_n 0, 1) := by decide +kernel
theorem dX1_restoreLatest_2 : decode cX1_restoreLatest 2 = .ok (.getfield 22, 3) := by decide +kernel
theorem dX1_restoreLatest_5 : decode cX1_restoreLatest 5 = .ok (.bipush 6, 2) := by decide +kernel
theorem dX1_restoreLatest_7 : decode cX1_restoreLatest 7 = .ok (.iadd, 1) := by decide +kernel
theorem dX1_restoreLatest_8 : decode cX1_restoreLatest 8 = .ok (.iconst 1, 1) := by decide +kernel
theorem dX1_restoreLatest_9 : decode cX1_restoreLatest 9 = .ok (.isub, 1) := by decide +kernel
theorem dX1_restoreLatest_10 : decode cX1_restoreLatest 10 = .ok (.bipush 6, 2) := by decide +kernel
theorem dX1_restoreLatest_12 : decode cX1_restoreLatest 12 = .ok (.irem, 1) := by decide +kernel
theorem dX1_restoreLatest_13 : decode cX1_restoreLatest 13 = .ok (.putfield 22, 3) := by decide +kernel
theorem dX1_restoreLatest_16 : decode cX1_restoreLatest 16 = .ok (.aload_n 0, 1) := by decide +kernel
theorem dX1_restoreLatest_17 : decode cX1_restoreLatest 17 = .ok (.dup, 1) := by decide +kernel
theorem dX1_restoreLatest_18 : decode cX1_restoreLatest 18 = .ok (.getfield 18, 3) := by decide +kernel
theorem dX1_restoreLatest_21 : decode cX1_restoreLatest 21 = .ok (.iconst 1, 1) := by decide +kernel
theorem dX1_restoreLatest_22 : decode cX1_restoreLatest 22 = .ok (.isub, 1) := by decide +kernel
theorem dX1_restoreLatest_23 : decode cX1_restoreLatest 23 = .ok (.putfield 18, 3) := by decide +kernel
theorem dX1_restoreLatest_26 : decode cX1_restoreLatest 26 = .ok (.aload_n 1, 1) := by decide +kernel
theorem dX1_restoreLatest_27 : decode cX1_restoreLatest 27 = .ok (.aload_n 0, 1) := by decide +kernel
theorem dX1_restoreLatest_28 : decode cX1_restoreLatest 28 = .ok (.getfield 13, 3) := by decide +kernel
theorem dX1_restoreLatest_31 : decode cX1_restoreLatest 31 = .ok (.aload_n 0, 1) := by decide +kernel
theorem dX1_restoreLatest_32 : decode cX1_restoreLatest 32 = .ok (.getfield 22, 3) := by decide +kernel
theorem dX1_restoreLatest_35 : decode cX1_restoreLatest 35 = .ok (.aaload, 1) := by decide +kernel
theorem dX1_restoreLatest_36 : decode cX1_restoreLatest 36 = .ok (.invokevirtual 35, 3) := by decide +kernel
theorem dX1_restoreLatest_39 : decode cX1_restoreLatest 39 = .ok (.return_, 1) := by decide +kernel
theorem dX2_init_0 : decode cX2_init 0 = .ok (.aload_n 0, 1) := by decide +kernel
theorem dX2_init_1 : decode cX2_init 1 = .ok (.invokespecial 3, 3) := by decide +kernel
theorem dX2_init_4 : decode cX2_init 4 = .ok (.aload_n 0, 1) := by decide +kernel
theorem dX2_init_5 : decode cX2_init 5 = .ok (.bipush 8, 2) := by decide +kernel
theorem dX2_init_7 : decode cX2_init 7 = .ok (.newarray .int, 2) := by decide +kernel
theorem dX2_init_9 : decode cX2_init 9 = .ok (.putfield 9, 3) := by decide +kernel
theorem dX2_init_12 : decode cX2_init 12 = .ok (.aload_n 0, 1) := by decide +kernel
theorem dX2_init_13 : decode cX2_init 13 = .ok (.bipush 8, 2) := by decide +kernel
theorem dX2_init_15 : decode cX2_init 15 = .ok (.newarray .int, 2) := by decide +kernel
theorem dX2_init_17 : decode cX2_init 17 = .ok (.putfield 15, 3) := by decide +kernel
theorem dX2_init_20 : decode cX2_init 20 = .ok (.aload_n 0, 1) := by decide +kernel
theorem dX2_init_21 : decode cX2_init 21 = .ok (.bipush 8, 2) := by decide +kernel
theorem dX2_init_23 : decode cX2_init 23 = .ok (.newarray .int, 2) := by decide +kernel
theorem dX2_init_25 : decode cX2_init 25 = .ok (.putfield 18, 3) := by decide +kernel
theorem dX2_init_28 : decode cX2_init 28 = .ok (.aload_n 0, 1) := by decide +kernel
theorem dX2_init_29 : decode cX2_init 29 = .ok (.iconst 4, 1) := by decide +kernel
theorem dX2_init_30 : decode cX2_init 30 = .ok (.newarray .int, 2) := by decide +kernel
theorem dX2_init_32 : decode cX2_init 32 = .ok (.putfield 21, 3) := by decide +kernel
theorem dX2_init_35 : decode cX2_init 35 = .ok (.aload_n 0, 1) := by decide +kernel
theorem dX2_init_36 : decode cX2_init 36 = .ok (.iconst 4, 1) := by decide +kernel
theorem dX2_init_37 : decode cX2_init 37 = .ok (.newarray .int, 2) := by decide +kernel
theorem dX2_init_39 : decode cX2_init 39 = .ok (.putfield 24, 3) := by decide +kernel
theorem dX2_init_42 : decode cX2_init 42 = .ok (.aload_n 0, 1) := by decide +kernel
theorem dX2_init_43 : decode cX2_init 43 = .ok (.iconst 4, 1) := by decide +kernel
theorem dX2_init_44 : decode cX2_init 44 = .ok (.newarray .long, 2) := by decide +kernel
theorem dX2_init_46 : decode cX2_init 46 = .ok (.putfield 27, 3) := by decide +kernel
theorem dX2_init_49 : decode cX2_init 49 = .ok (.return_, 1) := by decide +kernel
theorem dX2_paid_0 : decode cX2_paid 0 = .ok (.aload_n 0, 1) := by decide +kernel
theorem dX2_paid_1 : decode cX2_paid 1 = .ok (.getfield 31, 3) := by decide +kernel
theorem dX2_paid_4 : decode cX2_paid 4 = .ok (.ireturn, 1) := by decide +kernel
theorem dX2_loss_0 : decode cX2_loss 0 = .ok (.aload_n 0, 1) := by decide +kernel
theorem dX2_loss_1 : decode cX2_loss 1 = .ok (.getfield 35, 3) := by decide +kernel
theorem dX2_loss_4 : decode cX2_loss 4 = .ok (.aload_n 0, 1) := by decide +kernel
theorem dX2_loss_5 : decode cX2_loss 5 = .ok (.getfield 31, 3) := by decide +kernel
theorem dX2_loss_8 : decode cX2_loss 8 = .ok (.isub, 1) := by decide +kernel
theorem dX2_loss_9 : decode cX2_loss 9 = .ok (.ireturn, 1) := by decide +kernel
theorem dX2_thinLayer_0 : decode cX2_thinLayer 0 = .ok (.aload_n 0, 1) := by decide +kernel
theorem dX2_thinLayer_1 : decode cX2_thinLayer 1 = .ok (.getfield 38, 3) := by decide +kernel
theorem dX2_thinLayer_4 : decode cX2_thinLayer 4 = .ok (.ireturn, 1) := by decide +kernel
set_option maxRecDepth 20000 in
theorem ggX2_draw_X2_begin : GoodIn wsX2_draw wsX2_begin := goodIn_r _ [16, 2, 17, 18, 10, 3, 4, 5, 6, 7, 1, 19, 20, 21, 22, 23, 24, 25, 26, 27, 28, 29, 30, 31, 32, 33, 34, 69, 70, 71, 72, 73, 74, 75, 76, 77, 78, 79, 80, 81] (by decide +kernel) (by decide +kernel)
set_option maxRecDepth 20000 in
theorem gX2_draw_X2_begin : GoodIn wsX2_draw (wsV RX2 41 RX2 yX2_begin wsX2_begin) := goodIn_app (goodIn_of _ (by decide +kernel)) ggX2_draw_X2_begin
set_option maxRecDepth 20000 in
theorem ggX2_draw_X3_bondFact : GoodIn wsX2_draw wsX3_bondFact := goodIn_r _ [29, 25, 81] (by decide +kernel) (by decide +kernel)
set_option maxRecDepth 20000 in
theorem gX2_draw_X3_bondFact : GoodIn wsX2_draw (wsV RX2 62 RX3 yX3_bondFact wsX3_bondFact) := goodIn_app (goodIn_of _ (by decide +kernel)) ggX2_draw_X3_bondFact
set_option maxRecDepth 20000 in
theorem ggX2_draw_X2_shareOut : GoodIn wsX2_draw wsX2_shareOut := goodIn_r _ [38, 10, 1, 9, 39, 40, 6, 41, 11, 42, 43, 26, 27, 28, 23, 29, 25, 44, 45, 46, 47, 34, 48, 49, 50, 51, 52, 53, 54, 55, 15, 56, 69, 70, 71, 72, 73, 74, 75, 76, 77, 78, 79, 80, 81] (by decide +kernel) (by decide +kernel)
set_option maxRecDepth 20000 in
theorem gX2_draw_X2_shareOut : GoodIn wsX2_draw (wsV RX2 65 RX2 yX2_shareOut wsX2_shareOut) := goodIn_app (goodIn_of _ (by decide +kernel)) ggX2_draw_X2_shareOut
set_option maxRecDepth 20000 in
theorem ggX2_draw_X3_layerFact : GoodIn wsX2_draw wsX3_layerFact := goodIn_r _ [51, 25, 81] (by decide +kernel) (by decide +kernel)
set_option maxRecDepth 20000 in
theorem gX2_draw_X3_layerFact : GoodIn wsX2_draw (wsV RX2 69 RX3 yX3_layerFact wsX3_layerFact) := goodIn_app (goodIn_of _ (by decide +kernel)) ggX2_draw_X3_layerFact
set_option maxRecDepth 20000 in
theorem ggX2_draw_X2_payByLayer : GoodIn wsX2_draw wsX2_payByLayer := goodIn_r _ [60, 10, 11, 2, 4, 5, 6, 7, 19, 61, 9, 17, 52, 49, 50, 23, 51, 25, 62, 63, 64, 15, 65, 3, 18, 20, 21, 22, 24, 66, 67, 68, 69, 70, 71, 72, 73, 74, 75, 76, 77, 78, 79, 80, 81] (by decide +kernel) (by decide +kernel)
set_option maxRecDepth 20000 in
theorem gX2_draw_X2_payByLayer : GoodIn wsX2_draw (wsV RX2 73 RX2 yX2_payByLayer wsX2_payByLayer) := goodIn_app (goodIn_of _ (by decide +kernel)) ggX2_draw_X2_payByLayer
theorem dX2_draw_0 : decode cX2_draw 0 = .ok (.aload_n 0, 1) := by decide +kernel
theorem dX2_draw_1 : decode cX2_draw 1 = .ok (.aload_n 1, 1) := by decide +kernel
theorem dX2_draw_2 : decode cX2_draw 2 = .ok (.iload_n 2, 1) := by decide +kernel
theorem dX2_draw_3 : decode cX2_draw 3 = .ok (.iload_n 3, 1) := by decide +kernel
theorem dX2_draw_4 : decode cX2_draw 4 = .ok (.invokevirtual 41, 3) := by decide +kernel
theorem dX2_draw_7 : decode cX2_draw 7 = .ok (.aload_n 0, 1) := by decide +kernel
theorem dX2_draw_8 : decode cX2_draw 8 = .ok (.aload_n 0, 1) := by decide +kernel
theorem dX2_draw_9 : decode cX2_draw 9 = .ok (.getfield 35, 3) := by decide +kernel
theorem dX2_draw_12 : decode cX2_draw 12 = .ok (.aload_n 0, 1) := by decide +kernel
theorem dX2_draw_13 : decode cX2_draw 13 = .ok (.getfield 9, 3) := by decide +kernel
theorem dX2_draw_16 : decode cX2_draw 16 = .ok (.aload_n 0, 1) := by decide +kernel
theorem dX2_draw_17 : decode cX2_draw 17 = .ok (.getfield 45, 3) := by decide +kernel
theorem dX2_draw_20 : decode cX2_draw 20 = .ok (.iaload, 1) := by decide +kernel
theorem dX2_draw_21 : decode cX2_draw 21 = .ok (.invokestatic 48, 3) := by decide +kernel
theorem dX2_draw_24 : decode cX2_draw 24 = .ok (.putfield 54, 3) := by decide +kernel
theorem dX2_draw_27 : decode cX2_draw 27 = .ok (.aload_n 0, 1) := by decide +kernel
theorem dX2_draw_28 : decode cX2_draw 28 = .ok (.getfield 9, 3) := by decide +kernel
theorem dX2_draw_31 : decode cX2_draw 31 = .ok (.aload_n 0, 1) := by decide +kernel
theorem dX2_draw_32 : decode cX2_draw 32 = .ok (.getfield 45, 3) := by decide +kernel
theorem dX2_draw_35 : decode cX2_draw 35 = .ok (.dup2, 1) := by decide +kernel
theorem dX2_draw_36 : decode cX2_draw 36 = .ok (.iaload, 1) := by decide +kernel
theorem dX2_draw_37 : decode cX2_draw 37 = .ok (.aload_n 0, 1) := by decide +kernel
theorem dX2_draw_38 : decode cX2_draw 38 = .ok (.getfield 54, 3) := by decide +kernel
theorem dX2_draw_41 : decode cX2_draw 41 = .ok (.isub, 1) := by decide +kernel
theorem dX2_draw_42 : decode cX2_draw 42 = .ok (.iastore, 1) := by decide +kernel
theorem dX2_draw_43 : decode cX2_draw 43 = .ok (.aload_n 0, 1) := by decide +kernel
theorem dX2_draw_44 : decode cX2_draw 44 = .ok (.aload_n 0, 1) := by decide +kernel
theorem dX2_draw_45 : decode cX2_draw 45 = .ok (.getfield 54, 3) := by decide +kernel
theorem dX2_draw_48 : decode cX2_draw 48 = .ok (.putfield 31, 3) := by decide +kernel
theorem dX2_draw_51 : decode cX2_draw 51 = .ok (.aload_n 1, 1) := by decide +kernel
theorem dX2_draw_52 : decode cX2_draw 52 = .ok (.aload_n 0, 1) := by decide +kernel
theorem dX2_draw_53 : decode cX2_draw 53 = .ok (.getfield 57, 3) := by decide +kernel
theorem dX2_draw_56 : decode cX2_draw 56 = .ok (.iconst 2, 1) := by decide +kernel
theorem dX2_draw_57 : decode cX2_draw 57 = .ok (.invokevirtual 62, 3) := by decide +kernel
theorem dX2_draw_60 : decode cX2_draw 60 = .ok (.iconst 1, 1) := by decide +kernel
theorem dX2_draw_61 : decode cX2_draw 61 = .ok (.if_icmp .ne 7, 3) := by decide +kernel
theorem dX2_draw_64 : decode cX2_draw 64 = .ok (.iconst 1, 1) := by decide +kernel
theorem dX2_draw_65 : decode cX2_draw 65 = .ok (.goto 4, 3) := by decide +kernel
theorem dX2_draw_68 : decode cX2_draw 68 = .ok (.iconst 0, 1) := by decide +kernel
theorem dX2_draw_69 : decode cX2_draw 69 = .ok (.istore 4, 2) := by decide +kernel
theorem dX2_draw_71 : decode cX2_draw 71 = .ok (.iload 4, 2) := by decide +kernel
theorem dX2_draw_73 : decode cX2_draw 73 = .ok (.ifCond .eq 8, 3) := by decide +kernel
theorem dX2_draw_76 : decode cX2_draw 76 = .ok (.aload_n 0, 1) := by decide +kernel
theorem dX2_draw_77 : decode cX2_draw 77 = .ok (.aload_n 1, 1) := by decide +kernel
theorem dX2_draw_78 : decode cX2_draw 78 = .ok (.invokevirtual 65, 3) := by decide +kernel
theorem dX2_draw_81 : decode cX2_draw 81 = .ok (.iconst 0, 1) := by decide +kernel
theorem dX2_draw_82 : decode cX2_draw 82 = .ok (.istore 5, 2) := by decide +kernel
theorem dX2_draw_84 : decode cX2_draw 84 = .ok (.iload 5, 2) := by decide +kernel
theorem dX2_draw_86 : decode cX2_draw 86 = .ok (.aload_n 1, 1) := by decide +kernel
theorem dX2_draw_87 : decode cX2_draw 87 = .ok (.aload_n 0, 1) := by decide +kernel
theorem dX2_draw_88 : decode cX2_draw 88 = .ok (.getfield 57, 3) := by decide +kernel
theorem dX2_draw_91 : decode cX2_draw 91 = .ok (.iconst 3, 1) := by decide +kernel
theorem dX2_draw_92 : decode cX2_draw 92 = .ok (.invokevirtual 62, 3) := by decide +kernel
theorem dX2_draw_95 : decode cX2_draw 95 = .ok (.if_icmp .ge 51, 3) := by decide +kernel
theorem dX2_draw_98 : decode cX2_draw 98 = .ok (.iload 4, 2) := by decide +kernel
theorem dX2_draw_100 : decode cX2_draw 100 = .ok (.ifCond .ne 33, 3) := by decide +kernel
theorem dX2_draw_103 : decode cX2_draw 103 = .ok (.aload_n 0, 1) := by decide +kernel
theorem dX2_draw_104 : decode cX2_draw 104 = .ok (.getfield 21, 3) := by decide +kernel
theorem dX2_draw_107 : decode cX2_draw 107 = .ok (.iload 5, 2) := by decide +kernel
theorem dX2_draw_109 : decode cX2_draw 109 = .ok (.aload_n 0, 1) := by decide +kernel
theorem dX2_draw_110 : decode cX2_draw 110 = .ok (.getfield 35, 3) := by decide +kernel
theorem dX2_draw_113 : decode cX2_draw 113 = .ok (.aload_n 0, 1) := by decide +kernel
theorem dX2_draw_114 : decode cX2_draw 114 = .ok (.getfield 31, 3) := by decide +kernel
theorem dX2_draw_117 : decode cX2_draw 117 = .ok (.isub, 1) := by decide +kernel
theorem dX2_draw_118 : decode cX2_draw 118 = .ok (.aload_n 1, 1) := by decide +kernel
theorem dX2_draw_119 : decode cX2_draw 119 = .ok (.aload_n 0, 1) := by decide +kernel
theorem dX2_draw_120 : decode cX2_draw 120 = .ok (.getfield 57, 3) := by decide +kernel
theorem dX2_draw_123 : decode cX2_draw 123 = .ok (.iload 5, 2) := by decide +kernel
theorem dX2_draw_125 : decode cX2_draw 125 = .ok (.iconst 2, 1) := by decide +kernel
theorem dX2_draw_126 : decode cX2_draw 126 = .ok (.invokevirtual 69, 3) := by decide +kernel
theorem dX2_draw_129 : decode cX2_draw 129 = .ok (.invokestatic 48, 3) := by decide +kernel
theorem dX2_draw_132 : decode cX2_draw 132 = .ok (.iastore, 1) := by decide +kernel
theorem dX2_draw_133 : decode cX2_draw 133 = .ok (.aload_n 0, 1) := by decide +kernel
theorem dX2_draw_134 : decode cX2_draw 134 = .ok (.aload_n 1, 1) := by decide +kernel
theorem dX2_draw_135 : decode cX2_draw 135 = .ok (.iload 5, 2) := by decide +kernel
theorem dX2_draw_137 : decode cX2_draw 137 = .ok (.invokevirtual 73, 3) := by decide +kernel
theorem dX2_draw_140 : decode cX2_draw 140 = .ok (.iinc 5 1, 3) := by decide +kernel
theorem dX2_draw_143 : decode cX2_draw 143 = .ok (.goto (-59), 3) := by decide +kernel
theorem dX2_draw_146 : decode cX2_draw 146 = .ok (.return_, 1) := by decide +kernel
set_option maxRecDepth 20000 in
theorem ggX2_begin_X3_fact : GoodIn wsX2_begin wsX3_fact := goodIn_r _ [16, 17, 39] (by decide +kernel) (by decide +kernel)
set_option maxRecDepth 20000 in
theorem gX2_begin_X3_fact : GoodIn wsX2_begin (wsV RX2 77 RX3 yX3_fact wsX3_fact) := goodIn_app (goodIn_of _ (by decide +kernel)) ggX2_begin_X3_fact
set_option maxRecDepth 20000 in
theorem ggX2_begin_X3_bondFact : GoodIn wsX2_begin wsX3_bondFact := goodIn_r _ [21, 17, 39] (by decide +kernel) (by decide +kernel)
set_option maxRecDepth 20000 in
theorem gX2_begin_X3_bondFact : GoodIn wsX2_begin (wsV RX2 62 RX3 yX3_bondFact wsX3_bondFact) := goodIn_app (goodIn_of _ (by decide +kernel)) ggX2_begin_X3_bondFact
set_option maxRecDepth 20000 in
theorem ggX2_begin_X3_leftOfBond : GoodIn wsX2_begin wsX3_leftOfBond := goodIn_r _ [25, 26, 19, 20, 15, 21, 17, 39] (by decide +kernel) (by decide +kernel)
set_option maxRecDepth 20000 in
theorem gX2_begin_X3_leftOfBond : GoodIn wsX2_begin (wsV RX2 80 RX3 yX3_leftOfBond wsX3_leftOfBond) := goodIn_app (goodIn_of _ (by decide +kernel)) ggX2_begin_X3_leftOfBond
theorem dX2_begin_0 : decode cX2_begin 0 = .ok (.iconst 0, 1) := by decide +kernel
theorem dX2_begin_1 : decode cX2_begin 1 = .ok (.istore 4, 2) := by decide +kernel
theorem dX2_begin_3 : decode cX2_begin 3 = .ok (.iload 4, 2) := by decide +kernel
theorem dX2_begin_5 : decode cX2_begin 5 = .ok (.bipush 8, 2) := by decide +kernel
theorem dX2_begin_7 : decode cX2_begin 7 = .ok (.if_icmp .ge 39, 3) := by decide +kernel
theorem dX2_begin_10 : decode cX2_begin 10 = .ok (.aload_n 0, 1) := by decide +kernel
theorem dX2_begin_11 : decode cX2_begin 11 = .ok (.getfield 9, 3) := by decide +kernel
theorem dX2_begin_14 : decode cX2_begin 14 = .ok (.iload 4, 2) := by decide +kernel
theorem dX2_begin_16 : decode cX2_begin 16 = .ok (.aload_n 1, 1) := by decide +kernel
theorem dX2_begin_17 : decode cX2_begin 17 = .ok (.iload 4, 2) := by decide +kernel
theorem dX2_begin_19 : decode cX2_begin 19 = .ok (.iconst 0, 1) := by decide +kernel
theorem dX2_begin_20 : decode cX2_begin 20 = .ok (.invokevirtual 77, 3) := by decide +kernel
theorem dX2_begin_23 : decode cX2_begin 23 = .ok (.iastore, 1) := by decide +kernel
theorem dX2_begin_24 : decode cX2_begin 24 = .ok (.aload_n 0, 1) := by decide +kernel
theorem dX2_begin_25 : decode cX2_begin 25 = .ok (.getfield 15, 3) := by decide +kernel
theorem dX2_begin_28 : decode cX2_begin 28 = .ok (.iload 4, 2) := by decide +kernel
theorem dX2_begin_30 : decode cX2_begin 30 = .ok (.iconst 0, 1) := by decide +kernel
theorem dX2_begin_31 : decode cX2_begin 31 = .ok (.iastore, 1) := by decide +kernel
theorem dX2_begin_32 : decode cX2_begin 32 = .ok (.aload_n 0, 1) := by decide +kernel
theorem dX2_begin_33 : decode cX2_begin 33 = .ok (.getfield 18, 3) := by decide +kernel
theorem dX2_begin_36 : decode cX2_begin 36 = .ok (.iload 4, 2) := by decide +kernel
theorem dX2_begin_38 : decode cX2_begin 38 = .ok (.iconst 0, 1) := by decide +kernel
theorem dX2_begin_39 : decode cX2_begin 39 = .ok (.iastore, 1) := by decide +kernel
theorem dX2_begin_40 : decode cX2_begin 40 = .ok (.iinc 4 1, 3) := by decide +kernel
theorem dX2_begin_43 : decode cX2_begin 43 = .ok (.goto (-40), 3) := by decide +kernel
theorem dX2_begin_46 : decode cX2_begin 46 = .ok (.aload_n 0, 1) := by decide +kernel
theorem dX2_begin_47 : decode cX2_begin 47 = .ok (.iload_n 2, 1) := by decide +kernel
theorem dX2_begin_48 : decode cX2_begin 48 = .ok (.putfield 57, 3) := by decide +kernel
theorem dX2_begin_51 : decode cX2_begin 51 = .ok (.aload_n 0, 1) := by decide +kernel
theorem dX2_begin_52 : decode cX2_begin 52 = .ok (.aload_n 1, 1) := by decide +kernel
theorem dX2_begin_53 : decode cX2_begin 53 = .ok (.aload_n 0, 1) := by decide +kernel
theorem dX2_begin_54 : decode cX2_begin 54 = .ok (.getfield 57, 3) := by decide +kernel
theorem dX2_begin_57 : decode cX2_begin 57 = .ok (.iconst 0, 1) := by decide +kernel
theorem dX2_begin_58 : decode cX2_begin 58 = .ok (.invokevirtual 62, 3) := by decide +kernel
theorem dX2_begin_61 : decode cX2_begin 61 = .ok (.putfield 45, 3) := by decide +kernel
theorem dX2_begin_64 : decode cX2_begin 64 = .ok (.aload_n 0, 1) := by decide +kernel
theorem dX2_begin_65 : decode cX2_begin 65 = .ok (.iload_n 3, 1) := by decide +kernel
theorem dX2_begin_66 : decode cX2_begin 66 = .ok (.aload_n 1, 1) := by decide +kernel
theorem dX2_begin_67 : decode cX2_begin 67 = .ok (.aload_n 0, 1) := by decide +kernel
theorem dX2_begin_68 : decode cX2_begin 68 = .ok (.getfield 57, 3) := by decide +kernel
theorem dX2_begin_71 : decode cX2_begin 71 = .ok (.invokevirtual 80, 3) := by decide +kernel
theorem dX2_begin_74 : decode cX2_begin 74 = .ok (.invokestatic 48, 3) := by decide +kernel
theorem dX2_begin_77 : decode cX2_begin 77 = .ok (.putfield 35, 3) := by decide +kernel
theorem dX2_begin_80 : decode cX2_begin 80 = .ok (.aload_n 0, 1) := by decide +kernel
theorem dX2_begin_81 : decode cX2_begin 81 = .ok (.iconst (-1), 1) := by decide +kernel
theorem dX2_begin_82 : decode cX2_begin 82 = .ok (.putfield 38, 3) := by decide +kernel
theorem dX2_begin_85 : decode cX2_begin 85 = .ok (.return_, 1) := by decide +kernel
set_option maxRecDepth 20000 in
theorem ggX2_shareOut_X3_bondFact : GoodIn wsX2_shareOut wsX3_bondFact := goodIn_r _ [15, 16, 44] (by decide +kernel) (by decide +kernel)
set_option maxRecDepth 20000 in
theorem gX2_shareOut_X3_bondFact : GoodIn wsX2_shareOut (wsV RX2 62 RX3 yX3_bondFact wsX3_bondFact) := goodIn_app (goodIn_of _ (by decide +kernel)) ggX2_shareOut_X3_bondFact
set_option maxRecDepth 20000 in
theorem ggX2_shareOut_X3_leftOfLimits : GoodIn wsX2_shareOut wsX3_leftOfLimits := goodIn_r _ [20, 21, 12, 13, 14, 15, 16, 22, 23, 24, 25, 44] (by decide +kernel) (by decide +kernel)
set_option maxRecDepth 20000 in
theorem gX2_shareOut_X3_leftOfLimits : GoodIn wsX2_shareOut (wsV RX2 84 RX3 yX3_leftOfLimits wsX3_leftOfLimits) := goodIn_app (goodIn_of _ (by decide +kernel)) ggX2_shareOut_X3_leftOfLimits
set_option maxRecDepth 20000 in
theorem ggX2_shareOut_X3_layerFact : GoodIn wsX2_shareOut wsX3_layerFact := goodIn_r _ [25, 16, 44] (by decide +kernel) (by decide +kernel)
set_option maxRecDepth 20000 in
theorem gX2_shareOut_X3_layerFact : GoodIn wsX2_shareOut (wsV RX2 69 RX3 yX3_layerFact wsX3_layerFact) := goodIn_app (goodIn_of _ (by decide +kernel)) ggX2_shareOut_X3_layerFact
set_option maxRecDepth 20000 in
theorem ggX2_shareOut_X2_greatestRemainder : GoodIn wsX2_shareOut wsX2_greatestRemainder := goodIn_r _ [31, 9, 32, 33, 34, 35, 36, 37, 38, 39, 40, 41, 42, 43] (by decide +kernel) (by decide +kernel)
set_option maxRecDepth 20000 in
theorem gX2_shareOut_X2_greatestRemainder : GoodIn wsX2_shareOut (wsV RX2 90 RX2 yX2_greatestRemainder wsX2_greatestRemainder) := goodIn_app (goodIn_of _ (by decide +kernel)) ggX2_shareOut_X2_greatestRemainder
theorem dX2_shareOut_0 : decode cX2_shareOut 0 = .ok (.aload_n 1, 1) := by decide +kernel
theorem dX2_shareOut_1 : decode cX2_shareOut 1 = .ok (.aload_n 0, 1) := by decide +kernel
theorem dX2_shareOut_2 : decode cX2_shareOut 2 = .ok (.getfield 57, 3) := by decide +kernel
theorem dX2_shareOut_5 : decode cX2_shareOut 5 = .ok (.iconst 3, 1) := by decide +kernel
theorem dX2_shareOut_6 : decode cX2_shareOut 6 = .ok (.invokevirtual 62, 3) := by decide +kernel
theorem dX2_shareOut_9 : decode cX2_shareOut 9 = .ok (.istore_n 2, 1) := by decide +kernel
theorem dX2_shareOut_10 : decode cX2_shareOut 10 = .ok (.aload_n 1, 1) := by decide +kernel
theorem dX2_shareOut_11 : decode cX2_shareOut 11 = .ok (.aload_n 0, 1) := by decide +kernel
theorem dX2_shareOut_12 : decode cX2_shareOut 12 = .ok (.getfield 57, 3) := by decide +kernel
theorem dX2_shareOut_15 : decode cX2_shareOut 15 = .ok (.invokevirtual 84, 3) := by decide +kernel
theorem dX2_shareOut_18 : decode cX2_shareOut 18 = .ok (.i2l, 1) := by decide +kernel
theorem dX2_shareOut_19 : decode cX2_shareOut 19 = .ok (.lstore_n 3, 1) := by decide +kernel
theorem dX2_shareOut_20 : decode cX2_shareOut 20 = .ok (.aload_n 0, 1) := by decide +kernel
theorem dX2_shareOut_21 : decode cX2_shareOut 21 = .ok (.getfield 35, 3) := by decide +kernel
theorem dX2_shareOut_24 : decode cX2_shareOut 24 = .ok (.aload_n 0, 1) := by decide +kernel
theorem dX2_shareOut_25 : decode cX2_shareOut 25 = .ok (.getfield 31, 3) := by decide +kernel
theorem dX2_shareOut_28 : decode cX2_shareOut 28 = .ok (.isub, 1) := by decide +kernel
theorem dX2_shareOut_29 : decode cX2_shareOut 29 = .ok (.i2l, 1) := by decide +kernel
theorem dX2_shareOut_30 : decode cX2_shareOut 30 = .ok (.lload_n 3, 1) := by decide +kernel
theorem dX2_shareOut_31 : decode cX2_shareOut 31 = .ok (.invokestatic 87, 3) := by decide +kernel
theorem dX2_shareOut_34 : decode cX2_shareOut 34 = .ok (.lstore 5, 2) := by decide +kernel
theorem dX2_shareOut_36 : decode cX2_shareOut 36 = .ok (.lload 5, 2) := by decide +kernel
theorem dX2_shareOut_38 : decode cX2_shareOut 38 = .ok (.lstore 7, 2) := by decide +kernel
theorem dX2_shareOut_40 : decode cX2_shareOut 40 = .ok (.iconst 0, 1) := by decide +kernel
theorem dX2_shareOut_41 : decode cX2_shareOut 41 = .ok (.istore 9, 2) := by decide +kernel
theorem dX2_shareOut_43 : decode cX2_shareOut 43 = .ok (.iload 9, 2) := by decide +kernel
theorem dX2_shareOut_45 : decode cX2_shareOut 45 = .ok (.iload_n 2, 1) := by decide +kernel
theorem dX2_shareOut_46 : decode cX2_shareOut 46 = .ok (.if_icmp .ge 82, 3) := by decide +kernel
theorem dX2_shareOut_49 : decode cX2_shareOut 49 = .ok (.lload 5, 2) := by decide +kernel
theorem dX2_shareOut_51 : decode cX2_shareOut 51 = .ok (.aload_n 1, 1) := by decide +kernel
theorem dX2_shareOut_52 : decode cX2_shareOut 52 = .ok (.aload_n 0, 1) := by decide +kernel
theorem dX2_shareOut_53 : decode cX2_shareOut 53 = .ok (.getfield 57, 3) := by decide +kernel
theorem dX2_shareOut_56 : decode cX2_shareOut 56 = .ok (.iload 9, 2) := by decide +kernel
theorem dX2_shareOut_58 : decode cX2_shareOut 58 = .ok (.iconst 2, 1) := by decide +kernel
theorem dX2_shareOut_59 : decode cX2_shareOut 59 = .ok (.invokevirtual 69, 3) := by decide +kernel
theorem dX2_shareOut_62 : decode cX2_shareOut 62 = .ok (.i2l, 1) := by decide +kernel
theorem dX2_shareOut_63 : decode cX2_shareOut 63 = .ok (.lmul, 1) := by decide +kernel
theorem dX2_shareOut_64 : decode cX2_shareOut 64 = .ok (.lstore 10, 2) := by decide +kernel
theorem dX2_shareOut_66 : decode cX2_shareOut 66 = .ok (.aload_n 0, 1) := by decide +kernel
theorem dX2_shareOut_67 : decode cX2_shareOut 67 = .ok (.getfield 21, 3) := by decide +kernel
theorem dX2_shareOut_70 : decode cX2_shareOut 70 = .ok (.iload 9, 2) := by decide +kernel
theorem dX2_shareOut_72 : decode cX2_shareOut 72 = .ok (.lload_n 3, 1) := by decide +kernel
theorem dX2_shareOut_73 : decode cX2_shareOut 73 = .ok (.lconst 0, 1) := by decide +kernel
theorem dX2_shareOut_74 : decode cX2_shareOut 74 = .ok (.lcmp, 1) := by decide +kernel
theorem dX2_shareOut_75 : decode cX2_shareOut 75 = .ok (.ifCond .le 11, 3) := by decide +kernel
theorem dX2_shareOut_78 : decode cX2_shareOut 78 = .ok (.lload 10, 2) := by decide +kernel
theorem dX2_shareOut_80 : decode cX2_shareOut 80 = .ok (.lload_n 3, 1) := by decide +kernel
theorem dX2_shareOut_81 : decode cX2_shareOut 81 = .ok (.ldiv, 1) := by decide +kernel
theorem dX2_shareOut_82 : decode cX2_shareOut 82 = .ok (.l2i, 1) := by decide +kernel
theorem dX2_shareOut_83 : decode cX2_shareOut 83 = .ok (.goto 4, 3) := by decide +kernel
theorem dX2_shareOut_86 : decode cX2_shareOut 86 = .ok (.iconst 0, 1) := by decide +kernel
theorem dX2_shareOut_87 : decode cX2_shareOut 87 = .ok (.iastore, 1) := by decide +kernel
theorem dX2_shareOut_88 : decode cX2_shareOut 88 = .ok (.aload_n 0, 1) := by decide +kernel
theorem dX2_shareOut_89 : decode cX2_shareOut 89 = .ok (.getfield 27, 3) := by decide +kernel
theorem dX2_shareOut_92 : decode cX2_shareOut 92 = .ok (.iload 9, 2) := by decide +kernel
theorem dX2_shareOut_94 : decode cX2_shareOut 94 = .ok (.lload_n 3, 1) := by decide +kernel
theorem dX2_shareOut_95 : decode cX2_shareOut 95 = .ok (.lconst 0, 1) := by decide +kernel
theorem dX2_shareOut_96 : decode cX2_shareOut 96 = .ok (.lcmp, 1) := by decide +kernel
theorem dX2_shareOut_97 : decode cX2_shareOut 97 = .ok (.ifCond .le 10, 3) := by decide +kernel
theorem dX2_shareOut_100 : decode cX2_shareOut 100 = .ok (.lload 10, 2) := by decide +kernel
theorem dX2_shareOut_102 : decode cX2_shareOut 102 = .ok (.lload_n 3, 1) := by decide +kernel
theorem dX2_shareOut_103 : decode cX2_shareOut 103 = .ok (.lrem, 1) := by decide +kernel
theorem dX2_shareOut_104 : decode cX2_shareOut 104 = .ok (.goto 4, 3) := by decide +kernel
theorem dX2_shareOut_107 : decode cX2_shareOut 107 = .ok (.lconst 0, 1) := by decide +kernel
theorem dX2_shareOut_108 : decode cX2_shareOut 108 = .ok (.lastore, 1) := by decide +kernel
theorem dX2_shareOut_109 : decode cX2_shareOut 109 = .ok (.lload 7, 2) := by decide +kernel
theorem dX2_shareOut_111 : decode cX2_shareOut 111 = .ok (.aload_n 0, 1) := by decide +kernel
theorem dX2_shareOut_112 : decode cX2_shareOut 112 = .ok (.getfield 21, 3) := by decide +kernel
theorem dX2_shareOut_115 : decode cX2_shareOut 115 = .ok (.iload 9, 2) := by decide +kernel
theorem dX2_shareOut_117 : decode cX2_shareOut 117 = .ok (.iaload, 1) := by decide +kernel
theorem dX2_shareOut_118 : decode cX2_shareOut 118 = .ok (.i2l, 1) := by decide +kernel
theorem dX2_shareOut_119 : decode cX2_shareOut 119 = .ok (.lsub, 1) := by decide +kernel
theorem dX2_shareOut_120 : decode cX2_shareOut 120 = .ok (.lstore 7, 2) := by decide +kernel
theorem dX2_shareOut_122 : decode cX2_shareOut 122 = .ok (.iinc 9 1, 3) := by decide +kernel
theorem dX2_shareOut_125 : decode cX2_shareOut 125 = .ok (.goto (-82), 3) := by decide +kernel
theorem dX2_shareOut_128 : decode cX2_shareOut 128 = .ok (.iconst 0, 1) := by decide +kernel
theorem dX2_shareOut_129 : decode cX2_shareOut 129 = .ok (.istore 9, 2) := by decide +kernel
theorem dX2_shareOut_131 : decode cX2_shareOut 131 = .ok (.iload 9, 2) := by decide +kernel
theorem dX2_shareOut_133 : decode cX2_shareOut 133 = .ok (.iload_n 2, 1) := by decide +kernel
theorem dX2_shareOut_134 : decode cX2_shareOut 134 = .ok (.if_icmp .ge 50, 3) := by decide +kernel
theorem dX2_shareOut_137 : decode cX2_shareOut 137 = .ok (.lload 7, 2) := by decide +kernel
theorem dX2_shareOut_139 : decode cX2_shareOut 139 = .ok (.lconst 0, 1) := by decide +kernel
theorem dX2_shareOut_140 : decode cX2_shareOut 140 = .ok (.lcmp, 1) := by decide +kernel
theorem dX2_shareOut_141 : decode cX2_shareOut 141 = .ok (.ifCond .le 43, 3) := by decide +kernel
theorem dX2_shareOut_144 : decode cX2_shareOut 144 = .ok (.aload_n 0, 1) := by decide +kernel
theorem dX2_shareOut_145 : decode cX2_shareOut 145 = .ok (.iload_n 2, 1) := by decide +kernel
theorem dX2_shareOut_146 : decode cX2_shareOut 146 = .ok (.invokevirtual 90, 3) := by decide +kernel
theorem dX2_shareOut_149 : decode cX2_shareOut 149 = .ok (.istore 10, 2) := by decide +kernel
theorem dX2_shareOut_151 : decode cX2_shareOut 151 = .ok (.aload_n 0, 1) := by decide +kernel
theorem dX2_shareOut_152 : decode cX2_shareOut 152 = .ok (.getfield 21, 3) := by decide +kernel
theorem dX2_shareOut_155 : decode cX2_shareOut 155 = .ok (.iload 10, 2) := by decide +kernel
theorem dX2_shareOut_157 : decode cX2_shareOut 157 = .ok (.dup2, 1) := by decide +kernel
theorem dX2_shareOut_158 : decode cX2_shareOut 158 = .ok (.iaload, 1) := by decide +kernel
theorem dX2_shareOut_159 : decode cX2_shareOut 159 = .ok (.iconst 1, 1) := by decide +kernel
theorem dX2_shareOut_160 : decode cX2_shareOut 160 = .ok (.iadd, 1) := by decide +kernel
theorem dX2_shareOut_161 : decode cX2_shareOut 161 = .ok (.iastore, 1) := by decide +kernel
theorem dX2_shareOut_162 : decode cX2_shareOut 162 = .ok (.aload_n 0, 1) := by decide +kernel
theorem dX2_shareOut_163 : decode cX2_shareOut 163 = .ok (.getfield 27, 3) := by decide +kernel
theorem dX2_shareOut_166 : decode cX2_shareOut 166 = .ok (.iload 10, 2) := by decide +kernel
theorem dX2_shareOut_168 : decode cX2_shareOut 168 = .ok (.ldc2_w 93, 3) := by decide +kernel
theorem dX2_shareOut_171 : decode cX2_shareOut 171 = .ok (.lastore, 1) := by decide +kernel
theorem dX2_shareOut_172 : decode cX2_shareOut 172 = .ok (.lload 7, 2) := by decide +kernel
theorem dX2_shareOut_174 : decode cX2_shareOut 174 = .ok (.lconst 1, 1) := by decide +kernel
theorem dX2_shareOut_175 : decode cX2_shareOut 175 = .ok (.lsub, 1) := by decide +kernel
theorem dX2_shareOut_176 : decode cX2_shareOut 176 = .ok (.lstore 7, 2) := by decide +kernel
theorem dX2_shareOut_178 : decode cX2_shareOut 178 = .ok (.iinc 9 1, 3) := by decide +kernel
theorem dX2_shareOut_181 : decode cX2_shareOut 181 = .ok (.goto (-50), 3) := by decide +kernel
theorem dX2_shareOut_184 : decode cX2_shareOut 184 = .ok (.return_, 1) := by decide +kernel
theorem dX2_greatestRemainder_0 : decode cX2_greatestRemainder 0 = .ok (.iconst 0, 1) := by decide +kernel
theorem dX2_greatestRemainder_1 : decode cX2_greatestRemainder 1 = .ok (.istore_n 2, 1) := by decide +kernel
theorem dX2_greatestRemainder_2 : decode cX2_greatestRemainder 2 = .ok (.iconst 1, 1) := by decide +kernel
theorem dX2_greatestRemainder_3 : decode cX2_greatestRemainder 3 = .ok (.istore_n 3, 1) := by decide +kernel
theorem dX2_greatestRemainder_4 : decode cX2_greatestRemainder 4 = .ok (.iload_n 3, 1) := by decide +kernel
theorem dX2_greatestRemainder_5 : decode cX2_greatestRemainder 5 = .ok (.iload_n 1, 1) := by decide +kernel
theorem dX2_greatestRemainder_6 : decode cX2_greatestRemainder 6 = .ok (.if_icmp .ge 27, 3) := by decide +kernel
theorem dX2_greatestRemainder_9 : decode cX2_greatestRemainder 9 = .ok (.aload_n 0, 1) := by decide +kernel
theorem dX2_greatestRemainder_10 : decode cX2_greatestRemainder 10 = .ok (.getfield 27, 3) := by decide +kernel
theorem dX2_greatestRemainder_13 : decode cX2_greatestRemainder 13 = .ok (.iload_n 3, 1) := by decide +kernel
theorem dX2_greatestRemainder_14 : decode cX2_greatestRemainder 14 = .ok (.laload, 1) := by decide +kernel
theorem dX2_greatestRemainder_15 : decode cX2_greatestRemainder 15 = .ok (.aload_n 0, 1) := by decide +kernel
theorem dX2_greatestRemainder_16 : decode cX2_greatestRemainder 16 = .ok (.getfield 27, 3) := by decide +kernel
theorem dX2_greatestRemainder_19 : decode cX2_greatestRemainder 19 = .ok (.iload_n 2, 1) := by decide +kernel
theorem dX2_greatestRemainder_20 : decode cX2_greatestRemainder 20 = .ok (.laload, 1) := by decide +kernel
theorem dX2_greatestRemainder_21 : decode cX2_greatestRemainder 21 = .ok (.lcmp, 1) := by decide +kernel
theorem dX2_greatestRemainder_22 : decode cX2_greatestRemainder 22 = .ok (.ifCond .le 5, 3) := by decide +kernel
theorem dX2_greatestRemainder_25 : decode cX2_greatestRemainder 25 = .ok (.iload_n 3, 1) := by decide +kernel
theorem dX2_greatestRemainder_26 : decode cX2_greatestRemainder 26 = .ok (.istore_n 2, 1) := by decide +kernel
theorem dX2_greatestRemainder_27 : decode cX2_greatestRemainder 27 = .ok (.iinc 3 1, 3) := by decide +kernel
theorem dX2_greatestRemainder_30 : decode cX2_greatestRemainder 30 = .ok (.goto (-26), 3) := by decide +kernel
theorem dX2_greatestRemainder_33 : decode cX2_greatestRemainder 33 = .ok (.iload_n 2, 1) := by decide +kernel
theorem dX2_greatestRemainder_34 : decode cX2_greatestRemainder 34 = .ok (.ireturn, 1) := by decide +kernel
set_option maxRecDepth 20000 in
theorem ggX2_payByLayer_X3_layerFact : GoodIn wsX2_payByLayer wsX3_layerFact := goodIn_r _ [16, 17, 44] (by decide +kernel) (by decide +kernel)
set_option maxRecDepth 20000 in
theorem gX2_payByLayer_X3_layerFact : GoodIn wsX2_payByLayer (wsV RX2 69 RX3 yX3_layerFact wsX3_layerFact) := goodIn_app (goodIn_of _ (by decide +kernel)) ggX2_payByLayer_X3_layerFact
set_option maxRecDepth 20000 in
theorem ggX2_payByLayer_X2_makeGood : GoodIn wsX2_payByLayer wsX2_makeGood := goodIn_r _ [22, 23, 3, 4, 5, 6, 7, 11, 24, 25, 26, 27, 15, 28, 17, 29, 30, 31, 32, 33, 34, 35, 36, 37, 38, 39, 40, 41, 42, 43, 44] (by decide +kernel) (by decide +kernel)
set_option maxRecDepth 20000 in
theorem gX2_payByLayer_X2_makeGood : GoodIn wsX2_payByLayer (wsV RX2 95 RX2 yX2_makeGood wsX2_makeGood) := goodIn_app (goodIn_of _ (by decide +kernel)) ggX2_payByLayer_X2_makeGood
theorem dX2_payByLayer_0 : decode cX2_payByLayer 0 = .ok (.aload_n 1, 1) := by decide +kernel
theorem dX2_payByLayer_1 : decode cX2_payByLayer 1 = .ok (.aload_n 0, 1) := by decide +kernel
theorem dX2_payByLayer_2 : decode cX2_payByLayer 2 = .ok (.getfield 57, 3) := by decide +kernel
theorem dX2_payByLayer_5 : decode cX2_payByLayer 5 = .ok (.iload_n 2, 1) := by decide +kernel
theorem dX2_payByLayer_6 : decode cX2_payByLayer 6 = .ok (.iconst 0, 1) := by decide +kernel
theorem dX2_payByLayer_7 : decode cX2_payByLayer 7 = .ok (.invokevirtual 69, 3) := by decide +kernel
theorem dX2_payByLayer_10 : decode cX2_payByLayer 10 = .ok (.istore_n 3, 1) := by decide +kernel
theorem dX2_payByLayer_11 : decode cX2_payByLayer 11 = .ok (.aload_n 0, 1) := by decide +kernel
theorem dX2_payByLayer_12 : decode cX2_payByLayer 12 = .ok (.getfield 21, 3) := by decide +kernel
theorem dX2_payByLayer_15 : decode cX2_payByLayer 15 = .ok (.iload_n 2, 1) := by decide +kernel
theorem dX2_payByLayer_16 : decode cX2_payByLayer 16 = .ok (.iaload, 1) := by decide +kernel
theorem dX2_payByLayer_17 : decode cX2_payByLayer 17 = .ok (.aload_n 0, 1) := by decide +kernel
theorem dX2_payByLayer_18 : decode cX2_payByLayer 18 = .ok (.getfield 9, 3) := by decide +kernel
theorem dX2_payByLayer_21 : decode cX2_payByLayer 21 = .ok (.iload_n 3, 1) := by decide +kernel
theorem dX2_payByLayer_22 : decode cX2_payByLayer 22 = .ok (.iaload, 1) := by decide +kernel
theorem dX2_payByLayer_23 : decode cX2_payByLayer 23 = .ok (.invokestatic 48, 3) := by decide +kernel
theorem dX2_payByLayer_26 : decode cX2_payByLayer 26 = .ok (.istore 4, 2) := by decide +kernel
theorem dX2_payByLayer_28 : decode cX2_payByLayer 28 = .ok (.iload 4, 2) := by decide +kernel
theorem dX2_payByLayer_30 : decode cX2_payByLayer 30 = .ok (.aload_n 0, 1) := by decide +kernel
theorem dX2_payByLayer_31 : decode cX2_payByLayer 31 = .ok (.getfield 21, 3) := by decide +kernel
theorem dX2_payByLayer_34 : decode cX2_payByLayer 34 = .ok (.iload_n 2, 1) := by decide +kernel
theorem dX2_payByLayer_35 : decode cX2_payByLayer 35 = .ok (.iaload, 1) := by decide +kernel
theorem dX2_payByLayer_36 : decode cX2_payByLayer 36 = .ok (.if_icmp .ge 16, 3) := by decide +kernel
theorem dX2_payByLayer_39 : decode cX2_payByLayer 39 = .ok (.aload_n 0, 1) := by decide +kernel
theorem dX2_payByLayer_40 : decode cX2_payByLayer 40 = .ok (.getfield 38, 3) := by decide +kernel
theorem dX2_payByLayer_43 : decode cX2_payByLayer 43 = .ok (.iconst (-1), 1) := by decide +kernel
theorem dX2_payByLayer_44 : decode cX2_payByLayer 44 = .ok (.if_icmp .ne 8, 3) := by decide +kernel
theorem dX2_payByLayer_47 : decode cX2_payByLayer 47 = .ok (.aload_n 0, 1) := by decide +kernel
theorem dX2_payByLayer_48 : decode cX2_payByLayer 48 = .ok (.iload_n 2, 1) := by decide +kernel
theorem dX2_payByLayer_49 : decode cX2_payByLayer 49 = .ok (.putfield 38, 3) := by decide +kernel
theorem dX2_payByLayer_52 : decode cX2_payByLayer 52 = .ok (.aload_n 0, 1) := by decide +kernel
theorem dX2_payByLayer_53 : decode cX2_payByLayer 53 = .ok (.getfield 24, 3) := by decide +kernel
theorem dX2_payByLayer_56 : decode cX2_payByLayer 56 = .ok (.iload_n 2, 1) := by decide +kernel
theorem dX2_payByLayer_57 : decode cX2_payByLayer 57 = .ok (.iload 4, 2) := by decide +kernel
theorem dX2_payByLayer_59 : decode cX2_payByLayer 59 = .ok (.iastore, 1) := by decide +kernel
theorem dX2_payByLayer_60 : decode cX2_payByLayer 60 = .ok (.aload_n 0, 1) := by decide +kernel
theorem dX2_payByLayer_61 : decode cX2_payByLayer 61 = .ok (.dup, 1) := by decide +kernel
theorem dX2_payByLayer_62 : decode cX2_payByLayer 62 = .ok (.getfield 31, 3) := by decide +kernel
theorem dX2_payByLayer_65 : decode cX2_payByLayer 65 = .ok (.iload 4, 2) := by decide +kernel
theorem dX2_payByLayer_67 : decode cX2_payByLayer 67 = .ok (.iadd, 1) := by decide +kernel
theorem dX2_payByLayer_68 : decode cX2_payByLayer 68 = .ok (.putfield 31, 3) := by decide +kernel
theorem dX2_payByLayer_71 : decode cX2_payByLayer 71 = .ok (.aload_n 0, 1) := by decide +kernel
theorem dX2_payByLayer_72 : decode cX2_payByLayer 72 = .ok (.getfield 9, 3) := by decide +kernel
theorem dX2_payByLayer_75 : decode cX2_payByLayer 75 = .ok (.iload_n 3, 1) := by decide +kernel
theorem dX2_payByLayer_76 : decode cX2_payByLayer 76 = .ok (.dup2, 1) := by decide +kernel
theorem dX2_payByLayer_77 : decode cX2_payByLayer 77 = .ok (.iaload, 1) := by decide +kernel
theorem dX2_payByLayer_78 : decode cX2_payByLayer 78 = .ok (.iload 4, 2) := by decide +kernel
theorem dX2_payByLayer_80 : decode cX2_payByLayer 80 = .ok (.isub, 1) := by decide +kernel
theorem dX2_payByLayer_81 : decode cX2_payByLayer 81 = .ok (.iastore, 1) := by decide +kernel
theorem dX2_payByLayer_82 : decode cX2_payByLayer 82 = .ok (.aload_n 0, 1) := by decide +kernel
theorem dX2_payByLayer_83 : decode cX2_payByLayer 83 = .ok (.getfield 15, 3) := by decide +kernel
theorem dX2_payByLayer_86 : decode cX2_payByLayer 86 = .ok (.iload_n 3, 1) := by decide +kernel
theorem dX2_payByLayer_87 : decode cX2_payByLayer 87 = .ok (.dup2, 1) := by decide +kernel
theorem dX2_payByLayer_88 : decode cX2_payByLayer 88 = .ok (.iaload, 1) := by decide +kernel
theorem dX2_payByLayer_89 : decode cX2_payByLayer 89 = .ok (.iload 4, 2) := by decide +kernel
theorem dX2_payByLayer_91 : decode cX2_payByLayer 91 = .ok (.iadd, 1) := by decide +kernel
theorem dX2_payByLayer_92 : decode cX2_payByLayer 92 = .ok (.iastore, 1) := by decide +kernel
theorem dX2_payByLayer_93 : decode cX2_payByLayer 93 = .ok (.aload_n 0, 1) := by decide +kernel
theorem dX2_payByLayer_94 : decode cX2_payByLayer 94 = .ok (.aload_n 1, 1) := by decide +kernel
theorem dX2_payByLayer_95 : decode cX2_payByLayer 95 = .ok (.iload_n 3, 1) := by decide +kernel
theorem dX2_payByLayer_96 : decode cX2_payByLayer 96 = .ok (.iload 4, 2) := by decide +kernel
theorem dX2_payByLayer_98 : decode cX2_payByLayer 98 = .ok (.invokevirtual 95, 3) := by decide +kernel
theorem dX2_payByLayer_101 : decode cX2_payByLayer 101 = .ok (.return_, 1) := by decide +kernel
set_option maxRecDepth 20000 in
theorem ggX2_makeGood_X3_fact : GoodIn wsX2_makeGood wsX3_fact := goodIn_r _ [13, 14, 30] (by decide +kernel) (by decide +kernel)
set_option maxRecDepth 20000 in
theorem gX2_makeGood_X3_fact : GoodIn wsX2_makeGood (wsV RX2 77 RX3 yX3_fact wsX3_fact) := goodIn_app (goodIn_of _ (by decide +kernel)) ggX2_makeGood_X3_fact
set_option maxRecDepth 20000 in
theorem ggX2_makeGood_X3_isPerson : GoodIn wsX2_makeGood wsX3_isPerson := goodIn_r _ [17] (by decide +kernel) (by decide +kernel)
set_option maxRecDepth 20000 in
theorem gX2_makeGood_X3_isPerson : GoodIn wsX2_makeGood (va_wsS RX2 98 yX3_isPerson wsX3_isPerson) := goodIn_app (goodIn_of _ (by decide +kernel)) ggX2_makeGood_X3_isPerson
theorem dX2_makeGood_0 : decode cX2_makeGood 0 = .ok (.aload_n 0, 1) := by decide +kernel
theorem dX2_makeGood_1 : decode cX2_makeGood 1 = .ok (.getfield 45, 3) := by decide +kernel
theorem dX2_makeGood_4 : decode cX2_makeGood 4 = .ok (.istore 4, 2) := by decide +kernel
theorem dX2_makeGood_6 : decode cX2_makeGood 6 = .ok (.iload_n 3, 1) := by decide +kernel
theorem dX2_makeGood_7 : decode cX2_makeGood 7 = .ok (.istore 5, 2) := by decide +kernel
theorem dX2_makeGood_9 : decode cX2_makeGood 9 = .ok (.iconst 0, 1) := by decide +kernel
theorem dX2_makeGood_10 : decode cX2_makeGood 10 = .ok (.istore 6, 2) := by decide +kernel
theorem dX2_makeGood_12 : decode cX2_makeGood 12 = .ok (.iload 6, 2) := by decide +kernel
theorem dX2_makeGood_14 : decode cX2_makeGood 14 = .ok (.bipush 8, 2) := by decide +kernel
theorem dX2_makeGood_16 : decode cX2_makeGood 16 = .ok (.if_icmp .ge 140, 3) := by decide +kernel
theorem dX2_makeGood_19 : decode cX2_makeGood 19 = .ok (.iload 5, 2) := by decide +kernel
theorem dX2_makeGood_21 : decode cX2_makeGood 21 = .ok (.ifCond .le 135, 3) := by decide +kernel
theorem dX2_makeGood_24 : decode cX2_makeGood 24 = .ok (.aload_n 1, 1) := by decide +kernel
theorem dX2_makeGood_25 : decode cX2_makeGood 25 = .ok (.iload 4, 2) := by decide +kernel
theorem dX2_makeGood_27 : decode cX2_makeGood 27 = .ok (.iconst 1, 1) := by decide +kernel
theorem dX2_makeGood_28 : decode cX2_makeGood 28 = .ok (.invokevirtual 77, 3) := by decide +kernel
theorem dX2_makeGood_31 : decode cX2_makeGood 31 = .ok (.istore 7, 2) := by decide +kernel
theorem dX2_makeGood_33 : decode cX2_makeGood 33 = .ok (.iload 7, 2) := by decide +kernel
theorem dX2_makeGood_35 : decode cX2_makeGood 35 = .ok (.invokestatic 98, 3) := by decide +kernel
theorem dX2_makeGood_38 : decode cX2_makeGood 38 = .ok (.ifCond .ne 4, 3) := by decide +kernel
theorem dX2_makeGood_41 : decode cX2_makeGood 41 = .ok (.return_, 1) := by decide +kernel
theorem dX2_makeGood_42 : decode cX2_makeGood 42 = .ok (.iload 5, 2) := by decide +kernel
theorem dX2_makeGood_44 : decode cX2_makeGood 44 = .ok (.aload_n 1, 1) := by decide +kernel
theorem dX2_makeGood_45 : decode cX2_makeGood 45 = .ok (.iload 4, 2) := by decide +kernel
theorem dX2_makeGood_47 : decode cX2_makeGood 47 = .ok (.iconst 2, 1) := by decide +kernel
theorem dX2_makeGood_48 : decode cX2_makeGood 48 = .ok (.invokevirtual 77, 3) := by decide +kernel
theorem dX2_makeGood_51 : decode cX2_makeGood 51 = .ok (.imul, 1) := by decide +kernel
theorem dX2_makeGood_52 : decode cX2_makeGood 52 = .ok (.bipush 100, 2) := by decide +kernel
theorem dX2_makeGood_54 : decode cX2_makeGood 54 = .ok (.idiv, 1) := by decide +kernel
theorem dX2_makeGood_55 : decode cX2_makeGood 55 = .ok (.istore 8, 2) := by decide +kernel
theorem dX2_makeGood_57 : decode cX2_makeGood 57 = .ok (.iload 7, 2) := by decide +kernel
theorem dX2_makeGood_59 : decode cX2_makeGood 59 = .ok (.iload_n 2, 1) := by decide +kernel
theorem dX2_makeGood_60 : decode cX2_makeGood 60 = .ok (.if_icmp .ne 7, 3) := by decide +kernel
theorem dX2_makeGood_63 : decode cX2_makeGood 63 = .ok (.iconst 0, 1) := by decide +kernel
theorem dX2_makeGood_64 : decode cX2_makeGood 64 = .ok (.goto 15, 3) := by decide +kernel
theorem dX2_makeGood_67 : decode cX2_makeGood 67 = .ok (.iload 8, 2) := by decide +kernel
theorem dX2_makeGood_69 : decode cX2_makeGood 69 = .ok (.aload_n 0, 1) := by decide +kernel
theorem dX2_makeGood_70 : decode cX2_makeGood 70 = .ok (.getfield 9, 3) := by decide +kernel
theorem dX2_makeGood_73 : decode cX2_makeGood 73 = .ok (.iload 7, 2) := by decide +kernel
theorem dX2_makeGood_75 : decode cX2_makeGood 75 = .ok (.iaload, 1) := by decide +kernel
theorem dX2_makeGood_76 : decode cX2_makeGood 76 = .ok (.invokestatic 48, 3) := by decide +kernel
theorem dX2_makeGood_79 : decode cX2_makeGood 79 = .ok (.istore 9, 2) := by decide +kernel
theorem dX2_makeGood_81 : decode cX2_makeGood 81 = .ok (.aload_n 0, 1) := by decide +kernel
theorem dX2_makeGood_82 : decode cX2_makeGood 82 = .ok (.getfield 9, 3) := by decide +kernel
theorem dX2_makeGood_85 : decode cX2_makeGood 85 = .ok (.iload 7, 2) := by decide +kernel
theorem dX2_makeGood_87 : decode cX2_makeGood 87 = .ok (.dup2, 1) := by decide +kernel
theorem dX2_makeGood_88 : decode cX2_makeGood 88 = .ok (.iaload, 1) := by decide +kernel
theorem dX2_makeGood_89 : decode cX2_makeGood 89 = .ok (.iload 9, 2) := by decide +kernel
theorem dX2_makeGood_91 : decode cX2_makeGood 91 = .ok (.isub, 1) := by decide +kernel
theorem dX2_makeGood_92 : decode cX2_makeGood 92 = .ok (.iastore, 1) := by decide +kernel
theorem dX2_makeGood_93 : decode cX2_makeGood 93 = .ok (.aload_n 0, 1) := by decide +kernel
theorem dX2_makeGood_94 : decode cX2_makeGood 94 = .ok (.getfield 9, 3) := by decide +kernel
theorem dX2_makeGood_97 : decode cX2_makeGood 97 = .ok (.iload_n 2, 1) := by decide +kernel
theorem dX2_makeGood_98 : decode cX2_makeGood 98 = .ok (.dup2, 1) := by decide +kernel
theorem dX2_makeGood_99 : decode cX2_makeGood 99 = .ok (.iaload, 1) := by decide +kernel
theorem dX2_makeGood_100 : decode cX2_makeGood 100 = .ok (.iload 9, 2) := by decide +kernel
theorem dX2_makeGood_102 : decode cX2_makeGood 102 = .ok (.iadd, 1) := by decide +kernel
theorem dX2_makeGood_103 : decode cX2_makeGood 103 = .ok (.iastore, 1) := by decide +kernel
theorem dX2_makeGood_104 : decode cX2_makeGood 104 = .ok (.aload_n 0, 1) := by decide +kernel
theorem dX2_makeGood_105 : decode cX2_makeGood 105 = .ok (.getfield 15, 3) := by decide +kernel
theorem dX2_makeGood_108 : decode cX2_makeGood 108 = .ok (.iload_n 2, 1) := by decide +kernel
theorem dX2_makeGood_109 : decode cX2_makeGood 109 = .ok (.dup2, 1) := by decide +kernel
theorem dX2_makeGood_110 : decode cX2_makeGood 110 = .ok (.iaload, 1) := by decide +kernel
theorem dX2_makeGood_111 : decode cX2_makeGood 111 = .ok (.iload 9, 2) := by decide +kernel
theorem dX2_makeGood_113 : decode cX2_makeGood 113 = .ok (.isub, 1) := by decide +kernel
theorem dX2_makeGood_114 : decode cX2_makeGood 114 = .ok (.iastore, 1) := by decide +kernel
theorem dX2_makeGood_115 : decode cX2_makeGood 115 = .ok (.aload_n 0, 1) := by decide +kernel
theorem dX2_makeGood_116 : decode cX2_makeGood 116 = .ok (.getfield 15, 3) := by decide +kernel
theorem dX2_makeGood_119 : decode cX2_makeGood 119 = .ok (.iload 7, 2) := by decide +kernel
theorem dX2_makeGood_121 : decode cX2_makeGood 121 = .ok (.dup2, 1) := by decide +kernel
theorem dX2_makeGood_122 : decode cX2_makeGood 122 = .ok (.iaload, 1) := by decide +kernel
theorem dX2_makeGood_123 : decode cX2_makeGood 123 = .ok (.iload 9, 2) := by decide +kernel
theorem dX2_makeGood_125 : decode cX2_makeGood 125 = .ok (.iadd, 1) := by decide +kernel
theorem dX2_makeGood_126 : decode cX2_makeGood 126 = .ok (.iastore, 1) := by decide +kernel
theorem dX2_makeGood_127 : decode cX2_makeGood 127 = .ok (.aload_n 0, 1) := by decide +kernel
theorem dX2_makeGood_128 : decode cX2_makeGood 128 = .ok (.getfield 18, 3) := by decide +kernel
theorem dX2_makeGood_131 : decode cX2_makeGood 131 = .ok (.iload 7, 2) := by decide +kernel
theorem dX2_makeGood_133 : decode cX2_makeGood 133 = .ok (.dup2, 1) := by decide +kernel
theorem dX2_makeGood_134 : decode cX2_makeGood 134 = .ok (.iaload, 1) := by decide +kernel
theorem dX2_makeGood_135 : decode cX2_makeGood 135 = .ok (.iload 9, 2) := by decide +kernel
theorem dX2_makeGood_137 : decode cX2_makeGood 137 = .ok (.iadd, 1) := by decide +kernel
theorem dX2_makeGood_138 : decode cX2_makeGood 138 = .ok (.iastore, 1) := by decide +kernel
theorem dX2_makeGood_139 : decode cX2_makeGood 139 = .ok (.iload 8, 2) := by decide +kernel
theorem dX2_makeGood_141 : decode cX2_makeGood 141 = .ok (.iload 9, 2) := by decide +kernel
theorem dX2_makeGood_143 : decode cX2_makeGood 143 = .ok (.isub, 1) := by decide +kernel
theorem dX2_makeGood_144 : decode cX2_makeGood 144 = .ok (.istore 5, 2) := by decide +kernel
theorem dX2_makeGood_146 : decode cX2_makeGood 146 = .ok (.iload 7, 2) := by decide +kernel
theorem dX2_makeGood_148 : decode cX2_makeGood 148 = .ok (.istore 4, 2) := by decide +kernel
theorem dX2_makeGood_150 : decode cX2_makeGood 150 = .ok (.iinc 6 1, 3) := by decide +kernel
theorem dX2_makeGood_153 : decode cX2_makeGood 153 = .ok (.goto (-141), 3) := by decide +kernel
theorem dX2_makeGood_156 : decode cX2_makeGood 156 = .ok (.return_, 1) := by decide +kernel
set_option maxRecDepth 20000 in
theorem ggX2_carryOut_X3_putFact : GoodIn wsX2_carryOut wsX3_putFact := goodIn_r _ [14, 15, 71] (by decide +kernel) (by decide +kernel)
set_option maxRecDepth 20000 in
theorem gX2_carryOut_X3_putFact : GoodIn wsX2_carryOut (wsV RX2 102 RX3 yX3_putFact wsX3_putFact) := goodIn_app (goodIn_of _ (by decide +kernel)) ggX2_carryOut_X3_putFact
set_option maxRecDepth 20000 in
theorem ggX2_carryOut_X3_addFact : GoodIn wsX2_carryOut wsX3_addFact := goodIn_r _ [19, 15, 71] (by decide +kernel) (by decide +kernel)
set_option maxRecDepth 20000 in
theorem gX2_carryOut_X3_addFact : GoodIn wsX2_carryOut (wsV RX2 106 RX3 yX3_addFact wsX3_addFact) := goodIn_app (goodIn_of _ (by decide +kernel)) ggX2_carryOut_X3_addFact
set_option maxRecDepth 20000 in
theorem ggX2_carryOut_X3_addOwed : GoodIn wsX2_carryOut wsX3_addOwed := goodIn_r _ [23, 15, 71] (by decide +kernel) (by decide +kernel)
set_option maxRecDepth 20000 in
theorem gX2_carryOut_X3_addOwed : GoodIn wsX2_carryOut (wsV RX2 109 RX3 yX3_addOwed wsX3_addOwed) := goodIn_app (goodIn_of _ (by decide +kernel)) ggX2_carryOut_X3_addOwed
set_option maxRecDepth 20000 in
theorem ggX2_carryOut_X3_bondFact : GoodIn wsX2_carryOut wsX3_bondFact := goodIn_r _ [27, 15, 71] (by decide +kernel) (by decide +kernel)
set_option maxRecDepth 20000 in
theorem gX2_carryOut_X3_bondFact : GoodIn wsX2_carryOut (wsV RX2 62 RX3 yX3_bondFact wsX3_bondFact) := goodIn_app (goodIn_of _ (by decide +kernel)) ggX2_carryOut_X3_bondFact
set_option maxRecDepth 20000 in
theorem ggX2_carryOut_X3_layerFact : GoodIn wsX2_carryOut wsX3_layerFact := goodIn_r _ [31, 15, 71] (by decide +kernel) (by decide +kernel)
set_option maxRecDepth 20000 in
theorem gX2_carryOut_X3_layerFact : GoodIn wsX2_carryOut (wsV RX2 69 RX3 yX3_layerFact wsX3_layerFact) := goodIn_app (goodIn_of _ (by decide +kernel)) ggX2_carryOut_X3_layerFact
set_option maxRecDepth 20000 in
theorem ggX2_carryOut_X3_addLayerFact : GoodIn wsX2_carryOut wsX3_addLayerFact := goodIn_r _ [35, 15, 71] (by decide +kernel) (by decide +kernel)
set_option maxRecDepth 20000 in
theorem gX2_carryOut_X3_addLayerFact : GoodIn wsX2_carryOut (wsV RX2 112 RX3 yX3_addLayerFact wsX3_addLayerFact) := goodIn_app (goodIn_of _ (by decide +kernel)) ggX2_carryOut_X3_addLayerFact
set_option maxRecDepth 20000 in
theorem ggX2_carryOut_X3_addBondFact : GoodIn wsX2_carryOut wsX3_addBondFact := goodIn_r _ [39, 15, 71] (by decide +kernel) (by decide +kernel)
set_option maxRecDepth 20000 in
theorem gX2_carryOut_X3_addBondFact : GoodIn wsX2_carryOut (wsV RX2 116 RX3 yX3_addBondFact wsX3_addBondFact) := goodIn_app (goodIn_of _ (by decide +kernel)) ggX2_carryOut_X3_addBondFact
set_option maxRecDepth 20000 in
theorem ggX2_carryOut_X3_trim : GoodIn wsX2_carryOut wsX3_trim := goodIn_r _ [43, 44, 45, 46, 47, 48, 49, 50, 13, 51, 52, 25, 26, 27, 15, 53, 29, 30, 31, 54, 55, 56, 57, 58, 33, 34, 35, 71] (by decide +kernel) (by decide +kernel)
set_option maxRecDepth 20000 in
theorem gX2_carryOut_X3_trim : GoodIn wsX2_carryOut (wsV RX2 119 RX3 yX3_trim wsX3_trim) := goodIn_app (goodIn_of _ (by decide +kernel)) ggX2_carryOut_X3_trim
theorem dX2_carryOut_0 : decode cX2_carryOut 0 = .ok (.iconst 0, 1) := by decide +kernel
theorem dX2_carryOut_1 : decode cX2_carryOut 1 = .ok (.istore_n 2, 1) := by decide +kernel
theorem dX2_carryOut_2 : decode cX2_carryOut 2 = .ok (.iload_n 2, 1) := by decide +kernel
theorem dX2_carryOut_3 : decode cX2_carryOut 3 = .ok (.bipush 8, 2) := by decide +kernel
theorem dX2_carryOut_5 : decode cX2_carryOut 5 = .ok (.if_icmp .ge 48, 3) := by decide +kernel
theorem dX2_carryOut_8 : decode cX2_carryOut 8 = .ok (.aload_n 1, 1) := by decide +kernel
theorem dX2_carryOut_9 : decode cX2_carryOut 9 = .ok (.iload_n 2, 1) := by decide +kernel
theorem dX2_carryOut_10 : decode cX2_carryOut 10 = .ok (.iconst 0, 1) := by decide +kernel
theorem dX2_carryOut_11 : decode cX2_carryOut 11 = .ok (.aload_n 0, 1) := by decide +kernel
theorem dX2_carryOut_12 : decode cX2_carryOut 12 = .ok (.getfield 9, 3) := by decide +kernel
theorem dX2_carryOut_15 : decode cX2_carryOut 15 = .ok (.iload_n 2, 1) := by decide +kernel
theorem dX2_carryOut_16 : decode cX2_carryOut 16 = .ok (.iaload, 1) := by decide +kernel
theorem dX2_carryOut_17 : decode cX2_carryOut 17 = .ok (.invokevirtual 102, 3) := by decide +kernel
theorem dX2_carryOut_20 : decode cX2_carryOut 20 = .ok (.aload_n 1, 1) := by decide +kernel
theorem dX2_carryOut_21 : decode cX2_carryOut 21 = .ok (.iload_n 2, 1) := by decide +kernel
theorem dX2_carryOut_22 : decode cX2_carryOut 22 = .ok (.iconst 5, 1) := by decide +kernel
theorem dX2_carryOut_23 : decode cX2_carryOut 23 = .ok (.aload_n 0, 1) := by decide +kernel
theorem dX2_carryOut_24 : decode cX2_carryOut 24 = .ok (.getfield 18, 3) := by decide +kernel
theorem dX2_carryOut_27 : decode cX2_carryOut 27 = .ok (.iload_n 2, 1) := by decide +kernel
theorem dX2_carryOut_28 : decode cX2_carryOut 28 = .ok (.iaload, 1) := by decide +kernel
theorem dX2_carryOut_29 : decode cX2_carryOut 29 = .ok (.invokevirtual 106, 3) := by decide +kernel
theorem dX2_carryOut_32 : decode cX2_carryOut 32 = .ok (.aload_n 1, 1) := by decide +kernel
theorem dX2_carryOut_33 : decode cX2_carryOut 33 = .ok (.aload_n 0, 1) := by decide +kernel
theorem dX2_carryOut_34 : decode cX2_carryOut 34 = .ok (.getfield 45, 3) := by decide +kernel
theorem dX2_carryOut_37 : decode cX2_carryOut 37 = .ok (.iload_n 2, 1) := by decide +kernel
theorem dX2_carryOut_38 : decode cX2_carryOut 38 = .ok (.aload_n 0, 1) := by decide +kernel
theorem dX2_carryOut_39 : decode cX2_carryOut 39 = .ok (.getfield 15, 3) := by decide +kernel
theorem dX2_carryOut_42 : decode cX2_carryOut 42 = .ok (.iload_n 2, 1) := by decide +kernel
theorem dX2_carryOut_43 : decode cX2_carryOut 43 = .ok (.iaload, 1) := by decide +kernel
theorem dX2_carryOut_44 : decode cX2_carryOut 44 = .ok (.invokevirtual 109, 3) := by decide +kernel
theorem dX2_carryOut_47 : decode cX2_carryOut 47 = .ok (.iinc 2 1, 3) := by decide +kernel
theorem dX2_carryOut_50 : decode cX2_carryOut 50 = .ok (.goto (-48), 3) := by decide +kernel
theorem dX2_carryOut_53 : decode cX2_carryOut 53 = .ok (.aload_n 1, 1) := by decide +kernel
theorem dX2_carryOut_54 : decode cX2_carryOut 54 = .ok (.aload_n 0, 1) := by decide +kernel
theorem dX2_carryOut_55 : decode cX2_carryOut 55 = .ok (.getfield 45, 3) := by decide +kernel
theorem dX2_carryOut_58 : decode cX2_carryOut 58 = .ok (.iconst 3, 1) := by decide +kernel
theorem dX2_carryOut_59 : decode cX2_carryOut 59 = .ok (.aload_n 0, 1) := by decide +kernel
theorem dX2_carryOut_60 : decode cX2_carryOut 60 = .ok (.getfield 54, 3) := by decide +kernel
theorem dX2_carryOut_63 : decode cX2_carryOut 63 = .ok (.invokevirtual 106, 3) := by decide +kernel
theorem dX2_carryOut_66 : decode cX2_carryOut 66 = .ok (.iconst 0, 1) := by decide +kernel
theorem dX2_carryOut_67 : decode cX2_carryOut 67 = .ok (.istore_n 2, 1) := by decide +kernel
theorem dX2_carryOut_68 : decode cX2_carryOut 68 = .ok (.iload_n 2, 1) := by decide +kernel
theorem dX2_carryOut_69 : decode cX2_carryOut 69 = .ok (.aload_n 1, 1) := by decide +kernel
theorem dX2_carryOut_70 : decode cX2_carryOut 70 = .ok (.aload_n 0, 1) := by decide +kernel
theorem dX2_carryOut_71 : decode cX2_carryOut 71 = .ok (.getfield 57, 3) := by decide +kernel
theorem dX2_carryOut_74 : decode cX2_carryOut 74 = .ok (.iconst 3, 1) := by decide +kernel
theorem dX2_carryOut_75 : decode cX2_carryOut 75 = .ok (.invokevirtual 62, 3) := by decide +kernel
theorem dX2_carryOut_78 : decode cX2_carryOut 78 = .ok (.if_icmp .ge 65, 3) := by decide +kernel
theorem dX2_carryOut_81 : decode cX2_carryOut 81 = .ok (.aload_n 1, 1) := by decide +kernel
theorem dX2_carryOut_82 : decode cX2_carryOut 82 = .ok (.aload_n 0, 1) := by decide +kernel
theorem dX2_carryOut_83 : decode cX2_carryOut 83 = .ok (.getfield 57, 3) := by decide +kernel
theorem dX2_carryOut_86 : decode cX2_carryOut 86 = .ok (.iload_n 2, 1) := by decide +kernel
theorem dX2_carryOut_87 : decode cX2_carryOut 87 = .ok (.iconst 0, 1) := by decide +kernel
theorem dX2_carryOut_88 : decode cX2_carryOut 88 = .ok (.invokevirtual 69, 3) := by decide +kernel
theorem dX2_carryOut_91 : decode cX2_carryOut 91 = .ok (.istore_n 3, 1) := by decide +kernel
theorem dX2_carryOut_92 : decode cX2_carryOut 92 = .ok (.aload_n 1, 1) := by decide +kernel
theorem dX2_carryOut_93 : decode cX2_carryOut 93 = .ok (.iload_n 3, 1) := by decide +kernel
theorem dX2_carryOut_94 : decode cX2_carryOut 94 = .ok (.iconst 4, 1) := by decide +kernel
theorem dX2_carryOut_95 : decode cX2_carryOut 95 = .ok (.aload_n 0, 1) := by decide +kernel
theorem dX2_carryOut_96 : decode cX2_carryOut 96 = .ok (.getfield 24, 3) := by decide +kernel
theorem dX2_carryOut_99 : decode cX2_carryOut 99 = .ok (.iload_n 2, 1) := by decide +kernel
theorem dX2_carryOut_100 : decode cX2_carryOut 100 = .ok (.iaload, 1) := by decide +kernel
theorem dX2_carryOut_101 : decode cX2_carryOut 101 = .ok (.invokevirtual 106, 3) := by decide +kernel
theorem dX2_carryOut_104 : decode cX2_carryOut 104 = .ok (.aload_n 1, 1) := by decide +kernel
theorem dX2_carryOut_105 : decode cX2_carryOut 105 = .ok (.aload_n 0, 1) := by decide +kernel
theorem dX2_carryOut_106 : decode cX2_carryOut 106 = .ok (.getfield 57, 3) := by decide +kernel
theorem dX2_carryOut_109 : decode cX2_carryOut 109 = .ok (.iload_n 2, 1) := by decide +kernel
theorem dX2_carryOut_110 : decode cX2_carryOut 110 = .ok (.iconst 2, 1) := by decide +kernel
theorem dX2_carryOut_111 : decode cX2_carryOut 111 = .ok (.aload_n 0, 1) := by decide +kernel
theorem dX2_carryOut_112 : decode cX2_carryOut 112 = .ok (.getfield 24, 3) := by decide +kernel
theorem dX2_carryOut_115 : decode cX2_carryOut 115 = .ok (.iload_n 2, 1) := by decide +kernel
theorem dX2_carryOut_116 : decode cX2_carryOut 116 = .ok (.iaload, 1) := by decide +kernel
theorem dX2_carryOut_117 : decode cX2_carryOut 117 = .ok (.ineg, 1) := by decide +kernel
theorem dX2_carryOut_118 : decode cX2_carryOut 118 = .ok (.invokevirtual 112, 3) := by decide +kernel
theorem dX2_carryOut_121 : decode cX2_carryOut 121 = .ok (.aload_n 1, 1) := by decide +kernel
theorem dX2_carryOut_122 : decode cX2_carryOut 122 = .ok (.aload_n 0, 1) := by decide +kernel
theorem dX2_carryOut_123 : decode cX2_carryOut 123 = .ok (.getfield 57, 3) := by decide +kernel
theorem dX2_carryOut_126 : decode cX2_carryOut 126 = .ok (.iload_n 2, 1) := by decide +kernel
theorem dX2_carryOut_127 : decode cX2_carryOut 127 = .ok (.iconst 3, 1) := by decide +kernel
theorem dX2_carryOut_128 : decode cX2_carryOut 128 = .ok (.aload_n 0, 1) := by decide +kernel
theorem dX2_carryOut_129 : decode cX2_carryOut 129 = .ok (.getfield 24, 3) := by decide +kernel
theorem dX2_carryOut_132 : decode cX2_carryOut 132 = .ok (.iload_n 2, 1) := by decide +kernel
theorem dX2_carryOut_133 : decode cX2_carryOut 133 = .ok (.iaload, 1) := by decide +kernel
theorem dX2_carryOut_134 : decode cX2_carryOut 134 = .ok (.invokevirtual 112, 3) := by decide +kernel
theorem dX2_carryOut_137 : decode cX2_carryOut 137 = .ok (.iinc 2 1, 3) := by decide +kernel
theorem dX2_carryOut_140 : decode cX2_carryOut 140 = .ok (.goto (-72), 3) := by decide +kernel
theorem dX2_carryOut_143 : decode cX2_carryOut 143 = .ok (.aload_n 1, 1) := by decide +kernel
theorem dX2_carryOut_144 : decode cX2_carryOut 144 = .ok (.aload_n 0, 1) := by decide +kernel
theorem dX2_carryOut_145 : decode cX2_carryOut 145 = .ok (.getfield 57, 3) := by decide +kernel
theorem dX2_carryOut_148 : decode cX2_carryOut 148 = .ok (.bipush 6, 2) := by decide +kernel
theorem dX2_carryOut_150 : decode cX2_carryOut 150 = .ok (.aload_n 0, 1) := by decide +kernel
theorem dX2_carryOut_151 : decode cX2_carryOut 151 = .ok (.getfield 35, 3) := by decide +kernel
theorem dX2_carryOut_154 : decode cX2_carryOut 154 = .ok (.invokevirtual 116, 3) := by decide +kernel
theorem dX2_carryOut_157 : decode cX2_carryOut 157 = .ok (.aload_n 1, 1) := by decide +kernel
theorem dX2_carryOut_158 : decode cX2_carryOut 158 = .ok (.aload_n 0, 1) := by decide +kernel
theorem dX2_carryOut_159 : decode cX2_carryOut 159 = .ok (.getfield 57, 3) := by decide +kernel
theorem dX2_carryOut_162 : decode cX2_carryOut 162 = .ok (.bipush 7, 2) := by decide +kernel
theorem dX2_carryOut_164 : decode cX2_carryOut 164 = .ok (.aload_n 0, 1) := by decide +kernel
theorem dX2_carryOut_165 : decode cX2_carryOut 165 = .ok (.getfield 31, 3) := by decide +kernel
theorem dX2_carryOut_168 : decode cX2_carryOut 168 = .ok (.invokevirtual 116, 3) := by decide +kernel
theorem dX2_carryOut_171 : decode cX2_carryOut 171 = .ok (.aload_n 1, 1) := by decide +kernel
theorem dX2_carryOut_172 : decode cX2_carryOut 172 = .ok (.aload_n 0, 1) := by decide +kernel
theorem dX2_carryOut_173 : decode cX2_carryOut 173 = .ok (.getfield 57, 3) := by decide +kernel
theorem dX2_carryOut_176 : decode cX2_carryOut 176 = .ok (.invokevirtual 119, 3) := by decide +kernel
theorem dX2_carryOut_179 : decode cX2_carryOut 179 = .ok (.return_, 1) := by decide +kernel
set_option maxRecDepth 20000 in
theorem ggX2_effect_X2_loss : GoodIn wsX2_effect wsX2_loss := goodIn_r _ [7, 8, 1, 41, 42, 43, 44, 45, 46, 47, 48, 49, 50, 51, 52] (by decide +kernel) (by decide +kernel)
set_option maxRecDepth 20000 in
theorem gX2_effect_X2_loss : GoodIn wsX2_effect (wsV RX2 123 RX2 yX2_loss wsX2_loss) := goodIn_app (goodIn_of _ (by decide +kernel)) ggX2_effect_X2_loss
set_option maxRecDepth 20000 in
theorem ggX2_effect_X2_leftOfLimitsThen : GoodIn wsX2_effect wsX2_leftOfLimitsThen := goodIn_r _ [12, 13, 1, 14, 8, 15, 16, 17, 18, 19, 20, 21, 22, 23, 24, 25, 26, 27, 28, 29, 30, 31, 32, 33, 34, 35, 36, 41, 42, 43, 44, 45, 46, 47, 48, 49, 50, 51, 52, 53] (by decide +kernel) (by decide +kernel)
set_option maxRecDepth 20000 in
theorem gX2_effect_X2_leftOfLimitsThen : GoodIn wsX2_effect (wsV RX2 127 RX2 yX2_leftOfLimitsThen wsX2_leftOfLimitsThen) := goodIn_app (goodIn_of _ (by decide +kernel)) ggX2_effect_X2_leftOfLimitsThen
set_option maxRecDepth 20000 in
theorem ggX2_effect_X3_fact : GoodIn wsX2_effect wsX3_fact := goodIn_r _ [40, 28, 53] (by decide +kernel) (by decide +kernel)
set_option maxRecDepth 20000 in
theorem gX2_effect_X3_fact : GoodIn wsX2_effect (wsV RX2 77 RX3 yX3_fact wsX3_fact) := goodIn_app (goodIn_of _ (by decide +kernel)) ggX2_effect_X3_fact
theorem dX2_effect_0 : decode cX2_effect 0 = .ok (.iload_n 2, 1) := by decide +kernel
theorem dX2_effect_1 : decode cX2_effect 1 = .ok (.lookupswitch 51 #[(0, 35), (1, 40), (10, 45)], 35) := by decide +kernel
theorem dX2_effect_36 : decode cX2_effect 36 = .ok (.aload_n 0, 1) := by decide +kernel
theorem dX2_effect_37 : decode cX2_effect 37 = .ok (.getfield 31, 3) := by decide +kernel
theorem dX2_effect_40 : decode cX2_effect 40 = .ok (.ireturn, 1) := by decide +kernel
theorem dX2_effect_41 : decode cX2_effect 41 = .ok (.aload_n 0, 1) := by decide +kernel
theorem dX2_effect_42 : decode cX2_effect 42 = .ok (.invokevirtual 123, 3) := by decide +kernel
theorem dX2_effect_45 : decode cX2_effect 45 = .ok (.ireturn, 1) := by decide +kernel
theorem dX2_effect_46 : decode cX2_effect 46 = .ok (.aload_n 0, 1) := by decide +kernel
theorem dX2_effect_47 : decode cX2_effect 47 = .ok (.aload_n 1, 1) := by decide +kernel
theorem dX2_effect_48 : decode cX2_effect 48 = .ok (.invokevirtual 127, 3) := by decide +kernel
theorem dX2_effect_51 : decode cX2_effect 51 = .ok (.ireturn, 1) := by decide +kernel
theorem dX2_effect_52 : decode cX2_effect 52 = .ok (.aload_n 0, 1) := by decide +kernel
theorem dX2_effect_53 : decode cX2_effect 53 = .ok (.getfield 9, 3) := by decide +kernel
theorem dX2_effect_56 : decode cX2_effect 56 = .ok (.iload_n 2, 1) := by decide +kernel
theorem dX2_effect_57 : decode cX2_effect 57 = .ok (.iconst 2, 1) := by decide +kernel
theorem dX2_effect_58 : decode cX2_effect 58 = .ok (.isub, 1) := by decide +kernel
theorem dX2_effect_59 : decode cX2_effect 59 = .ok (.iaload, 1) := by decide +kernel
theorem dX2_effect_60 : decode cX2_effect 60 = .ok (.aload_n 1, 1) := by decide +kernel
theorem dX2_effect_61 : decode cX2_effect 61 = .ok (.iload_n 2, 1) := by decide +kernel
theorem dX2_effect_62 : decode cX2_effect 62 = .ok (.iconst 2, 1) := by decide +kernel
theorem dX2_effect_63 : decode cX2_effect 63 = .ok (.isub, 1) := by decide +kernel
theorem dX2_effect_64 : decode cX2_effect 64 = .ok (.iconst 0, 1) := by decide +kernel
theorem dX2_effect_65 : decode cX2_effect 65 = .ok (.invokevirtual 77, 3) := by decide +kernel
theorem dX2_effect_68 : decode cX2_effect 68 = .ok (.isub, 1) := by decide +kernel
theorem dX2_effect_69 : decode cX2_effect 69 = .ok (.ireturn, 1) := by decide +kernel
set_option maxRecDepth 20000 in
theorem ggX2_leftOfLimitsThen_X3_leftOfLimits : GoodIn wsX2_leftOfLimitsThen wsX3_leftOfLimits := goodIn_r _ [13, 14, 15, 16, 12, 17, 18, 19, 20, 21, 22, 39] (by decide +kernel) (by decide +kernel)
set_option maxRecDepth 20000 in
theorem gX2_leftOfLimitsThen_X3_leftOfLimits : GoodIn wsX2_leftOfLimitsThen (wsV RX2 84 RX3 yX3_leftOfLimits wsX3_leftOfLimits) := goodIn_app (goodIn_of _ (by decide +kernel)) ggX2_leftOfLimitsThen_X3_leftOfLimits
set_option maxRecDepth 20000 in
theorem ggX2_leftOfLimitsThen_X3_leftOfBond : GoodIn wsX2_leftOfLimitsThen wsX3_leftOfBond := goodIn_r _ [26, 14, 15, 16, 12, 17, 18, 39] (by decide +kernel) (by decide +kernel)
set_option maxRecDepth 20000 in
theorem gX2_leftOfLimitsThen_X3_leftOfBond : GoodIn wsX2_leftOfLimitsThen (wsV RX2 80 RX3 yX3_leftOfBond wsX3_leftOfBond) := goodIn_app (goodIn_of _ (by decide +kernel)) ggX2_leftOfLimitsThen_X3_leftOfBond
theorem dX2_leftOfLimitsThen_0 : decode cX2_leftOfLimitsThen 0 = .ok (.aload_n 1, 1) := by decide +kernel
theorem dX2_leftOfLimitsThen_1 : decode cX2_leftOfLimitsThen 1 = .ok (.aload_n 0, 1) := by decide +kernel
theorem dX2_leftOfLimitsThen_2 : decode cX2_leftOfLimitsThen 2 = .ok (.getfield 57, 3) := by decide +kernel
theorem dX2_leftOfLimitsThen_5 : decode cX2_leftOfLimitsThen 5 = .ok (.invokevirtual 84, 3) := by decide +kernel
theorem dX2_leftOfLimitsThen_8 : decode cX2_leftOfLimitsThen 8 = .ok (.aload_n 0, 1) := by decide +kernel
theorem dX2_leftOfLimitsThen_9 : decode cX2_leftOfLimitsThen 9 = .ok (.getfield 31, 3) := by decide +kernel
theorem dX2_leftOfLimitsThen_12 : decode cX2_leftOfLimitsThen 12 = .ok (.aload_n 0, 1) := by decide +kernel
theorem dX2_leftOfLimitsThen_13 : decode cX2_leftOfLimitsThen 13 = .ok (.getfield 54, 3) := by decide +kernel
theorem dX2_leftOfLimitsThen_16 : decode cX2_leftOfLimitsThen 16 = .ok (.isub, 1) := by decide +kernel
theorem dX2_leftOfLimitsThen_17 : decode cX2_leftOfLimitsThen 17 = .ok (.isub, 1) := by decide +kernel
theorem dX2_leftOfLimitsThen_18 : decode cX2_leftOfLimitsThen 18 = .ok (.istore_n 2, 1) := by decide +kernel
theorem dX2_leftOfLimitsThen_19 : decode cX2_leftOfLimitsThen 19 = .ok (.iload_n 2, 1) := by decide +kernel
theorem dX2_leftOfLimitsThen_20 : decode cX2_leftOfLimitsThen 20 = .ok (.aload_n 1, 1) := by decide +kernel
theorem dX2_leftOfLimitsThen_21 : decode cX2_leftOfLimitsThen 21 = .ok (.aload_n 0, 1) := by decide +kernel
theorem dX2_leftOfLimitsThen_22 : decode cX2_leftOfLimitsThen 22 = .ok (.getfield 57, 3) := by decide +kernel
theorem dX2_leftOfLimitsThen_25 : decode cX2_leftOfLimitsThen 25 = .ok (.invokevirtual 80, 3) := by decide +kernel
theorem dX2_leftOfLimitsThen_28 : decode cX2_leftOfLimitsThen 28 = .ok (.aload_n 0, 1) := by decide +kernel
theorem dX2_leftOfLimitsThen_29 : decode cX2_leftOfLimitsThen 29 = .ok (.getfield 35, 3) := by decide +kernel
theorem dX2_leftOfLimitsThen_32 : decode cX2_leftOfLimitsThen 32 = .ok (.isub, 1) := by decide +kernel
theorem dX2_leftOfLimitsThen_33 : decode cX2_leftOfLimitsThen 33 = .ok (.invokestatic 48, 3) := by decide +kernel
theorem dX2_leftOfLimitsThen_36 : decode cX2_leftOfLimitsThen 36 = .ok (.ireturn, 1) := by decide +kernel
theorem dX3_init_0 : decode cX3_init 0 = .ok (.aload_n 0, 1) := by decide +kernel
theorem dX3_init_1 : decode cX3_init 1 = .ok (.invokespecial 5, 3) := by decide +kernel
theorem dX3_init_4 : decode cX3_init 4 = .ok (.aload_n 0, 1) := by decide +kernel
theorem dX3_init_5 : decode cX3_init 5 = .ok (.sipush 427, 3) := by decide +kernel
theorem dX3_init_8 : decode cX3_init 8 = .ok (.newarray .int, 2) := by decide +kernel
theorem dX3_init_10 : decode cX3_init 10 = .ok (.putfield 11, 3) := by decide +kernel
theorem dX3_init_13 : decode cX3_init 13 = .ok (.aload_n 0, 1) := by decide +kernel
theorem dX3_init_14 : decode cX3_init 14 = .ok (.getfield 11, 3) := by decide +kernel
theorem dX3_init_17 : decode cX3_init 17 = .ok (.bipush 112, 2) := by decide +kernel
theorem dX3_init_19 : decode cX3_init 19 = .ok (.iconst 5, 1) := by decide +kernel
theorem dX3_init_20 : decode cX3_init 20 = .ok (.iastore, 1) := by decide +kernel
theorem dX3_init_21 : decode cX3_init 21 = .ok (.aload_n 0, 1) := by decide +kernel
theorem dX3_init_22 : decode cX3_init 22 = .ok (.getfield 11, 3) := by decide +kernel
theorem dX3_init_25 : decode cX3_init 25 = .ok (.bipush 113, 2) := by decide +kernel
theorem dX3_init_27 : decode cX3_init 27 = .ok (.bipush 20, 2) := by decide +kernel
theorem dX3_init_29 : decode cX3_init 29 = .ok (.iastore, 1) := by decide +kernel
theorem dX3_init_30 : decode cX3_init 30 = .ok (.aload_n 0, 1) := by decide +kernel
theorem dX3_init_31 : decode cX3_init 31 = .ok (.getfield 11, 3) := by decide +kernel
theorem dX3_init_34 : decode cX3_init 34 = .ok (.bipush 114, 2) := by decide +kernel
theorem dX3_init_36 : decode cX3_init 36 = .ok (.iconst 5, 1) := by decide +kernel
theorem dX3_init_37 : decode cX3_init 37 = .ok (.iastore, 1) := by decide +kernel
theorem dX3_init_38 : decode cX3_init 38 = .ok (.iconst 0, 1) := by decide +kernel
theorem dX3_init_39 : decode cX3_init 39 = .ok (.istore_n 1, 1) := by decide +kernel
theorem dX3_init_40 : decode cX3_init 40 = .ok (.iload_n 1, 1) := by decide +kernel
theorem dX3_init_41 : decode cX3_init 41 = .ok (.bipush 8, 2) := by decide +kernel
theorem dX3_init_43 : decode cX3_init 43 = .ok (.if_icmp .ge 21, 3) := by decide +kernel
theorem dX3_init_46 : decode cX3_init 46 = .ok (.aload_n 0, 1) := by decide +kernel
theorem dX3_init_47 : decode cX3_init 47 = .ok (.getfield 11, 3) := by decide +kernel
theorem dX3_init_50 : decode cX3_init 50 = .ok (.iload_n 1, 1) := by decide +kernel
theorem dX3_init_51 : decode cX3_init 51 = .ok (.bipush 6, 2) := by decide +kernel
theorem dX3_init_53 : decode cX3_init 53 = .ok (.imul, 1) := by decide +kernel
theorem dX3_init_54 : decode cX3_init 54 = .ok (.iconst 1, 1) := by decide +kernel
theorem dX3_init_55 : decode cX3_init 55 = .ok (.iadd, 1) := by decide +kernel
theorem dX3_init_56 : decode cX3_init 56 = .ok (.iconst (-1), 1) := by decide +kernel
theorem dX3_init_57 : decode cX3_init 57 = .ok (.iastore, 1) := by decide +kernel
theorem dX3_init_58 : decode cX3_init 58 = .ok (.iinc 1 1, 3) := by decide +kernel
theorem dX3_init_61 : decode cX3_init 61 = .ok (.goto (-21), 3) := by decide +kernel
theorem dX3_init_64 : decode cX3_init 64 = .ok (.return_, 1) := by decide +kernel
theorem dX3_copyTo_0 : decode cX3_copyTo 0 = .ok (.aload_n 0, 1) := by decide +kernel
theorem dX3_copyTo_1 : decode cX3_copyTo 1 = .ok (.getfield 11, 3) := by decide +kernel
theorem dX3_copyTo_4 : decode cX3_copyTo 4 = .ok (.iconst 0, 1) := by decide +kernel
theorem dX3_copyTo_5 : decode cX3_copyTo 5 = .ok (.aload_n 1, 1) := by decide +kernel
theorem dX3_copyTo_6 : decode cX3_copyTo 6 = .ok (.iconst 0, 1) := by decide +kernel
theorem dX3_copyTo_7 : decode cX3_copyTo 7 = .ok (.sipush 427, 3) := by decide +kernel
theorem dX3_copyTo_10 : decode cX3_copyTo 10 = .ok (.invokestatic 15, 3) := by decide +kernel
theorem dX3_copyTo_13 : decode cX3_copyTo 13 = .ok (.return_, 1) := by decide +kernel
theorem dX3_copyFrom_0 : decode cX3_copyFrom 0 = .ok (.aload_n 1, 1) := by decide +kernel
theorem dX3_copyFrom_1 : decode cX3_copyFrom 1 = .ok (.iconst 0, 1) := by decide +kernel
theorem dX3_copyFrom_2 : decode cX3_copyFrom 2 = .ok (.aload_n 0, 1) := by decide +kernel
theorem dX3_copyFrom_3 : decode cX3_copyFrom 3 = .ok (.getfield 11, 3) := by decide +kernel
theorem dX3_copyFrom_6 : decode cX3_copyFrom 6 = .ok (.iconst 0, 1) := by decide +kernel
theorem dX3_copyFrom_7 : decode cX3_copyFrom 7 = .ok (.sipush 427, 3) := by decide +kernel
theorem dX3_copyFrom_10 : decode cX3_copyFrom 10 = .ok (.invokestatic 15, 3) := by decide +kernel
theorem dX3_copyFrom_13 : decode cX3_copyFrom 13 = .ok (.return_, 1) := by decide +kernel
theorem dX3_fact_0 : decode cX3_fact 0 = .ok (.aload_n 0, 1) := by decide +kernel
theorem dX3_fact_1 : decode cX3_fact 1 = .ok (.getfield 11, 3) := by decide +kernel
theorem dX3_fact_4 : decode cX3_fact 4 = .ok (.iload_n 1, 1) := by decide +kernel
theorem dX3_fact_5 : decode cX3_fact 5 = .ok (.bipush 6, 2) := by decide +kernel
theorem dX3_fact_7 : decode cX3_fact 7 = .ok (.imul, 1) := by decide +kernel
theorem dX3_fact_8 : decode cX3_fact 8 = .ok (.iload_n 2, 1) := by decide +kernel
theorem dX3_fact_9 : decode cX3_fact 9 = .ok (.iadd, 1) := by decide +kernel
theorem dX3_fact_10 : decode cX3_fact 10 = .ok (.iaload, 1) := by decide +kernel
theorem dX3_fact_11 : decode cX3_fact 11 = .ok (.ireturn, 1) := by decide +kernel
theorem dX3_putFact_0 : decode cX3_putFact 0 = .ok (.aload_n 0, 1) := by decide +kernel
theorem dX3_putFact_1 : decode cX3_putFact 1 = .ok (.getfield 11, 3) := by decide +kernel
theorem dX3_putFact_4 : decode cX3_putFact 4 = .ok (.iload_n 1, 1) := by decide +kernel
theorem dX3_putFact_5 : decode cX3_putFact 5 = .ok (.bipush 6, 2) := by decide +kernel
theorem dX3_putFact_7 : decode cX3_putFact 7 = .ok (.imul, 1) := by decide +kernel
theorem dX3_putFact_8 : decode cX3_putFact 8 = .ok (.iload_n 2, 1) := by decide +kernel
theorem dX3_putFact_9 : decode cX3_putFact 9 = .ok (.iadd, 1) := by decide +kernel
theorem dX3_putFact_10 : decode cX3_putFact 10 = .ok (.iload_n 3, 1) := by decide +kernel
theorem dX3_putFact_11 : decode cX3_putFact 11 = .ok (.iastore, 1) := by decide +kernel
theorem dX3_putFact_12 : decode cX3_putFact 12 = .ok (.return_, 1) := by decide +kernel
theorem dX3_addFact_0 : decode cX3_addFact 0 = .ok (.aload_n 0, 1) := by decide +kernel
theorem dX3_addFact_1 : decode cX3_addFact 1 = .ok (.getfield 11, 3) := by decide +kernel
theorem dX3_addFact_4 : decode cX3_addFact 4 = .ok (.iload_n 1, 1) := by decide +kernel
theorem dX3_addFact_5 : decode cX3_addFact 5 = .ok (.bipush 6, 2) := by decide +kernel
theorem dX3_addFact_7 : decode cX3_addFact 7 = .ok (.imul, 1) := by decide +kernel
theorem dX3_addFact_8 : decode cX3_addFact 8 = .ok (.iload_n 2, 1) := by decide +kernel
theorem dX3_addFact_9 : decode cX3_addFact 9 = .ok (.iadd, 1) := by decide +kernel
theorem dX3_addFact_10 : decode cX3_addFact 10 = .ok (.dup2, 1) := by decide +kernel
theorem dX3_addFact_11 : decode cX3_addFact 11 = .ok (.iaload, 1) := by decide +kernel
theorem dX3_addFact_12 : decode cX3_addFact 12 = .ok (.iload_n 3, 1) := by decide +kernel
theorem dX3_addFact_13 : decode cX3_addFact 13 = .ok (.iadd, 1) := by decide +kernel
theorem dX3_addFact_14 : decode cX3_addFact 14 = .ok (.iastore, 1) := by decide +kernel
theorem dX3_addFact_15 : decode cX3_addFact 15 = .ok (.return_, 1) := by decide +kernel
set_option maxRecDepth 20000 in
theorem ggX3_addCash_X3_addFact : GoodIn wsX3_addCash wsX3_addFact := goodIn_r _ [5, 6, 7] (by decide +kernel) (by decide +kernel)
set_option maxRecDepth 20000 in
theorem gX3_addCash_X3_addFact : GoodIn wsX3_addCash (wsV RX3 21 RX3 yX3_addFact wsX3_addFact) := goodIn_app (goodIn_of _ (by decide +kernel)) ggX3_addCash_X3_addFact
theorem dX3_addCash_0 : decode cX3_addCash 0 = .ok (.aload_n 0, 1) := by decide +kernel
theorem dX3_addCash_1 : decode cX3_addCash 1 = .ok (.iload_n 1, 1) := by decide +kernel
theorem dX3_addCash_2 : decode cX3_addCash 2 = .ok (.iconst 0, 1) := by decide +kernel
theorem dX3_addCash_3 : decode cX3_addCash 3 = .ok (.iload_n 2, 1) := by decide +kernel
theorem dX3_addCash_4 : decode cX3_addCash 4 = .ok (.invokevirtual 21, 3) := by decide +kernel
theorem dX3_addCash_7 : decode cX3_addCash 7 = .ok (.return_, 1) := by decide +kernel
theorem dX3_owed_0 : decode cX3_owed 0 = .ok (.aload_n 0, 1) := by decide +kernel
theorem dX3_owed_1 : decode cX3_owed 1 = .ok (.getfield 11, 3) := by decide +kernel
theorem dX3_owed_4 : decode cX3_owed 4 = .ok (.bipush 48, 2) := by decide +kernel
theorem dX3_owed_6 : decode cX3_owed 6 = .ok (.iload_n 1, 1) := by decide +kernel
theorem dX3_owed_7 : decode cX3_owed 7 = .ok (.bipush 8, 2) := by decide +kernel
theorem dX3_owed_9 : decode cX3_owed 9 = .ok (.imul, 1) := by decide +kernel
theorem dX3_owed_10 : decode cX3_owed 10 = .ok (.iadd, 1) := by decide +kernel
theorem dX3_owed_11 : decode cX3_owed 11 = .ok (.iload_n 2, 1) := by decide +kernel
theorem dX3_owed_12 : decode cX3_owed 12 = .ok (.iadd, 1) := by decide +kernel
theorem dX3_owed_13 : decode cX3_owed 13 = .ok (.iaload, 1) := by decide +kernel
theorem dX3_owed_14 : decode cX3_owed 14 = .ok (.ireturn, 1) := by decide +kernel
theorem dX3_addOwed_0 : decode cX3_addOwed 0 = .ok (.aload_n 0, 1) := by decide +kernel
theorem dX3_addOwed_1 : decode cX3_addOwed 1 = .ok (.getfield 11, 3) := by decide +kernel
theorem dX3_addOwed_4 : decode cX3_addOwed 4 = .ok (.bipush 48, 2) := by decide +kernel
theorem dX3_addOwed_6 : decode cX3_addOwed 6 = .ok (.iload_n 1, 1) := by decide +kernel
theorem dX3_addOwed_7 : decode cX3_addOwed 7 = .ok (.bipush 8, 2) := by decide +kernel
theorem dX3_addOwed_9 : decode cX3_addOwed 9 = .ok (.imul, 1) := by decide +kernel
theorem dX3_addOwed_10 : decode cX3_addOwed 10 = .ok (.iadd, 1) := by decide +kernel
theorem dX3_addOwed_11 : decode cX3_addOwed 11 = .ok (.iload_n 2, 1) := by decide +kernel
theorem dX3_addOwed_12 : decode cX3_addOwed 12 = .ok (.iadd, 1) := by decide +kernel
theorem dX3_addOwed_13 : decode cX3_addOwed 13 = .ok (.dup2, 1) := by decide +kernel
theorem dX3_addOwed_14 : decode cX3_addOwed 14 = .ok (.iaload, 1) := by decide +kernel
theorem dX3_addOwed_15 : decode cX3_addOwed 15 = .ok (.iload_n 3, 1) := by decide +kernel
theorem dX3_addOwed_16 : decode cX3_addOwed 16 = .ok (.iadd, 1) := by decide +kernel
theorem dX3_addOwed_17 : decode cX3_addOwed 17 = .ok (.iastore, 1) := by decide +kernel
theorem dX3_addOwed_18 : decode cX3_addOwed 18 = .ok (.return_, 1) := by decide +kernel
theorem dX3_settingValue_0 : decode cX3_settingValue 0 = .ok (.aload_n 0, 1) := by decide +kernel
theorem dX3_settingValue_1 : decode cX3_settingValue 1 = .ok (.getfield 11, 3) := by decide +kernel
theorem dX3_settingValue_4 : decode cX3_settingValue 4 = .ok (.bipush 112, 2) := by decide +kernel
theorem dX3_settingValue_6 : decode cX3_settingValue 6 = .ok (.iload_n 1, 1) := by decide +kernel
theorem dX3_settingValue_7 : decode cX3_settingValue 7 = .ok (.iadd, 1) := by decide +kernel
theorem dX3_settingValue_8 : decode cX3_settingValue 8 = .ok (.iaload, 1) := by decide +kernel
theorem dX3_settingValue_9 : decode cX3_settingValue 9 = .ok (.ireturn, 1) := by decide +kernel
theorem dX3_putSetting_0 : decode cX3_putSetting 0 = .ok (.aload_n 0, 1) := by decide +kernel
theorem dX3_putSetting_1 : decode cX3_putSetting 1 = .ok (.getfield 11, 3) := by decide +kernel
theorem dX3_putSetting_4 : decode cX3_putSetting 4 = .ok (.bipush 112, 2) := by decide +kernel
theorem dX3_putSetting_6 : decode cX3_putSetting 6 = .ok (.iload_n 1, 1) := by decide +kernel
theorem dX3_putSetting_7 : decode cX3_putSetting 7 = .ok (.iadd, 1) := by decide +kernel
theorem dX3_putSetting_8 : decode cX3_putSetting 8 = .ok (.iload_n 2, 1) := by decide +kernel
theorem dX3_putSetting_9 : decode cX3_putSetting 9 = .ok (.iastore, 1) := by decide +kernel
theorem dX3_putSetting_10 : decode cX3_putSetting 10 = .ok (.return_, 1) := by decide +kernel
theorem dX3_brought_0 : decode cX3_brought 0 = .ok (.aload_n 0, 1) := by decide +kernel
theorem dX3_brought_1 : decode cX3_brought 1 = .ok (.getfield 11, 3) := by decide +kernel
theorem dX3_brought_4 : decode cX3_brought 4 = .ok (.bipush 115, 2) := by decide +kernel
theorem dX3_brought_6 : decode cX3_brought 6 = .ok (.iaload, 1) := by decide +kernel
theorem dX3_brought_7 : decode cX3_brought 7 = .ok (.ireturn, 1) := by decide +kernel
theorem dX3_addBrought_0 : decode cX3_addBrought 0 = .ok (.aload_n 0, 1) := by decide +kernel
theorem dX3_addBrought_1 : decode cX3_addBrought 1 = .ok (.getfield 11, 3) := by decide +kernel
theorem dX3_addBrought_4 : decode cX3_addBrought 4 = .ok (.bipush 115, 2) := by decide +kernel
theorem dX3_addBrought_6 : decode cX3_addBrought 6 = .ok (.dup2, 1) := by decide +kernel
theorem dX3_addBrought_7 : decode cX3_addBrought 7 = .ok (.iaload, 1) := by decide +kernel
theorem dX3_addBrought_8 : decode cX3_addBrought 8 = .ok (.iload_n 1, 1) := by decide +kernel
theorem dX3_addBrought_9 : decode cX3_addBrought 9 = .ok (.iadd, 1) := by decide +kernel
theorem dX3_addBrought_10 : decode cX3_addBrought 10 = .ok (.iastore, 1) := by decide +kernel
theorem dX3_addBrought_11 : decode cX3_addBrought 11 = .ok (.return_, 1) := by decide +kernel
theorem dX3_bondCount_0 : decode cX3_bondCount 0 = .ok (.aload_n 0, 1) := by decide +kernel
theorem dX3_bondCount_1 : decode cX3_bondCount 1 = .ok (.getfield 11, 3) := by decide +kernel
theorem dX3_bondCount_4 : decode cX3_bondCount 4 = .ok (.bipush 116, 2) := by decide +kernel
theorem dX3_bondCount_6 : decode cX3_bondCount 6 = .ok (.iaload, 1) := by decide +kernel
theorem dX3_bondCount_7 : decode cX3_bondCount 7 = .ok (.ireturn, 1) := by decide +kernel
theorem dX3_bondFact_0 : decode cX3_bondFact 0 = .ok (.aload_n 0, 1) := by decide +kernel
theorem dX3_bondFact_1 : decode cX3_bondFact 1 = .ok (.getfield 11, 3) := by decide +kernel
theorem dX3_bondFact_4 : decode cX3_bondFact 4 = .ok (.bipush 117, 2) := by decide +kernel
theorem dX3_bondFact_6 : decode cX3_bondFact 6 = .ok (.iload_n 1, 1) := by decide +kernel
theorem dX3_bondFact_7 : decode cX3_bondFact 7 = .ok (.bipush 31, 2) := by decide +kernel
theorem dX3_bondFact_9 : decode cX3_bondFact 9 = .ok (.imul, 1) := by decide +kernel
theorem dX3_bondFact_10 : decode cX3_bondFact 10 = .ok (.iadd, 1) := by decide +kernel
theorem dX3_bondFact_11 : decode cX3_bondFact 11 = .ok (.iload_n 2, 1) := by decide +kernel
theorem dX3_bondFact_12 : decode cX3_bondFact 12 = .ok (.iadd, 1) := by decide +kernel
theorem dX3_bondFact_13 : decode cX3_bondFact 13 = .ok (.iaload, 1) := by decide +kernel
theorem dX3_bondFact_14 : decode cX3_bondFact 14 = .ok (.ireturn, 1) := by decide +kernel
theorem dX3_putBondFact_0 : decode cX3_putBondFact 0 = .ok (.aload_n 0, 1) := by decide +kernel
theorem dX3_putBondFact_1 : decode cX3_putBondFact 1 = .ok (.getfield 11, 3) := by decide +kernel
theorem dX3_putBondFact_4 : decode cX3_putBondFact 4 = .ok (.bipush 117, 2) := by decide +kernel
theorem dX3_putBondFact_6 : decode cX3_putBondFact 6 = .ok (.iload_n 1, 1) := by decide +kernel
theorem dX3_putBondFact_7 : decode cX3_putBondFact 7 = .ok (.bipush 31, 2) := by decide +kernel
theorem dX3_putBondFact_9 : decode cX3_putBondFact 9 = .ok (.imul, 1) := by decide +kernel
theorem dX3_putBondFact_10 : decode cX3_putBondFact 10 = .ok (.iadd, 1) := by decide +kernel
theorem dX3_putBondFact_11 : decode cX3_putBondFact 11 = .ok (.iload_n 2, 1) := by decide +kernel
theorem dX3_putBondFact_12 : decode cX3_putBondFact 12 = .ok (.iadd, 1) := by decide +kernel
theorem dX3_putBondFact_13 : decode cX3_putBondFact 13 = .ok (.iload_n 3, 1) := by decide +kernel
theorem dX3_putBondFact_14 : decode cX3_putBondFact 14 = .ok (.iastore, 1) := by decide +kernel
theorem dX3_putBondFact_15 : decode cX3_putBondFact 15 = .ok (.return_, 1) := by decide +kernel
theorem dX3_addBondFact_0 : decode cX3_addBondFact 0 = .ok (.aload_n 0, 1) := by decide +kernel
theorem dX3_addBondFact_1 : decode cX3_addBondFact 1 = .ok (.getfield 11, 3) := by decide +kernel
theorem dX3_addBondFact_4 : decode cX3_addBondFact 4 = .ok (.bipush 117, 2) := by decide +kernel
theorem dX3_addBondFact_6 : decode cX3_addBondFact 6 = .ok (.iload_n 1, 1) := by decide +kernel
theorem dX3_addBondFact_7 : decode cX3_addBondFact 7 = .ok (.bipush 31, 2) := by decide +kernel
theorem dX3_addBondFact_9 : decode cX3_addBondFact 9 = .ok (.imul, 1) := by decide +kernel
theorem dX3_addBondFact_10 : decode cX3_addBondFact 10 = .ok (.iadd, 1) := by decide +kernel
theorem dX3_addBondFact_11 : decode cX3_addBondFact 11 = .ok (.iload_n 2, 1) := by decide +kernel
theorem dX3_addBondFact_12 : decode cX3_addBondFact 12 = .ok (.iadd, 1) := by decide +kernel
theorem dX3_addBondFact_13 : decode cX3_addBondFact 13 = .ok (.dup2, 1) := by decide +kernel
theorem dX3_addBondFact_14 : decode cX3_addBondFact 14 = .ok (.iaload, 1) := by decide +kernel
theorem dX3_addBondFact_15 : decode cX3_addBondFact 15 = .ok (.iload_n 3, 1) := by decide +kernel
theorem dX3_addBondFact_16 : decode cX3_addBondFact 16 = .ok (.iadd, 1) := by decide +kernel
theorem dX3_addBondFact_17 : decode cX3_addBondFact 17 = .ok (.iastore, 1) := by decide +kernel
theorem dX3_addBondFact_18 : decode cX3_addBondFact 18 = .ok (.return_, 1) := by decide +kernel
set_option maxRecDepth 20000 in
theorem ggX3_milestoneShare_X3_bondFact : GoodIn wsX3_milestoneShare wsX3_bondFact := goodIn_r _ [5, 6, 7] (by decide +kernel) (by decide +kernel)
set_option maxRecDepth 20000 in
theorem gX3_milestoneShare_X3_bondFact : GoodIn wsX3_milestoneShare (wsV RX3 25 RX3 yX3_bondFact wsX3_bondFact) := goodIn_app (goodIn_of _ (by decide +kernel)) ggX3_milestoneShare_X3_bondFact
theorem dX3_milestoneShare_0 : decode cX3_milestoneShare 0 = .ok (.aload_n 0, 1) := by decide +kernel
theorem dX3_milestoneShare_1 : decode cX3_milestoneShare 1 = .ok (.iload_n 1, 1) := by decide +kernel
theorem dX3_milestoneShare_2 : decode cX3_milestoneShare 2 = .ok (.bipush 10, 2) := by decide +kernel
theorem dX3_milestoneShare_4 : decode cX3_milestoneShare 4 = .ok (.iload_n 2, 1) := by decide +kernel
theorem dX3_milestoneShare_5 : decode cX3_milestoneShare 5 = .ok (.iadd, 1) := by decide +kernel
theorem dX3_milestoneShare_6 : decode cX3_milestoneShare 6 = .ok (.invokevirtual 25, 3) := by decide +kernel
theorem dX3_milestoneShare_9 : decode cX3_milestoneShare 9 = .ok (.ireturn, 1) := by decide +kernel
theorem dX3_layerFact_0 : decode cX3_layerFact 0 = .ok (.aload_n 0, 1) := by decide +kernel
theorem dX3_layerFact_1 : decode cX3_layerFact 1 = .ok (.getfield 11, 3) := by decide +kernel
theorem dX3_layerFact_4 : decode cX3_layerFact 4 = .ok (.bipush 117, 2) := by decide +kernel
theorem dX3_layerFact_6 : decode cX3_layerFact 6 = .ok (.iload_n 1, 1) := by decide +kernel
theorem dX3_layerFact_7 : decode cX3_layerFact 7 = .ok (.bipush 31, 2) := by decide +kernel
theorem dX3_layerFact_9 : decode cX3_layerFact 9 = .ok (.imul, 1) := by decide +kernel
theorem dX3_layerFact_10 : decode cX3_layerFact 10 = .ok (.iadd, 1) := by decide +kernel
theorem dX3_layerFact_11 : decode cX3_layerFact 11 = .ok (.bipush 15, 2) := by decide +kernel
theorem dX3_layerFact_13 : decode cX3_layerFact 13 = .ok (.iadd, 1) := by decide +kernel
theorem dX3_layerFact_14 : decode cX3_layerFact 14 = .ok (.iload_n 2, 1) := by decide +kernel
theorem dX3_layerFact_15 : decode cX3_layerFact 15 = .ok (.iconst 4, 1) := by decide +kernel
theorem dX3_layerFact_16 : decode cX3_layerFact 16 = .ok (.imul, 1) := by decide +kernel
theorem dX3_layerFact_17 : decode cX3_layerFact 17 = .ok (.iadd, 1) := by decide +kernel
theorem dX3_layerFact_18 : decode cX3_layerFact 18 = .ok (.iload_n 3, 1) := by decide +kernel
theorem dX3_layerFact_19 : decode cX3_layerFact 19 = .ok (.iadd, 1) := by decide +kernel
theorem dX3_layerFact_20 : decode cX3_layerFact 20 = .ok (.iaload, 1) := by decide +kernel
theorem dX3_layerFact_21 : decode cX3_layerFact 21 = .ok (.ireturn, 1) := by decide +kernel
theorem dX3_putLayerFact_0 : decode cX3_putLayerFact 0 = .ok (.aload_n 0, 1) := by decide +kernel
theorem dX3_putLayerFact_1 : decode cX3_putLayerFact 1 = .ok (.getfield 11, 3) := by decide +kernel
theorem dX3_putLayerFact_4 : decode cX3_putLayerFact 4 = .ok (.bipush 117, 2) := by decide +kernel
theorem dX3_putLayerFact_6 : decode cX3_putLayerFact 6 = .ok (.iload_n 1, 1) := by decide +kernel
theorem dX3_putLayerFact_7 : decode cX3_putLayerFact 7 = .ok (.bipush 31, 2) := by decide +kernel
theorem dX3_putLayerFact_9 : decode cX3_putLayerFact 9 = .ok (.imul, 1) := by decide +kernel
theorem dX3_putLayerFact_10 : decode cX3_putLayerFact 10 = .ok (.iadd, 1) := by decide +kernel
theorem dX3_putLayerFact_11 : decode cX3_putLayerFact 11 = .ok (.bipush 15, 2) := by decide +kernel
theorem dX3_putLayerFact_13 : decode cX3_putLayerFact 13 = .ok (.iadd, 1) := by decide +kernel
theorem dX3_putLayerFact_14 : decode cX3_putLayerFact 14 = .ok (.iload_n 2, 1) := by decide +kernel
theorem dX3_putLayerFact_15 : decode cX3_putLayerFact 15 = .ok (.iconst 4, 1) := by decide +kernel
theorem dX3_putLayerFact_16 : decode cX3_putLayerFact 16 = .ok (.imul, 1) := by decide +kernel
theorem dX3_putLayerFact_17 : decode cX3_putLayerFact 17 = .ok (.iadd, 1) := by decide +kernel
theorem dX3_putLayerFact_18 : decode cX3_putLayerFact 18 = .ok (.iload_n 3, 1) := by decide +kernel
theorem dX3_putLayerFact_19 : decode cX3_putLayerFact 19 = .ok (.iadd, 1) := by decide +kernel
theorem dX3_putLayerFact_20 : decode cX3_putLayerFact 20 = .ok (.iload 4, 2) := by decide +kernel
theorem dX3_putLayerFact_22 : decode cX3_putLayerFact 22 = .ok (.iastore, 1) := by decide +kernel
theorem dX3_putLayerFact_23 : decode cX3_putLayerFact 23 = .ok (.return_, 1) := by decide +kernel
theorem dX3_addLayerFact_0 : decode cX3_addLayerFact 0 = .ok (.aload_n 0, 1) := by decide +kernel
theorem dX3_addLayerFact_1 : decode cX3_addLayerFact 1 = .ok (.getfield 11, 3) := by decide +kernel
theorem dX3_addLayerFact_4 : decode cX3_addLayerFact 4 = .ok (.bipush 117, 2) := by decide +kernel
theorem dX3_addLayerFact_6 : decode cX3_addLayerFact 6 = .ok (.iload_n 1, 1) := by decide +kernel
theorem dX3_addLayerFact_7 : decode cX3_addLayerFact 7 = .ok (.bipush 31, 2) := by decide +kernel
theorem dX3_addLayerFact_9 : decode cX3_addLayerFact 9 = .ok (.imul, 1) := by decide +kernel
theorem dX3_addLayerFact_10 : decode cX3_addLayerFact 10 = .ok (.iadd, 1) := by decide +kernel
theorem dX3_addLayerFact_11 : decode cX3_addLayerFact 11 = .ok (.bipush 15, 2) := by decide +kernel
theorem dX3_addLayerFact_13 : decode cX3_addLayerFact 13 = .ok (.iadd, 1) := by decide +kernel
theorem dX3_addLayerFact_14 : decode cX3_addLayerFact 14 = .ok (.iload_n 2, 1) := by decide +kernel
theorem dX3_addLayerFact_15 : decode cX3_addLayerFact 15 = .ok (.iconst 4, 1) := by decide +kernel
theorem dX3_addLayerFact_16 : decode cX3_addLayerFact 16 = .ok (.imul, 1) := by decide +kernel
theorem dX3_addLayerFact_17 : decode cX3_addLayerFact 17 = .ok (.iadd, 1) := by decide +kernel
theorem dX3_addLayerFact_18 : decode cX3_addLayerFact 18 = .ok (.iload_n 3, 1) := by decide +kernel
theorem dX3_addLayerFact_19 : decode cX3_addLayerFact 19 = .ok (.iadd, 1) := by decide +kernel
theorem dX3_addLayerFact_20 : decode cX3_addLayerFact 20 = .ok (.dup2, 1) := by decide +kernel
theorem dX3_addLayerFact_21 : decode cX3_addLayerFact 21 = .ok (.iaload, 1) := by decide +kernel
theorem dX3_addLayerFact_22 : decode cX3_addLayerFact 22 = .ok (.iload 4, 2) := by decide +kernel
theorem dX3_addLayerFact_24 : decode cX3_addLayerFact 24 = .ok (.iadd, 1) := by decide +kernel
theorem dX3_addLayerFact_25 : decode cX3_addLayerFact 25 = .ok (.iastore, 1) := by decide +kernel
theorem dX3_addLayerFact_26 : decode cX3_addLayerFact 26 = .ok (.return_, 1) := by decide +kernel
set_option maxRecDepth 20000 in
theorem ggX3_cashOfAll_X3_fact : GoodIn wsX3_cashOfAll wsX3_fact := goodIn_r _ [5, 6, 7] (by decide +kernel) (by decide +kernel)
set_option maxRecDepth 20000 in
theorem gX3_cashOfAll_X3_fact : GoodIn wsX3_cashOfAll (wsV RX3 29 RX3 yX3_fact wsX3_fact) := goodIn_app (goodIn_of _ (by decide +kernel)) ggX3_cashOfAll_X3_fact
theorem dX3_cashOfAll_0 : decode cX3_cashOfAll 0 = .ok (.iconst 0, 1) := by decide +kernel
theorem dX3_cashOfAll_1 : decode cX3_cashOfAll 1 = .ok (.istore_n 1, 1) := by decide +kernel
theorem dX3_cashOfAll_2 : decode cX3_cashOfAll 2 = .ok (.iconst 0, 1) := by decide +kernel
theorem dX3_cashOfAll_3 : decode cX3_cashOfAll 3 = .ok (.istore_n 2, 1) := by decide +kernel
theorem dX3_cashOfAll_4 : decode cX3_cashOfAll 4 = .ok (.iload_n 2, 1) := by decide +kernel
theorem dX3_cashOfAll_5 : decode cX3_cashOfAll 5 = .ok (.bipush 8, 2) := by decide +kernel
theorem dX3_cashOfAll_7 : decode cX3_cashOfAll 7 = .ok (.if_icmp .ge 18, 3) := by decide +kernel
theorem dX3_cashOfAll_10 : decode cX3_cashOfAll 10 = .ok (.iload_n 1, 1) := by decide +kernel
theorem dX3_cashOfAll_11 : decode cX3_cashOfAll 11 = .ok (.aload_n 0, 1) := by decide +kernel
theorem dX3_cashOfAll_12 : decode cX3_cashOfAll 12 = .ok (.iload_n 2, 1) := by decide +kernel
theorem dX3_cashOfAll_13 : decode cX3_cashOfAll 13 = .ok (.iconst 0, 1) := by decide +kernel
theorem dX3_cashOfAll_14 : decode cX3_cashOfAll 14 = .ok (.invokevirtual 29, 3) := by decide +kernel
theorem dX3_cashOfAll_17 : decode cX3_cashOfAll 17 = .ok (.iadd, 1) := by decide +kernel
theorem dX3_cashOfAll_18 : decode cX3_cashOfAll 18 = .ok (.istore_n 1, 1) := by decide +kernel
theorem dX3_cashOfAll_19 : decode cX3_cashOfAll 19 = .ok (.iinc 2 1, 3) := by decide +kernel
theorem dX3_cashOfAll_22 : decode cX3_cashOfAll 22 = .ok (.goto (-18), 3) := by decide +kernel
theorem dX3_cashOfAll_25 : decode cX3_cashOfAll 25 = .ok (.iload_n 1, 1) := by decide +kernel
theorem dX3_cashOfAll_26 : decode cX3_cashOfAll 26 = .ok (.ireturn, 1) := by decide +kernel
set_option maxRecDepth 20000 in
theorem ggX3_owedBy_X3_owed : GoodIn wsX3_owedBy wsX3_owed := goodIn_r _ [5, 6, 7] (by decide +kernel) (by decide +kernel)
set_option maxRecDepth 20000 in
theorem gX3_owedBy_X3_owed : GoodIn wsX3_owedBy (wsV RX3 32 RX3 yX3_owed wsX3_owed) := goodIn_app (goodIn_of _ (by decide +kernel)) ggX3_owedBy_X3_owed
theorem dX3_owedBy_0 : decode cX3_owedBy 0 = .ok (.iconst 0, 1) := by decide +kernel
theorem dX3_owedBy_1 : decode cX3_owedBy 1 = .ok (.istore_n 2, 1) := by decide +kernel
theorem dX3_owedBy_2 : decode cX3_owedBy 2 = .ok (.iconst 0, 1) := by decide +kernel
theorem dX3_owedBy_3 : decode cX3_owedBy 3 = .ok (.istore_n 3, 1) := by decide +kernel
theorem dX3_owedBy_4 : decode cX3_owedBy 4 = .ok (.iload_n 3, 1) := by decide +kernel
theorem dX3_owedBy_5 : decode cX3_owedBy 5 = .ok (.bipush 8, 2) := by decide +kernel
theorem dX3_owedBy_7 : decode cX3_owedBy 7 = .ok (.if_icmp .ge 18, 3) := by decide +kernel
theorem dX3_owedBy_10 : decode cX3_owedBy 10 = .ok (.iload_n 2, 1) := by decide +kernel
theorem dX3_owedBy_11 : decode cX3_owedBy 11 = .ok (.aload_n 0, 1) := by decide +kernel
theorem dX3_owedBy_12 : decode cX3_owedBy 12 = .ok (.iload_n 1, 1) := by decide +kernel
theorem dX3_owedBy_13 : decode cX3_owedBy 13 = .ok (.iload_n 3, 1) := by decide +kernel
theorem dX3_owedBy_14 : decode cX3_owedBy 14 = .ok (.invokevirtual 32, 3) := by decide +kernel
theorem dX3_owedBy_17 : decode cX3_owedBy 17 = .ok (.iadd, 1) := by decide +kernel
theorem dX3_owedBy_18 : decode cX3_owedBy 18 = .ok (.istore_n 2, 1) := by decide +kernel
theorem dX3_owedBy_19 : decode cX3_owedBy 19 = .ok (.iinc 3 1, 3) := by decide +kernel
theorem dX3_owedBy_22 : decode cX3_owedBy 22 = .ok (.goto (-18), 3) := by decide +kernel
theorem dX3_owedBy_25 : decode cX3_owedBy 25 = .ok (.iload_n 2, 1) := by decide +kernel
theorem dX3_owedBy_26 : decode cX3_owedBy 26 = .ok (.ireturn, 1) := by decide +kernel
set_option maxRecDepth 20000 in
theorem ggX3_owedTo_X3_owed : GoodIn wsX3_owedTo wsX3_owed := goodIn_r _ [5, 6, 7] (by decide +kernel) (by decide +kernel)
set_option maxRecDepth 20000 in
theorem gX3_owedTo_X3_owed : GoodIn wsX3_owedTo (wsV RX3 32 RX3 yX3_owed wsX3_owed) := goodIn_app (goodIn_of _ (by decide +kernel)) ggX3_owedTo_X3_owed
theorem dX3_owedTo_0 : decode cX3_owedTo 0 = .ok (.iconst 0, 1) := by decide +kernel
theorem dX3_owedTo_1 : decode cX3_owedTo 1 = .ok (.istore_n 2, 1) := by decide +kernel
theorem dX3_owedTo_2 : decode cX3_owedTo 2 = .ok (.iconst 0, 1) := by decide +kernel
theorem dX3_owedTo_3 : decode cX3_owedTo 3 = .ok (.istore_n 3, 1) := by decide +kernel
theorem dX3_owedTo_4 : decode cX3_owedTo 4 = .ok (.iload_n 3, 1) := by decide +kernel
theorem dX3_owedTo_5 : decode cX3_owedTo 5 = .ok (.bipush 8, 2) := by decide +kernel
theorem dX3_owedTo_7 : decode cX3_owedTo 7 = .ok (.if_icmp .ge 18, 3) := by decide +kernel
theorem dX3_owedTo_10 : decode cX3_owedTo 10 = .ok (.iload_n 2, 1) := by decide +kernel
theorem dX3_owedTo_11 : decode cX3_owedTo 11 = .ok (.aload_n 0, 1) := by decide +kernel
theorem dX3_owedTo_12 : decode cX3_owedTo 12 = .ok (.iload_n 3, 1) := by decide +kernel
theorem dX3_owedTo_13 : decode cX3_owedTo 13 = .ok (.iload_n 1, 1) := by decide +kernel
theorem dX3_owedTo_14 : decode cX3_owedTo 14 = .ok (.invokevirtual 32, 3) := by decide +kernel
theorem dX3_owedTo_17 : decode cX3_owedTo 17 = .ok (.iadd, 1) := by decide +kernel
theorem dX3_owedTo_18 : decode cX3_owedTo 18 = .ok (.istore_n 2, 1) := by decide +kernel
theorem dX3_owedTo_19 : decode cX3_owedTo 19 = .ok (.iinc 3 1, 3) := by decide +kernel
theorem dX3_owedTo_22 : decode cX3_owedTo 22 = .ok (.goto (-18), 3) := by decide +kernel
theorem dX3_owedTo_25 : decode cX3_owedTo 25 = .ok (.iload_n 2, 1) := by decide +kernel
theorem dX3_owedTo_26 : decode cX3_owedTo 26 = .ok (.ireturn, 1) := by decide +kernel
set_option maxRecDepth 20000 in
theorem ggX3_debtsOfAll_X3_owedBy : GoodIn wsX3_debtsOfAll wsX3_owedBy := goodIn_r _ [5, 6, 7, 8, 4, 9, 10, 11] (by decide +kernel) (by decide +kernel)
set_option maxRecDepth 20000 in
theorem gX3_debtsOfAll_X3_owedBy : GoodIn wsX3_debtsOfAll (wsV RX3 35 RX3 yX3_owedBy wsX3_owedBy) := goodIn_app (goodIn_of _ (by decide +kernel)) ggX3_debtsOfAll_X3_owedBy
theorem dX3_debtsOfAll_0 : decode cX3_debtsOfAll 0 = .ok (.iconst 0, 1) := by decide +kernel
theorem dX3_debtsOfAll_1 : decode cX3_debtsOfAll 1 = .ok (.istore_n 1, 1) := by decide +kernel
theorem dX3_debtsOfAll_2 : decode cX3_debtsOfAll 2 = .ok (.iconst 0, 1) := by decide +kernel
theorem dX3_debtsOfAll_3 : decode cX3_debtsOfAll 3 = .ok (.istore_n 2, 1) := by decide +kernel
theorem dX3_debtsOfAll_4 : decode cX3_debtsOfAll 4 = .ok (.iload_n 2, 1) := by decide +kernel
theorem dX3_debtsOfAll_5 : decode cX3_debtsOfAll 5 = .ok (.bipush 8, 2) := by decide +kernel
theorem dX3_debtsOfAll_7 : decode cX3_debtsOfAll 7 = .ok (.if_icmp .ge 17, 3) := by decide +kernel
theorem dX3_debtsOfAll_10 : decode cX3_debtsOfAll 10 = .ok (.iload_n 1, 1) := by decide +kernel
theorem dX3_debtsOfAll_11 : decode cX3_debtsOfAll 11 = .ok (.aload_n 0, 1) := by decide +kernel
theorem dX3_debtsOfAll_12 : decode cX3_debtsOfAll 12 = .ok (.iload_n 2, 1) := by decide +kernel
theorem dX3_debtsOfAll_13 : decode cX3_debtsOfAll 13 = .ok (.invokevirtual 35, 3) := by decide +kernel
theorem dX3_debtsOfAll_16 : decode cX3_debtsOfAll 16 = .ok (.iadd, 1) := by decide +kernel
theorem dX3_debtsOfAll_17 : decode cX3_debtsOfAll 17 = .ok (.istore_n 1, 1) := by decide +kernel
theorem dX3_debtsOfAll_18 : decode cX3_debtsOfAll 18 = .ok (.iinc 2 1, 3) := by decide +kernel
theorem dX3_debtsOfAll_21 : decode cX3_debtsOfAll 21 = .ok (.goto (-17), 3) := by decide +kernel
theorem dX3_debtsOfAll_24 : decode cX3_debtsOfAll 24 = .ok (.iload_n 1, 1) := by decide +kernel
theorem dX3_debtsOfAll_25 : decode cX3_debtsOfAll 25 = .ok (.ireturn, 1) := by decide +kernel
set_option maxRecDepth 20000 in
theorem ggX3_boundFor_X3_bondCount : GoodIn wsX3_boundFor wsX3_bondCount := goodIn_r _ [5, 6, 15] (by decide +kernel) (by decide +kernel)
set_option maxRecDepth 20000 in
theorem gX3_boundFor_X3_bondCount : GoodIn wsX3_boundFor (wsV RX3 39 RX3 yX3_bondCount wsX3_bondCount) := goodIn_app (goodIn_of _ (by decide +kernel)) ggX3_boundFor_X3_bondCount
set_option maxRecDepth 20000 in
theorem ggX3_boundFor_X3_bondFact : GoodIn wsX3_boundFor wsX3_bondFact := goodIn_r _ [10, 6, 15] (by decide +kernel) (by decide +kernel)
set_option maxRecDepth 20000 in
theorem gX3_boundFor_X3_bondFact : GoodIn wsX3_boundFor (wsV RX3 25 RX3 yX3_bondFact wsX3_bondFact) := goodIn_app (goodIn_of _ (by decide +kernel)) ggX3_boundFor_X3_bondFact
set_option maxRecDepth 20000 in
theorem ggX3_boundFor_X3_layerFact : GoodIn wsX3_boundFor wsX3_layerFact := goodIn_r _ [14, 6, 15] (by decide +kernel) (by decide +kernel)
set_option maxRecDepth 20000 in
theorem gX3_boundFor_X3_layerFact : GoodIn wsX3_boundFor (wsV RX3 43 RX3 yX3_layerFact wsX3_layerFact) := goodIn_app (goodIn_of _ (by decide +kernel)) ggX3_boundFor_X3_layerFact
theorem dX3_boundFor_0 : decode cX3_boundFor 0 = .ok (.iconst 0, 1) := by decide +kernel
theorem dX3_boundFor_1 : decode cX3_boundFor 1 = .ok (.istore_n 2, 1) := by decide +kernel
theorem dX3_boundFor_2 : decode cX3_boundFor 2 = .ok (.iconst 0, 1) := by decide +kernel
theorem dX3_boundFor_3 : decode cX3_boundFor 3 = .ok (.istore_n 3, 1) := by decide +kernel
theorem dX3_boundFor_4 : decode cX3_boundFor 4 = .ok (.iload_n 3, 1) := by decide +kernel
theorem dX3_boundFor_5 : decode cX3_boundFor 5 = .ok (.aload_n 0, 1) := by decide +kernel
theorem dX3_boundFor_6 : decode cX3_boundFor 6 = .ok (.invokevirtual 39, 3) := by decide +kernel
theorem dX3_boundFor_9 : decode cX3_boundFor 9 = .ok (.if_icmp .ge 52, 3) := by decide +kernel
theorem dX3_boundFor_12 : decode cX3_boundFor 12 = .ok (.iconst 0, 1) := by decide +kernel
theorem dX3_boundFor_13 : decode cX3_boundFor 13 = .ok (.istore 4, 2) := by decide +kernel
theorem dX3_boundFor_15 : decode cX3_boundFor 15 = .ok (.iload 4, 2) := by decide +kernel
theorem dX3_boundFor_17 : decode cX3_boundFor 17 = .ok (.aload_n 0, 1) := by decide +kernel
theorem dX3_boundFor_18 : decode cX3_boundFor 18 = .ok (.iload_n 3, 1) := by decide +kernel
theorem dX3_boundFor_19 : decode cX3_boundFor 19 = .ok (.iconst 3, 1) := by decide +kernel
theorem dX3_boundFor_20 : decode cX3_boundFor 20 = .ok (.invokevirtual 25, 3) := by decide +kernel
theorem dX3_boundFor_23 : decode cX3_boundFor 23 = .ok (.if_icmp .ge 32, 3) := by decide +kernel
theorem dX3_boundFor_26 : decode cX3_boundFor 26 = .ok (.aload_n 0, 1) := by decide +kernel
theorem dX3_boundFor_27 : decode cX3_boundFor 27 = .ok (.iload_n 3, 1) := by decide +kernel
theorem dX3_boundFor_28 : decode cX3_boundFor 28 = .ok (.iload 4, 2) := by decide +kernel
theorem dX3_boundFor_30 : decode cX3_boundFor 30 = .ok (.iconst 0, 1) := by decide +kernel
theorem dX3_boundFor_31 : decode cX3_boundFor 31 = .ok (.invokevirtual 43, 3) := by decide +kernel
theorem dX3_boundFor_34 : decode cX3_boundFor 34 = .ok (.iload_n 1, 1) := by decide +kernel
theorem dX3_boundFor_35 : decode cX3_boundFor 35 = .ok (.if_icmp .ne 14, 3) := by decide +kernel
theorem dX3_boundFor_38 : decode cX3_boundFor 38 = .ok (.iload_n 2, 1) := by decide +kernel
theorem dX3_boundFor_39 : decode cX3_boundFor 39 = .ok (.aload_n 0, 1) := by decide +kernel
theorem dX3_boundFor_40 : decode cX3_boundFor 40 = .ok (.iload_n 3, 1) := by decide +kernel
theorem dX3_boundFor_41 : decode cX3_boundFor 41 = .ok (.iload 4, 2) := by decide +kernel
theorem dX3_boundFor_43 : decode cX3_boundFor 43 = .ok (.iconst 2, 1) := by decide +kernel
theorem dX3_boundFor_44 : decode cX3_boundFor 44 = .ok (.invokevirtual 43, 3) := by decide +kernel
theorem dX3_boundFor_47 : decode cX3_boundFor 47 = .ok (.iadd, 1) := by decide +kernel
theorem dX3_boundFor_48 : decode cX3_boundFor 48 = .ok (.istore_n 2, 1) := by decide +kernel
theorem dX3_boundFor_49 : decode cX3_boundFor 49 = .ok (.iinc 4 1, 3) := by decide +kernel
theorem dX3_boundFor_52 : decode cX3_boundFor 52 = .ok (.goto (-37), 3) := by decide +kernel
theorem dX3_boundFor_55 : decode cX3_boundFor 55 = .ok (.iinc 3 1, 3) := by decide +kernel
theorem dX3_boundFor_58 : decode cX3_boundFor 58 = .ok (.goto (-54), 3) := by decide +kernel
theorem dX3_boundFor_61 : decode cX3_boundFor 61 = .ok (.iload_n 2, 1) := by decide +kernel
theorem dX3_boundFor_62 : decode cX3_boundFor 62 = .ok (.ireturn, 1) := by decide +kernel
set_option maxRecDepth 20000 in
theorem ggX3_spareCash_X3_boundFor : GoodIn wsX3_spareCash wsX3_boundFor := goodIn_r _ [9, 10, 11, 12, 8, 13, 14, 15, 16, 17, 18, 19, 20, 21, 22, 31] (by decide +kernel) (by decide +kernel)
set_option maxRecDepth 20000 in
theorem gX3_spareCash_X3_boundFor : GoodIn wsX3_spareCash (wsV RX3 47 RX3 yX3_boundFor wsX3_boundFor) := goodIn_app (goodIn_of _ (by decide +kernel)) ggX3_spareCash_X3_boundFor
set_option maxRecDepth 20000 in
theorem ggX3_spareCash_X3_settingValue : GoodIn wsX3_spareCash wsX3_settingValue := goodIn_r _ [26, 14, 31] (by decide +kernel) (by decide +kernel)
set_option maxRecDepth 20000 in
theorem gX3_spareCash_X3_settingValue : GoodIn wsX3_spareCash (wsV RX3 50 RX3 yX3_settingValue wsX3_settingValue) := goodIn_app (goodIn_of _ (by decide +kernel)) ggX3_spareCash_X3_settingValue
set_option maxRecDepth 20000 in
theorem ggX3_spareCash_X3_fact : GoodIn wsX3_spareCash wsX3_fact := goodIn_r _ [30, 14, 31] (by decide +kernel) (by decide +kernel)
set_option maxRecDepth 20000 in
theorem gX3_spareCash_X3_fact : GoodIn wsX3_spareCash (wsV RX3 29 RX3 yX3_fact wsX3_fact) := goodIn_app (goodIn_of _ (by decide +kernel)) ggX3_spareCash_X3_fact
theorem dX3_spareCash_0 : decode cX3_spareCash 0 = .ok (.aload_n 0, 1) := by decide +kernel
theorem dX3_spareCash_1 : decode cX3_spareCash 1 = .ok (.iload_n 1, 1) := by decide +kernel
theorem dX3_spareCash_2 : decode cX3_spareCash 2 = .ok (.invokevirtual 47, 3) := by decide +kernel
theorem dX3_spareCash_5 : decode cX3_spareCash 5 = .ok (.aload_n 0, 1) := by decide +kernel
theorem dX3_spareCash_6 : decode cX3_spareCash 6 = .ok (.iconst 1, 1) := by decide +kernel
theorem dX3_spareCash_7 : decode cX3_spareCash 7 = .ok (.invokevirtual 50, 3) := by decide +kernel
theorem dX3_spareCash_10 : decode cX3_spareCash 10 = .ok (.imul, 1) := by decide +kernel
theorem dX3_spareCash_11 : decode cX3_spareCash 11 = .ok (.bipush 100, 2) := by decide +kernel
theorem dX3_spareCash_13 : decode cX3_spareCash 13 = .ok (.idiv, 1) := by decide +kernel
theorem dX3_spareCash_14 : decode cX3_spareCash 14 = .ok (.istore_n 2, 1) := by decide +kernel
theorem dX3_spareCash_15 : decode cX3_spareCash 15 = .ok (.iconst 0, 1) := by decide +kernel
theorem dX3_spareCash_16 : decode cX3_spareCash 16 = .ok (.aload_n 0, 1) := by decide +kernel
theorem dX3_spareCash_17 : decode cX3_spareCash 17 = .ok (.iload_n 1, 1) := by decide +kernel
theorem dX3_spareCash_18 : decode cX3_spareCash 18 = .ok (.iconst 0, 1) := by decide +kernel
theorem dX3_spareCash_19 : decode cX3_spareCash 19 = .ok (.invokevirtual 29, 3) := by decide +kernel
theorem dX3_spareCash_22 : decode cX3_spareCash 22 = .ok (.iload_n 2, 1) := by decide +kernel
theorem dX3_spareCash_23 : decode cX3_spareCash 23 = .ok (.isub, 1) := by decide +kernel
theorem dX3_spareCash_24 : decode cX3_spareCash 24 = .ok (.invokestatic 53, 3) := by decide +kernel
theorem dX3_spareCash_27 : decode cX3_spareCash 27 = .ok (.ireturn, 1) := by decide +kernel
set_option maxRecDepth 20000 in
theorem ggX3_chainLength_X3_fact : GoodIn wsX3_chainLength wsX3_fact := goodIn_r _ [5, 6, 10] (by decide +kernel) (by decide +kernel)
set_option maxRecDepth 20000 in
theorem gX3_chainLength_X3_fact : GoodIn wsX3_chainLength (wsV RX3 29 RX3 yX3_fact wsX3_fact) := goodIn_app (goodIn_of _ (by decide +kernel)) ggX3_chainLength_X3_fact
set_option maxRecDepth 20000 in
theorem ggX3_chainLength_X3_isPerson : GoodIn wsX3_chainLength wsX3_isPerson := goodIn_r _ [9] (by decide +kernel) (by decide +kernel)
set_option maxRecDepth 20000 in
theorem gX3_chainLength_X3_isPerson : GoodIn wsX3_chainLength (va_wsS RX3 58 yX3_isPerson wsX3_isPerson) := goodIn_app (goodIn_of _ (by decide +kernel)) ggX3_chainLength_X3_isPerson
theorem dX3_chainLength_0 : decode cX3_chainLength 0 = .ok (.iconst 0, 1) := by decide +kernel
theorem dX3_chainLength_1 : decode cX3_chainLength 1 = .ok (.istore_n 2, 1) := by decide +kernel
theorem dX3_chainLength_2 : decode cX3_chainLength 2 = .ok (.aload_n 0, 1) := by decide +kernel
theorem dX3_chainLength_3 : decode cX3_chainLength 3 = .ok (.iload_n 1, 1) := by decide +kernel
theorem dX3_chainLength_4 : decode cX3_chainLength 4 = .ok (.iconst 1, 1) := by decide +kernel
theorem dX3_chainLength_5 : decode cX3_chainLength 5 = .ok (.invokevirtual 29, 3) := by decide +kernel
theorem dX3_chainLength_8 : decode cX3_chainLength 8 = .ok (.istore_n 3, 1) := by decide +kernel
theorem dX3_chainLength_9 : decode cX3_chainLength 9 = .ok (.iload_n 3, 1) := by decide +kernel
theorem dX3_chainLength_10 : decode cX3_chainLength 10 = .ok (.invokestatic 58, 3) := by decide +kernel
theorem dX3_chainLength_13 : decode cX3_chainLength 13 = .ok (.ifCond .eq 22, 3) := by decide +kernel
theorem dX3_chainLength_16 : decode cX3_chainLength 16 = .ok (.iload_n 2, 1) := by decide +kernel
theorem dX3_chainLength_17 : decode cX3_chainLength 17 = .ok (.bipush 8, 2) := by decide +kernel
theorem dX3_chainLength_19 : decode cX3_chainLength 19 = .ok (.if_icmp .ge 16, 3) := by decide +kernel
theorem dX3_chainLength_22 : decode cX3_chainLength 22 = .ok (.iinc 2 1, 3) := by decide +kernel
theorem dX3_chainLength_25 : decode cX3_chainLength 25 = .ok (.aload_n 0, 1) := by decide +kernel
theorem dX3_chainLength_26 : decode cX3_chainLength 26 = .ok (.iload_n 3, 1) := by decide +kernel
theorem dX3_chainLength_27 : decode cX3_chainLength 27 = .ok (.iconst 1, 1) := by decide +kernel
theorem dX3_chainLength_28 : decode cX3_chainLength 28 = .ok (.invokevirtual 29, 3) := by decide +kernel
theorem dX3_chainLength_31 : decode cX3_chainLength 31 = .ok (.istore_n 3, 1) := by decide +kernel
theorem dX3_chainLength_32 : decode cX3_chainLength 32 = .ok (.goto (-23), 3) := by decide +kernel
theorem dX3_chainLength_35 : decode cX3_chainLength 35 = .ok (.iload_n 2, 1) := by decide +kernel
theorem dX3_chainLength_36 : decode cX3_chainLength 36 = .ok (.ireturn, 1) := by decide +kernel
set_option maxRecDepth 20000 in
theorem ggX3_chainHolds_X3_isPerson : GoodIn wsX3_chainHolds wsX3_isPerson := goodIn_r _ [4] (by decide +kernel) (by decide +kernel)
set_option maxRecDepth 20000 in
theorem gX3_chainHolds_X3_isPerson : GoodIn wsX3_chainHolds (va_wsS RX3 58 yX3_isPerson wsX3_isPerson) := goodIn_app (goodIn_of _ (by decide +kernel)) ggX3_chainHolds_X3_isPerson
set_option maxRecDepth 20000 in
theorem ggX3_chainHolds_X3_fact : GoodIn wsX3_chainHolds wsX3_fact := goodIn_r _ [8, 9, 10] (by decide +kernel) (by decide +kernel)
set_option maxRecDepth 20000 in
theorem gX3_chainHolds_X3_fact : GoodIn wsX3_chainHolds (wsV RX3 29 RX3 yX3_fact wsX3_fact) := goodIn_app (goodIn_of _ (by decide +kernel)) ggX3_chainHolds_X3_fact
theorem dX3_chainHolds_0 : decode cX3_chainHolds 0 = .ok (.iload_n 1, 1) := by decide +kernel
theorem dX3_chainHolds_1 : decode cX3_chainHolds 1 = .ok (.istore_n 3, 1) := by decide +kernel
theorem dX3_chainHolds_2 : decode cX3_chainHolds 2 = .ok (.iconst 0, 1) := by decide +kernel
theorem dX3_chainHolds_3 : decode cX3_chainHolds 3 = .ok (.istore 4, 2) := by decide +kernel
theorem dX3_chainHolds_5 : decode cX3_chainHolds 5 = .ok (.iload 4, 2) := by decide +kernel
theorem dX3_chainHolds_7 : decode cX3_chainHolds 7 = .ok (.bipush 8, 2) := by decide +kernel
theorem dX3_chainHolds_9 : decode cX3_chainHolds 9 = .ok (.if_icmp .ge 30, 3) := by decide +kernel
theorem dX3_chainHolds_12 : decode cX3_chainHolds 12 = .ok (.iload_n 3, 1) := by decide +kernel
theorem dX3_chainHolds_13 : decode cX3_chainHolds 13 = .ok (.invokestatic 58, 3) := by decide +kernel
theorem dX3_chainHolds_16 : decode cX3_chainHolds 16 = .ok (.ifCond .eq 23, 3) := by decide +kernel
theorem dX3_chainHolds_19 : decode cX3_chainHolds 19 = .ok (.iload_n 3, 1) := by decide +kernel
theorem dX3_chainHolds_20 : decode cX3_chainHolds 20 = .ok (.iload_n 2, 1) := by decide +kernel
theorem dX3_chainHolds_21 : decode cX3_chainHolds 21 = .ok (.if_icmp .ne 5, 3) := by decide +kernel
theorem dX3_chainHolds_24 : decode cX3_chainHolds 24 = .ok (.iconst 1, 1) := by decide +kernel
theorem dX3_chainHolds_25 : decode cX3_chainHolds 25 = .ok (.ireturn, 1) := by decide +kernel
theorem dX3_chainHolds_26 : decode cX3_chainHolds 26 = .ok (.aload_n 0, 1) := by decide +kernel
theorem dX3_chainHolds_27 : decode cX3_chainHolds 27 = .ok (.iload_n 3, 1) := by decide +kernel
theorem dX3_chainHolds_28 : decode cX3_chainHolds 28 = .ok (.iconst 1, 1) := by decide +kernel
theorem dX3_chainHolds_29 : decode cX3_chainHolds 29 = .ok (.invokevirtual 29, 3) := by decide +kernel
theorem dX3_chainHolds_32 : decode cX3_chainHolds 32 = .ok (.istore_n 3, 1) := by decide +kernel
theorem dX3_chainHolds_33 : decode cX3_chainHolds 33 = .ok (.iinc 4 1, 3) := by decide +kernel
theorem dX3_chainHolds_36 : decode cX3_chainHolds 36 = .ok (.goto (-31), 3) := by decide +kernel
theorem dX3_chainHolds_39 : decode cX3_chainHolds 39 = .ok (.iconst 0, 1) := by decide +kernel
theorem dX3_chainHolds_40 : decode cX3_chainHolds 40 = .ok (.ireturn, 1) := by decide +kernel
theorem dX3_isPerson_0 : decode cX3_isPerson 0 = .ok (.iload_n 0, 1) := by decide +kernel
theorem dX3_isPerson_1 : decode cX3_isPerson 1 = .ok (.ifCond .lt 13, 3) := by decide +kernel
theorem dX3_isPerson_4 : decode cX3_isPerson 4 = .ok (.iload_n 0, 1) := by decide +kernel
theorem dX3_isPerson_5 : decode cX3_isPerson 5 = .ok (.bipush 8, 2) := by decide +kernel
theorem dX3_isPerson_7 : decode cX3_isPerson 7 = .ok (.if_icmp .ge 7, 3) := by decide +kernel
theorem dX3_isPerson_10 : decode cX3_isPerson 10 = .ok (.iconst 1, 1) := by decide +kernel
theorem dX3_isPerson_11 : decode cX3_isPerson 11 = .ok (.goto 4, 3) := by decide +kernel
theorem dX3_isPerson_14 : decode cX3_isPerson 14 = .ok (.iconst 0, 1) := by decide +kernel
theorem dX3_isPerson_15 : decode cX3_isPerson 15 = .ok (.ireturn, 1) := by decide +kernel
set_option maxRecDepth 20000 in
theorem ggX3_runningBondsOf_X3_bondCount : GoodIn wsX3_runningBondsOf wsX3_bondCount := goodIn_r _ [5, 6, 11] (by decide +kernel) (by decide +kernel)
set_option maxRecDepth 20000 in
theorem gX3_runningBondsOf_X3_bondCount : GoodIn wsX3_runningBondsOf (wsV RX3 39 RX3 yX3_bondCount wsX3_bondCount) := goodIn_app (goodIn_of _ (by decide +kernel)) ggX3_runningBondsOf_X3_bondCount
set_option maxRecDepth 20000 in
theorem ggX3_runningBondsOf_X3_bondFact : GoodIn wsX3_runningBondsOf wsX3_bondFact := goodIn_r _ [10, 6, 11] (by decide +kernel) (by decide +kernel)
set_option maxRecDepth 20000 in
theorem gX3_runningBondsOf_X3_bondFact : GoodIn wsX3_runningBondsOf (wsV RX3 25 RX3 yX3_bondFact wsX3_bondFact) := goodIn_app (goodIn_of _ (by decide +kernel)) ggX3_runningBondsOf_X3_bondFact
theorem dX3_runningBondsOf_0 : decode cX3_runningBondsOf 0 = .ok (.iconst 0, 1) := by decide +kernel
theorem dX3_runningBondsOf_1 : decode cX3_runningBondsOf 1 = .ok (.istore_n 2, 1) := by decide +kernel
theorem dX3_runningBondsOf_2 : decode cX3_runningBondsOf 2 = .ok (.iconst 0, 1) := by decide +kernel
theorem dX3_runningBondsOf_3 : decode cX3_runningBondsOf 3 = .ok (.istore_n 3, 1) := by decide +kernel
theorem dX3_runningBondsOf_4 : decode cX3_runningBondsOf 4 = .ok (.iload_n 3, 1) := by decide +kernel
theorem dX3_runningBondsOf_5 : decode cX3_runningBondsOf 5 = .ok (.aload_n 0, 1) := by decide +kernel
theorem dX3_runningBondsOf_6 : decode cX3_runningBondsOf 6 = .ok (.invokevirtual 39, 3) := by decide +kernel
theorem dX3_runningBondsOf_9 : decode cX3_runningBondsOf 9 = .ok (.if_icmp .ge 29, 3) := by decide +kernel
theorem dX3_runningBondsOf_12 : decode cX3_runningBondsOf 12 = .ok (.aload_n 0, 1) := by decide +kernel
theorem dX3_runningBondsOf_13 : decode cX3_runningBondsOf 13 = .ok (.iload_n 3, 1) := by decide +kernel
theorem dX3_runningBondsOf_14 : decode cX3_runningBondsOf 14 = .ok (.iconst 0, 1) := by decide +kernel
theorem dX3_runningBondsOf_15 : decode cX3_runningBondsOf 15 = .ok (.invokevirtual 25, 3) := by decide +kernel
theorem dX3_runningBondsOf_18 : decode cX3_runningBondsOf 18 = .ok (.iload_n 1, 1) := by decide +kernel
theorem dX3_runningBondsOf_19 : decode cX3_runningBondsOf 19 = .ok (.if_icmp .ne 13, 3) := by decide +kernel
theorem dX3_runningBondsOf_22 : decode cX3_runningBondsOf 22 = .ok (.iload_n 2, 1) := by decide +kernel
theorem dX3_runningBondsOf_23 : decode cX3_runningBondsOf 23 = .ok (.aload_n 0, 1) := by decide +kernel
theorem dX3_runningBondsOf_24 : decode cX3_runningBondsOf 24 = .ok (.iload_n 3, 1) := by decide +kernel
theorem dX3_runningBondsOf_25 : decode cX3_runningBondsOf 25 = .ok (.bipush 9, 2) := by decide +kernel
theorem dX3_runningBondsOf_27 : decode cX3_runningBondsOf 27 = .ok (.invokevirtual 25, 3) := by decide +kernel
theorem dX3_runningBondsOf_30 : decode cX3_runningBondsOf 30 = .ok (.iadd, 1) := by decide +kernel
theorem dX3_runningBondsOf_31 : decode cX3_runningBondsOf 31 = .ok (.istore_n 2, 1) := by decide +kernel
theorem dX3_runningBondsOf_32 : decode cX3_runningBondsOf 32 = .ok (.iinc 3 1, 3) := by decide +kernel
theorem dX3_runningBondsOf_35 : decode cX3_runningBondsOf 35 = .ok (.goto (-31), 3) := by decide +kernel
theorem dX3_runningBondsOf_38 : decode cX3_runningBondsOf 38 = .ok (.iload_n 2, 1) := by decide +kernel
theorem dX3_runningBondsOf_39 : decode cX3_runningBondsOf 39 = .ok (.ireturn, 1) := by decide +kernel
set_option maxRecDepth 20000 in
theorem ggX3_sumOverBonds_X3_bondCount : GoodIn wsX3_sumOverBonds wsX3_bondCount := goodIn_r _ [5, 6, 11] (by decide +kernel) (by decide +kernel)
set_option maxRecDepth 20000 in
theorem gX3_sumOverBonds_X3_bondCount : GoodIn wsX3_sumOverBonds (wsV RX3 39 RX3 yX3_bondCount wsX3_bondCount) := goodIn_app (goodIn_of _ (by decide +kernel)) ggX3_sumOverBonds_X3_bondCount
set_option maxRecDepth 20000 in
theorem ggX3_sumOverBonds_X3_bondFact : GoodIn wsX3_sumOverBonds wsX3_bondFact := goodIn_r _ [10, 6, 11] (by decide +kernel) (by decide +kernel)
set_option maxRecDepth 20000 in
theorem gX3_sumOverBonds_X3_bondFact : GoodIn wsX3_sumOverBonds (wsV RX3 25 RX3 yX3_bondFact wsX3_bondFact) := goodIn_app (goodIn_of _ (by decide +kernel)) ggX3_sumOverBonds_X3_bondFact
theorem dX3_sumOverBonds_0 : decode cX3_sumOverBonds 0 = .ok (.iconst 0, 1) := by decide +kernel
theorem dX3_sumOverBonds_1 : decode cX3_sumOverBonds 1 = .ok (.istore_n 2, 1) := by decide +kernel
theorem dX3_sumOverBonds_2 : decode cX3_sumOverBonds 2 = .ok (.iconst 0, 1) := by decide +kernel
theorem dX3_sumOverBonds_3 : decode cX3_sumOverBonds 3 = .ok (.istore_n 3, 1) := by decide +kernel
theorem dX3_sumOverBonds_4 : decode cX3_sumOverBonds 4 = .ok (.iload_n 3, 1) := by decide +kernel
theorem dX3_sumOverBonds_5 : decode cX3_sumOverBonds 5 = .ok (.aload_n 0, 1) := by decide +kernel
theorem dX3_sumOverBonds_6 : decode cX3_sumOverBonds 6 = .ok (.invokevirtual 39, 3) := by decide +kernel
theorem dX3_sumOverBonds_9 : decode cX3_sumOverBonds 9 = .ok (.if_icmp .ge 18, 3) := by decide +kernel
theorem dX3_sumOverBonds_12 : decode cX3_sumOverBonds 12 = .ok (.iload_n 2, 1) := by decide +kernel
theorem dX3_sumOverBonds_13 : decode cX3_sumOverBonds 13 = .ok (.aload_n 0, 1) := by decide +kernel
theorem dX3_sumOverBonds_14 : decode cX3_sumOverBonds 14 = .ok (.iload_n 3, 1) := by decide +kernel
theorem dX3_sumOverBonds_15 : decode cX3_sumOverBonds 15 = .ok (.iload_n 1, 1) := by decide +kernel
theorem dX3_sumOverBonds_16 : decode cX3_sumOverBonds 16 = .ok (.invokevirtual 25, 3) := by decide +kernel
theorem dX3_sumOverBonds_19 : decode cX3_sumOverBonds 19 = .ok (.iadd, 1) := by decide +kernel
theorem dX3_sumOverBonds_20 : decode cX3_sumOverBonds 20 = .ok (.istore_n 2, 1) := by decide +kernel
theorem dX3_sumOverBonds_21 : decode cX3_sumOverBonds 21 = .ok (.iinc 3 1, 3) := by decide +kernel
theorem dX3_sumOverBonds_24 : decode cX3_sumOverBonds 24 = .ok (.goto (-20), 3) := by decide +kernel
theorem dX3_sumOverBonds_27 : decode cX3_sumOverBonds 27 = .ok (.iload_n 2, 1) := by decide +kernel
theorem dX3_sumOverBonds_28 : decode cX3_sumOverBonds 28 = .ok (.ireturn, 1) := by decide +kernel
set_option maxRecDepth 20000 in
theorem ggX3_leftOfBond_X3_bondFact : GoodIn wsX3_leftOfBond wsX3_bondFact := goodIn_r _ [5, 6, 7] (by decide +kernel) (by decide +kernel)
set_option maxRecDepth 20000 in
theorem gX3_leftOfBond_X3_bondFact : GoodIn wsX3_leftOfBond (wsV RX3 25 RX3 yX3_bondFact wsX3_bondFact) := goodIn_app (goodIn_of _ (by decide +kernel)) ggX3_leftOfBond_X3_bondFact
theorem dX3_leftOfBond_0 : decode cX3_leftOfBond 0 = .ok (.aload_n 0, 1) := by decide +kernel
theorem dX3_leftOfBond_1 : decode cX3_leftOfBond 1 = .ok (.iload_n 1, 1) := by decide +kernel
theorem dX3_leftOfBond_2 : decode cX3_leftOfBond 2 = .ok (.iconst 1, 1) := by decide +kernel
theorem dX3_leftOfBond_3 : decode cX3_leftOfBond 3 = .ok (.invokevirtual 25, 3) := by decide +kernel
theorem dX3_leftOfBond_6 : decode cX3_leftOfBond 6 = .ok (.aload_n 0, 1) := by decide +kernel
theorem dX3_leftOfBond_7 : decode cX3_leftOfBond 7 = .ok (.iload_n 1, 1) := by decide +kernel
theorem dX3_leftOfBond_8 : decode cX3_leftOfBond 8 = .ok (.bipush 6, 2) := by decide +kernel
theorem dX3_leftOfBond_10 : decode cX3_leftOfBond 10 = .ok (.invokevirtual 25, 3) := by decide +kernel
theorem dX3_leftOfBond_13 : decode cX3_leftOfBond 13 = .ok (.isub, 1) := by decide +kernel
theorem dX3_leftOfBond_14 : decode cX3_leftOfBond 14 = .ok (.aload_n 0, 1) := by decide +kernel
theorem dX3_leftOfBond_15 : decode cX3_leftOfBond 15 = .ok (.iload_n 1, 1) := by decide +kernel
theorem dX3_leftOfBond_16 : decode cX3_leftOfBond 16 = .ok (.bipush 8, 2) := by decide +kernel
theorem dX3_leftOfBond_18 : decode cX3_leftOfBond 18 = .ok (.invokevirtual 25, 3) := by decide +kernel
theorem dX3_leftOfBond_21 : decode cX3_leftOfBond 21 = .ok (.isub, 1) := by decide +kernel
theorem dX3_leftOfBond_22 : decode cX3_leftOfBond 22 = .ok (.ireturn, 1) := by decide +kernel
set_option maxRecDepth 20000 in
theorem ggX3_leftOfLimits_X3_bondFact : GoodIn wsX3_leftOfLimits wsX3_bondFact := goodIn_r _ [5, 6, 11] (by decide +kernel) (by decide +kernel)
set_option maxRecDepth 20000 in
theorem gX3_leftOfLimits_X3_bondFact : GoodIn wsX3_leftOfLimits (wsV RX3 25 RX3 yX3_bondFact wsX3_bondFact) := goodIn_app (goodIn_of _ (by decide +kernel)) ggX3_leftOfLimits_X3_bondFact
set_option maxRecDepth 20000 in
theorem ggX3_leftOfLimits_X3_layerFact : GoodIn wsX3_leftOfLimits wsX3_layerFact := goodIn_r _ [10, 6, 11] (by decide +kernel) (by decide +kernel)
set_option maxRecDepth 20000 in
theorem gX3_leftOfLimits_X3_layerFact : GoodIn wsX3_leftOfLimits (wsV RX3 43 RX3 yX3_layerFact wsX3_layerFact) := goodIn_app (goodIn_of _ (by decide +kernel)) ggX3_leftOfLimits_X3_layerFact
theorem dX3_leftOfLimits_0 : decode cX3_leftOfLimits 0 = .ok (.iconst 0, 1) := by decide +kernel
theorem dX3_leftOfLimits_1 : decode cX3_leftOfLimits 1 = .ok (.istore_n 2, 1) := by decide +kernel
theorem dX3_leftOfLimits_2 : decode cX3_leftOfLimits 2 = .ok (.iconst 0, 1) := by decide +kernel
theorem dX3_leftOfLimits_3 : decode cX3_leftOfLimits 3 = .ok (.istore_n 3, 1) := by decide +kernel
theorem dX3_leftOfLimits_4 : decode cX3_leftOfLimits 4 = .ok (.iload_n 3, 1) := by decide +kernel
theorem dX3_leftOfLimits_5 : decode cX3_leftOfLimits 5 = .ok (.aload_n 0, 1) := by decide +kernel
theorem dX3_leftOfLimits_6 : decode cX3_leftOfLimits 6 = .ok (.iload_n 1, 1) := by decide +kernel
theorem dX3_leftOfLimits_7 : decode cX3_leftOfLimits 7 = .ok (.iconst 3, 1) := by decide +kernel
theorem dX3_leftOfLimits_8 : decode cX3_leftOfLimits 8 = .ok (.invokevirtual 25, 3) := by decide +kernel
theorem dX3_leftOfLimits_11 : decode cX3_leftOfLimits 11 = .ok (.if_icmp .ge 19, 3) := by decide +kernel
theorem dX3_leftOfLimits_14 : decode cX3_leftOfLimits 14 = .ok (.iload_n 2, 1) := by decide +kernel
theorem dX3_leftOfLimits_15 : decode cX3_leftOfLimits 15 = .ok (.aload_n 0, 1) := by decide +kernel
theorem dX3_leftOfLimits_16 : decode cX3_leftOfLimits 16 = .ok (.iload_n 1, 1) := by decide +kernel
theorem dX3_leftOfLimits_17 : decode cX3_leftOfLimits 17 = .ok (.iload_n 3, 1) := by decide +kernel
theorem dX3_leftOfLimits_18 : decode cX3_leftOfLimits 18 = .ok (.iconst 2, 1) := by decide +kernel
theorem dX3_leftOfLimits_19 : decode cX3_leftOfLimits 19 = .ok (.invokevirtual 43, 3) := by decide +kernel
theorem dX3_leftOfLimits_22 : decode cX3_leftOfLimits 22 = .ok (.iadd, 1) := by decide +kernel
theorem dX3_leftOfLimits_23 : decode cX3_leftOfLimits 23 = .ok (.istore_n 2, 1) := by decide +kernel
theorem dX3_leftOfLimits_24 : decode cX3_leftOfLimits 24 = .ok (.iinc 3 1, 3) := by decide +kernel
theorem dX3_leftOfLimits_27 : decode cX3_leftOfLimits 27 = .ok (.goto (-23), 3) := by decide +kernel
theorem dX3_leftOfLimits_30 : decode cX3_leftOfLimits 30 = .ok (.iload_n 2, 1) := by decide +kernel
theorem dX3_leftOfLimits_31 : decode cX3_leftOfLimits 31 = .ok (.ireturn, 1) := by decide +kernel
set_option maxRecDepth 20000 in
theorem ggX3_release_X3_addBondFact : GoodIn wsX3_release wsX3_addBondFact := goodIn_r _ [5, 6, 35] (by decide +kernel) (by decide +kernel)
set_option maxRecDepth 20000 in
theorem gX3_release_X3_addBondFact : GoodIn wsX3_release (wsV RX3 62 RX3 yX3_addBondFact wsX3_addBondFact) := goodIn_app (goodIn_of _ (by decide +kernel)) ggX3_release_X3_addBondFact
set_option maxRecDepth 20000 in
theorem ggX3_release_X3_trim : GoodIn wsX3_release wsX3_trim := goodIn_r _ [10, 11, 12, 13, 14, 15, 16, 17, 4, 18, 19, 20, 21, 22, 6, 23, 24, 25, 26, 27, 28, 29, 30, 31, 32, 33, 34, 35] (by decide +kernel) (by decide +kernel)
set_option maxRecDepth 20000 in
theorem gX3_release_X3_trim : GoodIn wsX3_release (wsV RX3 65 RX3 yX3_trim wsX3_trim) := goodIn_app (goodIn_of _ (by decide +kernel)) ggX3_release_X3_trim
theorem dX3_release_0 : decode cX3_release 0 = .ok (.aload_n 0, 1) := by decide +kernel
theorem dX3_release_1 : decode cX3_release 1 = .ok (.iload_n 1, 1) := by decide +kernel
theorem dX3_release_2 : decode cX3_release 2 = .ok (.bipush 8, 2) := by decide +kernel
theorem dX3_release_4 : decode cX3_release 4 = .ok (.iload_n 2, 1) := by decide +kernel
theorem dX3_release_5 : decode cX3_release 5 = .ok (.invokevirtual 62, 3) := by decide +kernel
theorem dX3_release_8 : decode cX3_release 8 = .ok (.aload_n 0, 1) := by decide +kernel
theorem dX3_release_9 : decode cX3_release 9 = .ok (.iload_n 1, 1) := by decide +kernel
theorem dX3_release_10 : decode cX3_release 10 = .ok (.invokevirtual 65, 3) := by decide +kernel
theorem dX3_release_13 : decode cX3_release 13 = .ok (.return_, 1) := by decide +kernel
set_option maxRecDepth 20000 in
theorem ggX3_trim_X3_leftOfLimits : GoodIn wsX3_trim wsX3_leftOfLimits := goodIn_r _ [9, 10, 11, 12, 8, 13, 14, 15, 16, 17, 18, 27] (by decide +kernel) (by decide +kernel)
set_option maxRecDepth 20000 in
theorem gX3_trim_X3_leftOfLimits : GoodIn wsX3_trim (wsV RX3 69 RX3 yX3_leftOfLimits wsX3_leftOfLimits) := goodIn_app (goodIn_of _ (by decide +kernel)) ggX3_trim_X3_leftOfLimits
set_option maxRecDepth 20000 in
theorem ggX3_trim_X3_leftOfBond : GoodIn wsX3_trim wsX3_leftOfBond := goodIn_r _ [22, 10, 11, 12, 8, 13, 14, 27] (by decide +kernel) (by decide +kernel)
set_option maxRecDepth 20000 in
theorem gX3_trim_X3_leftOfBond : GoodIn wsX3_trim (wsV RX3 72 RX3 yX3_leftOfBond wsX3_leftOfBond) := goodIn_app (goodIn_of _ (by decide +kernel)) ggX3_trim_X3_leftOfBond
set_option maxRecDepth 20000 in
theorem ggX3_trim_X3_bondFact : GoodIn wsX3_trim wsX3_bondFact := goodIn_r _ [13, 14, 27] (by decide +kernel) (by decide +kernel)
set_option maxRecDepth 20000 in
theorem gX3_trim_X3_bondFact : GoodIn wsX3_trim (wsV RX3 25 RX3 yX3_bondFact wsX3_bondFact) := goodIn_app (goodIn_of _ (by decide +kernel)) ggX3_trim_X3_bondFact
set_option maxRecDepth 20000 in
theorem ggX3_trim_X3_layerFact : GoodIn wsX3_trim wsX3_layerFact := goodIn_r _ [18, 14, 27] (by decide +kernel) (by decide +kernel)
set_option maxRecDepth 20000 in
theorem gX3_trim_X3_layerFact : GoodIn wsX3_trim (wsV RX3 43 RX3 yX3_layerFact wsX3_layerFact) := goodIn_app (goodIn_of _ (by decide +kernel)) ggX3_trim_X3_layerFact
set_option maxRecDepth 20000 in
theorem ggX3_trim_X3_addLayerFact : GoodIn wsX3_trim wsX3_addLayerFact := goodIn_r _ [26, 14, 27] (by decide +kernel) (by decide +kernel)
set_option maxRecDepth 20000 in
theorem gX3_trim_X3_addLayerFact : GoodIn wsX3_trim (wsV RX3 78 RX3 yX3_addLayerFact wsX3_addLayerFact) := goodIn_app (goodIn_of _ (by decide +kernel)) ggX3_trim_X3_addLayerFact
theorem dX3_trim_0 : decode cX3_trim 0 = .ok (.aload_n 0, 1) := by decide +kernel
theorem dX3_trim_1 : decode cX3_trim 1 = .ok (.iload_n 1, 1) := by decide +kernel
theorem dX3_trim_2 : decode cX3_trim 2 = .ok (.invokevirtual 69, 3) := by decide +kernel
theorem dX3_trim_5 : decode cX3_trim 5 = .ok (.aload_n 0, 1) := by decide +kernel
theorem dX3_trim_6 : decode cX3_trim 6 = .ok (.iload_n 1, 1) := by decide +kernel
theorem dX3_trim_7 : decode cX3_trim 7 = .ok (.invokevirtual 72, 3) := by decide +kernel
theorem dX3_trim_10 : decode cX3_trim 10 = .ok (.isub, 1) := by decide +kernel
theorem dX3_trim_11 : decode cX3_trim 11 = .ok (.istore_n 2, 1) := by decide +kernel
theorem dX3_trim_12 : decode cX3_trim 12 = .ok (.aload_n 0, 1) := by decide +kernel
theorem dX3_trim_13 : decode cX3_trim 13 = .ok (.iload_n 1, 1) := by decide +kernel
theorem dX3_trim_14 : decode cX3_trim 14 = .ok (.iconst 3, 1) := by decide +kernel
theorem dX3_trim_15 : decode cX3_trim 15 = .ok (.invokevirtual 25, 3) := by decide +kernel
theorem dX3_trim_18 : decode cX3_trim 18 = .ok (.iconst 1, 1) := by decide +kernel
theorem dX3_trim_19 : decode cX3_trim 19 = .ok (.isub, 1) := by decide +kernel
theorem dX3_trim_20 : decode cX3_trim 20 = .ok (.istore_n 3, 1) := by decide +kernel
theorem dX3_trim_21 : decode cX3_trim 21 = .ok (.iload_n 3, 1) := by decide +kernel
theorem dX3_trim_22 : decode cX3_trim 22 = .ok (.ifCond .lt 41, 3) := by decide +kernel
theorem dX3_trim_25 : decode cX3_trim 25 = .ok (.iload_n 2, 1) := by decide +kernel
theorem dX3_trim_26 : decode cX3_trim 26 = .ok (.ifCond .le 37, 3) := by decide +kernel
theorem dX3_trim_29 : decode cX3_trim 29 = .ok (.iload_n 2, 1) := by decide +kernel
theorem dX3_trim_30 : decode cX3_trim 30 = .ok (.aload_n 0, 1) := by decide +kernel
theorem dX3_trim_31 : decode cX3_trim 31 = .ok (.iload_n 1, 1) := by decide +kernel
theorem dX3_trim_32 : decode cX3_trim 32 = .ok (.iload_n 3, 1) := by decide +kernel
theorem dX3_trim_33 : decode cX3_trim 33 = .ok (.iconst 2, 1) := by decide +kernel
theorem dX3_trim_34 : decode cX3_trim 34 = .ok (.invokevirtual 43, 3) := by decide +kernel
theorem dX3_trim_37 : decode cX3_trim 37 = .ok (.invokestatic 75, 3) := by decide +kernel
theorem dX3_trim_40 : decode cX3_trim 40 = .ok (.istore 4, 2) := by decide +kernel
theorem dX3_trim_42 : decode cX3_trim 42 = .ok (.aload_n 0, 1) := by decide +kernel
theorem dX3_trim_43 : decode cX3_trim 43 = .ok (.iload_n 1, 1) := by decide +kernel
theorem dX3_trim_44 : decode cX3_trim 44 = .ok (.iload_n 3, 1) := by decide +kernel
theorem dX3_trim_45 : decode cX3_trim 45 = .ok (.iconst 2, 1) := by decide +kernel
theorem dX3_trim_46 : decode cX3_trim 46 = .ok (.iload 4, 2) := by decide +kernel
theorem dX3_trim_48 : decode cX3_trim 48 = .ok (.ineg, 1) := by decide +kernel
theorem dX3_trim_49 : decode cX3_trim 49 = .ok (.invokevirtual 78, 3) := by decide +kernel
theorem dX3_trim_52 : decode cX3_trim 52 = .ok (.iload_n 2, 1) := by decide +kernel
theorem dX3_trim_53 : decode cX3_trim 53 = .ok (.iload 4, 2) := by decide +kernel
theorem dX3_trim_55 : decode cX3_trim 55 = .ok (.isub, 1) := by decide +kernel
theorem dX3_trim_56 : decode cX3_trim 56 = .ok (.istore_n 2, 1) := by decide +kernel
theorem dX3_trim_57 : decode cX3_trim 57 = .ok (.iinc 3 (-1), 3) := by decide +kernel
theorem dX3_trim_60 : decode cX3_trim 60 = .ok (.goto (-39), 3) := by decide +kernel
theorem dX3_trim_63 : decode cX3_trim 63 = .ok (.return_, 1) := by decide +kernel
set_option maxRecDepth 20000 in
theorem ggX3_addBond_X3_bondCount : GoodIn wsX3_addBond wsX3_bondCount := goodIn_r _ [6, 1, 56] (by decide +kernel) (by decide +kernel)
set_option maxRecDepth 20000 in
theorem gX3_addBond_X3_bondCount : GoodIn wsX3_addBond (wsV RX3 39 RX3 yX3_bondCount wsX3_bondCount) := goodIn_app (goodIn_of _ (by decide +kernel)) ggX3_addBond_X3_bondCount
set_option maxRecDepth 20000 in
theorem ggX3_addBond_X0_principal : GoodIn wsX3_addBond wsX0_principal := goodIn_r _ [11, 12, 57, 58, 59, 60, 61, 62, 63, 64, 65, 66, 67, 68] (by decide +kernel) (by decide +kernel)
set_option maxRecDepth 20000 in
theorem gX3_addBond_X0_principal : GoodIn wsX3_addBond (wsV RX3 82 RX0 yX0_principal wsX0_principal) := goodIn_app (goodIn_of _ (by decide +kernel)) ggX3_addBond_X0_principal
set_option maxRecDepth 20000 in
theorem ggX3_addBond_X3_putBondFact : GoodIn wsX3_addBond wsX3_putBondFact := goodIn_r _ [16, 1, 56] (by decide +kernel) (by decide +kernel)
set_option maxRecDepth 20000 in
theorem gX3_addBond_X3_putBondFact : GoodIn wsX3_addBond (wsV RX3 87 RX3 yX3_putBondFact wsX3_putBondFact) := goodIn_app (goodIn_of _ (by decide +kernel)) ggX3_addBond_X3_putBondFact
set_option maxRecDepth 20000 in
theorem ggX3_addBond_X0_sum : GoodIn wsX3_addBond wsX0_sum := goodIn_r _ [20, 21, 57, 58, 59, 60, 61, 62, 63, 64, 65, 66, 67, 68] (by decide +kernel) (by decide +kernel)
set_option maxRecDepth 20000 in
theorem gX3_addBond_X0_sum : GoodIn wsX3_addBond (wsV RX3 90 RX0 yX0_sum wsX0_sum) := goodIn_app (goodIn_of _ (by decide +kernel)) ggX3_addBond_X0_sum
set_option maxRecDepth 20000 in
theorem ggX3_addBond_X0_way : GoodIn wsX3_addBond wsX0_way := goodIn_r _ [25, 26, 57, 58, 59, 60, 61, 62, 63, 64, 65, 66, 67, 68] (by decide +kernel) (by decide +kernel)
set_option maxRecDepth 20000 in
theorem gX3_addBond_X0_way : GoodIn wsX3_addBond (wsV RX3 93 RX0 yX0_way wsX0_way) := goodIn_app (goodIn_of _ (by decide +kernel)) ggX3_addBond_X0_way
set_option maxRecDepth 20000 in
theorem ggX3_addBond_X0_layers : GoodIn wsX3_addBond wsX0_layers := goodIn_r _ [30, 31, 57, 58, 59, 60, 61, 62, 63, 64, 65, 66, 67, 68] (by decide +kernel) (by decide +kernel)
set_option maxRecDepth 20000 in
theorem gX3_addBond_X0_layers : GoodIn wsX3_addBond (wsV RX3 96 RX0 yX0_layers wsX0_layers) := goodIn_app (goodIn_of _ (by decide +kernel)) ggX3_addBond_X0_layers
set_option maxRecDepth 20000 in
theorem ggX3_addBond_X0_milestones : GoodIn wsX3_addBond wsX0_milestones := goodIn_r _ [35, 36, 57, 58, 59, 60, 61, 62, 63, 64, 65, 66, 67, 68] (by decide +kernel) (by decide +kernel)
set_option maxRecDepth 20000 in
theorem gX3_addBond_X0_milestones : GoodIn wsX3_addBond (wsV RX3 99 RX0 yX0_milestones wsX0_milestones) := goodIn_app (goodIn_of _ (by decide +kernel)) ggX3_addBond_X0_milestones
set_option maxRecDepth 20000 in
theorem ggX3_addBond_X0_share : GoodIn wsX3_addBond wsX0_share := goodIn_r _ [40, 41, 57, 58, 59, 60, 61, 62, 63, 64, 65, 66, 67, 68] (by decide +kernel) (by decide +kernel)
set_option maxRecDepth 20000 in
theorem gX3_addBond_X0_share : GoodIn wsX3_addBond (wsV RX3 102 RX0 yX0_share wsX0_share) := goodIn_app (goodIn_of _ (by decide +kernel)) ggX3_addBond_X0_share
set_option maxRecDepth 20000 in
theorem ggX3_addBond_X0_surety : GoodIn wsX3_addBond wsX0_surety := goodIn_r _ [45, 46, 57, 58, 59, 60, 61, 62, 63, 64, 65, 66, 67, 68] (by decide +kernel) (by decide +kernel)
set_option maxRecDepth 20000 in
theorem gX3_addBond_X0_surety : GoodIn wsX3_addBond (wsV RX3 105 RX0 yX0_surety wsX0_surety) := goodIn_app (goodIn_of _ (by decide +kernel)) ggX3_addBond_X0_surety
set_option maxRecDepth 20000 in
theorem ggX3_addBond_X3_putLayerFact : GoodIn wsX3_addBond wsX3_putLayerFact := goodIn_r _ [50, 1, 56] (by decide +kernel) (by decide +kernel)
set_option maxRecDepth 20000 in
theorem gX3_addBond_X3_putLayerFact : GoodIn wsX3_addBond (wsV RX3 108 RX3 yX3_putLayerFact wsX3_putLayerFact) := goodIn_app (goodIn_of _ (by decide +kernel)) ggX3_addBond_X3_putLayerFact
set_option maxRecDepth 20000 in
theorem ggX3_addBond_X0_limit : GoodIn wsX3_addBond wsX0_limit := goodIn_r _ [54, 55, 57, 58, 59, 60, 61, 62, 63, 64, 65, 66, 67, 68] (by decide +kernel) (by decide +kernel)
set_option maxRecDepth 20000 in
theorem gX3_addBond_X0_limit : GoodIn wsX3_addBond (wsV RX3 111 RX0 yX0_limit wsX0_limit) := goodIn_app (goodIn_of _ (by decide +kernel)) ggX3_addBond_X0_limit
theorem dX3_addBond_0 : decode cX3_addBond 0 = .ok (.aload_n 0, 1) := by decide +kernel
theorem dX3_addBond_1 : decode cX3_addBond 1 = .ok (.invokevirtual 39, 3) := by decide +kernel
theorem dX3_addBond_4 : decode cX3_addBond 4 = .ok (.istore_n 2, 1) := by decide +kernel
theorem dX3_addBond_5 : decode cX3_addBond 5 = .ok (.aload_n 0, 1) := by decide +kernel
theorem dX3_addBond_6 : decode cX3_addBond 6 = .ok (.iload_n 2, 1) := by decide +kernel
theorem dX3_addBond_7 : decode cX3_addBond 7 = .ok (.iconst 0, 1) := by decide +kernel
theorem dX3_addBond_8 : decode cX3_addBond 8 = .ok (.aload_n 1, 1) := by decide +kernel
theorem dX3_addBond_9 : decode cX3_addBond 9 = .ok (.invokevirtual 82, 3) := by decide +kernel
theorem dX3_addBond_12 : decode cX3_addBond 12 = .ok (.invokevirtual 87, 3) := by decide +kernel
theorem dX3_addBond_15 : decode cX3_addBond 15 = .ok (.aload_n 0, 1) := by decide +kernel
theorem dX3_addBond_16 : decode cX3_addBond 16 = .ok (.iload_n 2, 1) := by decide +kernel
theorem dX3_addBond_17 : decode cX3_addBond 17 = .ok (.iconst 1, 1) := by decide +kernel
theorem dX3_addBond_18 : decode cX3_addBond 18 = .ok (.aload_n 1, 1) := by decide +kernel
theorem dX3_addBond_19 : decode cX3_addBond 19 = .ok (.invokevirtual 90, 3) := by decide +kernel
theorem dX3_addBond_22 : decode cX3_addBond 22 = .ok (.invokevirtual 87, 3) := by decide +kernel
theorem dX3_addBond_25 : decode cX3_addBond 25 = .ok (.aload_n 0, 1) := by decide +kernel
theorem dX3_addBond_26 : decode cX3_addBond 26 = .ok (.iload_n 2, 1) := by decide +kernel
theorem dX3_addBond_27 : decode cX3_addBond 27 = .ok (.iconst 2, 1) := by decide +kernel
theorem dX3_addBond_28 : decode cX3_addBond 28 = .ok (.aload_n 1, 1) := by decide +kernel
theorem dX3_addBond_29 : decode cX3_addBond 29 = .ok (.invokevirtual 93, 3) := by decide +kernel
theorem dX3_addBond_32 : decode cX3_addBond 32 = .ok (.invokevirtual 87, 3) := by decide +kernel
theorem dX3_addBond_35 : decode cX3_addBond 35 = .ok (.aload_n 0, 1) := by decide +kernel
theorem dX3_addBond_36 : decode cX3_addBond 36 = .ok (.iload_n 2, 1) := by decide +kernel
theorem dX3_addBond_37 : decode cX3_addBond 37 = .ok (.iconst 3, 1) := by decide +kernel
theorem dX3_addBond_38 : decode cX3_addBond 38 = .ok (.aload_n 1, 1) := by decide +kernel
theorem dX3_addBond_39 : decode cX3_addBond 39 = .ok (.invokevirtual 96, 3) := by decide +kernel
theorem dX3_addBond_42 : decode cX3_addBond 42 = .ok (.invokevirtual 87, 3) := by decide +kernel
theorem dX3_addBond_45 : decode cX3_addBond 45 = .ok (.aload_n 0, 1) := by decide +kernel
theorem dX3_addBond_46 : decode cX3_addBond 46 = .ok (.iload_n 2, 1) := by decide +kernel
theorem dX3_addBond_47 : decode cX3_addBond 47 = .ok (.iconst 4, 1) := by decide +kernel
theorem dX3_addBond_48 : decode cX3_addBond 48 = .ok (.aload_n 1, 1) := by decide +kernel
theorem dX3_addBond_49 : decode cX3_addBond 49 = .ok (.invokevirtual 99, 3) := by decide +kernel
theorem dX3_addBond_52 : decode cX3_addBond 52 = .ok (.invokevirtual 87, 3) := by decide +kernel
theorem dX3_addBond_55 : decode cX3_addBond 55 = .ok (.aload_n 0, 1) := by decide +kernel
theorem dX3_addBond_56 : decode cX3_addBond 56 = .ok (.iload_n 2, 1) := by decide +kernel
theorem dX3_addBond_57 : decode cX3_addBond 57 = .ok (.bipush 9, 2) := by decide +kernel
theorem dX3_addBond_59 : decode cX3_addBond 59 = .ok (.iconst 1, 1) := by decide +kernel
theorem dX3_addBond_60 : decode cX3_addBond 60 = .ok (.invokevirtual 87, 3) := by decide +kernel
theorem dX3_addBond_63 : decode cX3_addBond 63 = .ok (.iconst 0, 1) := by decide +kernel
theorem dX3_addBond_64 : decode cX3_addBond 64 = .ok (.istore_n 3, 1) := by decide +kernel
theorem dX3_addBond_65 : decode cX3_addBond 65 = .ok (.iload_n 3, 1) := by decide +kernel
theorem dX3_addBond_66 : decode cX3_addBond 66 = .ok (.aload_n 1, 1) := by decide +kernel
theorem dX3_addBond_67 : decode cX3_addBond 67 = .ok (.invokevirtual 99, 3) := by decide +kernel
theorem dX3_addBond_70 : decode cX3_addBond 70 = .ok (.if_icmp .ge 23, 3) := by decide +kernel
theorem dX3_addBond_73 : decode cX3_addBond 73 = .ok (.aload_n 0, 1) := by decide +kernel
theorem dX3_addBond_74 : decode cX3_addBond 74 = .ok (.iload_n 2, 1) := by decide +kernel
theorem dX3_addBond_75 : decode cX3_addBond 75 = .ok (.bipush 10, 2) := by decide +kernel
theorem dX3_addBond_77 : decode cX3_addBond 77 = .ok (.iload_n 3, 1) := by decide +kernel
theorem dX3_addBond_78 : decode cX3_addBond 78 = .ok (.iadd, 1) := by decide +kernel
theorem dX3_addBond_79 : decode cX3_addBond 79 = .ok (.aload_n 1, 1) := by decide +kernel
theorem dX3_addBond_80 : decode cX3_addBond 80 = .ok (.iload_n 3, 1) := by decide +kernel
theorem dX3_addBond_81 : decode cX3_addBond 81 = .ok (.invokevirtual 102, 3) := by decide +kernel
theorem dX3_addBond_84 : decode cX3_addBond 84 = .ok (.invokevirtual 87, 3) := by decide +kernel
theorem dX3_addBond_87 : decode cX3_addBond 87 = .ok (.iinc 3 1, 3) := by decide +kernel
theorem dX3_addBond_90 : decode cX3_addBond 90 = .ok (.goto (-25), 3) := by decide +kernel
theorem dX3_addBond_93 : decode cX3_addBond 93 = .ok (.iconst 0, 1) := by decide +kernel
theorem dX3_addBond_94 : decode cX3_addBond 94 = .ok (.istore_n 3, 1) := by decide +kernel
theorem dX3_addBond_95 : decode cX3_addBond 95 = .ok (.iload_n 3, 1) := by decide +kernel
theorem dX3_addBond_96 : decode cX3_addBond 96 = .ok (.aload_n 1, 1) := by decide +kernel
theorem dX3_addBond_97 : decode cX3_addBond 97 = .ok (.invokevirtual 96, 3) := by decide +kernel
theorem dX3_addBond_100 : decode cX3_addBond 100 = .ok (.if_icmp .ge 45, 3) := by decide +kernel
theorem dX3_addBond_103 : decode cX3_addBond 103 = .ok (.aload_n 0, 1) := by decide +kernel
theorem dX3_addBond_104 : decode cX3_addBond 104 = .ok (.iload_n 2, 1) := by decide +kernel
theorem dX3_addBond_105 : decode cX3_addBond 105 = .ok (.iload_n 3, 1) := by decide +kernel
theorem dX3_addBond_106 : decode cX3_addBond 106 = .ok (.iconst 0, 1) := by decide +kernel
theorem dX3_addBond_107 : decode cX3_addBond 107 = .ok (.aload_n 1, 1) := by decide +kernel
theorem dX3_addBond_108 : decode cX3_addBond 108 = .ok (.iload_n 3, 1) := by decide +kernel
theorem dX3_addBond_109 : decode cX3_addBond 109 = .ok (.invokevirtual 105, 3) := by decide +kernel
theorem dX3_addBond_112 : decode cX3_addBond 112 = .ok (.invokevirtual 108, 3) := by decide +kernel
theorem dX3_addBond_115 : decode cX3_addBond 115 = .ok (.aload_n 0, 1) := by decide +kernel
theorem dX3_addBond_116 : decode cX3_addBond 116 = .ok (.iload_n 2, 1) := by decide +kernel
theorem dX3_addBond_117 : decode cX3_addBond 117 = .ok (.iload_n 3, 1) := by decide +kernel
theorem dX3_addBond_118 : decode cX3_addBond 118 = .ok (.iconst 1, 1) := by decide +kernel
theorem dX3_addBond_119 : decode cX3_addBond 119 = .ok (.aload_n 1, 1) := by decide +kernel
theorem dX3_addBond_120 : decode cX3_addBond 120 = .ok (.iload_n 3, 1) := by decide +kernel
theorem dX3_addBond_121 : decode cX3_addBond 121 = .ok (.invokevirtual 111, 3) := by decide +kernel
theorem dX3_addBond_124 : decode cX3_addBond 124 = .ok (.invokevirtual 108, 3) := by decide +kernel
theorem dX3_addBond_127 : decode cX3_addBond 127 = .ok (.aload_n 0, 1) := by decide +kernel
theorem dX3_addBond_128 : decode cX3_addBond 128 = .ok (.iload_n 2, 1) := by decide +kernel
theorem dX3_addBond_129 : decode cX3_addBond 129 = .ok (.iload_n 3, 1) := by decide +kernel
theorem dX3_addBond_130 : decode cX3_addBond 130 = .ok (.iconst 2, 1) := by decide +kernel
theorem dX3_addBond_131 : decode cX3_addBond 131 = .ok (.aload_n 1, 1) := by decide +kernel
theorem dX3_addBond_132 : decode cX3_addBond 132 = .ok (.iload_n 3, 1) := by decide +kernel
theorem dX3_addBond_133 : decode cX3_addBond 133 = .ok (.invokevirtual 111, 3) := by decide +kernel
theorem dX3_addBond_136 : decode cX3_addBond 136 = .ok (.invokevirtual 108, 3) := by decide +kernel
theorem dX3_addBond_139 : decode cX3_addBond 139 = .ok (.iinc 3 1, 3) := by decide +kernel
theorem dX3_addBond_142 : decode cX3_addBond 142 = .ok (.goto (-47), 3) := by decide +kernel
theorem dX3_addBond_145 : decode cX3_addBond 145 = .ok (.aload_n 0, 1) := by decide +kernel
theorem dX3_addBond_146 : decode cX3_addBond 146 = .ok (.getfield 11, 3) := by decide +kernel
theorem dX3_addBond_149 : decode cX3_addBond 149 = .ok (.bipush 116, 2) := by decide +kernel
theorem dX3_addBond_151 : decode cX3_addBond 151 = .ok (.iload_n 2, 1) := by decide +kernel
theorem dX3_addBond_152 : decode cX3_addBond 152 = .ok (.iconst 1, 1) := by decide +kernel
theorem dX3_addBond_153 : decode cX3_addBond 153 = .ok (.iadd, 1) := by decide +kernel
theorem dX3_addBond_154 : decode cX3_addBond 154 = .ok (.iastore, 1) := by decide +kernel
theorem dX3_addBond_155 : decode cX3_addBond 155 = .ok (.iload_n 2, 1) := by decide +kernel
theorem dX3_addBond_156 : decode cX3_addBond 156 = .ok (.ireturn, 1) := by decide +kernel
