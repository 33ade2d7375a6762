theorem dX5_init_0 : decode cX5_init 0 = .ok (.aload_n 0, 1) := by decide +kernel
theorem dX5_init_1 : decode cX5_init 1 = .ok (.invokespecial 1, 3) := by decide +kernel
theorem dX5_init_4 : decode cX5_init 4 = .ok (.aload_n 0, 1) := by decide +kernel
theorem dX5_init_5 : decode cX5_init 5 = .ok (.sipush 431, 3) := by decide +kernel
theorem dX5_init_8 : decode cX5_init 8 = .ok (.newarray .int, 2) := by decide +kernel
theorem dX5_init_10 : decode cX5_init 10 = .ok (.putfield 7, 3) := by decide +kernel
theorem dX5_init_13 : decode cX5_init 13 = .ok (.aload_n 0, 1) := by decide +kernel
theorem dX5_init_14 : decode cX5_init 14 = .ok (.sipush 2586, 3) := by decide +kernel
theorem dX5_init_17 : decode cX5_init 17 = .ok (.newarray .int, 2) := by decide +kernel
theorem dX5_init_19 : decode cX5_init 19 = .ok (.putfield 13, 3) := by decide +kernel
theorem dX5_init_22 : decode cX5_init 22 = .ok (.aload_n 0, 1) := by decide +kernel
theorem dX5_init_23 : decode cX5_init 23 = .ok (.sipush 431, 3) := by decide +kernel
theorem dX5_init_26 : decode cX5_init 26 = .ok (.newarray .int, 2) := by decide +kernel
theorem dX5_init_28 : decode cX5_init 28 = .ok (.putfield 16, 3) := by decide +kernel
theorem dX5_init_31 : decode cX5_init 31 = .ok (.aload_n 0, 1) := by decide +kernel
theorem dX5_init_32 : decode cX5_init 32 = .ok (.bipush 60, 2) := by decide +kernel
theorem dX5_init_34 : decode cX5_init 34 = .ok (.newarray .int, 2) := by decide +kernel
theorem dX5_init_36 : decode cX5_init 36 = .ok (.putfield 19, 3) := by decide +kernel
theorem dX5_init_39 : decode cX5_init 39 = .ok (.aload_n 0, 1) := by decide +kernel
theorem dX5_init_40 : decode cX5_init 40 = .ok (.iconst 4, 1) := by decide +kernel
theorem dX5_init_41 : decode cX5_init 41 = .ok (.newarray .int, 2) := by decide +kernel
theorem dX5_init_43 : decode cX5_init 43 = .ok (.putfield 22, 3) := by decide +kernel
theorem dX5_init_46 : decode cX5_init 46 = .ok (.aload_n 0, 1) := by decide +kernel
theorem dX5_init_47 : decode cX5_init 47 = .ok (.bipush 31, 2) := by decide +kernel
theorem dX5_init_49 : decode cX5_init 49 = .ok (.newarray .int, 2) := by decide +kernel
theorem dX5_init_51 : decode cX5_init 51 = .ok (.putfield 25, 3) := by decide +kernel
theorem dX5_init_54 : decode cX5_init 54 = .ok (.aload_n 0, 1) := by decide +kernel
theorem dX5_init_55 : decode cX5_init 55 = .ok (.getfield 7, 3) := by decide +kernel
theorem dX5_init_58 : decode cX5_init 58 = .ok (.bipush 6, 2) := by decide +kernel
theorem dX5_init_60 : decode cX5_init 60 = .ok (.iconst 5, 1) := by decide +kernel
theorem dX5_init_61 : decode cX5_init 61 = .ok (.iastore, 1) := by decide +kernel
theorem dX5_init_62 : decode cX5_init 62 = .ok (.aload_n 0, 1) := by decide +kernel
theorem dX5_init_63 : decode cX5_init 63 = .ok (.getfield 7, 3) := by decide +kernel
theorem dX5_init_66 : decode cX5_init 66 = .ok (.bipush 7, 2) := by decide +kernel
theorem dX5_init_68 : decode cX5_init 68 = .ok (.bipush 20, 2) := by decide +kernel
theorem dX5_init_70 : decode cX5_init 70 = .ok (.iastore, 1) := by decide +kernel
theorem dX5_init_71 : decode cX5_init 71 = .ok (.aload_n 0, 1) := by decide +kernel
theorem dX5_init_72 : decode cX5_init 72 = .ok (.getfield 7, 3) := by decide +kernel
theorem dX5_init_75 : decode cX5_init 75 = .ok (.bipush 8, 2) := by decide +kernel
theorem dX5_init_77 : decode cX5_init 77 = .ok (.iconst 5, 1) := by decide +kernel
theorem dX5_init_78 : decode cX5_init 78 = .ok (.iastore, 1) := by decide +kernel
theorem dX5_init_79 : decode cX5_init 79 = .ok (.iconst 0, 1) := by decide +kernel
theorem dX5_init_80 : decode cX5_init 80 = .ok (.istore_n 1, 1) := by decide +kernel
theorem dX5_init_81 : decode cX5_init 81 = .ok (.iload_n 1, 1) := by decide +kernel
theorem dX5_init_82 : decode cX5_init 82 = .ok (.bipush 8, 2) := by decide +kernel
theorem dX5_init_84 : decode cX5_init 84 = .ok (.if_icmp .ge 19, 3) := by decide +kernel
theorem dX5_init_87 : decode cX5_init 87 = .ok (.aload_n 0, 1) := by decide +kernel
theorem dX5_init_88 : decode cX5_init 88 = .ok (.getfield 7, 3) := by decide +kernel
theorem dX5_init_91 : decode cX5_init 91 = .ok (.bipush 17, 2) := by decide +kernel
theorem dX5_init_93 : decode cX5_init 93 = .ok (.iload_n 1, 1) := by decide +kernel
theorem dX5_init_94 : decode cX5_init 94 = .ok (.iadd, 1) := by decide +kernel
theorem dX5_init_95 : decode cX5_init 95 = .ok (.iconst (-1), 1) := by decide +kernel
theorem dX5_init_96 : decode cX5_init 96 = .ok (.iastore, 1) := by decide +kernel
theorem dX5_init_97 : decode cX5_init 97 = .ok (.iinc 1 1, 3) := by decide +kernel
theorem dX5_init_100 : decode cX5_init 100 = .ok (.goto (-19), 3) := by decide +kernel
theorem dX5_init_103 : decode cX5_init 103 = .ok (.return_, 1) := by decide +kernel
theorem dX5_thrown_0 : decode cX5_thrown 0 = .ok (.aload_n 0, 1) := by decide +kernel
theorem dX5_thrown_1 : decode cX5_thrown 1 = .ok (.getfield 28, 3) := by decide +kernel
theorem dX5_thrown_4 : decode cX5_thrown 4 = .ok (.ireturn, 1) := by decide +kernel
theorem dX5_fails_0 : decode cX5_fails 0 = .ok (.aload_n 0, 1) := by decide +kernel
theorem dX5_fails_1 : decode cX5_fails 1 = .ok (.iload_n 1, 1) := by decide +kernel
theorem dX5_fails_2 : decode cX5_fails 2 = .ok (.putfield 28, 3) := by decide +kernel
theorem dX5_fails_5 : decode cX5_fails 5 = .ok (.iconst 0, 1) := by decide +kernel
theorem dX5_fails_6 : decode cX5_fails 6 = .ok (.ireturn, 1) := by decide +kernel
theorem dX5_in_0 : decode cX5_in 0 = .ok (.iload_n 0, 1) := by decide +kernel
theorem dX5_in_1 : decode cX5_in 1 = .ok (.iload_n 1, 1) := by decide +kernel
theorem dX5_in_2 : decode cX5_in 2 = .ok (.if_icmp .lt 12, 3) := by decide +kernel
theorem dX5_in_5 : decode cX5_in 5 = .ok (.iload_n 0, 1) := by decide +kernel
theorem dX5_in_6 : decode cX5_in 6 = .ok (.iload_n 2, 1) := by decide +kernel
theorem dX5_in_7 : decode cX5_in 7 = .ok (.if_icmp .gt 7, 3) := by decide +kernel
theorem dX5_in_10 : decode cX5_in 10 = .ok (.iconst 1, 1) := by decide +kernel
theorem dX5_in_11 : decode cX5_in 11 = .ok (.goto 4, 3) := by decide +kernel
theorem dX5_in_14 : decode cX5_in 14 = .ok (.iconst 0, 1) := by decide +kernel
theorem dX5_in_15 : decode cX5_in 15 = .ok (.ireturn, 1) := by decide +kernel
theorem dX5_least_0 : decode cX5_least 0 = .ok (.iload_n 0, 1) := by decide +kernel
theorem dX5_least_1 : decode cX5_least 1 = .ok (.iload_n 1, 1) := by decide +kernel
theorem dX5_least_2 : decode cX5_least 2 = .ok (.if_icmp .ge 7, 3) := by decide +kernel
theorem dX5_least_5 : decode cX5_least 5 = .ok (.iload_n 0, 1) := by decide +kernel
theorem dX5_least_6 : decode cX5_least 6 = .ok (.goto 4, 3) := by decide +kernel
theorem dX5_least_9 : decode cX5_least 9 = .ok (.iload_n 1, 1) := by decide +kernel
theorem dX5_least_10 : decode cX5_least 10 = .ok (.ireturn, 1) := by decide +kernel
theorem dX5_save_0 : decode cX5_save 0 = .ok (.aload_n 0, 1) := by decide +kernel
theorem dX5_save_1 : decode cX5_save 1 = .ok (.getfield 32, 3) := by decide +kernel
theorem dX5_save_4 : decode cX5_save 4 = .ok (.bipush 6, 2) := by decide +kernel
theorem dX5_save_6 : decode cX5_save 6 = .ok (.if_icmp .ne 44, 3) := by decide +kernel
theorem dX5_save_9 : decode cX5_save 9 = .ok (.iconst 0, 1) := by decide +kernel
theorem dX5_save_10 : decode cX5_save 10 = .ok (.istore_n 1, 1) := by decide +kernel
theorem dX5_save_11 : decode cX5_save 11 = .ok (.iload_n 1, 1) := by decide +kernel
theorem dX5_save_12 : decode cX5_save 12 = .ok (.sipush 2155, 3) := by decide +kernel
theorem dX5_save_15 : decode cX5_save 15 = .ok (.if_icmp .ge 25, 3) := by decide +kernel
theorem dX5_save_18 : decode cX5_save 18 = .ok (.aload_n 0, 1) := by decide +kernel
theorem dX5_save_19 : decode cX5_save 19 = .ok (.getfield 13, 3) := by decide +kernel
theorem dX5_save_22 : decode cX5_save 22 = .ok (.iload_n 1, 1) := by decide +kernel
theorem dX5_save_23 : decode cX5_save 23 = .ok (.aload_n 0, 1) := by decide +kernel
theorem dX5_save_24 : decode cX5_save 24 = .ok (.getfield 13, 3) := by decide +kernel
theorem dX5_save_27 : decode cX5_save 27 = .ok (.iload_n 1, 1) := by decide +kernel
theorem dX5_save_28 : decode cX5_save 28 = .ok (.sipush 431, 3) := by decide +kernel
theorem dX5_save_31 : decode cX5_save 31 = .ok (.iadd, 1) := by decide +kernel
theorem dX5_save_32 : decode cX5_save 32 = .ok (.iaload, 1) := by decide +kernel
theorem dX5_save_33 : decode cX5_save 33 = .ok (.iastore, 1) := by decide +kernel
theorem dX5_save_34 : decode cX5_save 34 = .ok (.iinc 1 1, 3) := by decide +kernel
theorem dX5_save_37 : decode cX5_save 37 = .ok (.goto (-26), 3) := by decide +kernel
theorem dX5_save_40 : decode cX5_save 40 = .ok (.aload_n 0, 1) := by decide +kernel
theorem dX5_save_41 : decode cX5_save 41 = .ok (.dup, 1) := by decide +kernel
theorem dX5_save_42 : decode cX5_save 42 = .ok (.getfield 32, 3) := by decide +kernel
theorem dX5_save_45 : decode cX5_save 45 = .ok (.iconst 1, 1) := by decide +kernel
theorem dX5_save_46 : decode cX5_save 46 = .ok (.isub, 1) := by decide +kernel
theorem dX5_save_47 : decode cX5_save 47 = .ok (.putfield 32, 3) := by decide +kernel
theorem dX5_save_50 : decode cX5_save 50 = .ok (.iconst 0, 1) := by decide +kernel
theorem dX5_save_51 : decode cX5_save 51 = .ok (.istore_n 1, 1) := by decide +kernel
theorem dX5_save_52 : decode cX5_save 52 = .ok (.iload_n 1, 1) := by decide +kernel
theorem dX5_save_53 : decode cX5_save 53 = .ok (.sipush 431, 3) := by decide +kernel
theorem dX5_save_56 : decode cX5_save 56 = .ok (.if_icmp .ge 30, 3) := by decide +kernel
theorem dX5_save_59 : decode cX5_save 59 = .ok (.aload_n 0, 1) := by decide +kernel
theorem dX5_save_60 : decode cX5_save 60 = .ok (.getfield 13, 3) := by decide +kernel
theorem dX5_save_63 : decode cX5_save 63 = .ok (.sipush 431, 3) := by decide +kernel
theorem dX5_save_66 : decode cX5_save 66 = .ok (.aload_n 0, 1) := by decide +kernel
theorem dX5_save_67 : decode cX5_save 67 = .ok (.getfield 32, 3) := by decide +kernel
theorem dX5_save_70 : decode cX5_save 70 = .ok (.imul, 1) := by decide +kernel
theorem dX5_save_71 : decode cX5_save 71 = .ok (.iload_n 1, 1) := by decide +kernel
theorem dX5_save_72 : decode cX5_save 72 = .ok (.iadd, 1) := by decide +kernel
theorem dX5_save_73 : decode cX5_save 73 = .ok (.aload_n 0, 1) := by decide +kernel
theorem dX5_save_74 : decode cX5_save 74 = .ok (.getfield 7, 3) := by decide +kernel
theorem dX5_save_77 : decode cX5_save 77 = .ok (.iload_n 1, 1) := by decide +kernel
theorem dX5_save_78 : decode cX5_save 78 = .ok (.iaload, 1) := by decide +kernel
theorem dX5_save_79 : decode cX5_save 79 = .ok (.iastore, 1) := by decide +kernel
theorem dX5_save_80 : decode cX5_save 80 = .ok (.iinc 1 1, 3) := by decide +kernel
theorem dX5_save_83 : decode cX5_save 83 = .ok (.goto (-31), 3) := by decide +kernel
theorem dX5_save_86 : decode cX5_save 86 = .ok (.aload_n 0, 1) := by decide +kernel
theorem dX5_save_87 : decode cX5_save 87 = .ok (.dup, 1) := by decide +kernel
theorem dX5_save_88 : decode cX5_save 88 = .ok (.getfield 32, 3) := by decide +kernel
theorem dX5_save_91 : decode cX5_save 91 = .ok (.iconst 1, 1) := by decide +kernel
theorem dX5_save_92 : decode cX5_save 92 = .ok (.iadd, 1) := by decide +kernel
theorem dX5_save_93 : decode cX5_save 93 = .ok (.putfield 32, 3) := by decide +kernel
theorem dX5_save_96 : decode cX5_save 96 = .ok (.return_, 1) := by decide +kernel
theorem dX5_putAside_0 : decode cX5_putAside 0 = .ok (.iconst 0, 1) := by decide +kernel
theorem dX5_putAside_1 : decode cX5_putAside 1 = .ok (.istore_n 1, 1) := by decide +kernel
theorem dX5_putAside_2 : decode cX5_putAside 2 = .ok (.iload_n 1, 1) := by decide +kernel
theorem dX5_putAside_3 : decode cX5_putAside 3 = .ok (.sipush 431, 3) := by decide +kernel
theorem dX5_putAside_6 : decode cX5_putAside 6 = .ok (.if_icmp .ge 21, 3) := by decide +kernel
theorem dX5_putAside_9 : decode cX5_putAside 9 = .ok (.aload_n 0, 1) := by decide +kernel
theorem dX5_putAside_10 : decode cX5_putAside 10 = .ok (.getfield 16, 3) := by decide +kernel
theorem dX5_putAside_13 : decode cX5_putAside 13 = .ok (.iload_n 1, 1) := by decide +kernel
theorem dX5_putAside_14 : decode cX5_putAside 14 = .ok (.aload_n 0, 1) := by decide +kernel
theorem dX5_putAside_15 : decode cX5_putAside 15 = .ok (.getfield 7, 3) := by decide +kernel
theorem dX5_putAside_18 : decode cX5_putAside 18 = .ok (.iload_n 1, 1) := by decide +kernel
theorem dX5_putAside_19 : decode cX5_putAside 19 = .ok (.iaload, 1) := by decide +kernel
theorem dX5_putAside_20 : decode cX5_putAside 20 = .ok (.iastore, 1) := by decide +kernel
theorem dX5_putAside_21 : decode cX5_putAside 21 = .ok (.iinc 1 1, 3) := by decide +kernel
theorem dX5_putAside_24 : decode cX5_putAside 24 = .ok (.goto (-22), 3) := by decide +kernel
theorem dX5_putAside_27 : decode cX5_putAside 27 = .ok (.return_, 1) := by decide +kernel
theorem dX5_putBack_0 : decode cX5_putBack 0 = .ok (.iconst 0, 1) := by decide +kernel
theorem dX5_putBack_1 : decode cX5_putBack 1 = .ok (.istore_n 1, 1) := by decide +kernel
theorem dX5_putBack_2 : decode cX5_putBack 2 = .ok (.iload_n 1, 1) := by decide +kernel
theorem dX5_putBack_3 : decode cX5_putBack 3 = .ok (.sipush 431, 3) := by decide +kernel
theorem dX5_putBack_6 : decode cX5_putBack 6 = .ok (.if_icmp .ge 21, 3) := by decide +kernel
theorem dX5_putBack_9 : decode cX5_putBack 9 = .ok (.aload_n 0, 1) := by decide +kernel
theorem dX5_putBack_10 : decode cX5_putBack 10 = .ok (.getfield 7, 3) := by decide +kernel
theorem dX5_putBack_13 : decode cX5_putBack 13 = .ok (.iload_n 1, 1) := by decide +kernel
theorem dX5_putBack_14 : decode cX5_putBack 14 = .ok (.aload_n 0, 1) := by decide +kernel
theorem dX5_putBack_15 : decode cX5_putBack 15 = .ok (.getfield 16, 3) := by decide +kernel
theorem dX5_putBack_18 : decode cX5_putBack 18 = .ok (.iload_n 1, 1) := by decide +kernel
theorem dX5_putBack_19 : decode cX5_putBack 19 = .ok (.iaload, 1) := by decide +kernel
theorem dX5_putBack_20 : decode cX5_putBack 20 = .ok (.iastore, 1) := by decide +kernel
theorem dX5_putBack_21 : decode cX5_putBack 21 = .ok (.iinc 1 1, 3) := by decide +kernel
theorem dX5_putBack_24 : decode cX5_putBack 24 = .ok (.goto (-22), 3) := by decide +kernel
theorem dX5_putBack_27 : decode cX5_putBack 27 = .ok (.return_, 1) := by decide +kernel
set_option maxRecDepth 20000 in
theorem ggX5_isPerson_X5_in : GoodIn wsX5_isPerson wsX5_in := goodIn_r _ [4] (by decide +kernel) (by decide +kernel)
set_option maxRecDepth 20000 in
theorem gX5_isPerson_X5_in : GoodIn wsX5_isPerson (va_wsS RX5 35 yX5_in wsX5_in) := goodIn_app (goodIn_of _ (by decide +kernel)) ggX5_isPerson_X5_in
theorem dX5_isPerson_0 : decode cX5_isPerson 0 = .ok (.iload_n 0, 1) := by decide +kernel
theorem dX5_isPerson_1 : decode cX5_isPerson 1 = .ok (.iconst 0, 1) := by decide +kernel
theorem dX5_isPerson_2 : decode cX5_isPerson 2 = .ok (.bipush 7, 2) := by decide +kernel
theorem dX5_isPerson_4 : decode cX5_isPerson 4 = .ok (.invokestatic 35, 3) := by decide +kernel
theorem dX5_isPerson_7 : decode cX5_isPerson 7 = .ok (.ireturn, 1) := by decide +kernel
set_option maxRecDepth 20000 in
theorem ggX5_isMoney_X5_in : GoodIn wsX5_isMoney wsX5_in := goodIn_r _ [5] (by decide +kernel) (by decide +kernel)
set_option maxRecDepth 20000 in
theorem gX5_isMoney_X5_in : GoodIn wsX5_isMoney (va_wsS RX5 35 yX5_in wsX5_in) := goodIn_app (goodIn_of _ (by decide +kernel)) ggX5_isMoney_X5_in
theorem dX5_isMoney_0 : decode cX5_isMoney 0 = .ok (.iload_n 0, 1) := by decide +kernel
theorem dX5_isMoney_1 : decode cX5_isMoney 1 = .ok (.iconst 1, 1) := by decide +kernel
theorem dX5_isMoney_2 : decode cX5_isMoney 2 = .ok (.ldc 39, 2) := by decide +kernel
theorem dX5_isMoney_4 : decode cX5_isMoney 4 = .ok (.invokestatic 35, 3) := by decide +kernel
theorem dX5_isMoney_7 : decode cX5_isMoney 7 = .ok (.ireturn, 1) := by decide +kernel
set_option maxRecDepth 20000 in
theorem ggX5_isBond_X5_in : GoodIn wsX5_isBond wsX5_in := goodIn_r _ [5] (by decide +kernel) (by decide +kernel)
set_option maxRecDepth 20000 in
theorem gX5_isBond_X5_in : GoodIn wsX5_isBond (va_wsS RX5 35 yX5_in wsX5_in) := goodIn_app (goodIn_of _ (by decide +kernel)) ggX5_isBond_X5_in
theorem dX5_isBond_0 : decode cX5_isBond 0 = .ok (.iload_n 1, 1) := by decide +kernel
theorem dX5_isBond_1 : decode cX5_isBond 1 = .ok (.iconst 0, 1) := by decide +kernel
theorem dX5_isBond_2 : decode cX5_isBond 2 = .ok (.aload_n 0, 1) := by decide +kernel
theorem dX5_isBond_3 : decode cX5_isBond 3 = .ok (.getfield 7, 3) := by decide +kernel
theorem dX5_isBond_6 : decode cX5_isBond 6 = .ok (.iconst 0, 1) := by decide +kernel
theorem dX5_isBond_7 : decode cX5_isBond 7 = .ok (.iaload, 1) := by decide +kernel
theorem dX5_isBond_8 : decode cX5_isBond 8 = .ok (.iconst 1, 1) := by decide +kernel
theorem dX5_isBond_9 : decode cX5_isBond 9 = .ok (.isub, 1) := by decide +kernel
theorem dX5_isBond_10 : decode cX5_isBond 10 = .ok (.invokestatic 35, 3) := by decide +kernel
theorem dX5_isBond_13 : decode cX5_isBond 13 = .ok (.ireturn, 1) := by decide +kernel
theorem dX5_at_0 : decode cX5_at 0 = .ok (.bipush 121, 2) := by decide +kernel
theorem dX5_at_2 : decode cX5_at 2 = .ok (.bipush 31, 2) := by decide +kernel
theorem dX5_at_4 : decode cX5_at 4 = .ok (.iload_n 0, 1) := by decide +kernel
theorem dX5_at_5 : decode cX5_at 5 = .ok (.imul, 1) := by decide +kernel
theorem dX5_at_6 : decode cX5_at 6 = .ok (.iadd, 1) := by decide +kernel
theorem dX5_at_7 : decode cX5_at 7 = .ok (.ireturn, 1) := by decide +kernel
set_option maxRecDepth 20000 in
theorem ggX5_layerAt_X5_at : GoodIn wsX5_layerAt wsX5_at := goodIn_r _ [4] (by decide +kernel) (by decide +kernel)
set_option maxRecDepth 20000 in
theorem gX5_layerAt_X5_at : GoodIn wsX5_layerAt (va_wsS RX5 40 yX5_at wsX5_at) := goodIn_app (goodIn_of _ (by decide +kernel)) ggX5_layerAt_X5_at
theorem dX5_layerAt_0 : decode cX5_layerAt 0 = .ok (.iload_n 0, 1) := by decide +kernel
theorem dX5_layerAt_1 : decode cX5_layerAt 1 = .ok (.invokestatic 40, 3) := by decide +kernel
theorem dX5_layerAt_4 : decode cX5_layerAt 4 = .ok (.bipush 15, 2) := by decide +kernel
theorem dX5_layerAt_6 : decode cX5_layerAt 6 = .ok (.iadd, 1) := by decide +kernel
theorem dX5_layerAt_7 : decode cX5_layerAt 7 = .ok (.iconst 4, 1) := by decide +kernel
theorem dX5_layerAt_8 : decode cX5_layerAt 8 = .ok (.iload_n 1, 1) := by decide +kernel
theorem dX5_layerAt_9 : decode cX5_layerAt 9 = .ok (.imul, 1) := by decide +kernel
theorem dX5_layerAt_10 : decode cX5_layerAt 10 = .ok (.iadd, 1) := by decide +kernel
theorem dX5_layerAt_11 : decode cX5_layerAt 11 = .ok (.ireturn, 1) := by decide +kernel
theorem dX5_debtAt_0 : decode cX5_debtAt 0 = .ok (.bipush 57, 2) := by decide +kernel
theorem dX5_debtAt_2 : decode cX5_debtAt 2 = .ok (.bipush 8, 2) := by decide +kernel
theorem dX5_debtAt_4 : decode cX5_debtAt 4 = .ok (.iload_n 0, 1) := by decide +kernel
theorem dX5_debtAt_5 : decode cX5_debtAt 5 = .ok (.imul, 1) := by decide +kernel
theorem dX5_debtAt_6 : decode cX5_debtAt 6 = .ok (.iadd, 1) := by decide +kernel
theorem dX5_debtAt_7 : decode cX5_debtAt 7 = .ok (.iload_n 1, 1) := by decide +kernel
theorem dX5_debtAt_8 : decode cX5_debtAt 8 = .ok (.iadd, 1) := by decide +kernel
theorem dX5_debtAt_9 : decode cX5_debtAt 9 = .ok (.ireturn, 1) := by decide +kernel
set_option maxRecDepth 20000 in
theorem ggX5_runs_X5_at : GoodIn wsX5_runs wsX5_at := goodIn_r _ [5] (by decide +kernel) (by decide +kernel)
set_option maxRecDepth 20000 in
theorem gX5_runs_X5_at : GoodIn wsX5_runs (va_wsS RX5 40 yX5_at wsX5_at) := goodIn_app (goodIn_of _ (by decide +kernel)) ggX5_runs_X5_at
theorem dX5_runs_0 : decode cX5_runs 0 = .ok (.aload_n 0, 1) := by decide +kernel
theorem dX5_runs_1 : decode cX5_runs 1 = .ok (.getfield 7, 3) := by decide +kernel
theorem dX5_runs_4 : decode cX5_runs 4 = .ok (.iload_n 1, 1) := by decide +kernel
theorem dX5_runs_5 : decode cX5_runs 5 = .ok (.invokestatic 40, 3) := by decide +kernel
theorem dX5_runs_8 : decode cX5_runs 8 = .ok (.bipush 9, 2) := by decide +kernel
theorem dX5_runs_10 : decode cX5_runs 10 = .ok (.iadd, 1) := by decide +kernel
theorem dX5_runs_11 : decode cX5_runs 11 = .ok (.iaload, 1) := by decide +kernel
theorem dX5_runs_12 : decode cX5_runs 12 = .ok (.iconst 1, 1) := by decide +kernel
theorem dX5_runs_13 : decode cX5_runs 13 = .ok (.if_icmp .ne 7, 3) := by decide +kernel
theorem dX5_runs_16 : decode cX5_runs 16 = .ok (.iconst 1, 1) := by decide +kernel
theorem dX5_runs_17 : decode cX5_runs 17 = .ok (.goto 4, 3) := by decide +kernel
theorem dX5_runs_20 : decode cX5_runs 20 = .ok (.iconst 0, 1) := by decide +kernel
theorem dX5_runs_21 : decode cX5_runs 21 = .ok (.ireturn, 1) := by decide +kernel
set_option maxRecDepth 20000 in
theorem ggX5_leftOf_X5_at : GoodIn wsX5_leftOf wsX5_at := goodIn_r _ [5] (by decide +kernel) (by decide +kernel)
set_option maxRecDepth 20000 in
theorem gX5_leftOf_X5_at : GoodIn wsX5_leftOf (va_wsS RX5 40 yX5_at wsX5_at) := goodIn_app (goodIn_of _ (by decide +kernel)) ggX5_leftOf_X5_at
theorem dX5_leftOf_0 : decode cX5_leftOf 0 = .ok (.aload_n 0, 1) := by decide +kernel
theorem dX5_leftOf_1 : decode cX5_leftOf 1 = .ok (.getfield 7, 3) := by decide +kernel
theorem dX5_leftOf_4 : decode cX5_leftOf 4 = .ok (.iload_n 1, 1) := by decide +kernel
theorem dX5_leftOf_5 : decode cX5_leftOf 5 = .ok (.invokestatic 40, 3) := by decide +kernel
theorem dX5_leftOf_8 : decode cX5_leftOf 8 = .ok (.iconst 1, 1) := by decide +kernel
theorem dX5_leftOf_9 : decode cX5_leftOf 9 = .ok (.iadd, 1) := by decide +kernel
theorem dX5_leftOf_10 : decode cX5_leftOf 10 = .ok (.iaload, 1) := by decide +kernel
theorem dX5_leftOf_11 : decode cX5_leftOf 11 = .ok (.aload_n 0, 1) := by decide +kernel
theorem dX5_leftOf_12 : decode cX5_leftOf 12 = .ok (.getfield 7, 3) := by decide +kernel
theorem dX5_leftOf_15 : decode cX5_leftOf 15 = .ok (.iload_n 1, 1) := by decide +kernel
theorem dX5_leftOf_16 : decode cX5_leftOf 16 = .ok (.invokestatic 40, 3) := by decide +kernel
theorem dX5_leftOf_19 : decode cX5_leftOf 19 = .ok (.bipush 6, 2) := by decide +kernel
theorem dX5_leftOf_21 : decode cX5_leftOf 21 = .ok (.iadd, 1) := by decide +kernel
theorem dX5_leftOf_22 : decode cX5_leftOf 22 = .ok (.iaload, 1) := by decide +kernel
theorem dX5_leftOf_23 : decode cX5_leftOf 23 = .ok (.isub, 1) := by decide +kernel
theorem dX5_leftOf_24 : decode cX5_leftOf 24 = .ok (.aload_n 0, 1) := by decide +kernel
theorem dX5_leftOf_25 : decode cX5_leftOf 25 = .ok (.getfield 7, 3) := by decide +kernel
theorem dX5_leftOf_28 : decode cX5_leftOf 28 = .ok (.iload_n 1, 1) := by decide +kernel
theorem dX5_leftOf_29 : decode cX5_leftOf 29 = .ok (.invokestatic 40, 3) := by decide +kernel
theorem dX5_leftOf_32 : decode cX5_leftOf 32 = .ok (.bipush 8, 2) := by decide +kernel
theorem dX5_leftOf_34 : decode cX5_leftOf 34 = .ok (.iadd, 1) := by decide +kernel
theorem dX5_leftOf_35 : decode cX5_leftOf 35 = .ok (.iaload, 1) := by decide +kernel
theorem dX5_leftOf_36 : decode cX5_leftOf 36 = .ok (.isub, 1) := by decide +kernel
theorem dX5_leftOf_37 : decode cX5_leftOf 37 = .ok (.ireturn, 1) := by decide +kernel
set_option maxRecDepth 20000 in
theorem ggX5_limitsOf_X5_at : GoodIn wsX5_limitsOf wsX5_at := goodIn_r _ [5] (by decide +kernel) (by decide +kernel)
set_option maxRecDepth 20000 in
theorem gX5_limitsOf_X5_at : GoodIn wsX5_limitsOf (va_wsS RX5 40 yX5_at wsX5_at) := goodIn_app (goodIn_of _ (by decide +kernel)) ggX5_limitsOf_X5_at
set_option maxRecDepth 20000 in
theorem ggX5_limitsOf_X5_layerAt : GoodIn wsX5_limitsOf wsX5_layerAt := goodIn_r _ [8, 2, 3, 4, 5] (by decide +kernel) (by decide +kernel)
set_option maxRecDepth 20000 in
theorem gX5_limitsOf_X5_layerAt : GoodIn wsX5_limitsOf (va_wsS RX5 44 yX5_layerAt wsX5_layerAt) := goodIn_app (goodIn_of _ (by decide +kernel)) ggX5_limitsOf_X5_layerAt
theorem dX5_limitsOf_0 : decode cX5_limitsOf 0 = .ok (.iconst 0, 1) := by decide +kernel
theorem dX5_limitsOf_1 : decode cX5_limitsOf 1 = .ok (.istore_n 2, 1) := by decide +kernel
theorem dX5_limitsOf_2 : decode cX5_limitsOf 2 = .ok (.iconst 0, 1) := by decide +kernel
theorem dX5_limitsOf_3 : decode cX5_limitsOf 3 = .ok (.istore_n 3, 1) := by decide +kernel
theorem dX5_limitsOf_4 : decode cX5_limitsOf 4 = .ok (.iload_n 3, 1) := by decide +kernel
theorem dX5_limitsOf_5 : decode cX5_limitsOf 5 = .ok (.aload_n 0, 1) := by decide +kernel
theorem dX5_limitsOf_6 : decode cX5_limitsOf 6 = .ok (.getfield 7, 3) := by decide +kernel
theorem dX5_limitsOf_9 : decode cX5_limitsOf 9 = .ok (.iload_n 1, 1) := by decide +kernel
theorem dX5_limitsOf_10 : decode cX5_limitsOf 10 = .ok (.invokestatic 40, 3) := by decide +kernel
theorem dX5_limitsOf_13 : decode cX5_limitsOf 13 = .ok (.iconst 3, 1) := by decide +kernel
theorem dX5_limitsOf_14 : decode cX5_limitsOf 14 = .ok (.iadd, 1) := by decide +kernel
theorem dX5_limitsOf_15 : decode cX5_limitsOf 15 = .ok (.iaload, 1) := by decide +kernel
theorem dX5_limitsOf_16 : decode cX5_limitsOf 16 = .ok (.if_icmp .ge 24, 3) := by decide +kernel
theorem dX5_limitsOf_19 : decode cX5_limitsOf 19 = .ok (.iload_n 2, 1) := by decide +kernel
theorem dX5_limitsOf_20 : decode cX5_limitsOf 20 = .ok (.aload_n 0, 1) := by decide +kernel
theorem dX5_limitsOf_21 : decode cX5_limitsOf 21 = .ok (.getfield 7, 3) := by decide +kernel
theorem dX5_limitsOf_24 : decode cX5_limitsOf 24 = .ok (.iload_n 1, 1) := by decide +kernel
theorem dX5_limitsOf_25 : decode cX5_limitsOf 25 = .ok (.iload_n 3, 1) := by decide +kernel
theorem dX5_limitsOf_26 : decode cX5_limitsOf 26 = .ok (.invokestatic 44, 3) := by decide +kernel
theorem dX5_limitsOf_29 : decode cX5_limitsOf 29 = .ok (.iconst 2, 1) := by decide +kernel
theorem dX5_limitsOf_30 : decode cX5_limitsOf 30 = .ok (.iadd, 1) := by decide +kernel
theorem dX5_limitsOf_31 : decode cX5_limitsOf 31 = .ok (.iaload, 1) := by decide +kernel
theorem dX5_limitsOf_32 : decode cX5_limitsOf 32 = .ok (.iadd, 1) := by decide +kernel
theorem dX5_limitsOf_33 : decode cX5_limitsOf 33 = .ok (.istore_n 2, 1) := by decide +kernel
theorem dX5_limitsOf_34 : decode cX5_limitsOf 34 = .ok (.iinc 3 1, 3) := by decide +kernel
theorem dX5_limitsOf_37 : decode cX5_limitsOf 37 = .ok (.goto (-33), 3) := by decide +kernel
theorem dX5_limitsOf_40 : decode cX5_limitsOf 40 = .ok (.iload_n 2, 1) := by decide +kernel
theorem dX5_limitsOf_41 : decode cX5_limitsOf 41 = .ok (.ireturn, 1) := by decide +kernel
set_option maxRecDepth 20000 in
theorem ggX5_trim_X5_limitsOf : GoodIn wsX5_trim wsX5_limitsOf := goodIn_r _ [6, 1, 7, 8, 5, 9, 10, 11, 12, 20, 21, 22, 23, 24, 25, 26, 27, 28, 29, 30, 31, 32, 33] (by decide +kernel) (by decide +kernel)
set_option maxRecDepth 20000 in
theorem gX5_trim_X5_limitsOf : GoodIn wsX5_trim (wsV RX5 48 RX5 yX5_limitsOf wsX5_limitsOf) := goodIn_app (goodIn_of _ (by decide +kernel)) ggX5_trim_X5_limitsOf
set_option maxRecDepth 20000 in
theorem ggX5_trim_X5_leftOf : GoodIn wsX5_trim wsX5_leftOf := goodIn_r _ [16, 1, 7, 8, 5, 9, 20, 21, 22, 23, 24, 25, 26, 27, 28, 29, 30, 31, 32, 33] (by decide +kernel) (by decide +kernel)
set_option maxRecDepth 20000 in
theorem gX5_trim_X5_leftOf : GoodIn wsX5_trim (wsV RX5 51 RX5 yX5_leftOf wsX5_leftOf) := goodIn_app (goodIn_of _ (by decide +kernel)) ggX5_trim_X5_leftOf
set_option maxRecDepth 20000 in
theorem ggX5_trim_X5_at : GoodIn wsX5_trim wsX5_at := goodIn_r _ [9] (by decide +kernel) (by decide +kernel)
set_option maxRecDepth 20000 in
theorem gX5_trim_X5_at : GoodIn wsX5_trim (va_wsS RX5 40 yX5_at wsX5_at) := goodIn_app (goodIn_of _ (by decide +kernel)) ggX5_trim_X5_at
set_option maxRecDepth 20000 in
theorem ggX5_trim_X5_layerAt : GoodIn wsX5_trim wsX5_layerAt := goodIn_r _ [12, 7, 8, 5, 9] (by decide +kernel) (by decide +kernel)
set_option maxRecDepth 20000 in
theorem gX5_trim_X5_layerAt : GoodIn wsX5_trim (va_wsS RX5 44 yX5_layerAt wsX5_layerAt) := goodIn_app (goodIn_of _ (by decide +kernel)) ggX5_trim_X5_layerAt
set_option maxRecDepth 20000 in
theorem ggX5_trim_X5_least : GoodIn wsX5_trim wsX5_least := goodIn_r _ [19] (by decide +kernel) (by decide +kernel)
set_option maxRecDepth 20000 in
theorem gX5_trim_X5_least : GoodIn wsX5_trim (va_wsS RX5 54 yX5_least wsX5_least) := goodIn_app (goodIn_of _ (by decide +kernel)) ggX5_trim_X5_least
theorem dX5_trim_0 : decode cX5_trim 0 = .ok (.aload_n 0, 1) := by decide +kernel
theorem dX5_trim_1 : decode cX5_trim 1 = .ok (.iload_n 1, 1) := by decide +kernel
theorem dX5_trim_2 : decode cX5_trim 2 = .ok (.invokevirtual 48, 3) := by decide +kernel
theorem dX5_trim_5 : decode cX5_trim 5 = .ok (.aload_n 0, 1) := by decide +kernel
theorem dX5_trim_6 : decode cX5_trim 6 = .ok (.iload_n 1, 1) := by decide +kernel
theorem dX5_trim_7 : decode cX5_trim 7 = .ok (.invokevirtual 51, 3) := by decide +kernel
theorem dX5_trim_10 : decode cX5_trim 10 = .ok (.isub, 1) := by decide +kernel
theorem dX5_trim_11 : decode cX5_trim 11 = .ok (.istore_n 2, 1) := by decide +kernel
theorem dX5_trim_12 : decode cX5_trim 12 = .ok (.aload_n 0, 1) := by decide +kernel
theorem dX5_trim_13 : decode cX5_trim 13 = .ok (.getfield 7, 3) := by decide +kernel
theorem dX5_trim_16 : decode cX5_trim 16 = .ok (.iload_n 1, 1) := by decide +kernel
theorem dX5_trim_17 : decode cX5_trim 17 = .ok (.invokestatic 40, 3) := by decide +kernel
theorem dX5_trim_20 : decode cX5_trim 20 = .ok (.iconst 3, 1) := by decide +kernel
theorem dX5_trim_21 : decode cX5_trim 21 = .ok (.iadd, 1) := by decide +kernel
theorem dX5_trim_22 : decode cX5_trim 22 = .ok (.iaload, 1) := by decide +kernel
theorem dX5_trim_23 : decode cX5_trim 23 = .ok (.iconst 1, 1) := by decide +kernel
theorem dX5_trim_24 : decode cX5_trim 24 = .ok (.isub, 1) := by decide +kernel
theorem dX5_trim_25 : decode cX5_trim 25 = .ok (.istore_n 3, 1) := by decide +kernel
theorem dX5_trim_26 : decode cX5_trim 26 = .ok (.iload_n 3, 1) := by decide +kernel
theorem dX5_trim_27 : decode cX5_trim 27 = .ok (.ifCond .lt 53, 3) := by decide +kernel
theorem dX5_trim_30 : decode cX5_trim 30 = .ok (.iload_n 2, 1) := by decide +kernel
theorem dX5_trim_31 : decode cX5_trim 31 = .ok (.ifCond .le 49, 3) := by decide +kernel
theorem dX5_trim_34 : decode cX5_trim 34 = .ok (.iload_n 2, 1) := by decide +kernel
theorem dX5_trim_35 : decode cX5_trim 35 = .ok (.aload_n 0, 1) := by decide +kernel
theorem dX5_trim_36 : decode cX5_trim 36 = .ok (.getfield 7, 3) := by decide +kernel
theorem dX5_trim_39 : decode cX5_trim 39 = .ok (.iload_n 1, 1) := by decide +kernel
theorem dX5_trim_40 : decode cX5_trim 40 = .ok (.iload_n 3, 1) := by decide +kernel
theorem dX5_trim_41 : decode cX5_trim 41 = .ok (.invokestatic 44, 3) := by decide +kernel
theorem dX5_trim_44 : decode cX5_trim 44 = .ok (.iconst 2, 1) := by decide +kernel
theorem dX5_trim_45 : decode cX5_trim 45 = .ok (.iadd, 1) := by decide +kernel
theorem dX5_trim_46 : decode cX5_trim 46 = .ok (.iaload, 1) := by decide +kernel
theorem dX5_trim_47 : decode cX5_trim 47 = .ok (.invokestatic 54, 3) := by decide +kernel
theorem dX5_trim_50 : decode cX5_trim 50 = .ok (.istore 4, 2) := by decide +kernel
theorem dX5_trim_52 : decode cX5_trim 52 = .ok (.aload_n 0, 1) := by decide +kernel
theorem dX5_trim_53 : decode cX5_trim 53 = .ok (.getfield 7, 3) := by decide +kernel
theorem dX5_trim_56 : decode cX5_trim 56 = .ok (.iload_n 1, 1) := by decide +kernel
theorem dX5_trim_57 : decode cX5_trim 57 = .ok (.iload_n 3, 1) := by decide +kernel
theorem dX5_trim_58 : decode cX5_trim 58 = .ok (.invokestatic 44, 3) := by decide +kernel
theorem dX5_trim_61 : decode cX5_trim 61 = .ok (.iconst 2, 1) := by decide +kernel
theorem dX5_trim_62 : decode cX5_trim 62 = .ok (.iadd, 1) := by decide +kernel
theorem dX5_trim_63 : decode cX5_trim 63 = .ok (.dup2, 1) := by decide +kernel
theorem dX5_trim_64 : decode cX5_trim 64 = .ok (.iaload, 1) := by decide +kernel
theorem dX5_trim_65 : decode cX5_trim 65 = .ok (.iload 4, 2) := by decide +kernel
theorem dX5_trim_67 : decode cX5_trim 67 = .ok (.isub, 1) := by decide +kernel
theorem dX5_trim_68 : decode cX5_trim 68 = .ok (.iastore, 1) := by decide +kernel
theorem dX5_trim_69 : decode cX5_trim 69 = .ok (.iload_n 2, 1) := by decide +kernel
theorem dX5_trim_70 : decode cX5_trim 70 = .ok (.iload 4, 2) := by decide +kernel
theorem dX5_trim_72 : decode cX5_trim 72 = .ok (.isub, 1) := by decide +kernel
theorem dX5_trim_73 : decode cX5_trim 73 = .ok (.istore_n 2, 1) := by decide +kernel
theorem dX5_trim_74 : decode cX5_trim 74 = .ok (.iinc 3 (-1), 3) := by decide +kernel
theorem dX5_trim_77 : decode cX5_trim 77 = .ok (.goto (-51), 3) := by decide +kernel
theorem dX5_trim_80 : decode cX5_trim 80 = .ok (.return_, 1) := by decide +kernel
set_option maxRecDepth 20000 in
theorem ggX5_bound_X5_at : GoodIn wsX5_bound wsX5_at := goodIn_r _ [5] (by decide +kernel) (by decide +kernel)
set_option maxRecDepth 20000 in
theorem gX5_bound_X5_at : GoodIn wsX5_bound (va_wsS RX5 40 yX5_at wsX5_at) := goodIn_app (goodIn_of _ (by decide +kernel)) ggX5_bound_X5_at
set_option maxRecDepth 20000 in
theorem ggX5_bound_X5_layerAt : GoodIn wsX5_bound wsX5_layerAt := goodIn_r _ [8, 2, 3, 4, 5] (by decide +kernel) (by decide +kernel)
set_option maxRecDepth 20000 in
theorem gX5_bound_X5_layerAt : GoodIn wsX5_bound (va_wsS RX5 44 yX5_layerAt wsX5_layerAt) := goodIn_app (goodIn_of _ (by decide +kernel)) ggX5_bound_X5_layerAt
theorem dX5_bound_0 : decode cX5_bound 0 = .ok (.iconst 0, 1) := by decide +kernel
theorem dX5_bound_1 : decode cX5_bound 1 = .ok (.istore_n 2, 1) := by decide +kernel
theorem dX5_bound_2 : decode cX5_bound 2 = .ok (.iconst 0, 1) := by decide +kernel
theorem dX5_bound_3 : decode cX5_bound 3 = .ok (.istore_n 3, 1) := by decide +kernel
theorem dX5_bound_4 : decode cX5_bound 4 = .ok (.iload_n 3, 1) := by decide +kernel
theorem dX5_bound_5 : decode cX5_bound 5 = .ok (.aload_n 0, 1) := by decide +kernel
theorem dX5_bound_6 : decode cX5_bound 6 = .ok (.getfield 7, 3) := by decide +kernel
theorem dX5_bound_9 : decode cX5_bound 9 = .ok (.iconst 0, 1) := by decide +kernel
theorem dX5_bound_10 : decode cX5_bound 10 = .ok (.iaload, 1) := by decide +kernel
theorem dX5_bound_11 : decode cX5_bound 11 = .ok (.if_icmp .ge 69, 3) := by decide +kernel
theorem dX5_bound_14 : decode cX5_bound 14 = .ok (.iconst 0, 1) := by decide +kernel
theorem dX5_bound_15 : decode cX5_bound 15 = .ok (.istore 4, 2) := by decide +kernel
theorem dX5_bound_17 : decode cX5_bound 17 = .ok (.iload 4, 2) := by decide +kernel
theorem dX5_bound_19 : decode cX5_bound 19 = .ok (.aload_n 0, 1) := by decide +kernel
theorem dX5_bound_20 : decode cX5_bound 20 = .ok (.getfield 7, 3) := by decide +kernel
theorem dX5_bound_23 : decode cX5_bound 23 = .ok (.iload_n 3, 1) := by decide +kernel
theorem dX5_bound_24 : decode cX5_bound 24 = .ok (.invokestatic 40, 3) := by decide +kernel
theorem dX5_bound_27 : decode cX5_bound 27 = .ok (.iconst 3, 1) := by decide +kernel
theorem dX5_bound_28 : decode cX5_bound 28 = .ok (.iadd, 1) := by decide +kernel
theorem dX5_bound_29 : decode cX5_bound 29 = .ok (.iaload, 1) := by decide +kernel
theorem dX5_bound_30 : decode cX5_bound 30 = .ok (.if_icmp .ge 44, 3) := by decide +kernel
theorem dX5_bound_33 : decode cX5_bound 33 = .ok (.iload_n 2, 1) := by decide +kernel
theorem dX5_bound_34 : decode cX5_bound 34 = .ok (.aload_n 0, 1) := by decide +kernel
theorem dX5_bound_35 : decode cX5_bound 35 = .ok (.getfield 7, 3) := by decide +kernel
theorem dX5_bound_38 : decode cX5_bound 38 = .ok (.iload_n 3, 1) := by decide +kernel
theorem dX5_bound_39 : decode cX5_bound 39 = .ok (.iload 4, 2) := by decide +kernel
theorem dX5_bound_41 : decode cX5_bound 41 = .ok (.invokestatic 44, 3) := by decide +kernel
theorem dX5_bound_44 : decode cX5_bound 44 = .ok (.iaload, 1) := by decide +kernel
theorem dX5_bound_45 : decode cX5_bound 45 = .ok (.iload_n 1, 1) := by decide +kernel
theorem dX5_bound_46 : decode cX5_bound 46 = .ok (.if_icmp .ne 19, 3) := by decide +kernel
theorem dX5_bound_49 : decode cX5_bound 49 = .ok (.aload_n 0, 1) := by decide +kernel
theorem dX5_bound_50 : decode cX5_bound 50 = .ok (.getfield 7, 3) := by decide +kernel
theorem dX5_bound_53 : decode cX5_bound 53 = .ok (.iload_n 3, 1) := by decide +kernel
theorem dX5_bound_54 : decode cX5_bound 54 = .ok (.iload 4, 2) := by decide +kernel
theorem dX5_bound_56 : decode cX5_bound 56 = .ok (.invokestatic 44, 3) := by decide +kernel
theorem dX5_bound_59 : decode cX5_bound 59 = .ok (.iconst 2, 1) := by decide +kernel
theorem dX5_bound_60 : decode cX5_bound 60 = .ok (.iadd, 1) := by decide +kernel
theorem dX5_bound_61 : decode cX5_bound 61 = .ok (.iaload, 1) := by decide +kernel
theorem dX5_bound_62 : decode cX5_bound 62 = .ok (.goto 4, 3) := by decide +kernel
theorem dX5_bound_65 : decode cX5_bound 65 = .ok (.iconst 0, 1) := by decide +kernel
theorem dX5_bound_66 : decode cX5_bound 66 = .ok (.iadd, 1) := by decide +kernel
theorem dX5_bound_67 : decode cX5_bound 67 = .ok (.istore_n 2, 1) := by decide +kernel
theorem dX5_bound_68 : decode cX5_bound 68 = .ok (.iinc 4 1, 3) := by decide +kernel
theorem dX5_bound_71 : decode cX5_bound 71 = .ok (.goto (-54), 3) := by decide +kernel
theorem dX5_bound_74 : decode cX5_bound 74 = .ok (.iinc 3 1, 3) := by decide +kernel
theorem dX5_bound_77 : decode cX5_bound 77 = .ok (.goto (-73), 3) := by decide +kernel
theorem dX5_bound_80 : decode cX5_bound 80 = .ok (.iload_n 2, 1) := by decide +kernel
theorem dX5_bound_81 : decode cX5_bound 81 = .ok (.ireturn, 1) := by decide +kernel
set_option maxRecDepth 20000 in
theorem ggX5_spareOf_X5_bound : GoodIn wsX5_spareOf wsX5_bound := goodIn_r _ [6, 1, 7, 8, 5, 9, 10, 11, 12, 13, 14, 15, 16, 17, 18, 19, 20, 21, 22, 23, 24, 25, 26] (by decide +kernel) (by decide +kernel)
set_option maxRecDepth 20000 in
theorem gX5_spareOf_X5_bound : GoodIn wsX5_spareOf (wsV RX5 57 RX5 yX5_bound wsX5_bound) := goodIn_app (goodIn_of _ (by decide +kernel)) ggX5_spareOf_X5_bound
theorem dX5_spareOf_0 : decode cX5_spareOf 0 = .ok (.aload_n 0, 1) := by decide +kernel
theorem dX5_spareOf_1 : decode cX5_spareOf 1 = .ok (.getfield 7, 3) := by decide +kernel
theorem dX5_spareOf_4 : decode cX5_spareOf 4 = .ok (.bipush 9, 2) := by decide +kernel
theorem dX5_spareOf_6 : decode cX5_spareOf 6 = .ok (.iload_n 1, 1) := by decide +kernel
theorem dX5_spareOf_7 : decode cX5_spareOf 7 = .ok (.iadd, 1) := by decide +kernel
theorem dX5_spareOf_8 : decode cX5_spareOf 8 = .ok (.iaload, 1) := by decide +kernel
theorem dX5_spareOf_9 : decode cX5_spareOf 9 = .ok (.aload_n 0, 1) := by decide +kernel
theorem dX5_spareOf_10 : decode cX5_spareOf 10 = .ok (.iload_n 1, 1) := by decide +kernel
theorem dX5_spareOf_11 : decode cX5_spareOf 11 = .ok (.invokevirtual 57, 3) := by decide +kernel
theorem dX5_spareOf_14 : decode cX5_spareOf 14 = .ok (.aload_n 0, 1) := by decide +kernel
theorem dX5_spareOf_15 : decode cX5_spareOf 15 = .ok (.getfield 7, 3) := by decide +kernel
theorem dX5_spareOf_18 : decode cX5_spareOf 18 = .ok (.bipush 7, 2) := by decide +kernel
theorem dX5_spareOf_20 : decode cX5_spareOf 20 = .ok (.iaload, 1) := by decide +kernel
theorem dX5_spareOf_21 : decode cX5_spareOf 21 = .ok (.imul, 1) := by decide +kernel
theorem dX5_spareOf_22 : decode cX5_spareOf 22 = .ok (.bipush 100, 2) := by decide +kernel
theorem dX5_spareOf_24 : decode cX5_spareOf 24 = .ok (.idiv, 1) := by decide +kernel
theorem dX5_spareOf_25 : decode cX5_spareOf 25 = .ok (.isub, 1) := by decide +kernel
theorem dX5_spareOf_26 : decode cX5_spareOf 26 = .ok (.istore_n 2, 1) := by decide +kernel
theorem dX5_spareOf_27 : decode cX5_spareOf 27 = .ok (.iload_n 2, 1) := by decide +kernel
theorem dX5_spareOf_28 : decode cX5_spareOf 28 = .ok (.ifCond .ge 7, 3) := by decide +kernel
theorem dX5_spareOf_31 : decode cX5_spareOf 31 = .ok (.iconst 0, 1) := by decide +kernel
theorem dX5_spareOf_32 : decode cX5_spareOf 32 = .ok (.goto 4, 3) := by decide +kernel
theorem dX5_spareOf_35 : decode cX5_spareOf 35 = .ok (.iload_n 2, 1) := by decide +kernel
theorem dX5_spareOf_36 : decode cX5_spareOf 36 = .ok (.ireturn, 1) := by decide +kernel
set_option maxRecDepth 20000 in
theorem ggX5_bring_X5_isPerson : GoodIn wsX5_bring wsX5_isPerson := goodIn_r _ [6, 7, 8, 5, 9] (by decide +kernel) (by decide +kernel)
set_option maxRecDepth 20000 in
theorem gX5_bring_X5_isPerson : GoodIn wsX5_bring (va_wsS RX5 60 yX5_isPerson wsX5_isPerson) := goodIn_app (goodIn_of _ (by decide +kernel)) ggX5_bring_X5_isPerson
set_option maxRecDepth 20000 in
theorem ggX5_bring_X5_fails : GoodIn wsX5_bring wsX5_fails := goodIn_r _ [13, 1, 24, 25, 26, 27, 28, 29, 30, 31, 32, 33, 34, 35, 36, 37] (by decide +kernel) (by decide +kernel)
set_option maxRecDepth 20000 in
theorem gX5_bring_X5_fails : GoodIn wsX5_bring (wsV RX5 64 RX5 yX5_fails wsX5_fails) := goodIn_app (goodIn_of _ (by decide +kernel)) ggX5_bring_X5_fails
set_option maxRecDepth 20000 in
theorem ggX5_bring_X5_isMoney : GoodIn wsX5_bring wsX5_isMoney := goodIn_r _ [16, 17, 7, 8, 5, 9] (by decide +kernel) (by decide +kernel)
set_option maxRecDepth 20000 in
theorem gX5_bring_X5_isMoney : GoodIn wsX5_bring (va_wsS RX5 67 yX5_isMoney wsX5_isMoney) := goodIn_app (goodIn_of _ (by decide +kernel)) ggX5_bring_X5_isMoney
set_option maxRecDepth 20000 in
theorem ggX5_bring_X5_save : GoodIn wsX5_bring wsX5_save := goodIn_r _ [21, 22, 23, 2, 24, 25, 26, 27, 28, 29, 30, 31, 32, 33, 34, 35, 36, 37] (by decide +kernel) (by decide +kernel)
set_option maxRecDepth 20000 in
theorem gX5_bring_X5_save : GoodIn wsX5_bring (wsV RX5 70 RX5 yX5_save wsX5_save) := goodIn_app (goodIn_of _ (by decide +kernel)) ggX5_bring_X5_save
theorem dX5_bring_0 : decode cX5_bring 0 = .ok (.aload_n 0, 1) := by decide +kernel
theorem dX5_bring_1 : decode cX5_bring 1 = .ok (.iconst 0, 1) := by decide +kernel
theorem dX5_bring_2 : decode cX5_bring 2 = .ok (.putfield 28, 3) := by decide +kernel
theorem dX5_bring_5 : decode cX5_bring 5 = .ok (.iload_n 1, 1) := by decide +kernel
theorem dX5_bring_6 : decode cX5_bring 6 = .ok (.invokestatic 60, 3) := by decide +kernel
theorem dX5_bring_9 : decode cX5_bring 9 = .ok (.ifCond .ne 9, 3) := by decide +kernel
theorem dX5_bring_12 : decode cX5_bring 12 = .ok (.aload_n 0, 1) := by decide +kernel
theorem dX5_bring_13 : decode cX5_bring 13 = .ok (.iconst 1, 1) := by decide +kernel
theorem dX5_bring_14 : decode cX5_bring 14 = .ok (.invokevirtual 64, 3) := by decide +kernel
theorem dX5_bring_17 : decode cX5_bring 17 = .ok (.ireturn, 1) := by decide +kernel
theorem dX5_bring_18 : decode cX5_bring 18 = .ok (.iload_n 2, 1) := by decide +kernel
theorem dX5_bring_19 : decode cX5_bring 19 = .ok (.invokestatic 67, 3) := by decide +kernel
theorem dX5_bring_22 : decode cX5_bring 22 = .ok (.ifCond .ne 9, 3) := by decide +kernel
theorem dX5_bring_25 : decode cX5_bring 25 = .ok (.aload_n 0, 1) := by decide +kernel
theorem dX5_bring_26 : decode cX5_bring 26 = .ok (.iconst 2, 1) := by decide +kernel
theorem dX5_bring_27 : decode cX5_bring 27 = .ok (.invokevirtual 64, 3) := by decide +kernel
theorem dX5_bring_30 : decode cX5_bring 30 = .ok (.ireturn, 1) := by decide +kernel
theorem dX5_bring_31 : decode cX5_bring 31 = .ok (.aload_n 0, 1) := by decide +kernel
theorem dX5_bring_32 : decode cX5_bring 32 = .ok (.invokevirtual 70, 3) := by decide +kernel
theorem dX5_bring_35 : decode cX5_bring 35 = .ok (.aload_n 0, 1) := by decide +kernel
theorem dX5_bring_36 : decode cX5_bring 36 = .ok (.getfield 7, 3) := by decide +kernel
theorem dX5_bring_39 : decode cX5_bring 39 = .ok (.bipush 9, 2) := by decide +kernel
theorem dX5_bring_41 : decode cX5_bring 41 = .ok (.iload_n 1, 1) := by decide +kernel
theorem dX5_bring_42 : decode cX5_bring 42 = .ok (.iadd, 1) := by decide +kernel
theorem dX5_bring_43 : decode cX5_bring 43 = .ok (.dup2, 1) := by decide +kernel
theorem dX5_bring_44 : decode cX5_bring 44 = .ok (.iaload, 1) := by decide +kernel
theorem dX5_bring_45 : decode cX5_bring 45 = .ok (.iload_n 2, 1) := by decide +kernel
theorem dX5_bring_46 : decode cX5_bring 46 = .ok (.iadd, 1) := by decide +kernel
theorem dX5_bring_47 : decode cX5_bring 47 = .ok (.iastore, 1) := by decide +kernel
theorem dX5_bring_48 : decode cX5_bring 48 = .ok (.aload_n 0, 1) := by decide +kernel
theorem dX5_bring_49 : decode cX5_bring 49 = .ok (.getfield 7, 3) := by decide +kernel
theorem dX5_bring_52 : decode cX5_bring 52 = .ok (.iconst 1, 1) := by decide +kernel
theorem dX5_bring_53 : decode cX5_bring 53 = .ok (.dup2, 1) := by decide +kernel
theorem dX5_bring_54 : decode cX5_bring 54 = .ok (.iaload, 1) := by decide +kernel
theorem dX5_bring_55 : decode cX5_bring 55 = .ok (.iload_n 2, 1) := by decide +kernel
theorem dX5_bring_56 : decode cX5_bring 56 = .ok (.iadd, 1) := by decide +kernel
theorem dX5_bring_57 : decode cX5_bring 57 = .ok (.iastore, 1) := by decide +kernel
theorem dX5_bring_58 : decode cX5_bring 58 = .ok (.aload_n 0, 1) := by decide +kernel
theorem dX5_bring_59 : decode cX5_bring 59 = .ok (.getfield 7, 3) := by decide +kernel
theorem dX5_bring_62 : decode cX5_bring 62 = .ok (.bipush 9, 2) := by decide +kernel
theorem dX5_bring_64 : decode cX5_bring 64 = .ok (.iload_n 1, 1) := by decide +kernel
theorem dX5_bring_65 : decode cX5_bring 65 = .ok (.iadd, 1) := by decide +kernel
theorem dX5_bring_66 : decode cX5_bring 66 = .ok (.iaload, 1) := by decide +kernel
theorem dX5_bring_67 : decode cX5_bring 67 = .ok (.ireturn, 1) := by decide +kernel
set_option maxRecDepth 20000 in
theorem ggX5_takeOut_X5_isPerson : GoodIn wsX5_takeOut wsX5_isPerson := goodIn_r _ [6, 7, 8, 5, 9] (by decide +kernel) (by decide +kernel)
set_option maxRecDepth 20000 in
theorem gX5_takeOut_X5_isPerson : GoodIn wsX5_takeOut (va_wsS RX5 60 yX5_isPerson wsX5_isPerson) := goodIn_app (goodIn_of _ (by decide +kernel)) ggX5_takeOut_X5_isPerson
set_option maxRecDepth 20000 in
theorem ggX5_takeOut_X5_fails : GoodIn wsX5_takeOut wsX5_fails := goodIn_r _ [13, 1, 38, 39, 40, 41, 42, 43, 44, 45, 46, 47, 48, 49, 50, 51] (by decide +kernel) (by decide +kernel)
set_option maxRecDepth 20000 in
theorem gX5_takeOut_X5_fails : GoodIn wsX5_takeOut (wsV RX5 64 RX5 yX5_fails wsX5_fails) := goodIn_app (goodIn_of _ (by decide +kernel)) ggX5_takeOut_X5_fails
set_option maxRecDepth 20000 in
theorem ggX5_takeOut_X5_isMoney : GoodIn wsX5_takeOut wsX5_isMoney := goodIn_r _ [16, 17, 7, 8, 5, 9] (by decide +kernel) (by decide +kernel)
set_option maxRecDepth 20000 in
theorem gX5_takeOut_X5_isMoney : GoodIn wsX5_takeOut (va_wsS RX5 67 yX5_isMoney wsX5_isMoney) := goodIn_app (goodIn_of _ (by decide +kernel)) ggX5_takeOut_X5_isMoney
set_option maxRecDepth 20000 in
theorem ggX5_takeOut_X5_spareOf : GoodIn wsX5_takeOut wsX5_spareOf := goodIn_r _ [21, 2, 22, 23, 24, 5, 25, 26, 27, 28, 29, 30, 31, 38, 39, 40, 41, 42, 43, 44, 45, 46, 47, 48, 49, 50, 51] (by decide +kernel) (by decide +kernel)
set_option maxRecDepth 20000 in
theorem gX5_takeOut_X5_spareOf : GoodIn wsX5_takeOut (wsV RX5 73 RX5 yX5_spareOf wsX5_spareOf) := goodIn_app (goodIn_of _ (by decide +kernel)) ggX5_takeOut_X5_spareOf
set_option maxRecDepth 20000 in
theorem ggX5_takeOut_X5_save : GoodIn wsX5_takeOut wsX5_save := goodIn_r _ [35, 36, 37, 2, 38, 39, 40, 41, 42, 43, 44, 45, 46, 47, 48, 49, 50, 51] (by decide +kernel) (by decide +kernel)
set_option maxRecDepth 20000 in
theorem gX5_takeOut_X5_save : GoodIn wsX5_takeOut (wsV RX5 70 RX5 yX5_save wsX5_save) := goodIn_app (goodIn_of _ (by decide +kernel)) ggX5_takeOut_X5_save
theorem dX5_takeOut_0 : decode cX5_takeOut 0 = .ok (.aload_n 0, 1) := by decide +kernel
theorem dX5_takeOut_1 : decode cX5_takeOut 1 = .ok (.iconst 0, 1) := by decide +kernel
theorem dX5_takeOut_2 : decode cX5_takeOut 2 = .ok (.putfield 28, 3) := by decide +kernel
theorem dX5_takeOut_5 : decode cX5_takeOut 5 = .ok (.iload_n 1, 1) := by decide +kernel
theorem dX5_takeOut_6 : decode cX5_takeOut 6 = .ok (.invokestatic 60, 3) := by decide +kernel
theorem dX5_takeOut_9 : decode cX5_takeOut 9 = .ok (.ifCond .ne 9, 3) := by decide +kernel
theorem dX5_takeOut_12 : decode cX5_takeOut 12 = .ok (.aload_n 0, 1) := by decide +kernel
theorem dX5_takeOut_13 : decode cX5_takeOut 13 = .ok (.iconst 1, 1) := by decide +kernel
theorem dX5_takeOut_14 : decode cX5_takeOut 14 = .ok (.invokevirtual 64, 3) := by decide +kernel
theorem dX5_takeOut_17 : decode cX5_takeOut 17 = .ok (.ireturn, 1) := by decide +kernel
theorem dX5_takeOut_18 : decode cX5_takeOut 18 = .ok (.iload_n 2, 1) := by decide +kernel
theorem dX5_takeOut_19 : decode cX5_takeOut 19 = .ok (.invokestatic 67, 3) := by decide +kernel
theorem dX5_takeOut_22 : decode cX5_takeOut 22 = .ok (.ifCond .ne 9, 3) := by decide +kernel
theorem dX5_takeOut_25 : decode cX5_takeOut 25 = .ok (.aload_n 0, 1) := by decide +kernel
theorem dX5_takeOut_26 : decode cX5_takeOut 26 = .ok (.iconst 2, 1) := by decide +kernel
theorem dX5_takeOut_27 : decode cX5_takeOut 27 = .ok (.invokevirtual 64, 3) := by decide +kernel
theorem dX5_takeOut_30 : decode cX5_takeOut 30 = .ok (.ireturn, 1) := by decide +kernel
theorem dX5_takeOut_31 : decode cX5_takeOut 31 = .ok (.iload_n 2, 1) := by decide +kernel
theorem dX5_takeOut_32 : decode cX5_takeOut 32 = .ok (.aload_n 0, 1) := by decide +kernel
theorem dX5_takeOut_33 : decode cX5_takeOut 33 = .ok (.iload_n 1, 1) := by decide +kernel
theorem dX5_takeOut_34 : decode cX5_takeOut 34 = .ok (.invokevirtual 73, 3) := by decide +kernel
theorem dX5_takeOut_37 : decode cX5_takeOut 37 = .ok (.if_icmp .le 9, 3) := by decide +kernel
theorem dX5_takeOut_40 : decode cX5_takeOut 40 = .ok (.aload_n 0, 1) := by decide +kernel
theorem dX5_takeOut_41 : decode cX5_takeOut 41 = .ok (.iconst 3, 1) := by decide +kernel
theorem dX5_takeOut_42 : decode cX5_takeOut 42 = .ok (.invokevirtual 64, 3) := by decide +kernel
theorem dX5_takeOut_45 : decode cX5_takeOut 45 = .ok (.ireturn, 1) := by decide +kernel
theorem dX5_takeOut_46 : decode cX5_takeOut 46 = .ok (.aload_n 0, 1) := by decide +kernel
theorem dX5_takeOut_47 : decode cX5_takeOut 47 = .ok (.invokevirtual 70, 3) := by decide +kernel
theorem dX5_takeOut_50 : decode cX5_takeOut 50 = .ok (.aload_n 0, 1) := by decide +kernel
theorem dX5_takeOut_51 : decode cX5_takeOut 51 = .ok (.getfield 7, 3) := by decide +kernel
theorem dX5_takeOut_54 : decode cX5_takeOut 54 = .ok (.bipush 9, 2) := by decide +kernel
theorem dX5_takeOut_56 : decode cX5_takeOut 56 = .ok (.iload_n 1, 1) := by decide +kernel
theorem dX5_takeOut_57 : decode cX5_takeOut 57 = .ok (.iadd, 1) := by decide +kernel
theorem dX5_takeOut_58 : decode cX5_takeOut 58 = .ok (.dup2, 1) := by decide +kernel
theorem dX5_takeOut_59 : decode cX5_takeOut 59 = .ok (.iaload, 1) := by decide +kernel
theorem dX5_takeOut_60 : decode cX5_takeOut 60 = .ok (.iload_n 2, 1) := by decide +kernel
theorem dX5_takeOut_61 : decode cX5_takeOut 61 = .ok (.isub, 1) := by decide +kernel
theorem dX5_takeOut_62 : decode cX5_takeOut 62 = .ok (.iastore, 1) := by decide +kernel
theorem dX5_takeOut_63 : decode cX5_takeOut 63 = .ok (.aload_n 0, 1) := by decide +kernel
theorem dX5_takeOut_64 : decode cX5_takeOut 64 = .ok (.getfield 7, 3) := by decide +kernel
theorem dX5_takeOut_67 : decode cX5_takeOut 67 = .ok (.iconst 1, 1) := by decide +kernel
theorem dX5_takeOut_68 : decode cX5_takeOut 68 = .ok (.dup2, 1) := by decide +kernel
theorem dX5_takeOut_69 : decode cX5_takeOut 69 = .ok (.iaload, 1) := by decide +kernel
theorem dX5_takeOut_70 : decode cX5_takeOut 70 = .ok (.iload_n 2, 1) := by decide +kernel
theorem dX5_takeOut_71 : decode cX5_takeOut 71 = .ok (.isub, 1) := by decide +kernel
theorem dX5_takeOut_72 : decode cX5_takeOut 72 = .ok (.iastore, 1) := by decide +kernel
theorem dX5_takeOut_73 : decode cX5_takeOut 73 = .ok (.aload_n 0, 1) := by decide +kernel
theorem dX5_takeOut_74 : decode cX5_takeOut 74 = .ok (.getfield 7, 3) := by decide +kernel
theorem dX5_takeOut_77 : decode cX5_takeOut 77 = .ok (.bipush 9, 2) := by decide +kernel
theorem dX5_takeOut_79 : decode cX5_takeOut 79 = .ok (.iload_n 1, 1) := by decide +kernel
theorem dX5_takeOut_80 : decode cX5_takeOut 80 = .ok (.iadd, 1) := by decide +kernel
theorem dX5_takeOut_81 : decode cX5_takeOut 81 = .ok (.iaload, 1) := by decide +kernel
theorem dX5_takeOut_82 : decode cX5_takeOut 82 = .ok (.ireturn, 1) := by decide +kernel
theorem dX5_isIn_0 : decode cX5_isIn 0 = .ok (.iload_n 2, 1) := by decide +kernel
theorem dX5_isIn_1 : decode cX5_isIn 1 = .ok (.istore_n 3, 1) := by decide +kernel
theorem dX5_isIn_2 : decode cX5_isIn 2 = .ok (.iconst 0, 1) := by decide +kernel
theorem dX5_isIn_3 : decode cX5_isIn 3 = .ok (.istore 4, 2) := by decide +kernel
theorem dX5_isIn_5 : decode cX5_isIn 5 = .ok (.iconst 0, 1) := by decide +kernel
theorem dX5_isIn_6 : decode cX5_isIn 6 = .ok (.istore 5, 2) := by decide +kernel
theorem dX5_isIn_8 : decode cX5_isIn 8 = .ok (.iload 5, 2) := by decide +kernel
theorem dX5_isIn_10 : decode cX5_isIn 10 = .ok (.bipush 8, 2) := by decide +kernel
theorem dX5_isIn_12 : decode cX5_isIn 12 = .ok (.if_icmp .ge 41, 3) := by decide +kernel
theorem dX5_isIn_15 : decode cX5_isIn 15 = .ok (.iload_n 3, 1) := by decide +kernel
theorem dX5_isIn_16 : decode cX5_isIn 16 = .ok (.iconst (-1), 1) := by decide +kernel
theorem dX5_isIn_17 : decode cX5_isIn 17 = .ok (.if_icmp .eq 36, 3) := by decide +kernel
theorem dX5_isIn_20 : decode cX5_isIn 20 = .ok (.iload 4, 2) := by decide +kernel
theorem dX5_isIn_22 : decode cX5_isIn 22 = .ok (.ifCond .ne 8, 3) := by decide +kernel
theorem dX5_isIn_25 : decode cX5_isIn 25 = .ok (.iload_n 3, 1) := by decide +kernel
theorem dX5_isIn_26 : decode cX5_isIn 26 = .ok (.iload_n 1, 1) := by decide +kernel
theorem dX5_isIn_27 : decode cX5_isIn 27 = .ok (.if_icmp .ne 7, 3) := by decide +kernel
theorem dX5_isIn_30 : decode cX5_isIn 30 = .ok (.iconst 1, 1) := by decide +kernel
theorem dX5_isIn_31 : decode cX5_isIn 31 = .ok (.goto 4, 3) := by decide +kernel
theorem dX5_isIn_34 : decode cX5_isIn 34 = .ok (.iconst 0, 1) := by decide +kernel
theorem dX5_isIn_35 : decode cX5_isIn 35 = .ok (.istore 4, 2) := by decide +kernel
theorem dX5_isIn_37 : decode cX5_isIn 37 = .ok (.aload_n 0, 1) := by decide +kernel
theorem dX5_isIn_38 : decode cX5_isIn 38 = .ok (.getfield 7, 3) := by decide +kernel
theorem dX5_isIn_41 : decode cX5_isIn 41 = .ok (.bipush 17, 2) := by decide +kernel
theorem dX5_isIn_43 : decode cX5_isIn 43 = .ok (.iload_n 3, 1) := by decide +kernel
theorem dX5_isIn_44 : decode cX5_isIn 44 = .ok (.iadd, 1) := by decide +kernel
theorem dX5_isIn_45 : decode cX5_isIn 45 = .ok (.iaload, 1) := by decide +kernel
theorem dX5_isIn_46 : decode cX5_isIn 46 = .ok (.istore_n 3, 1) := by decide +kernel
theorem dX5_isIn_47 : decode cX5_isIn 47 = .ok (.iinc 5 1, 3) := by decide +kernel
theorem dX5_isIn_50 : decode cX5_isIn 50 = .ok (.goto (-42), 3) := by decide +kernel
theorem dX5_isIn_53 : decode cX5_isIn 53 = .ok (.iload 4, 2) := by decide +kernel
theorem dX5_isIn_55 : decode cX5_isIn 55 = .ok (.ireturn, 1) := by decide +kernel
set_option maxRecDepth 20000 in
theorem ggX5_guarantee_X5_isPerson : GoodIn wsX5_guarantee wsX5_isPerson := goodIn_r _ [6, 7, 8, 5, 9] (by decide +kernel) (by decide +kernel)
set_option maxRecDepth 20000 in
theorem gX5_guarantee_X5_isPerson : GoodIn wsX5_guarantee (va_wsS RX5 60 yX5_isPerson wsX5_isPerson) := goodIn_app (goodIn_of _ (by decide +kernel)) ggX5_guarantee_X5_isPerson
set_option maxRecDepth 20000 in
theorem ggX5_guarantee_X5_fails : GoodIn wsX5_guarantee wsX5_fails := goodIn_r _ [13, 1, 24, 25, 26, 27, 28, 29, 30, 31, 32, 33, 34, 35, 36, 37] (by decide +kernel) (by decide +kernel)
set_option maxRecDepth 20000 in
theorem gX5_guarantee_X5_fails : GoodIn wsX5_guarantee (wsV RX5 64 RX5 yX5_fails wsX5_fails) := goodIn_app (goodIn_of _ (by decide +kernel)) ggX5_guarantee_X5_fails
set_option maxRecDepth 20000 in
theorem ggX5_guarantee_X5_in : GoodIn wsX5_guarantee wsX5_in := goodIn_r _ [9] (by decide +kernel) (by decide +kernel)
set_option maxRecDepth 20000 in
theorem gX5_guarantee_X5_in : GoodIn wsX5_guarantee (va_wsS RX5 35 yX5_in wsX5_in) := goodIn_app (goodIn_of _ (by decide +kernel)) ggX5_guarantee_X5_in
set_option maxRecDepth 20000 in
theorem ggX5_guarantee_X5_isIn : GoodIn wsX5_guarantee wsX5_isIn := goodIn_r _ [17, 2, 24, 25, 26, 27, 28, 29, 30, 31, 32, 33, 34, 35, 36, 37] (by decide +kernel) (by decide +kernel)
set_option maxRecDepth 20000 in
theorem gX5_guarantee_X5_isIn : GoodIn wsX5_guarantee (wsV RX5 76 RX5 yX5_isIn wsX5_isIn) := goodIn_app (goodIn_of _ (by decide +kernel)) ggX5_guarantee_X5_isIn
set_option maxRecDepth 20000 in
theorem ggX5_guarantee_X5_save : GoodIn wsX5_guarantee wsX5_save := goodIn_r _ [21, 22, 23, 2, 24, 25, 26, 27, 28, 29, 30, 31, 32, 33, 34, 35, 36, 37] (by decide +kernel) (by decide +kernel)
set_option maxRecDepth 20000 in
theorem gX5_guarantee_X5_save : GoodIn wsX5_guarantee (wsV RX5 70 RX5 yX5_save wsX5_save) := goodIn_app (goodIn_of _ (by decide +kernel)) ggX5_guarantee_X5_save
theorem dX5_guarantee_0 : decode cX5_guarantee 0 = .ok (.aload_n 0, 1) := by decide +kernel
theorem dX5_guarantee_1 : decode cX5_guarantee 1 = .ok (.iconst 0, 1) := by decide +kernel
theorem dX5_guarantee_2 : decode cX5_guarantee 2 = .ok (.putfield 28, 3) := by decide +kernel
theorem dX5_guarantee_5 : decode cX5_guarantee 5 = .ok (.iload_n 1, 1) := by decide +kernel
theorem dX5_guarantee_6 : decode cX5_guarantee 6 = .ok (.invokestatic 60, 3) := by decide +kernel
theorem dX5_guarantee_9 : decode cX5_guarantee 9 = .ok (.ifCond .eq 15, 3) := by decide +kernel
theorem dX5_guarantee_12 : decode cX5_guarantee 12 = .ok (.iload_n 2, 1) := by decide +kernel
theorem dX5_guarantee_13 : decode cX5_guarantee 13 = .ok (.iconst (-1), 1) := by decide +kernel
theorem dX5_guarantee_14 : decode cX5_guarantee 14 = .ok (.if_icmp .eq 16, 3) := by decide +kernel
theorem dX5_guarantee_17 : decode cX5_guarantee 17 = .ok (.iload_n 2, 1) := by decide +kernel
theorem dX5_guarantee_18 : decode cX5_guarantee 18 = .ok (.invokestatic 60, 3) := by decide +kernel
theorem dX5_guarantee_21 : decode cX5_guarantee 21 = .ok (.ifCond .ne 9, 3) := by decide +kernel
theorem dX5_guarantee_24 : decode cX5_guarantee 24 = .ok (.aload_n 0, 1) := by decide +kernel
theorem dX5_guarantee_25 : decode cX5_guarantee 25 = .ok (.iconst 1, 1) := by decide +kernel
theorem dX5_guarantee_26 : decode cX5_guarantee 26 = .ok (.invokevirtual 64, 3) := by decide +kernel
theorem dX5_guarantee_29 : decode cX5_guarantee 29 = .ok (.ireturn, 1) := by decide +kernel
theorem dX5_guarantee_30 : decode cX5_guarantee 30 = .ok (.iload_n 2, 1) := by decide +kernel
theorem dX5_guarantee_31 : decode cX5_guarantee 31 = .ok (.iconst (-1), 1) := by decide +kernel
theorem dX5_guarantee_32 : decode cX5_guarantee 32 = .ok (.if_icmp .eq 19, 3) := by decide +kernel
theorem dX5_guarantee_35 : decode cX5_guarantee 35 = .ok (.iload_n 3, 1) := by decide +kernel
theorem dX5_guarantee_36 : decode cX5_guarantee 36 = .ok (.iconst 1, 1) := by decide +kernel
theorem dX5_guarantee_37 : decode cX5_guarantee 37 = .ok (.bipush 100, 2) := by decide +kernel
theorem dX5_guarantee_39 : decode cX5_guarantee 39 = .ok (.invokestatic 35, 3) := by decide +kernel
theorem dX5_guarantee_42 : decode cX5_guarantee 42 = .ok (.ifCond .ne 9, 3) := by decide +kernel
theorem dX5_guarantee_45 : decode cX5_guarantee 45 = .ok (.aload_n 0, 1) := by decide +kernel
theorem dX5_guarantee_46 : decode cX5_guarantee 46 = .ok (.iconst 2, 1) := by decide +kernel
theorem dX5_guarantee_47 : decode cX5_guarantee 47 = .ok (.invokevirtual 64, 3) := by decide +kernel
theorem dX5_guarantee_50 : decode cX5_guarantee 50 = .ok (.ireturn, 1) := by decide +kernel
theorem dX5_guarantee_51 : decode cX5_guarantee 51 = .ok (.aload_n 0, 1) := by decide +kernel
theorem dX5_guarantee_52 : decode cX5_guarantee 52 = .ok (.iload_n 1, 1) := by decide +kernel
theorem dX5_guarantee_53 : decode cX5_guarantee 53 = .ok (.iload_n 2, 1) := by decide +kernel
theorem dX5_guarantee_54 : decode cX5_guarantee 54 = .ok (.invokevirtual 76, 3) := by decide +kernel
theorem dX5_guarantee_57 : decode cX5_guarantee 57 = .ok (.ifCond .eq 9, 3) := by decide +kernel
theorem dX5_guarantee_60 : decode cX5_guarantee 60 = .ok (.aload_n 0, 1) := by decide +kernel
theorem dX5_guarantee_61 : decode cX5_guarantee 61 = .ok (.iconst 3, 1) := by decide +kernel
theorem dX5_guarantee_62 : decode cX5_guarantee 62 = .ok (.invokevirtual 64, 3) := by decide +kernel
theorem dX5_guarantee_65 : decode cX5_guarantee 65 = .ok (.ireturn, 1) := by decide +kernel
theorem dX5_guarantee_66 : decode cX5_guarantee 66 = .ok (.aload_n 0, 1) := by decide +kernel
theorem dX5_guarantee_67 : decode cX5_guarantee 67 = .ok (.invokevirtual 70, 3) := by decide +kernel
theorem dX5_guarantee_70 : decode cX5_guarantee 70 = .ok (.aload_n 0, 1) := by decide +kernel
theorem dX5_guarantee_71 : decode cX5_guarantee 71 = .ok (.getfield 7, 3) := by decide +kernel
theorem dX5_guarantee_74 : decode cX5_guarantee 74 = .ok (.bipush 17, 2) := by decide +kernel
theorem dX5_guarantee_76 : decode cX5_guarantee 76 = .ok (.iload_n 1, 1) := by decide +kernel
theorem dX5_guarantee_77 : decode cX5_guarantee 77 = .ok (.iadd, 1) := by decide +kernel
theorem dX5_guarantee_78 : decode cX5_guarantee 78 = .ok (.iaload, 1) := by decide +kernel
theorem dX5_guarantee_79 : decode cX5_guarantee 79 = .ok (.istore 4, 2) := by decide +kernel
theorem dX5_guarantee_81 : decode cX5_guarantee 81 = .ok (.aload_n 0, 1) := by decide +kernel
theorem dX5_guarantee_82 : decode cX5_guarantee 82 = .ok (.getfield 7, 3) := by decide +kernel
theorem dX5_guarantee_85 : decode cX5_guarantee 85 = .ok (.bipush 17, 2) := by decide +kernel
theorem dX5_guarantee_87 : decode cX5_guarantee 87 = .ok (.iload_n 1, 1) := by decide +kernel
theorem dX5_guarantee_88 : decode cX5_guarantee 88 = .ok (.iadd, 1) := by decide +kernel
theorem dX5_guarantee_89 : decode cX5_guarantee 89 = .ok (.iload_n 2, 1) := by decide +kernel
theorem dX5_guarantee_90 : decode cX5_guarantee 90 = .ok (.iastore, 1) := by decide +kernel
theorem dX5_guarantee_91 : decode cX5_guarantee 91 = .ok (.aload_n 0, 1) := by decide +kernel
theorem dX5_guarantee_92 : decode cX5_guarantee 92 = .ok (.getfield 7, 3) := by decide +kernel
theorem dX5_guarantee_95 : decode cX5_guarantee 95 = .ok (.bipush 25, 2) := by decide +kernel
theorem dX5_guarantee_97 : decode cX5_guarantee 97 = .ok (.iload_n 1, 1) := by decide +kernel
theorem dX5_guarantee_98 : decode cX5_guarantee 98 = .ok (.iadd, 1) := by decide +kernel
theorem dX5_guarantee_99 : decode cX5_guarantee 99 = .ok (.iload_n 2, 1) := by decide +kernel
theorem dX5_guarantee_100 : decode cX5_guarantee 100 = .ok (.iconst (-1), 1) := by decide +kernel
theorem dX5_guarantee_101 : decode cX5_guarantee 101 = .ok (.if_icmp .ne 7, 3) := by decide +kernel
theorem dX5_guarantee_104 : decode cX5_guarantee 104 = .ok (.iconst 0, 1) := by decide +kernel
theorem dX5_guarantee_105 : decode cX5_guarantee 105 = .ok (.goto 4, 3) := by decide +kernel
theorem dX5_guarantee_108 : decode cX5_guarantee 108 = .ok (.iload_n 3, 1) := by decide +kernel
theorem dX5_guarantee_109 : decode cX5_guarantee 109 = .ok (.iastore, 1) := by decide +kernel
theorem dX5_guarantee_110 : decode cX5_guarantee 110 = .ok (.iload 4, 2) := by decide +kernel
theorem dX5_guarantee_112 : decode cX5_guarantee 112 = .ok (.ireturn, 1) := by decide +kernel
set_option maxRecDepth 20000 in
theorem ggX5_repay_X5_isPerson : GoodIn wsX5_repay wsX5_isPerson := goodIn_r _ [6, 7, 8, 5, 9] (by decide +kernel) (by decide +kernel)
set_option maxRecDepth 20000 in
theorem gX5_repay_X5_isPerson : GoodIn wsX5_repay (va_wsS RX5 60 yX5_isPerson wsX5_isPerson) := goodIn_app (goodIn_of _ (by decide +kernel)) ggX5_repay_X5_isPerson
set_option maxRecDepth 20000 in
theorem ggX5_repay_X5_fails : GoodIn wsX5_repay wsX5_fails := goodIn_r _ [13, 1, 27, 28, 29, 30, 31, 32, 33, 34, 35, 36, 37, 38, 39, 40] (by decide +kernel) (by decide +kernel)
set_option maxRecDepth 20000 in
theorem gX5_repay_X5_fails : GoodIn wsX5_repay (wsV RX5 64 RX5 yX5_fails wsX5_fails) := goodIn_app (goodIn_of _ (by decide +kernel)) ggX5_repay_X5_fails
set_option maxRecDepth 20000 in
theorem ggX5_repay_X5_isMoney : GoodIn wsX5_repay wsX5_isMoney := goodIn_r _ [16, 17, 7, 8, 5, 9] (by decide +kernel) (by decide +kernel)
set_option maxRecDepth 20000 in
theorem gX5_repay_X5_isMoney : GoodIn wsX5_repay (va_wsS RX5 67 yX5_isMoney wsX5_isMoney) := goodIn_app (goodIn_of _ (by decide +kernel)) ggX5_repay_X5_isMoney
set_option maxRecDepth 20000 in
theorem ggX5_repay_X5_debtAt : GoodIn wsX5_repay wsX5_debtAt := goodIn_r _ [20] (by decide +kernel) (by decide +kernel)
set_option maxRecDepth 20000 in
theorem gX5_repay_X5_debtAt : GoodIn wsX5_repay (va_wsS RX5 80 yX5_debtAt wsX5_debtAt) := goodIn_app (goodIn_of _ (by decide +kernel)) ggX5_repay_X5_debtAt
set_option maxRecDepth 20000 in
theorem ggX5_repay_X5_save : GoodIn wsX5_repay wsX5_save := goodIn_r _ [24, 25, 26, 2, 27, 28, 29, 30, 31, 32, 33, 34, 35, 36, 37, 38, 39, 40] (by decide +kernel) (by decide +kernel)
set_option maxRecDepth 20000 in
theorem gX5_repay_X5_save : GoodIn wsX5_repay (wsV RX5 70 RX5 yX5_save wsX5_save) := goodIn_app (goodIn_of _ (by decide +kernel)) ggX5_repay_X5_save
theorem dX5_repay_0 : decode cX5_repay 0 = .ok (.aload_n 0, 1) := by decide +kernel
theorem dX5_repay_1 : decode cX5_repay 1 = .ok (.iconst 0, 1) := by decide +kernel
theorem dX5_repay_2 : decode cX5_repay 2 = .ok (.putfield 28, 3) := by decide +kernel
theorem dX5_repay_5 : decode cX5_repay 5 = .ok (.iload_n 1, 1) := by decide +kernel
theorem dX5_repay_6 : decode cX5_repay 6 = .ok (.invokestatic 60, 3) := by decide +kernel
theorem dX5_repay_9 : decode cX5_repay 9 = .ok (.ifCond .eq 10, 3) := by decide +kernel
theorem dX5_repay_12 : decode cX5_repay 12 = .ok (.iload_n 2, 1) := by decide +kernel
theorem dX5_repay_13 : decode cX5_repay 13 = .ok (.invokestatic 60, 3) := by decide +kernel
theorem dX5_repay_16 : decode cX5_repay 16 = .ok (.ifCond .ne 9, 3) := by decide +kernel
theorem dX5_repay_19 : decode cX5_repay 19 = .ok (.aload_n 0, 1) := by decide +kernel
theorem dX5_repay_20 : decode cX5_repay 20 = .ok (.iconst 1, 1) := by decide +kernel
theorem dX5_repay_21 : decode cX5_repay 21 = .ok (.invokevirtual 64, 3) := by decide +kernel
theorem dX5_repay_24 : decode cX5_repay 24 = .ok (.ireturn, 1) := by decide +kernel
theorem dX5_repay_25 : decode cX5_repay 25 = .ok (.iload_n 3, 1) := by decide +kernel
theorem dX5_repay_26 : decode cX5_repay 26 = .ok (.invokestatic 67, 3) := by decide +kernel
theorem dX5_repay_29 : decode cX5_repay 29 = .ok (.ifCond .ne 9, 3) := by decide +kernel
theorem dX5_repay_32 : decode cX5_repay 32 = .ok (.aload_n 0, 1) := by decide +kernel
theorem dX5_repay_33 : decode cX5_repay 33 = .ok (.iconst 2, 1) := by decide +kernel
theorem dX5_repay_34 : decode cX5_repay 34 = .ok (.invokevirtual 64, 3) := by decide +kernel
theorem dX5_repay_37 : decode cX5_repay 37 = .ok (.ireturn, 1) := by decide +kernel
theorem dX5_repay_38 : decode cX5_repay 38 = .ok (.aload_n 0, 1) := by decide +kernel
theorem dX5_repay_39 : decode cX5_repay 39 = .ok (.getfield 7, 3) := by decide +kernel
theorem dX5_repay_42 : decode cX5_repay 42 = .ok (.iload_n 1, 1) := by decide +kernel
theorem dX5_repay_43 : decode cX5_repay 43 = .ok (.iload_n 2, 1) := by decide +kernel
theorem dX5_repay_44 : decode cX5_repay 44 = .ok (.invokestatic 80, 3) := by decide +kernel
theorem dX5_repay_47 : decode cX5_repay 47 = .ok (.iaload, 1) := by decide +kernel
theorem dX5_repay_48 : decode cX5_repay 48 = .ok (.iload_n 3, 1) := by decide +kernel
theorem dX5_repay_49 : decode cX5_repay 49 = .ok (.if_icmp .lt 16, 3) := by decide +kernel
theorem dX5_repay_52 : decode cX5_repay 52 = .ok (.aload_n 0, 1) := by decide +kernel
theorem dX5_repay_53 : decode cX5_repay 53 = .ok (.getfield 7, 3) := by decide +kernel
theorem dX5_repay_56 : decode cX5_repay 56 = .ok (.bipush 9, 2) := by decide +kernel
theorem dX5_repay_58 : decode cX5_repay 58 = .ok (.iload_n 1, 1) := by decide +kernel
theorem dX5_repay_59 : decode cX5_repay 59 = .ok (.iadd, 1) := by decide +kernel
theorem dX5_repay_60 : decode cX5_repay 60 = .ok (.iaload, 1) := by decide +kernel
theorem dX5_repay_61 : decode cX5_repay 61 = .ok (.iload_n 3, 1) := by decide +kernel
theorem dX5_repay_62 : decode cX5_repay 62 = .ok (.if_icmp .ge 9, 3) := by decide +kernel
theorem dX5_repay_65 : decode cX5_repay 65 = .ok (.aload_n 0, 1) := by decide +kernel
theorem dX5_repay_66 : decode cX5_repay 66 = .ok (.iconst 3, 1) := by decide +kernel
theorem dX5_repay_67 : decode cX5_repay 67 = .ok (.invokevirtual 64, 3) := by decide +kernel
theorem dX5_repay_70 : decode cX5_repay 70 = .ok (.ireturn, 1) := by decide +kernel
theorem dX5_repay_71 : decode cX5_repay 71 = .ok (.aload_n 0, 1) := by decide +kernel
theorem dX5_repay_72 : decode cX5_repay 72 = .ok (.invokevirtual 70, 3) := by decide +kernel
theorem dX5_repay_75 : decode cX5_repay 75 = .ok (.aload_n 0, 1) := by decide +kernel
theorem dX5_repay_76 : decode cX5_repay 76 = .ok (.getfield 7, 3) := by decide +kernel
theorem dX5_repay_79 : decode cX5_repay 79 = .ok (.bipush 9, 2) := by decide +kernel
theorem dX5_repay_81 : decode cX5_repay 81 = .ok (.iload_n 1, 1) := by decide +kernel
theorem dX5_repay_82 : decode cX5_repay 82 = .ok (.iadd, 1) := by decide +kernel
theorem dX5_repay_83 : decode cX5_repay 83 = .ok (.dup2, 1) := by decide +kernel
theorem dX5_repay_84 : decode cX5_repay 84 = .ok (.iaload, 1) := by decide +kernel
theorem dX5_repay_85 : decode cX5_repay 85 = .ok (.iload_n 3, 1) := by decide +kernel
theorem dX5_repay_86 : decode cX5_repay 86 = .ok (.isub, 1) := by decide +kernel
theorem dX5_repay_87 : decode cX5_repay 87 = .ok (.iastore, 1) := by decide +kernel
theorem dX5_repay_88 : decode cX5_repay 88 = .ok (.aload_n 0, 1) := by decide +kernel
theorem dX5_repay_89 : decode cX5_repay 89 = .ok (.getfield 7, 3) := by decide +kernel
theorem dX5_repay_92 : decode cX5_repay 92 = .ok (.bipush 9, 2) := by decide +kernel
theorem dX5_repay_94 : decode cX5_repay 94 = .ok (.iload_n 2, 1) := by decide +kernel
theorem dX5_repay_95 : decode cX5_repay 95 = .ok (.iadd, 1) := by decide +kernel
theorem dX5_repay_96 : decode cX5_repay 96 = .ok (.dup2, 1) := by decide +kernel
theorem dX5_repay_97 : decode cX5_repay 97 = .ok (.iaload, 1) := by decide +kernel
theorem dX5_repay_98 : decode cX5_repay 98 = .ok (.iload_n 3, 1) := by decide +kernel
theorem dX5_repay_99 : decode cX5_repay 99 = .ok (.iadd, 1) := by decide +kernel
theorem dX5_repay_100 : decode cX5_repay 100 = .ok (.iastore, 1) := by decide +kernel
theorem dX5_repay_101 : decode cX5_repay 101 = .ok (.aload_n 0, 1) := by decide +kernel
theorem dX5_repay_102 : decode cX5_repay 102 = .ok (.getfield 7, 3) := by decide +kernel
theorem dX5_repay_105 : decode cX5_repay 105 = .ok (.iload_n 1, 1) := by decide +kernel
theorem dX5_repay_106 : decode cX5_repay 106 = .ok (.iload_n 2, 1) := by decide +kernel
theorem dX5_repay_107 : decode cX5_repay 107 = .ok (.invokestatic 80, 3) := by decide +kernel
theorem dX5_repay_110 : decode cX5_repay 110 = .ok (.dup2, 1) := by decide +kernel
theorem dX5_repay_111 : decode cX5_repay 111 = .ok (.iaload, 1) := by decide +kernel
theorem dX5_repay_112 : decode cX5_repay 112 = .ok (.iload_n 3, 1) := by decide +kernel
theorem dX5_repay_113 : decode cX5_repay 113 = .ok (.isub, 1) := by decide +kernel
theorem dX5_repay_114 : decode cX5_repay 114 = .ok (.iastore, 1) := by decide +kernel
theorem dX5_repay_115 : decode cX5_repay 115 = .ok (.aload_n 0, 1) := by decide +kernel
theorem dX5_repay_116 : decode cX5_repay 116 = .ok (.getfield 7, 3) := by decide +kernel
theorem dX5_repay_119 : decode cX5_repay 119 = .ok (.iload_n 1, 1) := by decide +kernel
theorem dX5_repay_120 : decode cX5_repay 120 = .ok (.iload_n 2, 1) := by decide +kernel
theorem dX5_repay_121 : decode cX5_repay 121 = .ok (.invokestatic 80, 3) := by decide +kernel
theorem dX5_repay_124 : decode cX5_repay 124 = .ok (.iaload, 1) := by decide +kernel
theorem dX5_repay_125 : decode cX5_repay 125 = .ok (.ireturn, 1) := by decide +kernel
set_option maxRecDepth 20000 in
theorem ggX5_maySet_X5_in : GoodIn wsX5_maySet wsX5_in := goodIn_r _ [4] (by decide +kernel) (by decide +kernel)
set_option maxRecDepth 20000 in
theorem gX5_maySet_X5_in : GoodIn wsX5_maySet (va_wsS RX5 35 yX5_in wsX5_in) := goodIn_app (goodIn_of _ (by decide +kernel)) ggX5_maySet_X5_in
theorem dX5_maySet_0 : decode cX5_maySet 0 = .ok (.iload_n 0, 1) := by decide +kernel
theorem dX5_maySet_1 : decode cX5_maySet 1 = .ok (.ifCond .ne 13, 3) := by decide +kernel
theorem dX5_maySet_4 : decode cX5_maySet 4 = .ok (.iload_n 1, 1) := by decide +kernel
theorem dX5_maySet_5 : decode cX5_maySet 5 = .ok (.iconst 0, 1) := by decide +kernel
theorem dX5_maySet_6 : decode cX5_maySet 6 = .ok (.bipush 9, 2) := by decide +kernel
theorem dX5_maySet_8 : decode cX5_maySet 8 = .ok (.invokestatic 35, 3) := by decide +kernel
theorem dX5_maySet_11 : decode cX5_maySet 11 = .ok (.goto 25, 3) := by decide +kernel
theorem dX5_maySet_14 : decode cX5_maySet 14 = .ok (.iload_n 0, 1) := by decide +kernel
theorem dX5_maySet_15 : decode cX5_maySet 15 = .ok (.iconst 1, 1) := by decide +kernel
theorem dX5_maySet_16 : decode cX5_maySet 16 = .ok (.if_icmp .ne 13, 3) := by decide +kernel
theorem dX5_maySet_19 : decode cX5_maySet 19 = .ok (.iload_n 1, 1) := by decide +kernel
theorem dX5_maySet_20 : decode cX5_maySet 20 = .ok (.iconst 0, 1) := by decide +kernel
theorem dX5_maySet_21 : decode cX5_maySet 21 = .ok (.bipush 100, 2) := by decide +kernel
theorem dX5_maySet_23 : decode cX5_maySet 23 = .ok (.invokestatic 35, 3) := by decide +kernel
theorem dX5_maySet_26 : decode cX5_maySet 26 = .ok (.goto 10, 3) := by decide +kernel
theorem dX5_maySet_29 : decode cX5_maySet 29 = .ok (.iload_n 1, 1) := by decide +kernel
theorem dX5_maySet_30 : decode cX5_maySet 30 = .ok (.iconst 1, 1) := by decide +kernel
theorem dX5_maySet_31 : decode cX5_maySet 31 = .ok (.bipush 9, 2) := by decide +kernel
theorem dX5_maySet_33 : decode cX5_maySet 33 = .ok (.invokestatic 35, 3) := by decide +kernel
theorem dX5_maySet_36 : decode cX5_maySet 36 = .ok (.ireturn, 1) := by decide +kernel
set_option maxRecDepth 20000 in
theorem ggX5_set_X5_in : GoodIn wsX5_set wsX5_in := goodIn_r _ [6] (by decide +kernel) (by decide +kernel)
set_option maxRecDepth 20000 in
theorem gX5_set_X5_in : GoodIn wsX5_set (va_wsS RX5 35 yX5_in wsX5_in) := goodIn_app (goodIn_of _ (by decide +kernel)) ggX5_set_X5_in
set_option maxRecDepth 20000 in
theorem ggX5_set_X5_fails : GoodIn wsX5_set wsX5_fails := goodIn_r _ [10, 1, 20, 21, 22, 23, 24, 25, 26, 27, 28, 29, 30, 31, 32, 33] (by decide +kernel) (by decide +kernel)
set_option maxRecDepth 20000 in
theorem gX5_set_X5_fails : GoodIn wsX5_set (wsV RX5 64 RX5 yX5_fails wsX5_fails) := goodIn_app (goodIn_of _ (by decide +kernel)) ggX5_set_X5_fails
set_option maxRecDepth 20000 in
theorem ggX5_set_X5_maySet : GoodIn wsX5_set wsX5_maySet := goodIn_r _ [13, 3, 4, 5, 6] (by decide +kernel) (by decide +kernel)
set_option maxRecDepth 20000 in
theorem gX5_set_X5_maySet : GoodIn wsX5_set (va_wsS RX5 83 yX5_maySet wsX5_maySet) := goodIn_app (goodIn_of _ (by decide +kernel)) ggX5_set_X5_maySet
set_option maxRecDepth 20000 in
theorem ggX5_set_X5_save : GoodIn wsX5_set wsX5_save := goodIn_r _ [17, 18, 19, 2, 20, 21, 22, 23, 24, 25, 26, 27, 28, 29, 30, 31, 32, 33] (by decide +kernel) (by decide +kernel)
set_option maxRecDepth 20000 in
theorem gX5_set_X5_save : GoodIn wsX5_set (wsV RX5 70 RX5 yX5_save wsX5_save) := goodIn_app (goodIn_of _ (by decide +kernel)) ggX5_set_X5_save
theorem dX5_set_0 : decode cX5_set 0 = .ok (.aload_n 0, 1) := by decide +kernel
theorem dX5_set_1 : decode cX5_set 1 = .ok (.iconst 0, 1) := by decide +kernel
theorem dX5_set_2 : decode cX5_set 2 = .ok (.putfield 28, 3) := by decide +kernel
theorem dX5_set_5 : decode cX5_set 5 = .ok (.iload_n 1, 1) := by decide +kernel
theorem dX5_set_6 : decode cX5_set 6 = .ok (.iconst 0, 1) := by decide +kernel
theorem dX5_set_7 : decode cX5_set 7 = .ok (.iconst 2, 1) := by decide +kernel
theorem dX5_set_8 : decode cX5_set 8 = .ok (.invokestatic 35, 3) := by decide +kernel
theorem dX5_set_11 : decode cX5_set 11 = .ok (.ifCond .ne 9, 3) := by decide +kernel
theorem dX5_set_14 : decode cX5_set 14 = .ok (.aload_n 0, 1) := by decide +kernel
theorem dX5_set_15 : decode cX5_set 15 = .ok (.iconst 1, 1) := by decide +kernel
theorem dX5_set_16 : decode cX5_set 16 = .ok (.invokevirtual 64, 3) := by decide +kernel
theorem dX5_set_19 : decode cX5_set 19 = .ok (.ireturn, 1) := by decide +kernel
theorem dX5_set_20 : decode cX5_set 20 = .ok (.iload_n 1, 1) := by decide +kernel
theorem dX5_set_21 : decode cX5_set 21 = .ok (.iload_n 2, 1) := by decide +kernel
theorem dX5_set_22 : decode cX5_set 22 = .ok (.invokestatic 83, 3) := by decide +kernel
theorem dX5_set_25 : decode cX5_set 25 = .ok (.ifCond .ne 9, 3) := by decide +kernel
theorem dX5_set_28 : decode cX5_set 28 = .ok (.aload_n 0, 1) := by decide +kernel
theorem dX5_set_29 : decode cX5_set 29 = .ok (.iconst 2, 1) := by decide +kernel
theorem dX5_set_30 : decode cX5_set 30 = .ok (.invokevirtual 64, 3) := by decide +kernel
theorem dX5_set_33 : decode cX5_set 33 = .ok (.ireturn, 1) := by decide +kernel
theorem dX5_set_34 : decode cX5_set 34 = .ok (.aload_n 0, 1) := by decide +kernel
theorem dX5_set_35 : decode cX5_set 35 = .ok (.invokevirtual 70, 3) := by decide +kernel
theorem dX5_set_38 : decode cX5_set 38 = .ok (.aload_n 0, 1) := by decide +kernel
theorem dX5_set_39 : decode cX5_set 39 = .ok (.getfield 7, 3) := by decide +kernel
theorem dX5_set_42 : decode cX5_set 42 = .ok (.bipush 6, 2) := by decide +kernel
theorem dX5_set_44 : decode cX5_set 44 = .ok (.iload_n 1, 1) := by decide +kernel
theorem dX5_set_45 : decode cX5_set 45 = .ok (.iadd, 1) := by decide +kernel
theorem dX5_set_46 : decode cX5_set 46 = .ok (.iaload, 1) := by decide +kernel
theorem dX5_set_47 : decode cX5_set 47 = .ok (.istore_n 3, 1) := by decide +kernel
theorem dX5_set_48 : decode cX5_set 48 = .ok (.aload_n 0, 1) := by decide +kernel
theorem dX5_set_49 : decode cX5_set 49 = .ok (.getfield 7, 3) := by decide +kernel
theorem dX5_set_52 : decode cX5_set 52 = .ok (.bipush 6, 2) := by decide +kernel
theorem dX5_set_54 : decode cX5_set 54 = .ok (.iload_n 1, 1) := by decide +kernel
theorem dX5_set_55 : decode cX5_set 55 = .ok (.iadd, 1) := by decide +kernel
theorem dX5_set_56 : decode cX5_set 56 = .ok (.iload_n 2, 1) := by decide +kernel
theorem dX5_set_57 : decode cX5_set 57 = .ok (.iastore, 1) := by decide +kernel
theorem dX5_set_58 : decode cX5_set 58 = .ok (.iload_n 3, 1) := by decide +kernel
theorem dX5_set_59 : decode cX5_set 59 = .ok (.ireturn, 1) := by decide +kernel
set_option maxRecDepth 20000 in
theorem ggX5_makeGood_X5_debtAt : GoodIn wsX5_makeGood wsX5_debtAt := goodIn_r _ [5] (by decide +kernel) (by decide +kernel)
set_option maxRecDepth 20000 in
theorem gX5_makeGood_X5_debtAt : GoodIn wsX5_makeGood (va_wsS RX5 80 yX5_debtAt wsX5_debtAt) := goodIn_app (goodIn_of _ (by decide +kernel)) ggX5_makeGood_X5_debtAt
set_option maxRecDepth 20000 in
theorem ggX5_makeGood_X5_least : GoodIn wsX5_makeGood wsX5_least := goodIn_r _ [8] (by decide +kernel) (by decide +kernel)
set_option maxRecDepth 20000 in
theorem gX5_makeGood_X5_least : GoodIn wsX5_makeGood (va_wsS RX5 54 yX5_least wsX5_least) := goodIn_app (goodIn_of _ (by decide +kernel)) ggX5_makeGood_X5_least
theorem dX5_makeGood_0 : decode cX5_makeGood 0 = .ok (.aload_n 0, 1) := by decide +kernel
theorem dX5_makeGood_1 : decode cX5_makeGood 1 = .ok (.getfield 7, 3) := by decide +kernel
theorem dX5_makeGood_4 : decode cX5_makeGood 4 = .ok (.iload_n 1, 1) := by decide +kernel
theorem dX5_makeGood_5 : decode cX5_makeGood 5 = .ok (.iload_n 2, 1) := by decide +kernel
theorem dX5_makeGood_6 : decode cX5_makeGood 6 = .ok (.invokestatic 80, 3) := by decide +kernel
theorem dX5_makeGood_9 : decode cX5_makeGood 9 = .ok (.dup2, 1) := by decide +kernel
theorem dX5_makeGood_10 : decode cX5_makeGood 10 = .ok (.iaload, 1) := by decide +kernel
theorem dX5_makeGood_11 : decode cX5_makeGood 11 = .ok (.iload_n 3, 1) := by decide +kernel
theorem dX5_makeGood_12 : decode cX5_makeGood 12 = .ok (.iadd, 1) := by decide +kernel
theorem dX5_makeGood_13 : decode cX5_makeGood 13 = .ok (.iastore, 1) := by decide +kernel
theorem dX5_makeGood_14 : decode cX5_makeGood 14 = .ok (.iload_n 3, 1) := by decide +kernel
theorem dX5_makeGood_15 : decode cX5_makeGood 15 = .ok (.aload_n 0, 1) := by decide +kernel
theorem dX5_makeGood_16 : decode cX5_makeGood 16 = .ok (.getfield 7, 3) := by decide +kernel
theorem dX5_makeGood_19 : decode cX5_makeGood 19 = .ok (.bipush 25, 2) := by decide +kernel
theorem dX5_makeGood_21 : decode cX5_makeGood 21 = .ok (.iload_n 1, 1) := by decide +kernel
theorem dX5_makeGood_22 : decode cX5_makeGood 22 = .ok (.iadd, 1) := by decide +kernel
theorem dX5_makeGood_23 : decode cX5_makeGood 23 = .ok (.iaload, 1) := by decide +kernel
theorem dX5_makeGood_24 : decode cX5_makeGood 24 = .ok (.imul, 1) := by decide +kernel
theorem dX5_makeGood_25 : decode cX5_makeGood 25 = .ok (.bipush 100, 2) := by decide +kernel
theorem dX5_makeGood_27 : decode cX5_makeGood 27 = .ok (.idiv, 1) := by decide +kernel
theorem dX5_makeGood_28 : decode cX5_makeGood 28 = .ok (.istore 4, 2) := by decide +kernel
theorem dX5_makeGood_30 : decode cX5_makeGood 30 = .ok (.aload_n 0, 1) := by decide +kernel
theorem dX5_makeGood_31 : decode cX5_makeGood 31 = .ok (.getfield 7, 3) := by decide +kernel
theorem dX5_makeGood_34 : decode cX5_makeGood 34 = .ok (.bipush 17, 2) := by decide +kernel
theorem dX5_makeGood_36 : decode cX5_makeGood 36 = .ok (.iload_n 1, 1) := by decide +kernel
theorem dX5_makeGood_37 : decode cX5_makeGood 37 = .ok (.iadd, 1) := by decide +kernel
theorem dX5_makeGood_38 : decode cX5_makeGood 38 = .ok (.iaload, 1) := by decide +kernel
theorem dX5_makeGood_39 : decode cX5_makeGood 39 = .ok (.istore 5, 2) := by decide +kernel
theorem dX5_makeGood_41 : decode cX5_makeGood 41 = .ok (.iload 5, 2) := by decide +kernel
theorem dX5_makeGood_43 : decode cX5_makeGood 43 = .ok (.iconst (-1), 1) := by decide +kernel
theorem dX5_makeGood_44 : decode cX5_makeGood 44 = .ok (.if_icmp .eq 141, 3) := by decide +kernel
theorem dX5_makeGood_47 : decode cX5_makeGood 47 = .ok (.iload 5, 2) := by decide +kernel
theorem dX5_makeGood_49 : decode cX5_makeGood 49 = .ok (.iload_n 2, 1) := by decide +kernel
theorem dX5_makeGood_50 : decode cX5_makeGood 50 = .ok (.if_icmp .ne 7, 3) := by decide +kernel
theorem dX5_makeGood_53 : decode cX5_makeGood 53 = .ok (.iconst 0, 1) := by decide +kernel
theorem dX5_makeGood_54 : decode cX5_makeGood 54 = .ok (.goto 18, 3) := by decide +kernel
theorem dX5_makeGood_57 : decode cX5_makeGood 57 = .ok (.iload 4, 2) := by decide +kernel
theorem dX5_makeGood_59 : decode cX5_makeGood 59 = .ok (.aload_n 0, 1) := by decide +kernel
theorem dX5_makeGood_60 : decode cX5_makeGood 60 = .ok (.getfield 7, 3) := by decide +kernel
theorem dX5_makeGood_63 : decode cX5_makeGood 63 = .ok (.bipush 9, 2) := by decide +kernel
theorem dX5_makeGood_65 : decode cX5_makeGood 65 = .ok (.iload 5, 2) := by decide +kernel
theorem dX5_makeGood_67 : decode cX5_makeGood 67 = .ok (.iadd, 1) := by decide +kernel
theorem dX5_makeGood_68 : decode cX5_makeGood 68 = .ok (.iaload, 1) := by decide +kernel
theorem dX5_makeGood_69 : decode cX5_makeGood 69 = .ok (.invokestatic 54, 3) := by decide +kernel
theorem dX5_makeGood_72 : decode cX5_makeGood 72 = .ok (.istore 6, 2) := by decide +kernel
theorem dX5_makeGood_74 : decode cX5_makeGood 74 = .ok (.aload_n 0, 1) := by decide +kernel
theorem dX5_makeGood_75 : decode cX5_makeGood 75 = .ok (.getfield 7, 3) := by decide +kernel
theorem dX5_makeGood_78 : decode cX5_makeGood 78 = .ok (.bipush 9, 2) := by decide +kernel
theorem dX5_makeGood_80 : decode cX5_makeGood 80 = .ok (.iload 5, 2) := by decide +kernel
theorem dX5_makeGood_82 : decode cX5_makeGood 82 = .ok (.iadd, 1) := by decide +kernel
theorem dX5_makeGood_83 : decode cX5_makeGood 83 = .ok (.dup2, 1) := by decide +kernel
theorem dX5_makeGood_84 : decode cX5_makeGood 84 = .ok (.iaload, 1) := by decide +kernel
theorem dX5_makeGood_85 : decode cX5_makeGood 85 = .ok (.iload 6, 2) := by decide +kernel
theorem dX5_makeGood_87 : decode cX5_makeGood 87 = .ok (.isub, 1) := by decide +kernel
theorem dX5_makeGood_88 : decode cX5_makeGood 88 = .ok (.iastore, 1) := by decide +kernel
theorem dX5_makeGood_89 : decode cX5_makeGood 89 = .ok (.aload_n 0, 1) := by decide +kernel
theorem dX5_makeGood_90 : decode cX5_makeGood 90 = .ok (.getfield 7, 3) := by decide +kernel
theorem dX5_makeGood_93 : decode cX5_makeGood 93 = .ok (.bipush 9, 2) := by decide +kernel
theorem dX5_makeGood_95 : decode cX5_makeGood 95 = .ok (.iload_n 2, 1) := by decide +kernel
theorem dX5_makeGood_96 : decode cX5_makeGood 96 = .ok (.iadd, 1) := by decide +kernel
theorem dX5_makeGood_97 : decode cX5_makeGood 97 = .ok (.dup2, 1) := by decide +kernel
theorem dX5_makeGood_98 : decode cX5_makeGood 98 = .ok (.iaload, 1) := by decide +kernel
theorem dX5_makeGood_99 : decode cX5_makeGood 99 = .ok (.iload 6, 2) := by decide +kernel
theorem dX5_makeGood_101 : decode cX5_makeGood 101 = .ok (.iadd, 1) := by decide +kernel
theorem dX5_makeGood_102 : decode cX5_makeGood 102 = .ok (.iastore, 1) := by decide +kernel
theorem dX5_makeGood_103 : decode cX5_makeGood 103 = .ok (.aload_n 0, 1) := by decide +kernel
theorem dX5_makeGood_104 : decode cX5_makeGood 104 = .ok (.getfield 7, 3) := by decide +kernel
theorem dX5_makeGood_107 : decode cX5_makeGood 107 = .ok (.iload_n 1, 1) := by decide +kernel
theorem dX5_makeGood_108 : decode cX5_makeGood 108 = .ok (.iload_n 2, 1) := by decide +kernel
theorem dX5_makeGood_109 : decode cX5_makeGood 109 = .ok (.invokestatic 80, 3) := by decide +kernel
theorem dX5_makeGood_112 : decode cX5_makeGood 112 = .ok (.dup2, 1) := by decide +kernel
theorem dX5_makeGood_113 : decode cX5_makeGood 113 = .ok (.iaload, 1) := by decide +kernel
theorem dX5_makeGood_114 : decode cX5_makeGood 114 = .ok (.iload 6, 2) := by decide +kernel
theorem dX5_makeGood_116 : decode cX5_makeGood 116 = .ok (.isub, 1) := by decide +kernel
theorem dX5_makeGood_117 : decode cX5_makeGood 117 = .ok (.iastore, 1) := by decide +kernel
theorem dX5_makeGood_118 : decode cX5_makeGood 118 = .ok (.aload_n 0, 1) := by decide +kernel
theorem dX5_makeGood_119 : decode cX5_makeGood 119 = .ok (.getfield 7, 3) := by decide +kernel
theorem dX5_makeGood_122 : decode cX5_makeGood 122 = .ok (.iload_n 1, 1) := by decide +kernel
theorem dX5_makeGood_123 : decode cX5_makeGood 123 = .ok (.iload 5, 2) := by decide +kernel
theorem dX5_makeGood_125 : decode cX5_makeGood 125 = .ok (.invokestatic 80, 3) := by decide +kernel
theorem dX5_makeGood_128 : decode cX5_makeGood 128 = .ok (.dup2, 1) := by decide +kernel
theorem dX5_makeGood_129 : decode cX5_makeGood 129 = .ok (.iaload, 1) := by decide +kernel
theorem dX5_makeGood_130 : decode cX5_makeGood 130 = .ok (.iload 6, 2) := by decide +kernel
theorem dX5_makeGood_132 : decode cX5_makeGood 132 = .ok (.iadd, 1) := by decide +kernel
theorem dX5_makeGood_133 : decode cX5_makeGood 133 = .ok (.iastore, 1) := by decide +kernel
theorem dX5_makeGood_134 : decode cX5_makeGood 134 = .ok (.aload_n 0, 1) := by decide +kernel
theorem dX5_makeGood_135 : decode cX5_makeGood 135 = .ok (.getfield 7, 3) := by decide +kernel
theorem dX5_makeGood_138 : decode cX5_makeGood 138 = .ok (.bipush 49, 2) := by decide +kernel
theorem dX5_makeGood_140 : decode cX5_makeGood 140 = .ok (.iload 5, 2) := by decide +kernel
theorem dX5_makeGood_142 : decode cX5_makeGood 142 = .ok (.iadd, 1) := by decide +kernel
theorem dX5_makeGood_143 : decode cX5_makeGood 143 = .ok (.dup2, 1) := by decide +kernel
theorem dX5_makeGood_144 : decode cX5_makeGood 144 = .ok (.iaload, 1) := by decide +kernel
theorem dX5_makeGood_145 : decode cX5_makeGood 145 = .ok (.iload 6, 2) := by decide +kernel
theorem dX5_makeGood_147 : decode cX5_makeGood 147 = .ok (.iadd, 1) := by decide +kernel
theorem dX5_makeGood_148 : decode cX5_makeGood 148 = .ok (.iastore, 1) := by decide +kernel
theorem dX5_makeGood_149 : decode cX5_makeGood 149 = .ok (.iload 4, 2) := by decide +kernel
theorem dX5_makeGood_151 : decode cX5_makeGood 151 = .ok (.iload 6, 2) := by decide +kernel
theorem dX5_makeGood_153 : decode cX5_makeGood 153 = .ok (.isub, 1) := by decide +kernel
theorem dX5_makeGood_154 : decode cX5_makeGood 154 = .ok (.aload_n 0, 1) := by decide +kernel
theorem dX5_makeGood_155 : decode cX5_makeGood 155 = .ok (.getfield 7, 3) := by decide +kernel
theorem dX5_makeGood_158 : decode cX5_makeGood 158 = .ok (.bipush 25, 2) := by decide +kernel
theorem dX5_makeGood_160 : decode cX5_makeGood 160 = .ok (.iload 5, 2) := by decide +kernel
theorem dX5_makeGood_162 : decode cX5_makeGood 162 = .ok (.iadd, 1) := by decide +kernel
theorem dX5_makeGood_163 : decode cX5_makeGood 163 = .ok (.iaload, 1) := by decide +kernel
theorem dX5_makeGood_164 : decode cX5_makeGood 164 = .ok (.imul, 1) := by decide +kernel
theorem dX5_makeGood_165 : decode cX5_makeGood 165 = .ok (.bipush 100, 2) := by decide +kernel
theorem dX5_makeGood_167 : decode cX5_makeGood 167 = .ok (.idiv, 1) := by decide +kernel
theorem dX5_makeGood_168 : decode cX5_makeGood 168 = .ok (.istore 4, 2) := by decide +kernel
theorem dX5_makeGood_170 : decode cX5_makeGood 170 = .ok (.aload_n 0, 1) := by decide +kernel
theorem dX5_makeGood_171 : decode cX5_makeGood 171 = .ok (.getfield 7, 3) := by decide +kernel
theorem dX5_makeGood_174 : decode cX5_makeGood 174 = .ok (.bipush 17, 2) := by decide +kernel
theorem dX5_makeGood_176 : decode cX5_makeGood 176 = .ok (.iload 5, 2) := by decide +kernel
theorem dX5_makeGood_178 : decode cX5_makeGood 178 = .ok (.iadd, 1) := by decide +kernel
theorem dX5_makeGood_179 : decode cX5_makeGood 179 = .ok (.iaload, 1) := by decide +kernel
theorem dX5_makeGood_180 : decode cX5_makeGood 180 = .ok (.istore 5, 2) := by decide +kernel
theorem dX5_makeGood_182 : decode cX5_makeGood 182 = .ok (.goto (-141), 3) := by decide +kernel
theorem dX5_makeGood_185 : decode cX5_makeGood 185 = .ok (.return_, 1) := by decide +kernel
set_option maxRecDepth 20000 in
theorem ggX5_layerPays_X5_layerAt : GoodIn wsX5_layerPays wsX5_layerAt := goodIn_r _ [7, 8, 9, 6, 10] (by decide +kernel) (by decide +kernel)
set_option maxRecDepth 20000 in
theorem gX5_layerPays_X5_layerAt : GoodIn wsX5_layerPays (va_wsS RX5 44 yX5_layerAt wsX5_layerAt) := goodIn_app (goodIn_of _ (by decide +kernel)) ggX5_layerPays_X5_layerAt
set_option maxRecDepth 20000 in
theorem ggX5_layerPays_X5_least : GoodIn wsX5_layerPays wsX5_least := goodIn_r _ [13] (by decide +kernel) (by decide +kernel)
set_option maxRecDepth 20000 in
theorem gX5_layerPays_X5_least : GoodIn wsX5_layerPays (va_wsS RX5 54 yX5_least wsX5_least) := goodIn_app (goodIn_of _ (by decide +kernel)) ggX5_layerPays_X5_least
set_option maxRecDepth 20000 in
theorem ggX5_layerPays_X5_at : GoodIn wsX5_layerPays wsX5_at := goodIn_r _ [10] (by decide +kernel) (by decide +kernel)
set_option maxRecDepth 20000 in
theorem gX5_layerPays_X5_at : GoodIn wsX5_layerPays (va_wsS RX5 40 yX5_at wsX5_at) := goodIn_app (goodIn_of _ (by decide +kernel)) ggX5_layerPays_X5_at
set_option maxRecDepth 20000 in
theorem ggX5_layerPays_X5_makeGood : GoodIn wsX5_layerPays wsX5_makeGood := goodIn_r _ [17, 1, 18, 19, 6, 20, 11, 12, 13, 21, 22, 23, 24, 25, 26, 27, 28, 29, 30, 31, 32, 33, 34] (by decide +kernel) (by decide +kernel)
set_option maxRecDepth 20000 in
theorem gX5_layerPays_X5_makeGood : GoodIn wsX5_layerPays (wsV RX5 92 RX5 yX5_makeGood wsX5_makeGood) := goodIn_app (goodIn_of _ (by decide +kernel)) ggX5_layerPays_X5_makeGood
theorem dX5_layerPays_0 : decode cX5_layerPays 0 = .ok (.iload_n 1, 1) := by decide +kernel
theorem dX5_layerPays_1 : decode cX5_layerPays 1 = .ok (.iload_n 2, 1) := by decide +kernel
theorem dX5_layerPays_2 : decode cX5_layerPays 2 = .ok (.invokestatic 44, 3) := by decide +kernel
theorem dX5_layerPays_5 : decode cX5_layerPays 5 = .ok (.istore 4, 2) := by decide +kernel
theorem dX5_layerPays_7 : decode cX5_layerPays 7 = .ok (.iload_n 3, 1) := by decide +kernel
theorem dX5_layerPays_8 : decode cX5_layerPays 8 = .ok (.aload_n 0, 1) := by decide +kernel
theorem dX5_layerPays_9 : decode cX5_layerPays 9 = .ok (.getfield 7, 3) := by decide +kernel
theorem dX5_layerPays_12 : decode cX5_layerPays 12 = .ok (.bipush 9, 2) := by decide +kernel
theorem dX5_layerPays_14 : decode cX5_layerPays 14 = .ok (.aload_n 0, 1) := by decide +kernel
theorem dX5_layerPays_15 : decode cX5_layerPays 15 = .ok (.getfield 7, 3) := by decide +kernel
theorem dX5_layerPays_18 : decode cX5_layerPays 18 = .ok (.iload 4, 2) := by decide +kernel
theorem dX5_layerPays_20 : decode cX5_layerPays 20 = .ok (.iaload, 1) := by decide +kernel
theorem dX5_layerPays_21 : decode cX5_layerPays 21 = .ok (.iadd, 1) := by decide +kernel
theorem dX5_layerPays_22 : decode cX5_layerPays 22 = .ok (.iaload, 1) := by decide +kernel
theorem dX5_layerPays_23 : decode cX5_layerPays 23 = .ok (.invokestatic 54, 3) := by decide +kernel
theorem dX5_layerPays_26 : decode cX5_layerPays 26 = .ok (.istore 5, 2) := by decide +kernel
theorem dX5_layerPays_28 : decode cX5_layerPays 28 = .ok (.aload_n 0, 1) := by decide +kernel
theorem dX5_layerPays_29 : decode cX5_layerPays 29 = .ok (.iload 5, 2) := by decide +kernel
theorem dX5_layerPays_31 : decode cX5_layerPays 31 = .ok (.iload_n 3, 1) := by decide +kernel
theorem dX5_layerPays_32 : decode cX5_layerPays 32 = .ok (.if_icmp .ge 15, 3) := by decide +kernel
theorem dX5_layerPays_35 : decode cX5_layerPays 35 = .ok (.aload_n 0, 1) := by decide +kernel
theorem dX5_layerPays_36 : decode cX5_layerPays 36 = .ok (.getfield 86, 3) := by decide +kernel
theorem dX5_layerPays_39 : decode cX5_layerPays 39 = .ok (.iconst (-1), 1) := by decide +kernel
theorem dX5_layerPays_40 : decode cX5_layerPays 40 = .ok (.if_icmp .ne 7, 3) := by decide +kernel
theorem dX5_layerPays_43 : decode cX5_layerPays 43 = .ok (.iload_n 2, 1) := by decide +kernel
theorem dX5_layerPays_44 : decode cX5_layerPays 44 = .ok (.goto 7, 3) := by decide +kernel
theorem dX5_layerPays_47 : decode cX5_layerPays 47 = .ok (.aload_n 0, 1) := by decide +kernel
theorem dX5_layerPays_48 : decode cX5_layerPays 48 = .ok (.getfield 86, 3) := by decide +kernel
theorem dX5_layerPays_51 : decode cX5_layerPays 51 = .ok (.putfield 86, 3) := by decide +kernel
theorem dX5_layerPays_54 : decode cX5_layerPays 54 = .ok (.aload_n 0, 1) := by decide +kernel
theorem dX5_layerPays_55 : decode cX5_layerPays 55 = .ok (.getfield 7, 3) := by decide +kernel
theorem dX5_layerPays_58 : decode cX5_layerPays 58 = .ok (.bipush 9, 2) := by decide +kernel
theorem dX5_layerPays_60 : decode cX5_layerPays 60 = .ok (.aload_n 0, 1) := by decide +kernel
theorem dX5_layerPays_61 : decode cX5_layerPays 61 = .ok (.getfield 7, 3) := by decide +kernel
theorem dX5_layerPays_64 : decode cX5_layerPays 64 = .ok (.iload 4, 2) := by decide +kernel
theorem dX5_layerPays_66 : decode cX5_layerPays 66 = .ok (.iaload, 1) := by decide +kernel
theorem dX5_layerPays_67 : decode cX5_layerPays 67 = .ok (.iadd, 1) := by decide +kernel
theorem dX5_layerPays_68 : decode cX5_layerPays 68 = .ok (.dup2, 1) := by decide +kernel
theorem dX5_layerPays_69 : decode cX5_layerPays 69 = .ok (.iaload, 1) := by decide +kernel
theorem dX5_layerPays_70 : decode cX5_layerPays 70 = .ok (.iload 5, 2) := by decide +kernel
theorem dX5_layerPays_72 : decode cX5_layerPays 72 = .ok (.isub, 1) := by decide +kernel
theorem dX5_layerPays_73 : decode cX5_layerPays 73 = .ok (.iastore, 1) := by decide +kernel
theorem dX5_layerPays_74 : decode cX5_layerPays 74 = .ok (.aload_n 0, 1) := by decide +kernel
theorem dX5_layerPays_75 : decode cX5_layerPays 75 = .ok (.getfield 7, 3) := by decide +kernel
theorem dX5_layerPays_78 : decode cX5_layerPays 78 = .ok (.bipush 41, 2) := by decide +kernel
theorem dX5_layerPays_80 : decode cX5_layerPays 80 = .ok (.aload_n 0, 1) := by decide +kernel
theorem dX5_layerPays_81 : decode cX5_layerPays 81 = .ok (.getfield 7, 3) := by decide +kernel
theorem dX5_layerPays_84 : decode cX5_layerPays 84 = .ok (.iload 4, 2) := by decide +kernel
theorem dX5_layerPays_86 : decode cX5_layerPays 86 = .ok (.iaload, 1) := by decide +kernel
theorem dX5_layerPays_87 : decode cX5_layerPays 87 = .ok (.iadd, 1) := by decide +kernel
theorem dX5_layerPays_88 : decode cX5_layerPays 88 = .ok (.dup2, 1) := by decide +kernel
theorem dX5_layerPays_89 : decode cX5_layerPays 89 = .ok (.iaload, 1) := by decide +kernel
theorem dX5_layerPays_90 : decode cX5_layerPays 90 = .ok (.iload 5, 2) := by decide +kernel
theorem dX5_layerPays_92 : decode cX5_layerPays 92 = .ok (.iadd, 1) := by decide +kernel
theorem dX5_layerPays_93 : decode cX5_layerPays 93 = .ok (.iastore, 1) := by decide +kernel
theorem dX5_layerPays_94 : decode cX5_layerPays 94 = .ok (.aload_n 0, 1) := by decide +kernel
theorem dX5_layerPays_95 : decode cX5_layerPays 95 = .ok (.getfield 7, 3) := by decide +kernel
theorem dX5_layerPays_98 : decode cX5_layerPays 98 = .ok (.iload 4, 2) := by decide +kernel
theorem dX5_layerPays_100 : decode cX5_layerPays 100 = .ok (.iconst 2, 1) := by decide +kernel
theorem dX5_layerPays_101 : decode cX5_layerPays 101 = .ok (.iadd, 1) := by decide +kernel
theorem dX5_layerPays_102 : decode cX5_layerPays 102 = .ok (.dup2, 1) := by decide +kernel
theorem dX5_layerPays_103 : decode cX5_layerPays 103 = .ok (.iaload, 1) := by decide +kernel
theorem dX5_layerPays_104 : decode cX5_layerPays 104 = .ok (.iload 5, 2) := by decide +kernel
theorem dX5_layerPays_106 : decode cX5_layerPays 106 = .ok (.isub, 1) := by decide +kernel
theorem dX5_layerPays_107 : decode cX5_layerPays 107 = .ok (.iastore, 1) := by decide +kernel
theorem dX5_layerPays_108 : decode cX5_layerPays 108 = .ok (.aload_n 0, 1) := by decide +kernel
theorem dX5_layerPays_109 : decode cX5_layerPays 109 = .ok (.getfield 7, 3) := by decide +kernel
theorem dX5_layerPays_112 : decode cX5_layerPays 112 = .ok (.iload 4, 2) := by decide +kernel
theorem dX5_layerPays_114 : decode cX5_layerPays 114 = .ok (.iconst 3, 1) := by decide +kernel
theorem dX5_layerPays_115 : decode cX5_layerPays 115 = .ok (.iadd, 1) := by decide +kernel
theorem dX5_layerPays_116 : decode cX5_layerPays 116 = .ok (.dup2, 1) := by decide +kernel
theorem dX5_layerPays_117 : decode cX5_layerPays 117 = .ok (.iaload, 1) := by decide +kernel
theorem dX5_layerPays_118 : decode cX5_layerPays 118 = .ok (.iload 5, 2) := by decide +kernel
theorem dX5_layerPays_120 : decode cX5_layerPays 120 = .ok (.iadd, 1) := by decide +kernel
theorem dX5_layerPays_121 : decode cX5_layerPays 121 = .ok (.iastore, 1) := by decide +kernel
theorem dX5_layerPays_122 : decode cX5_layerPays 122 = .ok (.aload_n 0, 1) := by decide +kernel
theorem dX5_layerPays_123 : decode cX5_layerPays 123 = .ok (.dup, 1) := by decide +kernel
theorem dX5_layerPays_124 : decode cX5_layerPays 124 = .ok (.getfield 89, 3) := by decide +kernel
theorem dX5_layerPays_127 : decode cX5_layerPays 127 = .ok (.iload 5, 2) := by decide +kernel
theorem dX5_layerPays_129 : decode cX5_layerPays 129 = .ok (.iadd, 1) := by decide +kernel
theorem dX5_layerPays_130 : decode cX5_layerPays 130 = .ok (.putfield 89, 3) := by decide +kernel
theorem dX5_layerPays_133 : decode cX5_layerPays 133 = .ok (.iload 5, 2) := by decide +kernel
theorem dX5_layerPays_135 : decode cX5_layerPays 135 = .ok (.ifCond .le 25, 3) := by decide +kernel
theorem dX5_layerPays_138 : decode cX5_layerPays 138 = .ok (.aload_n 0, 1) := by decide +kernel
theorem dX5_layerPays_139 : decode cX5_layerPays 139 = .ok (.aload_n 0, 1) := by decide +kernel
theorem dX5_layerPays_140 : decode cX5_layerPays 140 = .ok (.getfield 7, 3) := by decide +kernel
theorem dX5_layerPays_143 : decode cX5_layerPays 143 = .ok (.iload_n 1, 1) := by decide +kernel
theorem dX5_layerPays_144 : decode cX5_layerPays 144 = .ok (.invokestatic 40, 3) := by decide +kernel
theorem dX5_layerPays_147 : decode cX5_layerPays 147 = .ok (.iaload, 1) := by decide +kernel
theorem dX5_layerPays_148 : decode cX5_layerPays 148 = .ok (.aload_n 0, 1) := by decide +kernel
theorem dX5_layerPays_149 : decode cX5_layerPays 149 = .ok (.getfield 7, 3) := by decide +kernel
theorem dX5_layerPays_152 : decode cX5_layerPays 152 = .ok (.iload 4, 2) := by decide +kernel
theorem dX5_layerPays_154 : decode cX5_layerPays 154 = .ok (.iaload, 1) := by decide +kernel
theorem dX5_layerPays_155 : decode cX5_layerPays 155 = .ok (.iload 5, 2) := by decide +kernel
theorem dX5_layerPays_157 : decode cX5_layerPays 157 = .ok (.invokevirtual 92, 3) := by decide +kernel
theorem dX5_layerPays_160 : decode cX5_layerPays 160 = .ok (.iload 5, 2) := by decide +kernel
theorem dX5_layerPays_162 : decode cX5_layerPays 162 = .ok (.ireturn, 1) := by decide +kernel
set_option maxRecDepth 20000 in
theorem ggX5_layShares_X5_limitsOf : GoodIn wsX5_layShares wsX5_limitsOf := goodIn_r _ [8, 2, 9, 10, 7, 11, 12, 13, 14, 18, 19, 20, 21, 22, 23, 24, 25, 26, 27, 28, 29, 30, 31] (by decide +kernel) (by decide +kernel)
set_option maxRecDepth 20000 in
theorem gX5_layShares_X5_limitsOf : GoodIn wsX5_layShares (wsV RX5 48 RX5 yX5_limitsOf wsX5_limitsOf) := goodIn_app (goodIn_of _ (by decide +kernel)) ggX5_layShares_X5_limitsOf
set_option maxRecDepth 20000 in
theorem ggX5_layShares_X5_least : GoodIn wsX5_layShares wsX5_least := goodIn_r _ [17] (by decide +kernel) (by decide +kernel)
set_option maxRecDepth 20000 in
theorem gX5_layShares_X5_least : GoodIn wsX5_layShares (va_wsS RX5 54 yX5_least wsX5_least) := goodIn_app (goodIn_of _ (by decide +kernel)) ggX5_layShares_X5_least
set_option maxRecDepth 20000 in
theorem ggX5_layShares_X5_at : GoodIn wsX5_layShares wsX5_at := goodIn_r _ [11] (by decide +kernel) (by decide +kernel)
set_option maxRecDepth 20000 in
theorem gX5_layShares_X5_at : GoodIn wsX5_layShares (va_wsS RX5 40 yX5_at wsX5_at) := goodIn_app (goodIn_of _ (by decide +kernel)) ggX5_layShares_X5_at
set_option maxRecDepth 20000 in
theorem ggX5_layShares_X5_layerAt : GoodIn wsX5_layShares wsX5_layerAt := goodIn_r _ [14, 9, 10, 7, 11] (by decide +kernel) (by decide +kernel)
set_option maxRecDepth 20000 in
theorem gX5_layShares_X5_layerAt : GoodIn wsX5_layShares (va_wsS RX5 44 yX5_layerAt wsX5_layerAt) := goodIn_app (goodIn_of _ (by decide +kernel)) ggX5_layShares_X5_layerAt
theorem dX5_layShares_0 : decode cX5_layShares 0 = .ok (.aload_n 0, 1) := by decide +kernel
theorem dX5_layShares_1 : decode cX5_layShares 1 = .ok (.iload_n 1, 1) := by decide +kernel
theorem dX5_layShares_2 : decode cX5_layShares 2 = .ok (.invokevirtual 48, 3) := by decide +kernel
theorem dX5_layShares_5 : decode cX5_layShares 5 = .ok (.istore_n 3, 1) := by decide +kernel
theorem dX5_layShares_6 : decode cX5_layShares 6 = .ok (.iload_n 2, 1) := by decide +kernel
theorem dX5_layShares_7 : decode cX5_layShares 7 = .ok (.iload_n 3, 1) := by decide +kernel
theorem dX5_layShares_8 : decode cX5_layShares 8 = .ok (.invokestatic 54, 3) := by decide +kernel
theorem dX5_layShares_11 : decode cX5_layShares 11 = .ok (.istore 4, 2) := by decide +kernel
theorem dX5_layShares_13 : decode cX5_layShares 13 = .ok (.iload 4, 2) := by decide +kernel
theorem dX5_layShares_15 : decode cX5_layShares 15 = .ok (.istore 5, 2) := by decide +kernel
theorem dX5_layShares_17 : decode cX5_layShares 17 = .ok (.iconst 0, 1) := by decide +kernel
theorem dX5_layShares_18 : decode cX5_layShares 18 = .ok (.istore 6, 2) := by decide +kernel
theorem dX5_layShares_20 : decode cX5_layShares 20 = .ok (.iload 6, 2) := by decide +kernel
theorem dX5_layShares_22 : decode cX5_layShares 22 = .ok (.iconst 4, 1) := by decide +kernel
theorem dX5_layShares_23 : decode cX5_layShares 23 = .ok (.if_icmp .ge 17, 3) := by decide +kernel
theorem dX5_layShares_26 : decode cX5_layShares 26 = .ok (.aload_n 0, 1) := by decide +kernel
theorem dX5_layShares_27 : decode cX5_layShares 27 = .ok (.getfield 22, 3) := by decide +kernel
theorem dX5_layShares_30 : decode cX5_layShares 30 = .ok (.iload 6, 2) := by decide +kernel
theorem dX5_layShares_32 : decode cX5_layShares 32 = .ok (.iconst 0, 1) := by decide +kernel
theorem dX5_layShares_33 : decode cX5_layShares 33 = .ok (.iastore, 1) := by decide +kernel
theorem dX5_layShares_34 : decode cX5_layShares 34 = .ok (.iinc 6 1, 3) := by decide +kernel
theorem dX5_layShares_37 : decode cX5_layShares 37 = .ok (.goto (-17), 3) := by decide +kernel
theorem dX5_layShares_40 : decode cX5_layShares 40 = .ok (.iconst 0, 1) := by decide +kernel
theorem dX5_layShares_41 : decode cX5_layShares 41 = .ok (.istore 6, 2) := by decide +kernel
theorem dX5_layShares_43 : decode cX5_layShares 43 = .ok (.iload 6, 2) := by decide +kernel
theorem dX5_layShares_45 : decode cX5_layShares 45 = .ok (.aload_n 0, 1) := by decide +kernel
theorem dX5_layShares_46 : decode cX5_layShares 46 = .ok (.getfield 7, 3) := by decide +kernel
theorem dX5_layShares_49 : decode cX5_layShares 49 = .ok (.iload_n 1, 1) := by decide +kernel
theorem dX5_layShares_50 : decode cX5_layShares 50 = .ok (.invokestatic 40, 3) := by decide +kernel
theorem dX5_layShares_53 : decode cX5_layShares 53 = .ok (.iconst 3, 1) := by decide +kernel
theorem dX5_layShares_54 : decode cX5_layShares 54 = .ok (.iadd, 1) := by decide +kernel
theorem dX5_layShares_55 : decode cX5_layShares 55 = .ok (.iaload, 1) := by decide +kernel
theorem dX5_layShares_56 : decode cX5_layShares 56 = .ok (.if_icmp .ge 54, 3) := by decide +kernel
theorem dX5_layShares_59 : decode cX5_layShares 59 = .ok (.iload_n 3, 1) := by decide +kernel
theorem dX5_layShares_60 : decode cX5_layShares 60 = .ok (.ifCond .le 50, 3) := by decide +kernel
theorem dX5_layShares_63 : decode cX5_layShares 63 = .ok (.aload_n 0, 1) := by decide +kernel
theorem dX5_layShares_64 : decode cX5_layShares 64 = .ok (.getfield 22, 3) := by decide +kernel
theorem dX5_layShares_67 : decode cX5_layShares 67 = .ok (.iload 6, 2) := by decide +kernel
theorem dX5_layShares_69 : decode cX5_layShares 69 = .ok (.iload 4, 2) := by decide +kernel
theorem dX5_layShares_71 : decode cX5_layShares 71 = .ok (.i2l, 1) := by decide +kernel
theorem dX5_layShares_72 : decode cX5_layShares 72 = .ok (.aload_n 0, 1) := by decide +kernel
theorem dX5_layShares_73 : decode cX5_layShares 73 = .ok (.getfield 7, 3) := by decide +kernel
theorem dX5_layShares_76 : decode cX5_layShares 76 = .ok (.iload_n 1, 1) := by decide +kernel
theorem dX5_layShares_77 : decode cX5_layShares 77 = .ok (.iload 6, 2) := by decide +kernel
theorem dX5_layShares_79 : decode cX5_layShares 79 = .ok (.invokestatic 44, 3) := by decide +kernel
theorem dX5_layShares_82 : decode cX5_layShares 82 = .ok (.iconst 2, 1) := by decide +kernel
theorem dX5_layShares_83 : decode cX5_layShares 83 = .ok (.iadd, 1) := by decide +kernel
theorem dX5_layShares_84 : decode cX5_layShares 84 = .ok (.iaload, 1) := by decide +kernel
theorem dX5_layShares_85 : decode cX5_layShares 85 = .ok (.i2l, 1) := by decide +kernel
theorem dX5_layShares_86 : decode cX5_layShares 86 = .ok (.lmul, 1) := by decide +kernel
theorem dX5_layShares_87 : decode cX5_layShares 87 = .ok (.iload_n 3, 1) := by decide +kernel
theorem dX5_layShares_88 : decode cX5_layShares 88 = .ok (.i2l, 1) := by decide +kernel
theorem dX5_layShares_89 : decode cX5_layShares 89 = .ok (.ldiv, 1) := by decide +kernel
theorem dX5_layShares_90 : decode cX5_layShares 90 = .ok (.l2i, 1) := by decide +kernel
theorem dX5_layShares_91 : decode cX5_layShares 91 = .ok (.iastore, 1) := by decide +kernel
theorem dX5_layShares_92 : decode cX5_layShares 92 = .ok (.iload 5, 2) := by decide +kernel
theorem dX5_layShares_94 : decode cX5_layShares 94 = .ok (.aload_n 0, 1) := by decide +kernel
theorem dX5_layShares_95 : decode cX5_layShares 95 = .ok (.getfield 22, 3) := by decide +kernel
theorem dX5_layShares_98 : decode cX5_layShares 98 = .ok (.iload 6, 2) := by decide +kernel
theorem dX5_layShares_100 : decode cX5_layShares 100 = .ok (.iaload, 1) := by decide +kernel
theorem dX5_layShares_101 : decode cX5_layShares 101 = .ok (.isub, 1) := by decide +kernel
theorem dX5_layShares_102 : decode cX5_layShares 102 = .ok (.istore 5, 2) := by decide +kernel
theorem dX5_layShares_104 : decode cX5_layShares 104 = .ok (.iinc 6 1, 3) := by decide +kernel
theorem dX5_layShares_107 : decode cX5_layShares 107 = .ok (.goto (-64), 3) := by decide +kernel
theorem dX5_layShares_110 : decode cX5_layShares 110 = .ok (.iconst 0, 1) := by decide +kernel
theorem dX5_layShares_111 : decode cX5_layShares 111 = .ok (.istore 6, 2) := by decide +kernel
theorem dX5_layShares_113 : decode cX5_layShares 113 = .ok (.iload 5, 2) := by decide +kernel
theorem dX5_layShares_115 : decode cX5_layShares 115 = .ok (.ifCond .le 142, 3) := by decide +kernel
theorem dX5_layShares_118 : decode cX5_layShares 118 = .ok (.iload_n 3, 1) := by decide +kernel
theorem dX5_layShares_119 : decode cX5_layShares 119 = .ok (.ifCond .le 138, 3) := by decide +kernel
theorem dX5_layShares_122 : decode cX5_layShares 122 = .ok (.iconst (-1), 1) := by decide +kernel
theorem dX5_layShares_123 : decode cX5_layShares 123 = .ok (.istore 7, 2) := by decide +kernel
theorem dX5_layShares_125 : decode cX5_layShares 125 = .ok (.ldc2_w 96, 3) := by decide +kernel
theorem dX5_layShares_128 : decode cX5_layShares 128 = .ok (.lstore 8, 2) := by decide +kernel
theorem dX5_layShares_130 : decode cX5_layShares 130 = .ok (.iconst 0, 1) := by decide +kernel
theorem dX5_layShares_131 : decode cX5_layShares 131 = .ok (.istore 10, 2) := by decide +kernel
theorem dX5_layShares_133 : decode cX5_layShares 133 = .ok (.iload 10, 2) := by decide +kernel
theorem dX5_layShares_135 : decode cX5_layShares 135 = .ok (.aload_n 0, 1) := by decide +kernel
theorem dX5_layShares_136 : decode cX5_layShares 136 = .ok (.getfield 7, 3) := by decide +kernel
theorem dX5_layShares_139 : decode cX5_layShares 139 = .ok (.iload_n 1, 1) := by decide +kernel
theorem dX5_layShares_140 : decode cX5_layShares 140 = .ok (.invokestatic 40, 3) := by decide +kernel
theorem dX5_layShares_143 : decode cX5_layShares 143 = .ok (.iconst 3, 1) := by decide +kernel
theorem dX5_layShares_144 : decode cX5_layShares 144 = .ok (.iadd, 1) := by decide +kernel
theorem dX5_layShares_145 : decode cX5_layShares 145 = .ok (.iaload, 1) := by decide +kernel
theorem dX5_layShares_146 : decode cX5_layShares 146 = .ok (.if_icmp .ge 85, 3) := by decide +kernel
theorem dX5_layShares_149 : decode cX5_layShares 149 = .ok (.iload 4, 2) := by decide +kernel
theorem dX5_layShares_151 : decode cX5_layShares 151 = .ok (.i2l, 1) := by decide +kernel
theorem dX5_layShares_152 : decode cX5_layShares 152 = .ok (.aload_n 0, 1) := by decide +kernel
theorem dX5_layShares_153 : decode cX5_layShares 153 = .ok (.getfield 7, 3) := by decide +kernel
theorem dX5_layShares_156 : decode cX5_layShares 156 = .ok (.iload_n 1, 1) := by decide +kernel
theorem dX5_layShares_157 : decode cX5_layShares 157 = .ok (.iload 10, 2) := by decide +kernel
theorem dX5_layShares_159 : decode cX5_layShares 159 = .ok (.invokestatic 44, 3) := by decide +kernel
theorem dX5_layShares_162 : decode cX5_layShares 162 = .ok (.iconst 2, 1) := by decide +kernel
theorem dX5_layShares_163 : decode cX5_layShares 163 = .ok (.iadd, 1) := by decide +kernel
theorem dX5_layShares_164 : decode cX5_layShares 164 = .ok (.iaload, 1) := by decide +kernel
theorem dX5_layShares_165 : decode cX5_layShares 165 = .ok (.i2l, 1) := by decide +kernel
theorem dX5_layShares_166 : decode cX5_layShares 166 = .ok (.lmul, 1) := by decide +kernel
theorem dX5_layShares_167 : decode cX5_layShares 167 = .ok (.iload_n 3, 1) := by decide +kernel
theorem dX5_layShares_168 : decode cX5_layShares 168 = .ok (.i2l, 1) := by decide +kernel
theorem dX5_layShares_169 : decode cX5_layShares 169 = .ok (.lrem, 1) := by decide +kernel
theorem dX5_layShares_170 : decode cX5_layShares 170 = .ok (.lstore 11, 2) := by decide +kernel
theorem dX5_layShares_172 : decode cX5_layShares 172 = .ok (.iload 6, 2) := by decide +kernel
theorem dX5_layShares_174 : decode cX5_layShares 174 = .ok (.iload 10, 2) := by decide +kernel
theorem dX5_layShares_176 : decode cX5_layShares 176 = .ok (.ishr, 1) := by decide +kernel
theorem dX5_layShares_177 : decode cX5_layShares 177 = .ok (.iconst 1, 1) := by decide +kernel
theorem dX5_layShares_178 : decode cX5_layShares 178 = .ok (.iand, 1) := by decide +kernel
theorem dX5_layShares_179 : decode cX5_layShares 179 = .ok (.ifCond .ne 15, 3) := by decide +kernel
theorem dX5_layShares_182 : decode cX5_layShares 182 = .ok (.lload 11, 2) := by decide +kernel
theorem dX5_layShares_184 : decode cX5_layShares 184 = .ok (.lload 8, 2) := by decide +kernel
theorem dX5_layShares_186 : decode cX5_layShares 186 = .ok (.lcmp, 1) := by decide +kernel
theorem dX5_layShares_187 : decode cX5_layShares 187 = .ok (.ifCond .le 7, 3) := by decide +kernel
theorem dX5_layShares_190 : decode cX5_layShares 190 = .ok (.iconst 1, 1) := by decide +kernel
theorem dX5_layShares_191 : decode cX5_layShares 191 = .ok (.goto 4, 3) := by decide +kernel
theorem dX5_layShares_194 : decode cX5_layShares 194 = .ok (.iconst 0, 1) := by decide +kernel
theorem dX5_layShares_195 : decode cX5_layShares 195 = .ok (.istore 13, 2) := by decide +kernel
theorem dX5_layShares_197 : decode cX5_layShares 197 = .ok (.iload 13, 2) := by decide +kernel
theorem dX5_layShares_199 : decode cX5_layShares 199 = .ok (.ifCond .eq 8, 3) := by decide +kernel
theorem dX5_layShares_202 : decode cX5_layShares 202 = .ok (.iload 10, 2) := by decide +kernel
theorem dX5_layShares_204 : decode cX5_layShares 204 = .ok (.goto 5, 3) := by decide +kernel
theorem dX5_layShares_207 : decode cX5_layShares 207 = .ok (.iload 7, 2) := by decide +kernel
theorem dX5_layShares_209 : decode cX5_layShares 209 = .ok (.istore 7, 2) := by decide +kernel
theorem dX5_layShares_211 : decode cX5_layShares 211 = .ok (.iload 13, 2) := by decide +kernel
theorem dX5_layShares_213 : decode cX5_layShares 213 = .ok (.ifCond .eq 8, 3) := by decide +kernel
theorem dX5_layShares_216 : decode cX5_layShares 216 = .ok (.lload 11, 2) := by decide +kernel
theorem dX5_layShares_218 : decode cX5_layShares 218 = .ok (.goto 5, 3) := by decide +kernel
theorem dX5_layShares_221 : decode cX5_layShares 221 = .ok (.lload 8, 2) := by decide +kernel
theorem dX5_layShares_223 : decode cX5_layShares 223 = .ok (.lstore 8, 2) := by decide +kernel
theorem dX5_layShares_225 : decode cX5_layShares 225 = .ok (.iinc 10 1, 3) := by decide +kernel
theorem dX5_layShares_228 : decode cX5_layShares 228 = .ok (.goto (-95), 3) := by decide +kernel
theorem dX5_layShares_231 : decode cX5_layShares 231 = .ok (.iload 6, 2) := by decide +kernel
theorem dX5_layShares_233 : decode cX5_layShares 233 = .ok (.iconst 1, 1) := by decide +kernel
theorem dX5_layShares_234 : decode cX5_layShares 234 = .ok (.iload 7, 2) := by decide +kernel
theorem dX5_layShares_236 : decode cX5_layShares 236 = .ok (.ishl, 1) := by decide +kernel
theorem dX5_layShares_237 : decode cX5_layShares 237 = .ok (.ior, 1) := by decide +kernel
theorem dX5_layShares_238 : decode cX5_layShares 238 = .ok (.istore 6, 2) := by decide +kernel
theorem dX5_layShares_240 : decode cX5_layShares 240 = .ok (.aload_n 0, 1) := by decide +kernel
theorem dX5_layShares_241 : decode cX5_layShares 241 = .ok (.getfield 22, 3) := by decide +kernel
theorem dX5_layShares_244 : decode cX5_layShares 244 = .ok (.iload 7, 2) := by decide +kernel
theorem dX5_layShares_246 : decode cX5_layShares 246 = .ok (.dup2, 1) := by decide +kernel
theorem dX5_layShares_247 : decode cX5_layShares 247 = .ok (.iaload, 1) := by decide +kernel
theorem dX5_layShares_248 : decode cX5_layShares 248 = .ok (.iconst 1, 1) := by decide +kernel
theorem dX5_layShares_249 : decode cX5_layShares 249 = .ok (.iadd, 1) := by decide +kernel
theorem dX5_layShares_250 : decode cX5_layShares 250 = .ok (.iastore, 1) := by decide +kernel
theorem dX5_layShares_251 : decode cX5_layShares 251 = .ok (.iinc 5 (-1), 3) := by decide +kernel
theorem dX5_layShares_254 : decode cX5_layShares 254 = .ok (.goto (-141), 3) := by decide +kernel
theorem dX5_layShares_257 : decode cX5_layShares 257 = .ok (.return_, 1) := by decide +kernel
set_option maxRecDepth 20000 in
theorem ggX5_callNow_X5_at : GoodIn wsX5_callNow wsX5_at := goodIn_r _ [9] (by decide +kernel) (by decide +kernel)
set_option maxRecDepth 20000 in
theorem gX5_callNow_X5_at : GoodIn wsX5_callNow (va_wsS RX5 40 yX5_at wsX5_at) := goodIn_app (goodIn_of _ (by decide +kernel)) ggX5_callNow_X5_at
set_option maxRecDepth 20000 in
theorem ggX5_callNow_X5_leftOf : GoodIn wsX5_callNow wsX5_leftOf := goodIn_r _ [13, 1, 6, 7, 8, 9, 44, 45, 46, 47, 48, 49, 50, 51, 52, 53, 54, 55, 56, 57] (by decide +kernel) (by decide +kernel)
set_option maxRecDepth 20000 in
theorem gX5_callNow_X5_leftOf : GoodIn wsX5_callNow (wsV RX5 51 RX5 yX5_leftOf wsX5_leftOf) := goodIn_app (goodIn_of _ (by decide +kernel)) ggX5_callNow_X5_leftOf
set_option maxRecDepth 20000 in
theorem ggX5_callNow_X5_least : GoodIn wsX5_callNow wsX5_least := goodIn_r _ [16] (by decide +kernel) (by decide +kernel)
set_option maxRecDepth 20000 in
theorem gX5_callNow_X5_least : GoodIn wsX5_callNow (va_wsS RX5 54 yX5_least wsX5_least) := goodIn_app (goodIn_of _ (by decide +kernel)) ggX5_callNow_X5_least
set_option maxRecDepth 20000 in
theorem ggX5_callNow_X5_layShares : GoodIn wsX5_callNow wsX5_layShares := goodIn_r _ [20, 4, 1, 21, 22, 23, 24, 8, 25, 6, 7, 9, 26, 27, 28, 14, 15, 16, 44, 45, 46, 47, 48, 49, 50, 51, 52, 53, 54, 55, 56, 57] (by decide +kernel) (by decide +kernel)
set_option maxRecDepth 20000 in
theorem gX5_callNow_X5_layShares : GoodIn wsX5_callNow (wsV RX5 98 RX5 yX5_layShares wsX5_layShares) := goodIn_app (goodIn_of _ (by decide +kernel)) ggX5_callNow_X5_layShares
set_option maxRecDepth 20000 in
theorem ggX5_callNow_X5_layerAt : GoodIn wsX5_callNow wsX5_layerAt := goodIn_r _ [28, 6, 7, 8, 9] (by decide +kernel) (by decide +kernel)
set_option maxRecDepth 20000 in
theorem gX5_callNow_X5_layerAt : GoodIn wsX5_callNow (va_wsS RX5 44 yX5_layerAt wsX5_layerAt) := goodIn_app (goodIn_of _ (by decide +kernel)) ggX5_callNow_X5_layerAt
set_option maxRecDepth 20000 in
theorem ggX5_callNow_X5_layerPays : GoodIn wsX5_callNow wsX5_layerPays := goodIn_r _ [32, 1, 2, 3, 26, 27, 8, 28, 6, 7, 9, 14, 15, 16, 33, 34, 35, 36, 37, 38, 39, 44, 45, 46, 47, 48, 49, 50, 51, 52, 53, 54, 55, 56, 57] (by decide +kernel) (by decide +kernel)
set_option maxRecDepth 20000 in
theorem gX5_callNow_X5_layerPays : GoodIn wsX5_callNow (wsV RX5 102 RX5 yX5_layerPays wsX5_layerPays) := goodIn_app (goodIn_of _ (by decide +kernel)) ggX5_callNow_X5_layerPays
set_option maxRecDepth 20000 in
theorem ggX5_callNow_X5_trim : GoodIn wsX5_callNow wsX5_trim := goodIn_r _ [43, 1, 22, 23, 24, 8, 25, 6, 7, 9, 26, 27, 28, 10, 11, 12, 13, 14, 15, 16, 44, 45, 46, 47, 48, 49, 50, 51, 52, 53, 54, 55, 56, 57] (by decide +kernel) (by decide +kernel)
set_option maxRecDepth 20000 in
theorem gX5_callNow_X5_trim : GoodIn wsX5_callNow (wsV RX5 109 RX5 yX5_trim wsX5_trim) := goodIn_app (goodIn_of _ (by decide +kernel)) ggX5_callNow_X5_trim
theorem dX5_callNow_0 : decode cX5_callNow 0 = .ok (.iload_n 1, 1) := by decide +kernel
theorem dX5_callNow_1 : decode cX5_callNow 1 = .ok (.invokestatic 40, 3) := by decide +kernel
theorem dX5_callNow_4 : decode cX5_callNow 4 = .ok (.istore_n 3, 1) := by decide +kernel
theorem dX5_callNow_5 : decode cX5_callNow 5 = .ok (.iload_n 2, 1) := by decide +kernel
theorem dX5_callNow_6 : decode cX5_callNow 6 = .ok (.aload_n 0, 1) := by decide +kernel
theorem dX5_callNow_7 : decode cX5_callNow 7 = .ok (.iload_n 1, 1) := by decide +kernel
theorem dX5_callNow_8 : decode cX5_callNow 8 = .ok (.invokevirtual 51, 3) := by decide +kernel
theorem dX5_callNow_11 : decode cX5_callNow 11 = .ok (.invokestatic 54, 3) := by decide +kernel
theorem dX5_callNow_14 : decode cX5_callNow 14 = .ok (.istore 4, 2) := by decide +kernel
theorem dX5_callNow_16 : decode cX5_callNow 16 = .ok (.iload 4, 2) := by decide +kernel
theorem dX5_callNow_18 : decode cX5_callNow 18 = .ok (.aload_n 0, 1) := by decide +kernel
theorem dX5_callNow_19 : decode cX5_callNow 19 = .ok (.getfield 7, 3) := by decide +kernel
theorem dX5_callNow_22 : decode cX5_callNow 22 = .ok (.bipush 9, 2) := by decide +kernel
theorem dX5_callNow_24 : decode cX5_callNow 24 = .ok (.aload_n 0, 1) := by decide +kernel
theorem dX5_callNow_25 : decode cX5_callNow 25 = .ok (.getfield 7, 3) := by decide +kernel
theorem dX5_callNow_28 : decode cX5_callNow 28 = .ok (.iload_n 3, 1) := by decide +kernel
theorem dX5_callNow_29 : decode cX5_callNow 29 = .ok (.iaload, 1) := by decide +kernel
theorem dX5_callNow_30 : decode cX5_callNow 30 = .ok (.iadd, 1) := by decide +kernel
theorem dX5_callNow_31 : decode cX5_callNow 31 = .ok (.iaload, 1) := by decide +kernel
theorem dX5_callNow_32 : decode cX5_callNow 32 = .ok (.invokestatic 54, 3) := by decide +kernel
theorem dX5_callNow_35 : decode cX5_callNow 35 = .ok (.istore 5, 2) := by decide +kernel
theorem dX5_callNow_37 : decode cX5_callNow 37 = .ok (.iload 4, 2) := by decide +kernel
theorem dX5_callNow_39 : decode cX5_callNow 39 = .ok (.iload 5, 2) := by decide +kernel
theorem dX5_callNow_41 : decode cX5_callNow 41 = .ok (.isub, 1) := by decide +kernel
theorem dX5_callNow_42 : decode cX5_callNow 42 = .ok (.istore 6, 2) := by decide +kernel
theorem dX5_callNow_44 : decode cX5_callNow 44 = .ok (.aload_n 0, 1) := by decide +kernel
theorem dX5_callNow_45 : decode cX5_callNow 45 = .ok (.iconst (-1), 1) := by decide +kernel
theorem dX5_callNow_46 : decode cX5_callNow 46 = .ok (.putfield 86, 3) := by decide +kernel
theorem dX5_callNow_49 : decode cX5_callNow 49 = .ok (.aload_n 0, 1) := by decide +kernel
theorem dX5_callNow_50 : decode cX5_callNow 50 = .ok (.iload 5, 2) := by decide +kernel
theorem dX5_callNow_52 : decode cX5_callNow 52 = .ok (.putfield 89, 3) := by decide +kernel
theorem dX5_callNow_55 : decode cX5_callNow 55 = .ok (.aload_n 0, 1) := by decide +kernel
theorem dX5_callNow_56 : decode cX5_callNow 56 = .ok (.getfield 7, 3) := by decide +kernel
theorem dX5_callNow_59 : decode cX5_callNow 59 = .ok (.iload_n 3, 1) := by decide +kernel
theorem dX5_callNow_60 : decode cX5_callNow 60 = .ok (.bipush 6, 2) := by decide +kernel
theorem dX5_callNow_62 : decode cX5_callNow 62 = .ok (.iadd, 1) := by decide +kernel
theorem dX5_callNow_63 : decode cX5_callNow 63 = .ok (.dup2, 1) := by decide +kernel
theorem dX5_callNow_64 : decode cX5_callNow 64 = .ok (.iaload, 1) := by decide +kernel
theorem dX5_callNow_65 : decode cX5_callNow 65 = .ok (.iload 4, 2) := by decide +kernel
theorem dX5_callNow_67 : decode cX5_callNow 67 = .ok (.iadd, 1) := by decide +kernel
theorem dX5_callNow_68 : decode cX5_callNow 68 = .ok (.iastore, 1) := by decide +kernel
theorem dX5_callNow_69 : decode cX5_callNow 69 = .ok (.aload_n 0, 1) := by decide +kernel
theorem dX5_callNow_70 : decode cX5_callNow 70 = .ok (.getfield 7, 3) := by decide +kernel
theorem dX5_callNow_73 : decode cX5_callNow 73 = .ok (.bipush 9, 2) := by decide +kernel
theorem dX5_callNow_75 : decode cX5_callNow 75 = .ok (.aload_n 0, 1) := by decide +kernel
theorem dX5_callNow_76 : decode cX5_callNow 76 = .ok (.getfield 7, 3) := by decide +kernel
theorem dX5_callNow_79 : decode cX5_callNow 79 = .ok (.iload_n 3, 1) := by decide +kernel
theorem dX5_callNow_80 : decode cX5_callNow 80 = .ok (.iaload, 1) := by decide +kernel
theorem dX5_callNow_81 : decode cX5_callNow 81 = .ok (.iadd, 1) := by decide +kernel
theorem dX5_callNow_82 : decode cX5_callNow 82 = .ok (.dup2, 1) := by decide +kernel
theorem dX5_callNow_83 : decode cX5_callNow 83 = .ok (.iaload, 1) := by decide +kernel
theorem dX5_callNow_84 : decode cX5_callNow 84 = .ok (.iload 5, 2) := by decide +kernel
theorem dX5_callNow_86 : decode cX5_callNow 86 = .ok (.isub, 1) := by decide +kernel
theorem dX5_callNow_87 : decode cX5_callNow 87 = .ok (.iastore, 1) := by decide +kernel
theorem dX5_callNow_88 : decode cX5_callNow 88 = .ok (.aload_n 0, 1) := by decide +kernel
theorem dX5_callNow_89 : decode cX5_callNow 89 = .ok (.getfield 7, 3) := by decide +kernel
theorem dX5_callNow_92 : decode cX5_callNow 92 = .ok (.bipush 33, 2) := by decide +kernel
theorem dX5_callNow_94 : decode cX5_callNow 94 = .ok (.aload_n 0, 1) := by decide +kernel
theorem dX5_callNow_95 : decode cX5_callNow 95 = .ok (.getfield 7, 3) := by decide +kernel
theorem dX5_callNow_98 : decode cX5_callNow 98 = .ok (.iload_n 3, 1) := by decide +kernel
theorem dX5_callNow_99 : decode cX5_callNow 99 = .ok (.iaload, 1) := by decide +kernel
theorem dX5_callNow_100 : decode cX5_callNow 100 = .ok (.iadd, 1) := by decide +kernel
theorem dX5_callNow_101 : decode cX5_callNow 101 = .ok (.dup2, 1) := by decide +kernel
theorem dX5_callNow_102 : decode cX5_callNow 102 = .ok (.iaload, 1) := by decide +kernel
theorem dX5_callNow_103 : decode cX5_callNow 103 = .ok (.iload 5, 2) := by decide +kernel
theorem dX5_callNow_105 : decode cX5_callNow 105 = .ok (.iadd, 1) := by decide +kernel
theorem dX5_callNow_106 : decode cX5_callNow 106 = .ok (.iastore, 1) := by decide +kernel
theorem dX5_callNow_107 : decode cX5_callNow 107 = .ok (.aload_n 0, 1) := by decide +kernel
theorem dX5_callNow_108 : decode cX5_callNow 108 = .ok (.iload_n 1, 1) := by decide +kernel
theorem dX5_callNow_109 : decode cX5_callNow 109 = .ok (.iload 6, 2) := by decide +kernel
theorem dX5_callNow_111 : decode cX5_callNow 111 = .ok (.invokevirtual 98, 3) := by decide +kernel
theorem dX5_callNow_114 : decode cX5_callNow 114 = .ok (.iconst 0, 1) := by decide +kernel
theorem dX5_callNow_115 : decode cX5_callNow 115 = .ok (.istore 7, 2) := by decide +kernel
theorem dX5_callNow_117 : decode cX5_callNow 117 = .ok (.iload 7, 2) := by decide +kernel
theorem dX5_callNow_119 : decode cX5_callNow 119 = .ok (.aload_n 0, 1) := by decide +kernel
theorem dX5_callNow_120 : decode cX5_callNow 120 = .ok (.getfield 7, 3) := by decide +kernel
theorem dX5_callNow_123 : decode cX5_callNow 123 = .ok (.iload_n 3, 1) := by decide +kernel
theorem dX5_callNow_124 : decode cX5_callNow 124 = .ok (.iconst 3, 1) := by decide +kernel
theorem dX5_callNow_125 : decode cX5_callNow 125 = .ok (.iadd, 1) := by decide +kernel
theorem dX5_callNow_126 : decode cX5_callNow 126 = .ok (.iaload, 1) := by decide +kernel
theorem dX5_callNow_127 : decode cX5_callNow 127 = .ok (.if_icmp .ge 65, 3) := by decide +kernel
theorem dX5_callNow_130 : decode cX5_callNow 130 = .ok (.aload_n 0, 1) := by decide +kernel
theorem dX5_callNow_131 : decode cX5_callNow 131 = .ok (.getfield 7, 3) := by decide +kernel
theorem dX5_callNow_134 : decode cX5_callNow 134 = .ok (.iload_n 3, 1) := by decide +kernel
theorem dX5_callNow_135 : decode cX5_callNow 135 = .ok (.iconst 2, 1) := by decide +kernel
theorem dX5_callNow_136 : decode cX5_callNow 136 = .ok (.iadd, 1) := by decide +kernel
theorem dX5_callNow_137 : decode cX5_callNow 137 = .ok (.iaload, 1) := by decide +kernel
theorem dX5_callNow_138 : decode cX5_callNow 138 = .ok (.iconst 1, 1) := by decide +kernel
theorem dX5_callNow_139 : decode cX5_callNow 139 = .ok (.if_icmp .ne 13, 3) := by decide +kernel
theorem dX5_callNow_142 : decode cX5_callNow 142 = .ok (.aload_n 0, 1) := by decide +kernel
theorem dX5_callNow_143 : decode cX5_callNow 143 = .ok (.getfield 22, 3) := by decide +kernel
theorem dX5_callNow_146 : decode cX5_callNow 146 = .ok (.iload 7, 2) := by decide +kernel
theorem dX5_callNow_148 : decode cX5_callNow 148 = .ok (.iaload, 1) := by decide +kernel
theorem dX5_callNow_149 : decode cX5_callNow 149 = .ok (.goto 21, 3) := by decide +kernel
theorem dX5_callNow_152 : decode cX5_callNow 152 = .ok (.iload 6, 2) := by decide +kernel
theorem dX5_callNow_154 : decode cX5_callNow 154 = .ok (.aload_n 0, 1) := by decide +kernel
theorem dX5_callNow_155 : decode cX5_callNow 155 = .ok (.getfield 7, 3) := by decide +kernel
theorem dX5_callNow_158 : decode cX5_callNow 158 = .ok (.iload_n 1, 1) := by decide +kernel
theorem dX5_callNow_159 : decode cX5_callNow 159 = .ok (.iload 7, 2) := by decide +kernel
theorem dX5_callNow_161 : decode cX5_callNow 161 = .ok (.invokestatic 44, 3) := by decide +kernel
theorem dX5_callNow_164 : decode cX5_callNow 164 = .ok (.iconst 2, 1) := by decide +kernel
theorem dX5_callNow_165 : decode cX5_callNow 165 = .ok (.iadd, 1) := by decide +kernel
theorem dX5_callNow_166 : decode cX5_callNow 166 = .ok (.iaload, 1) := by decide +kernel
theorem dX5_callNow_167 : decode cX5_callNow 167 = .ok (.invokestatic 54, 3) := by decide +kernel
theorem dX5_callNow_170 : decode cX5_callNow 170 = .ok (.istore 8, 2) := by decide +kernel
theorem dX5_callNow_172 : decode cX5_callNow 172 = .ok (.iload 6, 2) := by decide +kernel
theorem dX5_callNow_174 : decode cX5_callNow 174 = .ok (.aload_n 0, 1) := by decide +kernel
theorem dX5_callNow_175 : decode cX5_callNow 175 = .ok (.iload_n 1, 1) := by decide +kernel
theorem dX5_callNow_176 : decode cX5_callNow 176 = .ok (.iload 7, 2) := by decide +kernel
theorem dX5_callNow_178 : decode cX5_callNow 178 = .ok (.iload 8, 2) := by decide +kernel
theorem dX5_callNow_180 : decode cX5_callNow 180 = .ok (.invokevirtual 102, 3) := by decide +kernel
theorem dX5_callNow_183 : decode cX5_callNow 183 = .ok (.isub, 1) := by decide +kernel
theorem dX5_callNow_184 : decode cX5_callNow 184 = .ok (.istore 6, 2) := by decide +kernel
theorem dX5_callNow_186 : decode cX5_callNow 186 = .ok (.iinc 7 1, 3) := by decide +kernel
theorem dX5_callNow_189 : decode cX5_callNow 189 = .ok (.goto (-72), 3) := by decide +kernel
theorem dX5_callNow_192 : decode cX5_callNow 192 = .ok (.aload_n 0, 1) := by decide +kernel
theorem dX5_callNow_193 : decode cX5_callNow 193 = .ok (.iload 4, 2) := by decide +kernel
theorem dX5_callNow_195 : decode cX5_callNow 195 = .ok (.aload_n 0, 1) := by decide +kernel
theorem dX5_callNow_196 : decode cX5_callNow 196 = .ok (.getfield 89, 3) := by decide +kernel
theorem dX5_callNow_199 : decode cX5_callNow 199 = .ok (.isub, 1) := by decide +kernel
theorem dX5_callNow_200 : decode cX5_callNow 200 = .ok (.putfield 106, 3) := by decide +kernel
theorem dX5_callNow_203 : decode cX5_callNow 203 = .ok (.aload_n 0, 1) := by decide +kernel
theorem dX5_callNow_204 : decode cX5_callNow 204 = .ok (.getfield 7, 3) := by decide +kernel
theorem dX5_callNow_207 : decode cX5_callNow 207 = .ok (.iload_n 3, 1) := by decide +kernel
theorem dX5_callNow_208 : decode cX5_callNow 208 = .ok (.bipush 7, 2) := by decide +kernel
theorem dX5_callNow_210 : decode cX5_callNow 210 = .ok (.iadd, 1) := by decide +kernel
theorem dX5_callNow_211 : decode cX5_callNow 211 = .ok (.dup2, 1) := by decide +kernel
theorem dX5_callNow_212 : decode cX5_callNow 212 = .ok (.iaload, 1) := by decide +kernel
theorem dX5_callNow_213 : decode cX5_callNow 213 = .ok (.aload_n 0, 1) := by decide +kernel
theorem dX5_callNow_214 : decode cX5_callNow 214 = .ok (.getfield 89, 3) := by decide +kernel
theorem dX5_callNow_217 : decode cX5_callNow 217 = .ok (.iadd, 1) := by decide +kernel
theorem dX5_callNow_218 : decode cX5_callNow 218 = .ok (.iastore, 1) := by decide +kernel
theorem dX5_callNow_219 : decode cX5_callNow 219 = .ok (.aload_n 0, 1) := by decide +kernel
theorem dX5_callNow_220 : decode cX5_callNow 220 = .ok (.getfield 7, 3) := by decide +kernel
theorem dX5_callNow_223 : decode cX5_callNow 223 = .ok (.iconst 2, 1) := by decide +kernel
theorem dX5_callNow_224 : decode cX5_callNow 224 = .ok (.dup2, 1) := by decide +kernel
theorem dX5_callNow_225 : decode cX5_callNow 225 = .ok (.iaload, 1) := by decide +kernel
theorem dX5_callNow_226 : decode cX5_callNow 226 = .ok (.iload 4, 2) := by decide +kernel
theorem dX5_callNow_228 : decode cX5_callNow 228 = .ok (.iadd, 1) := by decide +kernel
theorem dX5_callNow_229 : decode cX5_callNow 229 = .ok (.iastore, 1) := by decide +kernel
theorem dX5_callNow_230 : decode cX5_callNow 230 = .ok (.aload_n 0, 1) := by decide +kernel
theorem dX5_callNow_231 : decode cX5_callNow 231 = .ok (.getfield 7, 3) := by decide +kernel
theorem dX5_callNow_234 : decode cX5_callNow 234 = .ok (.iconst 3, 1) := by decide +kernel
theorem dX5_callNow_235 : decode cX5_callNow 235 = .ok (.dup2, 1) := by decide +kernel
theorem dX5_callNow_236 : decode cX5_callNow 236 = .ok (.iaload, 1) := by decide +kernel
theorem dX5_callNow_237 : decode cX5_callNow 237 = .ok (.aload_n 0, 1) := by decide +kernel
theorem dX5_callNow_238 : decode cX5_callNow 238 = .ok (.getfield 89, 3) := by decide +kernel
theorem dX5_callNow_241 : decode cX5_callNow 241 = .ok (.iadd, 1) := by decide +kernel
theorem dX5_callNow_242 : decode cX5_callNow 242 = .ok (.iastore, 1) := by decide +kernel
theorem dX5_callNow_243 : decode cX5_callNow 243 = .ok (.aload_n 0, 1) := by decide +kernel
theorem dX5_callNow_244 : decode cX5_callNow 244 = .ok (.getfield 7, 3) := by decide +kernel
theorem dX5_callNow_247 : decode cX5_callNow 247 = .ok (.iconst 4, 1) := by decide +kernel
theorem dX5_callNow_248 : decode cX5_callNow 248 = .ok (.dup2, 1) := by decide +kernel
theorem dX5_callNow_249 : decode cX5_callNow 249 = .ok (.iaload, 1) := by decide +kernel
theorem dX5_callNow_250 : decode cX5_callNow 250 = .ok (.aload_n 0, 1) := by decide +kernel
theorem dX5_callNow_251 : decode cX5_callNow 251 = .ok (.getfield 106, 3) := by decide +kernel
theorem dX5_callNow_254 : decode cX5_callNow 254 = .ok (.iadd, 1) := by decide +kernel
theorem dX5_callNow_255 : decode cX5_callNow 255 = .ok (.iastore, 1) := by decide +kernel
theorem dX5_callNow_256 : decode cX5_callNow 256 = .ok (.aload_n 0, 1) := by decide +kernel
theorem dX5_callNow_257 : decode cX5_callNow 257 = .ok (.iload_n 1, 1) := by decide +kernel
theorem dX5_callNow_258 : decode cX5_callNow 258 = .ok (.invokevirtual 109, 3) := by decide +kernel
theorem dX5_callNow_261 : decode cX5_callNow 261 = .ok (.return_, 1) := by decide +kernel
set_option maxRecDepth 20000 in
theorem ggX5_call_X5_isBond : GoodIn wsX5_call wsX5_isBond := goodIn_r _ [8, 2, 9, 10, 7, 11, 74, 75, 76, 77, 78, 79, 80, 81, 82, 83, 84, 85, 86, 87] (by decide +kernel) (by decide +kernel)
set_option maxRecDepth 20000 in
theorem gX5_call_X5_isBond : GoodIn wsX5_call (wsV RX5 113 RX5 yX5_isBond wsX5_isBond) := goodIn_app (goodIn_of _ (by decide +kernel)) ggX5_call_X5_isBond
set_option maxRecDepth 20000 in
theorem ggX5_call_X5_fails : GoodIn wsX5_call wsX5_fails := goodIn_r _ [15, 1, 74, 75, 76, 77, 78, 79, 80, 81, 82, 83, 84, 85, 86, 87] (by decide +kernel) (by decide +kernel)
set_option maxRecDepth 20000 in
theorem gX5_call_X5_fails : GoodIn wsX5_call (wsV RX5 64 RX5 yX5_fails wsX5_fails) := goodIn_app (goodIn_of _ (by decide +kernel)) ggX5_call_X5_fails
set_option maxRecDepth 20000 in
theorem ggX5_call_X5_isMoney : GoodIn wsX5_call wsX5_isMoney := goodIn_r _ [18, 19, 9, 10, 7, 11] (by decide +kernel) (by decide +kernel)
set_option maxRecDepth 20000 in
theorem gX5_call_X5_isMoney : GoodIn wsX5_call (va_wsS RX5 67 yX5_isMoney wsX5_isMoney) := goodIn_app (goodIn_of _ (by decide +kernel)) ggX5_call_X5_isMoney
set_option maxRecDepth 20000 in
theorem ggX5_call_X5_in : GoodIn wsX5_call wsX5_in := goodIn_r _ [11] (by decide +kernel) (by decide +kernel)
set_option maxRecDepth 20000 in
theorem gX5_call_X5_in : GoodIn wsX5_call (va_wsS RX5 35 yX5_in wsX5_in) := goodIn_app (goodIn_of _ (by decide +kernel)) ggX5_call_X5_in
set_option maxRecDepth 20000 in
theorem ggX5_call_X5_runs : GoodIn wsX5_call wsX5_runs := goodIn_r _ [23, 2, 24, 25, 7, 26, 74, 75, 76, 77, 78, 79, 80, 81, 82, 83, 84, 85, 86, 87] (by decide +kernel) (by decide +kernel)
set_option maxRecDepth 20000 in
theorem gX5_call_X5_runs : GoodIn wsX5_call (wsV RX5 116 RX5 yX5_runs wsX5_runs) := goodIn_app (goodIn_of _ (by decide +kernel)) ggX5_call_X5_runs
set_option maxRecDepth 20000 in
theorem ggX5_call_X5_save : GoodIn wsX5_call wsX5_save := goodIn_r _ [30, 31, 32, 2, 74, 75, 76, 77, 78, 79, 80, 81, 82, 83, 84, 85, 86, 87] (by decide +kernel) (by decide +kernel)
set_option maxRecDepth 20000 in
theorem gX5_call_X5_save : GoodIn wsX5_call (wsV RX5 70 RX5 yX5_save wsX5_save) := goodIn_app (goodIn_of _ (by decide +kernel)) ggX5_call_X5_save
set_option maxRecDepth 20000 in
theorem ggX5_call_X5_callNow : GoodIn wsX5_call wsX5_callNow := goodIn_r _ [36, 2, 37, 3, 38, 39, 24, 25, 7, 26, 40, 41, 42, 43, 44, 45, 46, 47, 48, 49, 50, 51, 52, 53, 54, 55, 56, 57, 58, 59, 60, 61, 62, 63, 64, 65, 66, 67, 68, 69, 70, 71, 72, 73, 74, 75, 76, 77, 78, 79, 80, 81, 82, 83, 84, 85, 86, 87] (by decide +kernel) (by decide +kernel)
set_option maxRecDepth 20000 in
theorem gX5_call_X5_callNow : GoodIn wsX5_call (wsV RX5 119 RX5 yX5_callNow wsX5_callNow) := goodIn_app (goodIn_of _ (by decide +kernel)) ggX5_call_X5_callNow
theorem dX5_call_0 : decode cX5_call 0 = .ok (.aload_n 0, 1) := by decide +kernel
theorem dX5_call_1 : decode cX5_call 1 = .ok (.iconst 0, 1) := by decide +kernel
theorem dX5_call_2 : decode cX5_call 2 = .ok (.putfield 28, 3) := by decide +kernel
theorem dX5_call_5 : decode cX5_call 5 = .ok (.aload_n 0, 1) := by decide +kernel
theorem dX5_call_6 : decode cX5_call 6 = .ok (.iload_n 1, 1) := by decide +kernel
theorem dX5_call_7 : decode cX5_call 7 = .ok (.invokevirtual 113, 3) := by decide +kernel
theorem dX5_call_10 : decode cX5_call 10 = .ok (.ifCond .ne 9, 3) := by decide +kernel
theorem dX5_call_13 : decode cX5_call 13 = .ok (.aload_n 0, 1) := by decide +kernel
theorem dX5_call_14 : decode cX5_call 14 = .ok (.iconst 1, 1) := by decide +kernel
theorem dX5_call_15 : decode cX5_call 15 = .ok (.invokevirtual 64, 3) := by decide +kernel
theorem dX5_call_18 : decode cX5_call 18 = .ok (.ireturn, 1) := by decide +kernel
theorem dX5_call_19 : decode cX5_call 19 = .ok (.iload_n 2, 1) := by decide +kernel
theorem dX5_call_20 : decode cX5_call 20 = .ok (.invokestatic 67, 3) := by decide +kernel
theorem dX5_call_23 : decode cX5_call 23 = .ok (.ifCond .eq 13, 3) := by decide +kernel
theorem dX5_call_26 : decode cX5_call 26 = .ok (.iload_n 3, 1) := by decide +kernel
theorem dX5_call_27 : decode cX5_call 27 = .ok (.iconst 0, 1) := by decide +kernel
theorem dX5_call_28 : decode cX5_call 28 = .ok (.bipush 9, 2) := by decide +kernel
theorem dX5_call_30 : decode cX5_call 30 = .ok (.invokestatic 35, 3) := by decide +kernel
theorem dX5_call_33 : decode cX5_call 33 = .ok (.ifCond .ne 9, 3) := by decide +kernel
theorem dX5_call_36 : decode cX5_call 36 = .ok (.aload_n 0, 1) := by decide +kernel
theorem dX5_call_37 : decode cX5_call 37 = .ok (.iconst 2, 1) := by decide +kernel
theorem dX5_call_38 : decode cX5_call 38 = .ok (.invokevirtual 64, 3) := by decide +kernel
theorem dX5_call_41 : decode cX5_call 41 = .ok (.ireturn, 1) := by decide +kernel
theorem dX5_call_42 : decode cX5_call 42 = .ok (.aload_n 0, 1) := by decide +kernel
theorem dX5_call_43 : decode cX5_call 43 = .ok (.iload_n 1, 1) := by decide +kernel
theorem dX5_call_44 : decode cX5_call 44 = .ok (.invokevirtual 116, 3) := by decide +kernel
theorem dX5_call_47 : decode cX5_call 47 = .ok (.ifCond .eq 14, 3) := by decide +kernel
theorem dX5_call_50 : decode cX5_call 50 = .ok (.iload_n 3, 1) := by decide +kernel
theorem dX5_call_51 : decode cX5_call 51 = .ok (.aload_n 0, 1) := by decide +kernel
theorem dX5_call_52 : decode cX5_call 52 = .ok (.getfield 7, 3) := by decide +kernel
theorem dX5_call_55 : decode cX5_call 55 = .ok (.bipush 6, 2) := by decide +kernel
theorem dX5_call_57 : decode cX5_call 57 = .ok (.iaload, 1) := by decide +kernel
theorem dX5_call_58 : decode cX5_call 58 = .ok (.if_icmp .ge 9, 3) := by decide +kernel
theorem dX5_call_61 : decode cX5_call 61 = .ok (.aload_n 0, 1) := by decide +kernel
theorem dX5_call_62 : decode cX5_call 62 = .ok (.iconst 3, 1) := by decide +kernel
theorem dX5_call_63 : decode cX5_call 63 = .ok (.invokevirtual 64, 3) := by decide +kernel
theorem dX5_call_66 : decode cX5_call 66 = .ok (.ireturn, 1) := by decide +kernel
theorem dX5_call_67 : decode cX5_call 67 = .ok (.aload_n 0, 1) := by decide +kernel
theorem dX5_call_68 : decode cX5_call 68 = .ok (.invokevirtual 70, 3) := by decide +kernel
theorem dX5_call_71 : decode cX5_call 71 = .ok (.aload_n 0, 1) := by decide +kernel
theorem dX5_call_72 : decode cX5_call 72 = .ok (.iload_n 1, 1) := by decide +kernel
theorem dX5_call_73 : decode cX5_call 73 = .ok (.iload_n 2, 1) := by decide +kernel
theorem dX5_call_74 : decode cX5_call 74 = .ok (.invokevirtual 119, 3) := by decide +kernel
theorem dX5_call_77 : decode cX5_call 77 = .ok (.aload_n 0, 1) := by decide +kernel
theorem dX5_call_78 : decode cX5_call 78 = .ok (.getfield 89, 3) := by decide +kernel
theorem dX5_call_81 : decode cX5_call 81 = .ok (.ireturn, 1) := by decide +kernel
set_option maxRecDepth 20000 in
theorem ggX5_release_X5_leftOf : GoodIn wsX5_release wsX5_leftOf := goodIn_r _ [6, 1, 7, 8, 5, 9, 24, 25, 26, 27, 28, 29, 30, 31, 32, 33, 34, 35, 36, 37] (by decide +kernel) (by decide +kernel)
set_option maxRecDepth 20000 in
theorem gX5_release_X5_leftOf : GoodIn wsX5_release (wsV RX5 51 RX5 yX5_leftOf wsX5_leftOf) := goodIn_app (goodIn_of _ (by decide +kernel)) ggX5_release_X5_leftOf
set_option maxRecDepth 20000 in
theorem ggX5_release_X5_least : GoodIn wsX5_release wsX5_least := goodIn_r _ [12] (by decide +kernel) (by decide +kernel)
set_option maxRecDepth 20000 in
theorem gX5_release_X5_least : GoodIn wsX5_release (va_wsS RX5 54 yX5_least wsX5_least) := goodIn_app (goodIn_of _ (by decide +kernel)) ggX5_release_X5_least
set_option maxRecDepth 20000 in
theorem ggX5_release_X5_at : GoodIn wsX5_release wsX5_at := goodIn_r _ [9] (by decide +kernel) (by decide +kernel)
set_option maxRecDepth 20000 in
theorem gX5_release_X5_at : GoodIn wsX5_release (va_wsS RX5 40 yX5_at wsX5_at) := goodIn_app (goodIn_of _ (by decide +kernel)) ggX5_release_X5_at
set_option maxRecDepth 20000 in
theorem ggX5_release_X5_trim : GoodIn wsX5_release wsX5_trim := goodIn_r _ [16, 1, 17, 18, 19, 5, 20, 7, 8, 9, 21, 22, 23, 2, 3, 4, 6, 10, 11, 12, 24, 25, 26, 27, 28, 29, 30, 31, 32, 33, 34, 35, 36, 37] (by decide +kernel) (by decide +kernel)
set_option maxRecDepth 20000 in
theorem gX5_release_X5_trim : GoodIn wsX5_release (wsV RX5 109 RX5 yX5_trim wsX5_trim) := goodIn_app (goodIn_of _ (by decide +kernel)) ggX5_release_X5_trim
theorem dX5_release_0 : decode cX5_release 0 = .ok (.iload_n 2, 1) := by decide +kernel
theorem dX5_release_1 : decode cX5_release 1 = .ok (.aload_n 0, 1) := by decide +kernel
theorem dX5_release_2 : decode cX5_release 2 = .ok (.iload_n 1, 1) := by decide +kernel
theorem dX5_release_3 : decode cX5_release 3 = .ok (.invokevirtual 51, 3) := by decide +kernel
theorem dX5_release_6 : decode cX5_release 6 = .ok (.invokestatic 54, 3) := by decide +kernel
theorem dX5_release_9 : decode cX5_release 9 = .ok (.istore_n 3, 1) := by decide +kernel
theorem dX5_release_10 : decode cX5_release 10 = .ok (.aload_n 0, 1) := by decide +kernel
theorem dX5_release_11 : decode cX5_release 11 = .ok (.getfield 7, 3) := by decide +kernel
theorem dX5_release_14 : decode cX5_release 14 = .ok (.iload_n 1, 1) := by decide +kernel
theorem dX5_release_15 : decode cX5_release 15 = .ok (.invokestatic 40, 3) := by decide +kernel
theorem dX5_release_18 : decode cX5_release 18 = .ok (.bipush 8, 2) := by decide +kernel
theorem dX5_release_20 : decode cX5_release 20 = .ok (.iadd, 1) := by decide +kernel
theorem dX5_release_21 : decode cX5_release 21 = .ok (.dup2, 1) := by decide +kernel
theorem dX5_release_22 : decode cX5_release 22 = .ok (.iaload, 1) := by decide +kernel
theorem dX5_release_23 : decode cX5_release 23 = .ok (.iload_n 3, 1) := by decide +kernel
theorem dX5_release_24 : decode cX5_release 24 = .ok (.iadd, 1) := by decide +kernel
theorem dX5_release_25 : decode cX5_release 25 = .ok (.iastore, 1) := by decide +kernel
theorem dX5_release_26 : decode cX5_release 26 = .ok (.aload_n 0, 1) := by decide +kernel
theorem dX5_release_27 : decode cX5_release 27 = .ok (.getfield 7, 3) := by decide +kernel
theorem dX5_release_30 : decode cX5_release 30 = .ok (.iconst 5, 1) := by decide +kernel
theorem dX5_release_31 : decode cX5_release 31 = .ok (.dup2, 1) := by decide +kernel
theorem dX5_release_32 : decode cX5_release 32 = .ok (.iaload, 1) := by decide +kernel
theorem dX5_release_33 : decode cX5_release 33 = .ok (.iload_n 3, 1) := by decide +kernel
theorem dX5_release_34 : decode cX5_release 34 = .ok (.iadd, 1) := by decide +kernel
theorem dX5_release_35 : decode cX5_release 35 = .ok (.iastore, 1) := by decide +kernel
theorem dX5_release_36 : decode cX5_release 36 = .ok (.aload_n 0, 1) := by decide +kernel
theorem dX5_release_37 : decode cX5_release 37 = .ok (.iload_n 1, 1) := by decide +kernel
theorem dX5_release_38 : decode cX5_release 38 = .ok (.invokevirtual 109, 3) := by decide +kernel
theorem dX5_release_41 : decode cX5_release 41 = .ok (.iload_n 3, 1) := by decide +kernel
theorem dX5_release_42 : decode cX5_release 42 = .ok (.ireturn, 1) := by decide +kernel
set_option maxRecDepth 20000 in
theorem ggX5_reach_X5_isBond : GoodIn wsX5_reach wsX5_isBond := goodIn_r _ [8, 2, 9, 10, 7, 11, 51, 52, 53, 54, 55, 56, 57, 58, 59, 60, 61, 62, 63, 64] (by decide +kernel) (by decide +kernel)
set_option maxRecDepth 20000 in
theorem gX5_reach_X5_isBond : GoodIn wsX5_reach (wsV RX5 113 RX5 yX5_isBond wsX5_isBond) := goodIn_app (goodIn_of _ (by decide +kernel)) ggX5_reach_X5_isBond
set_option maxRecDepth 20000 in
theorem ggX5_reach_X5_fails : GoodIn wsX5_reach wsX5_fails := goodIn_r _ [15, 1, 51, 52, 53, 54, 55, 56, 57, 58, 59, 60, 61, 62, 63, 64] (by decide +kernel) (by decide +kernel)
set_option maxRecDepth 20000 in
theorem gX5_reach_X5_fails : GoodIn wsX5_reach (wsV RX5 64 RX5 yX5_fails wsX5_fails) := goodIn_app (goodIn_of _ (by decide +kernel)) ggX5_reach_X5_fails
set_option maxRecDepth 20000 in
theorem ggX5_reach_X5_at : GoodIn wsX5_reach wsX5_at := goodIn_r _ [18] (by decide +kernel) (by decide +kernel)
set_option maxRecDepth 20000 in
theorem gX5_reach_X5_at : GoodIn wsX5_reach (va_wsS RX5 40 yX5_at wsX5_at) := goodIn_app (goodIn_of _ (by decide +kernel)) ggX5_reach_X5_at
set_option maxRecDepth 20000 in
theorem ggX5_reach_X5_runs : GoodIn wsX5_reach wsX5_runs := goodIn_r _ [22, 2, 16, 17, 7, 18, 51, 52, 53, 54, 55, 56, 57, 58, 59, 60, 61, 62, 63, 64] (by decide +kernel) (by decide +kernel)
set_option maxRecDepth 20000 in
theorem gX5_reach_X5_runs : GoodIn wsX5_reach (wsV RX5 116 RX5 yX5_runs wsX5_runs) := goodIn_app (goodIn_of _ (by decide +kernel)) ggX5_reach_X5_runs
set_option maxRecDepth 20000 in
theorem ggX5_reach_X5_save : GoodIn wsX5_reach wsX5_save := goodIn_r _ [26, 27, 28, 2, 51, 52, 53, 54, 55, 56, 57, 58, 59, 60, 61, 62, 63, 64] (by decide +kernel) (by decide +kernel)
set_option maxRecDepth 20000 in
theorem gX5_reach_X5_save : GoodIn wsX5_reach (wsV RX5 70 RX5 yX5_save wsX5_save) := goodIn_app (goodIn_of _ (by decide +kernel)) ggX5_reach_X5_save
set_option maxRecDepth 20000 in
theorem ggX5_reach_X5_release : GoodIn wsX5_reach wsX5_release := goodIn_r _ [32, 2, 33, 34, 35, 7, 36, 16, 17, 18, 37, 38, 39, 40, 41, 42, 43, 44, 45, 46, 47, 48, 49, 50, 51, 52, 53, 54, 55, 56, 57, 58, 59, 60, 61, 62, 63, 64] (by decide +kernel) (by decide +kernel)
set_option maxRecDepth 20000 in
theorem gX5_reach_X5_release : GoodIn wsX5_reach (wsV RX5 124 RX5 yX5_release wsX5_release) := goodIn_app (goodIn_of _ (by decide +kernel)) ggX5_reach_X5_release
theorem dX5_reach_0 : decode cX5_reach 0 = .ok (.aload_n 0, 1) := by decide +kernel
theorem dX5_reach_1 : decode cX5_reach 1 = .ok (.iconst 0, 1) := by decide +kernel
theorem dX5_reach_2 : decode cX5_reach 2 = .ok (.putfield 28, 3) := by decide +kernel
theorem dX5_reach_5 : decode cX5_reach 5 = .ok (.aload_n 0, 1) := by decide +kernel
theorem dX5_reach_6 : decode cX5_reach 6 = .ok (.iload_n 1, 1) := by decide +kernel
theorem dX5_reach_7 : decode cX5_reach 7 = .ok (.invokevirtual 113, 3) := by decide +kernel
theorem dX5_reach_10 : decode cX5_reach 10 = .ok (.ifCond .ne 9, 3) := by decide +kernel
theorem dX5_reach_13 : decode cX5_reach 13 = .ok (.aload_n 0, 1) := by decide +kernel
theorem dX5_reach_14 : decode cX5_reach 14 = .ok (.iconst 1, 1) := by decide +kernel
theorem dX5_reach_15 : decode cX5_reach 15 = .ok (.invokevirtual 64, 3) := by decide +kernel
theorem dX5_reach_18 : decode cX5_reach 18 = .ok (.ireturn, 1) := by decide +kernel
theorem dX5_reach_19 : decode cX5_reach 19 = .ok (.iload_n 1, 1) := by decide +kernel
theorem dX5_reach_20 : decode cX5_reach 20 = .ok (.invokestatic 40, 3) := by decide +kernel
theorem dX5_reach_23 : decode cX5_reach 23 = .ok (.istore_n 2, 1) := by decide +kernel
theorem dX5_reach_24 : decode cX5_reach 24 = .ok (.aload_n 0, 1) := by decide +kernel
theorem dX5_reach_25 : decode cX5_reach 25 = .ok (.iload_n 1, 1) := by decide +kernel
theorem dX5_reach_26 : decode cX5_reach 26 = .ok (.invokevirtual 116, 3) := by decide +kernel
theorem dX5_reach_29 : decode cX5_reach 29 = .ok (.ifCond .eq 22, 3) := by decide +kernel
theorem dX5_reach_32 : decode cX5_reach 32 = .ok (.aload_n 0, 1) := by decide +kernel
theorem dX5_reach_33 : decode cX5_reach 33 = .ok (.getfield 7, 3) := by decide +kernel
theorem dX5_reach_36 : decode cX5_reach 36 = .ok (.iload_n 2, 1) := by decide +kernel
theorem dX5_reach_37 : decode cX5_reach 37 = .ok (.iconst 5, 1) := by decide +kernel
theorem dX5_reach_38 : decode cX5_reach 38 = .ok (.iadd, 1) := by decide +kernel
theorem dX5_reach_39 : decode cX5_reach 39 = .ok (.iaload, 1) := by decide +kernel
theorem dX5_reach_40 : decode cX5_reach 40 = .ok (.aload_n 0, 1) := by decide +kernel
theorem dX5_reach_41 : decode cX5_reach 41 = .ok (.getfield 7, 3) := by decide +kernel
theorem dX5_reach_44 : decode cX5_reach 44 = .ok (.iload_n 2, 1) := by decide +kernel
theorem dX5_reach_45 : decode cX5_reach 45 = .ok (.iconst 4, 1) := by decide +kernel
theorem dX5_reach_46 : decode cX5_reach 46 = .ok (.iadd, 1) := by decide +kernel
theorem dX5_reach_47 : decode cX5_reach 47 = .ok (.iaload, 1) := by decide +kernel
theorem dX5_reach_48 : decode cX5_reach 48 = .ok (.if_icmp .ne 9, 3) := by decide +kernel
theorem dX5_reach_51 : decode cX5_reach 51 = .ok (.aload_n 0, 1) := by decide +kernel
theorem dX5_reach_52 : decode cX5_reach 52 = .ok (.iconst 2, 1) := by decide +kernel
theorem dX5_reach_53 : decode cX5_reach 53 = .ok (.invokevirtual 64, 3) := by decide +kernel
theorem dX5_reach_56 : decode cX5_reach 56 = .ok (.ireturn, 1) := by decide +kernel
theorem dX5_reach_57 : decode cX5_reach 57 = .ok (.aload_n 0, 1) := by decide +kernel
theorem dX5_reach_58 : decode cX5_reach 58 = .ok (.invokevirtual 70, 3) := by decide +kernel
theorem dX5_reach_61 : decode cX5_reach 61 = .ok (.aload_n 0, 1) := by decide +kernel
theorem dX5_reach_62 : decode cX5_reach 62 = .ok (.getfield 7, 3) := by decide +kernel
theorem dX5_reach_65 : decode cX5_reach 65 = .ok (.iload_n 2, 1) := by decide +kernel
theorem dX5_reach_66 : decode cX5_reach 66 = .ok (.iconst 1, 1) := by decide +kernel
theorem dX5_reach_67 : decode cX5_reach 67 = .ok (.iadd, 1) := by decide +kernel
theorem dX5_reach_68 : decode cX5_reach 68 = .ok (.iaload, 1) := by decide +kernel
theorem dX5_reach_69 : decode cX5_reach 69 = .ok (.i2l, 1) := by decide +kernel
theorem dX5_reach_70 : decode cX5_reach 70 = .ok (.aload_n 0, 1) := by decide +kernel
theorem dX5_reach_71 : decode cX5_reach 71 = .ok (.getfield 7, 3) := by decide +kernel
theorem dX5_reach_74 : decode cX5_reach 74 = .ok (.iload_n 2, 1) := by decide +kernel
theorem dX5_reach_75 : decode cX5_reach 75 = .ok (.bipush 10, 2) := by decide +kernel
theorem dX5_reach_77 : decode cX5_reach 77 = .ok (.iadd, 1) := by decide +kernel
theorem dX5_reach_78 : decode cX5_reach 78 = .ok (.aload_n 0, 1) := by decide +kernel
theorem dX5_reach_79 : decode cX5_reach 79 = .ok (.getfield 7, 3) := by decide +kernel
theorem dX5_reach_82 : decode cX5_reach 82 = .ok (.iload_n 2, 1) := by decide +kernel
theorem dX5_reach_83 : decode cX5_reach 83 = .ok (.iconst 5, 1) := by decide +kernel
theorem dX5_reach_84 : decode cX5_reach 84 = .ok (.iadd, 1) := by decide +kernel
theorem dX5_reach_85 : decode cX5_reach 85 = .ok (.iaload, 1) := by decide +kernel
theorem dX5_reach_86 : decode cX5_reach 86 = .ok (.iadd, 1) := by decide +kernel
theorem dX5_reach_87 : decode cX5_reach 87 = .ok (.iaload, 1) := by decide +kernel
theorem dX5_reach_88 : decode cX5_reach 88 = .ok (.i2l, 1) := by decide +kernel
theorem dX5_reach_89 : decode cX5_reach 89 = .ok (.lmul, 1) := by decide +kernel
theorem dX5_reach_90 : decode cX5_reach 90 = .ok (.ldc2_w 122, 3) := by decide +kernel
theorem dX5_reach_93 : decode cX5_reach 93 = .ok (.ldiv, 1) := by decide +kernel
theorem dX5_reach_94 : decode cX5_reach 94 = .ok (.l2i, 1) := by decide +kernel
theorem dX5_reach_95 : decode cX5_reach 95 = .ok (.istore_n 3, 1) := by decide +kernel
theorem dX5_reach_96 : decode cX5_reach 96 = .ok (.aload_n 0, 1) := by decide +kernel
theorem dX5_reach_97 : decode cX5_reach 97 = .ok (.getfield 7, 3) := by decide +kernel
theorem dX5_reach_100 : decode cX5_reach 100 = .ok (.iload_n 2, 1) := by decide +kernel
theorem dX5_reach_101 : decode cX5_reach 101 = .ok (.iconst 5, 1) := by decide +kernel
theorem dX5_reach_102 : decode cX5_reach 102 = .ok (.iadd, 1) := by decide +kernel
theorem dX5_reach_103 : decode cX5_reach 103 = .ok (.dup2, 1) := by decide +kernel
theorem dX5_reach_104 : decode cX5_reach 104 = .ok (.iaload, 1) := by decide +kernel
theorem dX5_reach_105 : decode cX5_reach 105 = .ok (.iconst 1, 1) := by decide +kernel
theorem dX5_reach_106 : decode cX5_reach 106 = .ok (.iadd, 1) := by decide +kernel
theorem dX5_reach_107 : decode cX5_reach 107 = .ok (.iastore, 1) := by decide +kernel
theorem dX5_reach_108 : decode cX5_reach 108 = .ok (.aload_n 0, 1) := by decide +kernel
theorem dX5_reach_109 : decode cX5_reach 109 = .ok (.iload_n 1, 1) := by decide +kernel
theorem dX5_reach_110 : decode cX5_reach 110 = .ok (.iload_n 3, 1) := by decide +kernel
theorem dX5_reach_111 : decode cX5_reach 111 = .ok (.invokevirtual 124, 3) := by decide +kernel
theorem dX5_reach_114 : decode cX5_reach 114 = .ok (.ireturn, 1) := by decide +kernel
set_option maxRecDepth 20000 in
theorem ggX5_end_X5_isBond : GoodIn wsX5_end wsX5_isBond := goodIn_r _ [7, 2, 8, 9, 6, 10, 50, 51, 52, 53, 54, 55, 56, 57, 58, 59, 60, 61, 62, 63] (by decide +kernel) (by decide +kernel)
set_option maxRecDepth 20000 in
theorem gX5_end_X5_isBond : GoodIn wsX5_end (wsV RX5 113 RX5 yX5_isBond wsX5_isBond) := goodIn_app (goodIn_of _ (by decide +kernel)) ggX5_end_X5_isBond
set_option maxRecDepth 20000 in
theorem ggX5_end_X5_fails : GoodIn wsX5_end wsX5_fails := goodIn_r _ [14, 1, 50, 51, 52, 53, 54, 55, 56, 57, 58, 59, 60, 61, 62, 63] (by decide +kernel) (by decide +kernel)
set_option maxRecDepth 20000 in
theorem gX5_end_X5_fails : GoodIn wsX5_end (wsV RX5 64 RX5 yX5_fails wsX5_fails) := goodIn_app (goodIn_of _ (by decide +kernel)) ggX5_end_X5_fails
set_option maxRecDepth 20000 in
theorem ggX5_end_X5_runs : GoodIn wsX5_end wsX5_runs := goodIn_r _ [18, 2, 19, 20, 6, 21, 50, 51, 52, 53, 54, 55, 56, 57, 58, 59, 60, 61, 62, 63] (by decide +kernel) (by decide +kernel)
set_option maxRecDepth 20000 in
theorem gX5_end_X5_runs : GoodIn wsX5_end (wsV RX5 116 RX5 yX5_runs wsX5_runs) := goodIn_app (goodIn_of _ (by decide +kernel)) ggX5_end_X5_runs
set_option maxRecDepth 20000 in
theorem ggX5_end_X5_save : GoodIn wsX5_end wsX5_save := goodIn_r _ [25, 26, 27, 2, 50, 51, 52, 53, 54, 55, 56, 57, 58, 59, 60, 61, 62, 63] (by decide +kernel) (by decide +kernel)
set_option maxRecDepth 20000 in
theorem gX5_end_X5_save : GoodIn wsX5_end (wsV RX5 70 RX5 yX5_save wsX5_save) := goodIn_app (goodIn_of _ (by decide +kernel)) ggX5_end_X5_save
set_option maxRecDepth 20000 in
theorem ggX5_end_X5_at : GoodIn wsX5_end wsX5_at := goodIn_r _ [21] (by decide +kernel) (by decide +kernel)
set_option maxRecDepth 20000 in
theorem gX5_end_X5_at : GoodIn wsX5_end (va_wsS RX5 40 yX5_at wsX5_at) := goodIn_app (goodIn_of _ (by decide +kernel)) ggX5_end_X5_at
set_option maxRecDepth 20000 in
theorem ggX5_end_X5_leftOf : GoodIn wsX5_end wsX5_leftOf := goodIn_r _ [31, 2, 19, 20, 6, 21, 50, 51, 52, 53, 54, 55, 56, 57, 58, 59, 60, 61, 62, 63] (by decide +kernel) (by decide +kernel)
set_option maxRecDepth 20000 in
theorem gX5_end_X5_leftOf : GoodIn wsX5_end (wsV RX5 51 RX5 yX5_leftOf wsX5_leftOf) := goodIn_app (goodIn_of _ (by decide +kernel)) ggX5_end_X5_leftOf
set_option maxRecDepth 20000 in
theorem ggX5_end_X5_release : GoodIn wsX5_end wsX5_release := goodIn_r _ [35, 2, 28, 29, 30, 6, 31, 19, 20, 21, 36, 37, 38, 39, 40, 41, 42, 43, 44, 45, 46, 47, 48, 49, 50, 51, 52, 53, 54, 55, 56, 57, 58, 59, 60, 61, 62, 63] (by decide +kernel) (by decide +kernel)
set_option maxRecDepth 20000 in
theorem gX5_end_X5_release : GoodIn wsX5_end (wsV RX5 124 RX5 yX5_release wsX5_release) := goodIn_app (goodIn_of _ (by decide +kernel)) ggX5_end_X5_release
theorem dX5_end_0 : decode cX5_end 0 = .ok (.aload_n 0, 1) := by decide +kernel
theorem dX5_end_1 : decode cX5_end 1 = .ok (.iconst 0, 1) := by decide +kernel
theorem dX5_end_2 : decode cX5_end 2 = .ok (.putfield 28, 3) := by decide +kernel
theorem dX5_end_5 : decode cX5_end 5 = .ok (.aload_n 0, 1) := by decide +kernel
theorem dX5_end_6 : decode cX5_end 6 = .ok (.iload_n 1, 1) := by decide +kernel
theorem dX5_end_7 : decode cX5_end 7 = .ok (.invokevirtual 113, 3) := by decide +kernel
theorem dX5_end_10 : decode cX5_end 10 = .ok (.ifCond .ne 9, 3) := by decide +kernel
theorem dX5_end_13 : decode cX5_end 13 = .ok (.aload_n 0, 1) := by decide +kernel
theorem dX5_end_14 : decode cX5_end 14 = .ok (.iconst 1, 1) := by decide +kernel
theorem dX5_end_15 : decode cX5_end 15 = .ok (.invokevirtual 64, 3) := by decide +kernel
theorem dX5_end_18 : decode cX5_end 18 = .ok (.ireturn, 1) := by decide +kernel
theorem dX5_end_19 : decode cX5_end 19 = .ok (.aload_n 0, 1) := by decide +kernel
theorem dX5_end_20 : decode cX5_end 20 = .ok (.iload_n 1, 1) := by decide +kernel
theorem dX5_end_21 : decode cX5_end 21 = .ok (.invokevirtual 116, 3) := by decide +kernel
theorem dX5_end_24 : decode cX5_end 24 = .ok (.ifCond .ne 9, 3) := by decide +kernel
theorem dX5_end_27 : decode cX5_end 27 = .ok (.aload_n 0, 1) := by decide +kernel
theorem dX5_end_28 : decode cX5_end 28 = .ok (.iconst 2, 1) := by decide +kernel
theorem dX5_end_29 : decode cX5_end 29 = .ok (.invokevirtual 64, 3) := by decide +kernel
theorem dX5_end_32 : decode cX5_end 32 = .ok (.ireturn, 1) := by decide +kernel
theorem dX5_end_33 : decode cX5_end 33 = .ok (.aload_n 0, 1) := by decide +kernel
theorem dX5_end_34 : decode cX5_end 34 = .ok (.invokevirtual 70, 3) := by decide +kernel
theorem dX5_end_37 : decode cX5_end 37 = .ok (.aload_n 0, 1) := by decide +kernel
theorem dX5_end_38 : decode cX5_end 38 = .ok (.getfield 7, 3) := by decide +kernel
theorem dX5_end_41 : decode cX5_end 41 = .ok (.iload_n 1, 1) := by decide +kernel
theorem dX5_end_42 : decode cX5_end 42 = .ok (.invokestatic 40, 3) := by decide +kernel
theorem dX5_end_45 : decode cX5_end 45 = .ok (.bipush 9, 2) := by decide +kernel
theorem dX5_end_47 : decode cX5_end 47 = .ok (.iadd, 1) := by decide +kernel
theorem dX5_end_48 : decode cX5_end 48 = .ok (.iconst 0, 1) := by decide +kernel
theorem dX5_end_49 : decode cX5_end 49 = .ok (.iastore, 1) := by decide +kernel
theorem dX5_end_50 : decode cX5_end 50 = .ok (.aload_n 0, 1) := by decide +kernel
theorem dX5_end_51 : decode cX5_end 51 = .ok (.iload_n 1, 1) := by decide +kernel
theorem dX5_end_52 : decode cX5_end 52 = .ok (.aload_n 0, 1) := by decide +kernel
theorem dX5_end_53 : decode cX5_end 53 = .ok (.iload_n 1, 1) := by decide +kernel
theorem dX5_end_54 : decode cX5_end 54 = .ok (.invokevirtual 51, 3) := by decide +kernel
theorem dX5_end_57 : decode cX5_end 57 = .ok (.invokevirtual 124, 3) := by decide +kernel
theorem dX5_end_60 : decode cX5_end 60 = .ok (.ireturn, 1) := by decide +kernel
set_option maxRecDepth 20000 in
theorem ggX5_append_X5_in : GoodIn wsX5_append wsX5_in := goodIn_r _ [7] (by decide +kernel) (by decide +kernel)
set_option maxRecDepth 20000 in
theorem gX5_append_X5_in : GoodIn wsX5_append (va_wsS RX5 35 yX5_in wsX5_in) := goodIn_app (goodIn_of _ (by decide +kernel)) ggX5_append_X5_in
set_option maxRecDepth 20000 in
theorem ggX5_append_X5_fails : GoodIn wsX5_append wsX5_fails := goodIn_r _ [11, 1, 12, 13, 14, 15, 16, 17, 18, 19, 20, 21, 22, 23, 24, 25] (by decide +kernel) (by decide +kernel)
set_option maxRecDepth 20000 in
theorem gX5_append_X5_fails : GoodIn wsX5_append (wsV RX5 64 RX5 yX5_fails wsX5_fails) := goodIn_app (goodIn_of _ (by decide +kernel)) ggX5_append_X5_fails
theorem dX5_append_0 : decode cX5_append 0 = .ok (.aload_n 0, 1) := by decide +kernel
theorem dX5_append_1 : decode cX5_append 1 = .ok (.iconst 0, 1) := by decide +kernel
theorem dX5_append_2 : decode cX5_append 2 = .ok (.putfield 28, 3) := by decide +kernel
theorem dX5_append_5 : decode cX5_append 5 = .ok (.iload_n 1, 1) := by decide +kernel
theorem dX5_append_6 : decode cX5_append 6 = .ok (.bipush 33, 2) := by decide +kernel
theorem dX5_append_8 : decode cX5_append 8 = .ok (.bipush 126, 2) := by decide +kernel
theorem dX5_append_10 : decode cX5_append 10 = .ok (.invokestatic 35, 3) := by decide +kernel
theorem dX5_append_13 : decode cX5_append 13 = .ok (.ifCond .ne 9, 3) := by decide +kernel
theorem dX5_append_16 : decode cX5_append 16 = .ok (.aload_n 0, 1) := by decide +kernel
theorem dX5_append_17 : decode cX5_append 17 = .ok (.iconst 1, 1) := by decide +kernel
theorem dX5_append_18 : decode cX5_append 18 = .ok (.invokevirtual 64, 3) := by decide +kernel
theorem dX5_append_21 : decode cX5_append 21 = .ok (.ireturn, 1) := by decide +kernel
theorem dX5_append_22 : decode cX5_append 22 = .ok (.aload_n 0, 1) := by decide +kernel
theorem dX5_append_23 : decode cX5_append 23 = .ok (.getfield 127, 3) := by decide +kernel
theorem dX5_append_26 : decode cX5_append 26 = .ok (.bipush 60, 2) := by decide +kernel
theorem dX5_append_28 : decode cX5_append 28 = .ok (.if_icmp .ne 9, 3) := by decide +kernel
theorem dX5_append_31 : decode cX5_append 31 = .ok (.aload_n 0, 1) := by decide +kernel
theorem dX5_append_32 : decode cX5_append 32 = .ok (.iconst 2, 1) := by decide +kernel
theorem dX5_append_33 : decode cX5_append 33 = .ok (.invokevirtual 64, 3) := by decide +kernel
theorem dX5_append_36 : decode cX5_append 36 = .ok (.ireturn, 1) := by decide +kernel
theorem dX5_append_37 : decode cX5_append 37 = .ok (.aload_n 0, 1) := by decide +kernel
theorem dX5_append_38 : decode cX5_append 38 = .ok (.getfield 19, 3) := by decide +kernel
theorem dX5_append_41 : decode cX5_append 41 = .ok (.aload_n 0, 1) := by decide +kernel
theorem dX5_append_42 : decode cX5_append 42 = .ok (.getfield 127, 3) := by decide +kernel
theorem dX5_append_45 : decode cX5_append 45 = .ok (.iload_n 1, 1) := by decide +kernel
theorem dX5_append_46 : decode cX5_append 46 = .ok (.iastore, 1) := by decide +kernel
theorem dX5_append_47 : decode cX5_append 47 = .ok (.aload_n 0, 1) := by decide +kernel
theorem dX5_append_48 : decode cX5_append 48 = .ok (.dup, 1) := by decide +kernel
theorem dX5_append_49 : decode cX5_append 49 = .ok (.getfield 127, 3) := by decide +kernel
theorem dX5_append_52 : decode cX5_append 52 = .ok (.iconst 1, 1) := by decide +kernel
theorem dX5_append_53 : decode cX5_append 53 = .ok (.iadd, 1) := by decide +kernel
theorem dX5_append_54 : decode cX5_append 54 = .ok (.putfield 127, 3) := by decide +kernel
theorem dX5_append_57 : decode cX5_append 57 = .ok (.aload_n 0, 1) := by decide +kernel
theorem dX5_append_58 : decode cX5_append 58 = .ok (.getfield 127, 3) := by decide +kernel
theorem dX5_append_61 : decode cX5_append 61 = .ok (.ireturn, 1) := by decide +kernel
theorem dX5_clearBuffer_0 : decode cX5_clearBuffer 0 = .ok (.aload_n 0, 1) := by decide +kernel
theorem dX5_clearBuffer_1 : decode cX5_clearBuffer 1 = .ok (.iconst 0, 1) := by decide +kernel
theorem dX5_clearBuffer_2 : decode cX5_clearBuffer 2 = .ok (.putfield 28, 3) := by decide +kernel
theorem dX5_clearBuffer_5 : decode cX5_clearBuffer 5 = .ok (.aload_n 0, 1) := by decide +kernel
theorem dX5_clearBuffer_6 : decode cX5_clearBuffer 6 = .ok (.getfield 127, 3) := by decide +kernel
theorem dX5_clearBuffer_9 : decode cX5_clearBuffer 9 = .ok (.istore_n 1, 1) := by decide +kernel
theorem dX5_clearBuffer_10 : decode cX5_clearBuffer 10 = .ok (.aload_n 0, 1) := by decide +kernel
theorem dX5_clearBuffer_11 : decode cX5_clearBuffer 11 = .ok (.iconst 0, 1) := by decide +kernel
theorem dX5_clearBuffer_12 : decode cX5_clearBuffer 12 = .ok (.putfield 127, 3) := by decide +kernel
theorem dX5_clearBuffer_15 : decode cX5_clearBuffer 15 = .ok (.iload_n 1, 1) := by decide +kernel
theorem dX5_clearBuffer_16 : decode cX5_clearBuffer 16 = .ok (.ireturn, 1) := by decide +kernel
theorem dX5_next_0 : decode cX5_next 0 = .ok (.aload_n 0, 1) := by decide +kernel
theorem dX5_next_1 : decode cX5_next 1 = .ok (.getfield 130, 3) := by decide +kernel
theorem dX5_next_4 : decode cX5_next 4 = .ok (.aload_n 0, 1) := by decide +kernel
theorem dX5_next_5 : decode cX5_next 5 = .ok (.getfield 127, 3) := by decide +kernel
theorem dX5_next_8 : decode cX5_next 8 = .ok (.if_icmp .ge 15, 3) := by decide +kernel
theorem dX5_next_11 : decode cX5_next 11 = .ok (.aload_n 0, 1) := by decide +kernel
theorem dX5_next_12 : decode cX5_next 12 = .ok (.getfield 19, 3) := by decide +kernel
theorem dX5_next_15 : decode cX5_next 15 = .ok (.aload_n 0, 1) := by decide +kernel
theorem dX5_next_16 : decode cX5_next 16 = .ok (.getfield 130, 3) := by decide +kernel
theorem dX5_next_19 : decode cX5_next 19 = .ok (.iaload, 1) := by decide +kernel
theorem dX5_next_20 : decode cX5_next 20 = .ok (.goto 4, 3) := by decide +kernel
theorem dX5_next_23 : decode cX5_next 23 = .ok (.iconst 0, 1) := by decide +kernel
theorem dX5_next_24 : decode cX5_next 24 = .ok (.ireturn, 1) := by decide +kernel
set_option maxRecDepth 20000 in
theorem ggX5_takes_X5_next : GoodIn wsX5_takes wsX5_next := goodIn_r _ [6, 1, 7, 8, 9, 10, 11, 12, 13, 14, 15, 16, 17, 18, 19, 20, 21, 22] (by decide +kernel) (by decide +kernel)
set_option maxRecDepth 20000 in
theorem gX5_takes_X5_next : GoodIn wsX5_takes (wsV RX5 133 RX5 yX5_next wsX5_next) := goodIn_app (goodIn_of _ (by decide +kernel)) ggX5_takes_X5_next
theorem dX5_takes_0 : decode cX5_takes 0 = .ok (.aload_n 0, 1) := by decide +kernel
theorem dX5_takes_1 : decode cX5_takes 1 = .ok (.invokevirtual 133, 3) := by decide +kernel
theorem dX5_takes_4 : decode cX5_takes 4 = .ok (.iload_n 1, 1) := by decide +kernel
theorem dX5_takes_5 : decode cX5_takes 5 = .ok (.if_icmp .ne 7, 3) := by decide +kernel
theorem dX5_takes_8 : decode cX5_takes 8 = .ok (.iconst 1, 1) := by decide +kernel
theorem dX5_takes_9 : decode cX5_takes 9 = .ok (.goto 4, 3) := by decide +kernel
theorem dX5_takes_12 : decode cX5_takes 12 = .ok (.iconst 0, 1) := by decide +kernel
theorem dX5_takes_13 : decode cX5_takes 13 = .ok (.istore_n 2, 1) := by decide +kernel
theorem dX5_takes_14 : decode cX5_takes 14 = .ok (.aload_n 0, 1) := by decide +kernel
theorem dX5_takes_15 : decode cX5_takes 15 = .ok (.dup, 1) := by decide +kernel
theorem dX5_takes_16 : decode cX5_takes 16 = .ok (.getfield 130, 3) := by decide +kernel
theorem dX5_takes_19 : decode cX5_takes 19 = .ok (.iload_n 2, 1) := by decide +kernel
theorem dX5_takes_20 : decode cX5_takes 20 = .ok (.ifCond .eq 7, 3) := by decide +kernel
theorem dX5_takes_23 : decode cX5_takes 23 = .ok (.iconst 1, 1) := by decide +kernel
theorem dX5_takes_24 : decode cX5_takes 24 = .ok (.goto 4, 3) := by decide +kernel
theorem dX5_takes_27 : decode cX5_takes 27 = .ok (.iconst 0, 1) := by decide +kernel
theorem dX5_takes_28 : decode cX5_takes 28 = .ok (.iadd, 1) := by decide +kernel
theorem dX5_takes_29 : decode cX5_takes 29 = .ok (.putfield 130, 3) := by decide +kernel
theorem dX5_takes_32 : decode cX5_takes 32 = .ok (.iload_n 2, 1) := by decide +kernel
theorem dX5_takes_33 : decode cX5_takes 33 = .ok (.ireturn, 1) := by decide +kernel
set_option maxRecDepth 20000 in
theorem ggX5_digit_X5_next : GoodIn wsX5_digit wsX5_next := goodIn_r _ [7, 2, 8, 9, 13, 14, 15, 16, 17, 18, 19, 20, 21, 22, 23, 24, 25, 26] (by decide +kernel) (by decide +kernel)
set_option maxRecDepth 20000 in
theorem gX5_digit_X5_next : GoodIn wsX5_digit (wsV RX5 133 RX5 yX5_next wsX5_next) := goodIn_app (goodIn_of _ (by decide +kernel)) ggX5_digit_X5_next
set_option maxRecDepth 20000 in
theorem ggX5_digit_X5_in : GoodIn wsX5_digit wsX5_in := goodIn_r _ [12] (by decide +kernel) (by decide +kernel)
set_option maxRecDepth 20000 in
theorem gX5_digit_X5_in : GoodIn wsX5_digit (va_wsS RX5 35 yX5_in wsX5_in) := goodIn_app (goodIn_of _ (by decide +kernel)) ggX5_digit_X5_in
theorem dX5_digit_0 : decode cX5_digit 0 = .ok (.aload_n 0, 1) := by decide +kernel
theorem dX5_digit_1 : decode cX5_digit 1 = .ok (.invokevirtual 133, 3) := by decide +kernel
theorem dX5_digit_4 : decode cX5_digit 4 = .ok (.bipush 48, 2) := by decide +kernel
theorem dX5_digit_6 : decode cX5_digit 6 = .ok (.isub, 1) := by decide +kernel
theorem dX5_digit_7 : decode cX5_digit 7 = .ok (.istore_n 2, 1) := by decide +kernel
theorem dX5_digit_8 : decode cX5_digit 8 = .ok (.iload_n 2, 1) := by decide +kernel
theorem dX5_digit_9 : decode cX5_digit 9 = .ok (.iconst 0, 1) := by decide +kernel
theorem dX5_digit_10 : decode cX5_digit 10 = .ok (.bipush 7, 2) := by decide +kernel
theorem dX5_digit_12 : decode cX5_digit 12 = .ok (.invokestatic 35, 3) := by decide +kernel
theorem dX5_digit_15 : decode cX5_digit 15 = .ok (.istore_n 3, 1) := by decide +kernel
theorem dX5_digit_16 : decode cX5_digit 16 = .ok (.aload_n 0, 1) := by decide +kernel
theorem dX5_digit_17 : decode cX5_digit 17 = .ok (.getfield 25, 3) := by decide +kernel
theorem dX5_digit_20 : decode cX5_digit 20 = .ok (.iload_n 1, 1) := by decide +kernel
theorem dX5_digit_21 : decode cX5_digit 21 = .ok (.iload_n 2, 1) := by decide +kernel
theorem dX5_digit_22 : decode cX5_digit 22 = .ok (.iastore, 1) := by decide +kernel
theorem dX5_digit_23 : decode cX5_digit 23 = .ok (.aload_n 0, 1) := by decide +kernel
theorem dX5_digit_24 : decode cX5_digit 24 = .ok (.dup, 1) := by decide +kernel
theorem dX5_digit_25 : decode cX5_digit 25 = .ok (.getfield 130, 3) := by decide +kernel
theorem dX5_digit_28 : decode cX5_digit 28 = .ok (.iload_n 3, 1) := by decide +kernel
theorem dX5_digit_29 : decode cX5_digit 29 = .ok (.ifCond .eq 7, 3) := by decide +kernel
theorem dX5_digit_32 : decode cX5_digit 32 = .ok (.iconst 1, 1) := by decide +kernel
theorem dX5_digit_33 : decode cX5_digit 33 = .ok (.goto 4, 3) := by decide +kernel
theorem dX5_digit_36 : decode cX5_digit 36 = .ok (.iconst 0, 1) := by decide +kernel
theorem dX5_digit_37 : decode cX5_digit 37 = .ok (.iadd, 1) := by decide +kernel
theorem dX5_digit_38 : decode cX5_digit 38 = .ok (.putfield 130, 3) := by decide +kernel
theorem dX5_digit_41 : decode cX5_digit 41 = .ok (.iload_n 3, 1) := by decide +kernel
theorem dX5_digit_42 : decode cX5_digit 42 = .ok (.ireturn, 1) := by decide +kernel
set_option maxRecDepth 20000 in
theorem ggX5_number_X5_next : GoodIn wsX5_number wsX5_next := goodIn_r _ [7, 1, 8, 9, 13, 14, 15, 16, 17, 18, 19, 20, 21, 22, 23, 24, 25, 26] (by decide +kernel) (by decide +kernel)
set_option maxRecDepth 20000 in
theorem gX5_number_X5_next : GoodIn wsX5_number (wsV RX5 133 RX5 yX5_next wsX5_next) := goodIn_app (goodIn_of _ (by decide +kernel)) ggX5_number_X5_next
set_option maxRecDepth 20000 in
theorem ggX5_number_X5_in : GoodIn wsX5_number wsX5_in := goodIn_r _ [12] (by decide +kernel) (by decide +kernel)
set_option maxRecDepth 20000 in
theorem gX5_number_X5_in : GoodIn wsX5_number (va_wsS RX5 35 yX5_in wsX5_in) := goodIn_app (goodIn_of _ (by decide +kernel)) ggX5_number_X5_in
theorem dX5_number_0 : decode cX5_number 0 = .ok (.iconst 0, 1) := by decide +kernel
theorem dX5_number_1 : decode cX5_number 1 = .ok (.istore_n 3, 1) := by decide +kernel
theorem dX5_number_2 : decode cX5_number 2 = .ok (.iconst 1, 1) := by decide +kernel
theorem dX5_number_3 : decode cX5_number 3 = .ok (.istore 4, 2) := by decide +kernel
theorem dX5_number_5 : decode cX5_number 5 = .ok (.iload 4, 2) := by decide +kernel
theorem dX5_number_7 : decode cX5_number 7 = .ok (.ifCond .eq 84, 3) := by decide +kernel
theorem dX5_number_10 : decode cX5_number 10 = .ok (.aload_n 0, 1) := by decide +kernel
theorem dX5_number_11 : decode cX5_number 11 = .ok (.invokevirtual 133, 3) := by decide +kernel
theorem dX5_number_14 : decode cX5_number 14 = .ok (.bipush 48, 2) := by decide +kernel
theorem dX5_number_16 : decode cX5_number 16 = .ok (.isub, 1) := by decide +kernel
theorem dX5_number_17 : decode cX5_number 17 = .ok (.istore 5, 2) := by decide +kernel
theorem dX5_number_19 : decode cX5_number 19 = .ok (.iload 5, 2) := by decide +kernel
theorem dX5_number_21 : decode cX5_number 21 = .ok (.iconst 0, 1) := by decide +kernel
theorem dX5_number_22 : decode cX5_number 22 = .ok (.bipush 9, 2) := by decide +kernel
theorem dX5_number_24 : decode cX5_number 24 = .ok (.invokestatic 35, 3) := by decide +kernel
theorem dX5_number_27 : decode cX5_number 27 = .ok (.ifCond .eq 22, 3) := by decide +kernel
theorem dX5_number_30 : decode cX5_number 30 = .ok (.bipush 10, 2) := by decide +kernel
theorem dX5_number_32 : decode cX5_number 32 = .ok (.iload_n 3, 1) := by decide +kernel
theorem dX5_number_33 : decode cX5_number 33 = .ok (.imul, 1) := by decide +kernel
theorem dX5_number_34 : decode cX5_number 34 = .ok (.iload 5, 2) := by decide +kernel
theorem dX5_number_36 : decode cX5_number 36 = .ok (.iadd, 1) := by decide +kernel
theorem dX5_number_37 : decode cX5_number 37 = .ok (.iconst 1, 1) := by decide +kernel
theorem dX5_number_38 : decode cX5_number 38 = .ok (.iload_n 2, 1) := by decide +kernel
theorem dX5_number_39 : decode cX5_number 39 = .ok (.invokestatic 35, 3) := by decide +kernel
theorem dX5_number_42 : decode cX5_number 42 = .ok (.ifCond .eq 7, 3) := by decide +kernel
theorem dX5_number_45 : decode cX5_number 45 = .ok (.iconst 1, 1) := by decide +kernel
theorem dX5_number_46 : decode cX5_number 46 = .ok (.goto 4, 3) := by decide +kernel
theorem dX5_number_49 : decode cX5_number 49 = .ok (.iconst 0, 1) := by decide +kernel
theorem dX5_number_50 : decode cX5_number 50 = .ok (.istore 4, 2) := by decide +kernel
theorem dX5_number_52 : decode cX5_number 52 = .ok (.iload 4, 2) := by decide +kernel
theorem dX5_number_54 : decode cX5_number 54 = .ok (.ifCond .eq 13, 3) := by decide +kernel
theorem dX5_number_57 : decode cX5_number 57 = .ok (.bipush 10, 2) := by decide +kernel
theorem dX5_number_59 : decode cX5_number 59 = .ok (.iload_n 3, 1) := by decide +kernel
theorem dX5_number_60 : decode cX5_number 60 = .ok (.imul, 1) := by decide +kernel
theorem dX5_number_61 : decode cX5_number 61 = .ok (.iload 5, 2) := by decide +kernel
theorem dX5_number_63 : decode cX5_number 63 = .ok (.iadd, 1) := by decide +kernel
theorem dX5_number_64 : decode cX5_number 64 = .ok (.goto 4, 3) := by decide +kernel
theorem dX5_number_67 : decode cX5_number 67 = .ok (.iload_n 3, 1) := by decide +kernel
theorem dX5_number_68 : decode cX5_number 68 = .ok (.istore_n 3, 1) := by decide +kernel
theorem dX5_number_69 : decode cX5_number 69 = .ok (.aload_n 0, 1) := by decide +kernel
theorem dX5_number_70 : decode cX5_number 70 = .ok (.dup, 1) := by decide +kernel
theorem dX5_number_71 : decode cX5_number 71 = .ok (.getfield 130, 3) := by decide +kernel
theorem dX5_number_74 : decode cX5_number 74 = .ok (.iload 4, 2) := by decide +kernel
theorem dX5_number_76 : decode cX5_number 76 = .ok (.ifCond .eq 7, 3) := by decide +kernel
theorem dX5_number_79 : decode cX5_number 79 = .ok (.iconst 1, 1) := by decide +kernel
theorem dX5_number_80 : decode cX5_number 80 = .ok (.goto 4, 3) := by decide +kernel
theorem dX5_number_83 : decode cX5_number 83 = .ok (.iconst 0, 1) := by decide +kernel
theorem dX5_number_84 : decode cX5_number 84 = .ok (.iadd, 1) := by decide +kernel
theorem dX5_number_85 : decode cX5_number 85 = .ok (.putfield 130, 3) := by decide +kernel
theorem dX5_number_88 : decode cX5_number 88 = .ok (.goto (-83), 3) := by decide +kernel
theorem dX5_number_91 : decode cX5_number 91 = .ok (.aload_n 0, 1) := by decide +kernel
theorem dX5_number_92 : decode cX5_number 92 = .ok (.getfield 25, 3) := by decide +kernel
theorem dX5_number_95 : decode cX5_number 95 = .ok (.iload_n 1, 1) := by decide +kernel
theorem dX5_number_96 : decode cX5_number 96 = .ok (.iload_n 3, 1) := by decide +kernel
theorem dX5_number_97 : decode cX5_number 97 = .ok (.iastore, 1) := by decide +kernel
theorem dX5_number_98 : decode cX5_number 98 = .ok (.iload_n 3, 1) := by decide +kernel
theorem dX5_number_99 : decode cX5_number 99 = .ok (.ifCond .le 7, 3) := by decide +kernel
theorem dX5_number_102 : decode cX5_number 102 = .ok (.iconst 1, 1) := by decide +kernel
theorem dX5_number_103 : decode cX5_number 103 = .ok (.goto 4, 3) := by decide +kernel
theorem dX5_number_106 : decode cX5_number 106 = .ok (.iconst 0, 1) := by decide +kernel
theorem dX5_number_107 : decode cX5_number 107 = .ok (.ireturn, 1) := by decide +kernel
set_option maxRecDepth 20000 in
theorem ggX5_layers_X5_digit : GoodIn wsX5_layers wsX5_digit := goodIn_r _ [7, 1, 8, 9, 10, 11, 6, 12, 13, 14, 15, 16, 17, 26, 27, 28, 29, 30, 31, 32, 33, 34, 35, 36, 37, 38, 39] (by decide +kernel) (by decide +kernel)
set_option maxRecDepth 20000 in
theorem gX5_layers_X5_digit : GoodIn wsX5_layers (wsV RX5 137 RX5 yX5_digit wsX5_digit) := goodIn_app (goodIn_of _ (by decide +kernel)) ggX5_layers_X5_digit
set_option maxRecDepth 20000 in
theorem ggX5_layers_X5_takes : GoodIn wsX5_layers wsX5_takes := goodIn_r _ [21, 8, 9, 10, 11, 6, 12, 13, 14, 26, 27, 28, 29, 30, 31, 32, 33, 34, 35, 36, 37, 38, 39] (by decide +kernel) (by decide +kernel)
set_option maxRecDepth 20000 in
theorem gX5_layers_X5_takes : GoodIn wsX5_layers (wsV RX5 140 RX5 yX5_takes wsX5_takes) := goodIn_app (goodIn_of _ (by decide +kernel)) ggX5_layers_X5_takes
set_option maxRecDepth 20000 in
theorem ggX5_layers_X5_number : GoodIn wsX5_layers wsX5_number := goodIn_r _ [25, 8, 1, 9, 10, 11, 6, 12, 13, 14, 15, 16, 17, 26, 27, 28, 29, 30, 31, 32, 33, 34, 35, 36, 37, 38, 39] (by decide +kernel) (by decide +kernel)
set_option maxRecDepth 20000 in
theorem gX5_layers_X5_number : GoodIn wsX5_layers (wsV RX5 143 RX5 yX5_number wsX5_number) := goodIn_app (goodIn_of _ (by decide +kernel)) ggX5_layers_X5_number
theorem dX5_layers_0 : decode cX5_layers 0 = .ok (.aload_n 0, 1) := by decide +kernel
theorem dX5_layers_1 : decode cX5_layers 1 = .ok (.getfield 25, 3) := by decide +kernel
theorem dX5_layers_4 : decode cX5_layers 4 = .ok (.iconst 3, 1) := by decide +kernel
theorem dX5_layers_5 : decode cX5_layers 5 = .ok (.iconst 0, 1) := by decide +kernel
theorem dX5_layers_6 : decode cX5_layers 6 = .ok (.iastore, 1) := by decide +kernel
theorem dX5_layers_7 : decode cX5_layers 7 = .ok (.iconst 1, 1) := by decide +kernel
theorem dX5_layers_8 : decode cX5_layers 8 = .ok (.istore_n 1, 1) := by decide +kernel
theorem dX5_layers_9 : decode cX5_layers 9 = .ok (.iconst 1, 1) := by decide +kernel
theorem dX5_layers_10 : decode cX5_layers 10 = .ok (.istore_n 2, 1) := by decide +kernel
theorem dX5_layers_11 : decode cX5_layers 11 = .ok (.iload_n 2, 1) := by decide +kernel
theorem dX5_layers_12 : decode cX5_layers 12 = .ok (.ifCond .eq 100, 3) := by decide +kernel
theorem dX5_layers_15 : decode cX5_layers 15 = .ok (.bipush 15, 2) := by decide +kernel
theorem dX5_layers_17 : decode cX5_layers 17 = .ok (.iconst 4, 1) := by decide +kernel
theorem dX5_layers_18 : decode cX5_layers 18 = .ok (.aload_n 0, 1) := by decide +kernel
theorem dX5_layers_19 : decode cX5_layers 19 = .ok (.getfield 25, 3) := by decide +kernel
theorem dX5_layers_22 : decode cX5_layers 22 = .ok (.iconst 3, 1) := by decide +kernel
theorem dX5_layers_23 : decode cX5_layers 23 = .ok (.iaload, 1) := by decide +kernel
theorem dX5_layers_24 : decode cX5_layers 24 = .ok (.imul, 1) := by decide +kernel
theorem dX5_layers_25 : decode cX5_layers 25 = .ok (.iadd, 1) := by decide +kernel
theorem dX5_layers_26 : decode cX5_layers 26 = .ok (.istore_n 3, 1) := by decide +kernel
theorem dX5_layers_27 : decode cX5_layers 27 = .ok (.aload_n 0, 1) := by decide +kernel
theorem dX5_layers_28 : decode cX5_layers 28 = .ok (.iload_n 3, 1) := by decide +kernel
theorem dX5_layers_29 : decode cX5_layers 29 = .ok (.invokevirtual 137, 3) := by decide +kernel
theorem dX5_layers_32 : decode cX5_layers 32 = .ok (.ifCond .eq 28, 3) := by decide +kernel
theorem dX5_layers_35 : decode cX5_layers 35 = .ok (.aload_n 0, 1) := by decide +kernel
theorem dX5_layers_36 : decode cX5_layers 36 = .ok (.bipush 42, 2) := by decide +kernel
theorem dX5_layers_38 : decode cX5_layers 38 = .ok (.invokevirtual 140, 3) := by decide +kernel
theorem dX5_layers_41 : decode cX5_layers 41 = .ok (.ifCond .eq 19, 3) := by decide +kernel
theorem dX5_layers_44 : decode cX5_layers 44 = .ok (.aload_n 0, 1) := by decide +kernel
theorem dX5_layers_45 : decode cX5_layers 45 = .ok (.iload_n 3, 1) := by decide +kernel
theorem dX5_layers_46 : decode cX5_layers 46 = .ok (.iconst 1, 1) := by decide +kernel
theorem dX5_layers_47 : decode cX5_layers 47 = .ok (.iadd, 1) := by decide +kernel
theorem dX5_layers_48 : decode cX5_layers 48 = .ok (.ldc 39, 2) := by decide +kernel
theorem dX5_layers_50 : decode cX5_layers 50 = .ok (.invokevirtual 143, 3) := by decide +kernel
theorem dX5_layers_53 : decode cX5_layers 53 = .ok (.ifCond .eq 7, 3) := by decide +kernel
theorem dX5_layers_56 : decode cX5_layers 56 = .ok (.iconst 1, 1) := by decide +kernel
theorem dX5_layers_57 : decode cX5_layers 57 = .ok (.goto 4, 3) := by decide +kernel
theorem dX5_layers_60 : decode cX5_layers 60 = .ok (.iconst 0, 1) := by decide +kernel
theorem dX5_layers_61 : decode cX5_layers 61 = .ok (.istore_n 1, 1) := by decide +kernel
theorem dX5_layers_62 : decode cX5_layers 62 = .ok (.aload_n 0, 1) := by decide +kernel
theorem dX5_layers_63 : decode cX5_layers 63 = .ok (.getfield 25, 3) := by decide +kernel
theorem dX5_layers_66 : decode cX5_layers 66 = .ok (.iconst 3, 1) := by decide +kernel
theorem dX5_layers_67 : decode cX5_layers 67 = .ok (.dup2, 1) := by decide +kernel
theorem dX5_layers_68 : decode cX5_layers 68 = .ok (.iaload, 1) := by decide +kernel
theorem dX5_layers_69 : decode cX5_layers 69 = .ok (.iload_n 1, 1) := by decide +kernel
theorem dX5_layers_70 : decode cX5_layers 70 = .ok (.ifCond .eq 7, 3) := by decide +kernel
theorem dX5_layers_73 : decode cX5_layers 73 = .ok (.iconst 1, 1) := by decide +kernel
theorem dX5_layers_74 : decode cX5_layers 74 = .ok (.goto 4, 3) := by decide +kernel
theorem dX5_layers_77 : decode cX5_layers 77 = .ok (.iconst 0, 1) := by decide +kernel
theorem dX5_layers_78 : decode cX5_layers 78 = .ok (.iadd, 1) := by decide +kernel
theorem dX5_layers_79 : decode cX5_layers 79 = .ok (.iastore, 1) := by decide +kernel
theorem dX5_layers_80 : decode cX5_layers 80 = .ok (.iload_n 1, 1) := by decide +kernel
theorem dX5_layers_81 : decode cX5_layers 81 = .ok (.ifCond .eq 26, 3) := by decide +kernel
theorem dX5_layers_84 : decode cX5_layers 84 = .ok (.aload_n 0, 1) := by decide +kernel
theorem dX5_layers_85 : decode cX5_layers 85 = .ok (.getfield 25, 3) := by decide +kernel
theorem dX5_layers_88 : decode cX5_layers 88 = .ok (.iconst 3, 1) := by decide +kernel
theorem dX5_layers_89 : decode cX5_layers 89 = .ok (.iaload, 1) := by decide +kernel
theorem dX5_layers_90 : decode cX5_layers 90 = .ok (.iconst 4, 1) := by decide +kernel
theorem dX5_layers_91 : decode cX5_layers 91 = .ok (.if_icmp .ge 16, 3) := by decide +kernel
theorem dX5_layers_94 : decode cX5_layers 94 = .ok (.aload_n 0, 1) := by decide +kernel
theorem dX5_layers_95 : decode cX5_layers 95 = .ok (.bipush 43, 2) := by decide +kernel
theorem dX5_layers_97 : decode cX5_layers 97 = .ok (.invokevirtual 140, 3) := by decide +kernel
theorem dX5_layers_100 : decode cX5_layers 100 = .ok (.ifCond .eq 7, 3) := by decide +kernel
theorem dX5_layers_103 : decode cX5_layers 103 = .ok (.iconst 1, 1) := by decide +kernel
theorem dX5_layers_104 : decode cX5_layers 104 = .ok (.goto 4, 3) := by decide +kernel
theorem dX5_layers_107 : decode cX5_layers 107 = .ok (.iconst 0, 1) := by decide +kernel
theorem dX5_layers_108 : decode cX5_layers 108 = .ok (.istore_n 2, 1) := by decide +kernel
theorem dX5_layers_109 : decode cX5_layers 109 = .ok (.goto (-98), 3) := by decide +kernel
theorem dX5_layers_112 : decode cX5_layers 112 = .ok (.iload_n 1, 1) := by decide +kernel
theorem dX5_layers_113 : decode cX5_layers 113 = .ok (.ireturn, 1) := by decide +kernel
set_option maxRecDepth 20000 in
theorem ggX5_milestones_X5_number : GoodIn wsX5_milestones wsX5_number := goodIn_r _ [6, 7, 1, 8, 9, 10, 5, 11, 12, 13, 14, 15, 16, 21, 22, 23, 24, 25, 26, 27, 28, 29, 30, 31, 32, 33, 34] (by decide +kernel) (by decide +kernel)
set_option maxRecDepth 20000 in
theorem gX5_milestones_X5_number : GoodIn wsX5_milestones (wsV RX5 143 RX5 yX5_number wsX5_number) := goodIn_app (goodIn_of _ (by decide +kernel)) ggX5_milestones_X5_number
set_option maxRecDepth 20000 in
theorem ggX5_milestones_X5_takes : GoodIn wsX5_milestones wsX5_takes := goodIn_r _ [20, 7, 8, 9, 10, 5, 11, 12, 13, 21, 22, 23, 24, 25, 26, 27, 28, 29, 30, 31, 32, 33, 34] (by decide +kernel) (by decide +kernel)
set_option maxRecDepth 20000 in
theorem gX5_milestones_X5_takes : GoodIn wsX5_milestones (wsV RX5 140 RX5 yX5_takes wsX5_takes) := goodIn_app (goodIn_of _ (by decide +kernel)) ggX5_milestones_X5_takes
theorem dX5_milestones_0 : decode cX5_milestones 0 = .ok (.aload_n 0, 1) := by decide +kernel
theorem dX5_milestones_1 : decode cX5_milestones 1 = .ok (.getfield 25, 3) := by decide +kernel
theorem dX5_milestones_4 : decode cX5_milestones 4 = .ok (.iconst 4, 1) := by decide +kernel
theorem dX5_milestones_5 : decode cX5_milestones 5 = .ok (.iconst 0, 1) := by decide +kernel
theorem dX5_milestones_6 : decode cX5_milestones 6 = .ok (.iastore, 1) := by decide +kernel
theorem dX5_milestones_7 : decode cX5_milestones 7 = .ok (.iconst 1, 1) := by decide +kernel
theorem dX5_milestones_8 : decode cX5_milestones 8 = .ok (.istore_n 1, 1) := by decide +kernel
theorem dX5_milestones_9 : decode cX5_milestones 9 = .ok (.iconst 1, 1) := by decide +kernel
theorem dX5_milestones_10 : decode cX5_milestones 10 = .ok (.istore_n 2, 1) := by decide +kernel
theorem dX5_milestones_11 : decode cX5_milestones 11 = .ok (.iload_n 2, 1) := by decide +kernel
theorem dX5_milestones_12 : decode cX5_milestones 12 = .ok (.ifCond .eq 70, 3) := by decide +kernel
theorem dX5_milestones_15 : decode cX5_milestones 15 = .ok (.aload_n 0, 1) := by decide +kernel
theorem dX5_milestones_16 : decode cX5_milestones 16 = .ok (.bipush 10, 2) := by decide +kernel
theorem dX5_milestones_18 : decode cX5_milestones 18 = .ok (.aload_n 0, 1) := by decide +kernel
theorem dX5_milestones_19 : decode cX5_milestones 19 = .ok (.getfield 25, 3) := by decide +kernel
theorem dX5_milestones_22 : decode cX5_milestones 22 = .ok (.iconst 4, 1) := by decide +kernel
theorem dX5_milestones_23 : decode cX5_milestones 23 = .ok (.iaload, 1) := by decide +kernel
theorem dX5_milestones_24 : decode cX5_milestones 24 = .ok (.iadd, 1) := by decide +kernel
theorem dX5_milestones_25 : decode cX5_milestones 25 = .ok (.sipush 1000, 3) := by decide +kernel
theorem dX5_milestones_28 : decode cX5_milestones 28 = .ok (.invokevirtual 143, 3) := by decide +kernel
theorem dX5_milestones_31 : decode cX5_milestones 31 = .ok (.istore_n 1, 1) := by decide +kernel
theorem dX5_milestones_32 : decode cX5_milestones 32 = .ok (.aload_n 0, 1) := by decide +kernel
theorem dX5_milestones_33 : decode cX5_milestones 33 = .ok (.getfield 25, 3) := by decide +kernel
theorem dX5_milestones_36 : decode cX5_milestones 36 = .ok (.iconst 4, 1) := by decide +kernel
theorem dX5_milestones_37 : decode cX5_milestones 37 = .ok (.dup2, 1) := by decide +kernel
theorem dX5_milestones_38 : decode cX5_milestones 38 = .ok (.iaload, 1) := by decide +kernel
theorem dX5_milestones_39 : decode cX5_milestones 39 = .ok (.iload_n 1, 1) := by decide +kernel
theorem dX5_milestones_40 : decode cX5_milestones 40 = .ok (.ifCond .eq 7, 3) := by decide +kernel
theorem dX5_milestones_43 : decode cX5_milestones 43 = .ok (.iconst 1, 1) := by decide +kernel
theorem dX5_milestones_44 : decode cX5_milestones 44 = .ok (.goto 4, 3) := by decide +kernel
theorem dX5_milestones_47 : decode cX5_milestones 47 = .ok (.iconst 0, 1) := by decide +kernel
theorem dX5_milestones_48 : decode cX5_milestones 48 = .ok (.iadd, 1) := by decide +kernel
theorem dX5_milestones_49 : decode cX5_milestones 49 = .ok (.iastore, 1) := by decide +kernel
theorem dX5_milestones_50 : decode cX5_milestones 50 = .ok (.iload_n 1, 1) := by decide +kernel
theorem dX5_milestones_51 : decode cX5_milestones 51 = .ok (.ifCond .eq 26, 3) := by decide +kernel
theorem dX5_milestones_54 : decode cX5_milestones 54 = .ok (.aload_n 0, 1) := by decide +kernel
theorem dX5_milestones_55 : decode cX5_milestones 55 = .ok (.getfield 25, 3) := by decide +kernel
theorem dX5_milestones_58 : decode cX5_milestones 58 = .ok (.iconst 4, 1) := by decide +kernel
theorem dX5_milestones_59 : decode cX5_milestones 59 = .ok (.iaload, 1) := by decide +kernel
theorem dX5_milestones_60 : decode cX5_milestones 60 = .ok (.iconst 5, 1) := by decide +kernel
theorem dX5_milestones_61 : decode cX5_milestones 61 = .ok (.if_icmp .ge 16, 3) := by decide +kernel
theorem dX5_milestones_64 : decode cX5_milestones 64 = .ok (.aload_n 0, 1) := by decide +kernel
theorem dX5_milestones_65 : decode cX5_milestones 65 = .ok (.bipush 43, 2) := by decide +kernel
theorem dX5_milestones_67 : decode cX5_milestones 67 = .ok (.invokevirtual 140, 3) := by decide +kernel
theorem dX5_milestones_70 : decode cX5_milestones 70 = .ok (.ifCond .eq 7, 3) := by decide +kernel
theorem dX5_milestones_73 : decode cX5_milestones 73 = .ok (.iconst 1, 1) := by decide +kernel
theorem dX5_milestones_74 : decode cX5_milestones 74 = .ok (.goto 4, 3) := by decide +kernel
theorem dX5_milestones_77 : decode cX5_milestones 77 = .ok (.iconst 0, 1) := by decide +kernel
theorem dX5_milestones_78 : decode cX5_milestones 78 = .ok (.istore_n 2, 1) := by decide +kernel
theorem dX5_milestones_79 : decode cX5_milestones 79 = .ok (.goto (-68), 3) := by decide +kernel
theorem dX5_milestones_82 : decode cX5_milestones 82 = .ok (.iload_n 1, 1) := by decide +kernel
theorem dX5_milestones_83 : decode cX5_milestones 83 = .ok (.ireturn, 1) := by decide +kernel
set_option maxRecDepth 20000 in
theorem ggX5_way_X5_takes : GoodIn wsX5_way wsX5_takes := goodIn_r _ [6, 7, 8, 9, 10, 5, 11, 12, 13, 14, 15, 16, 17, 18, 19, 20, 21, 22, 23, 24, 25, 26, 27] (by decide +kernel) (by decide +kernel)
set_option maxRecDepth 20000 in
theorem gX5_way_X5_takes : GoodIn wsX5_way (wsV RX5 140 RX5 yX5_takes wsX5_takes) := goodIn_app (goodIn_of _ (by decide +kernel)) ggX5_way_X5_takes
theorem dX5_way_0 : decode cX5_way 0 = .ok (.aload_n 0, 1) := by decide +kernel
theorem dX5_way_1 : decode cX5_way 1 = .ok (.bipush 108, 2) := by decide +kernel
theorem dX5_way_3 : decode cX5_way 3 = .ok (.invokevirtual 140, 3) := by decide +kernel
theorem dX5_way_6 : decode cX5_way 6 = .ok (.istore_n 1, 1) := by decide +kernel
theorem dX5_way_7 : decode cX5_way 7 = .ok (.iload_n 1, 1) := by decide +kernel
theorem dX5_way_8 : decode cX5_way 8 = .ok (.ifCond .ne 12, 3) := by decide +kernel
theorem dX5_way_11 : decode cX5_way 11 = .ok (.aload_n 0, 1) := by decide +kernel
theorem dX5_way_12 : decode cX5_way 12 = .ok (.bipush 101, 2) := by decide +kernel
theorem dX5_way_14 : decode cX5_way 14 = .ok (.invokevirtual 140, 3) := by decide +kernel
theorem dX5_way_17 : decode cX5_way 17 = .ok (.ifCond .eq 7, 3) := by decide +kernel
theorem dX5_way_20 : decode cX5_way 20 = .ok (.iconst 1, 1) := by decide +kernel
theorem dX5_way_21 : decode cX5_way 21 = .ok (.goto 4, 3) := by decide +kernel
theorem dX5_way_24 : decode cX5_way 24 = .ok (.iconst 0, 1) := by decide +kernel
theorem dX5_way_25 : decode cX5_way 25 = .ok (.istore_n 2, 1) := by decide +kernel
theorem dX5_way_26 : decode cX5_way 26 = .ok (.aload_n 0, 1) := by decide +kernel
theorem dX5_way_27 : decode cX5_way 27 = .ok (.getfield 25, 3) := by decide +kernel
theorem dX5_way_30 : decode cX5_way 30 = .ok (.iconst 2, 1) := by decide +kernel
theorem dX5_way_31 : decode cX5_way 31 = .ok (.iload_n 1, 1) := by decide +kernel
theorem dX5_way_32 : decode cX5_way 32 = .ok (.ifCond .eq 7, 3) := by decide +kernel
theorem dX5_way_35 : decode cX5_way 35 = .ok (.iconst 0, 1) := by decide +kernel
theorem dX5_way_36 : decode cX5_way 36 = .ok (.goto 4, 3) := by decide +kernel
theorem dX5_way_39 : decode cX5_way 39 = .ok (.iconst 1, 1) := by decide +kernel
theorem dX5_way_40 : decode cX5_way 40 = .ok (.iastore, 1) := by decide +kernel
theorem dX5_way_41 : decode cX5_way 41 = .ok (.iload_n 2, 1) := by decide +kernel
theorem dX5_way_42 : decode cX5_way 42 = .ok (.ireturn, 1) := by decide +kernel
set_option maxRecDepth 20000 in
theorem ggX5_isText_X5_takes : GoodIn wsX5_isText wsX5_takes := goodIn_r _ [8, 1, 9, 10, 11, 7, 12, 3, 13, 38, 39, 40, 41, 42, 43, 44, 45, 46, 47, 48, 49, 50, 51] (by decide +kernel) (by decide +kernel)
set_option maxRecDepth 20000 in
theorem gX5_isText_X5_takes : GoodIn wsX5_isText (wsV RX5 140 RX5 yX5_takes wsX5_takes) := goodIn_app (goodIn_of _ (by decide +kernel)) ggX5_isText_X5_takes
set_option maxRecDepth 20000 in
theorem ggX5_isText_X5_digit : GoodIn wsX5_isText wsX5_digit := goodIn_r _ [17, 18, 1, 9, 10, 11, 7, 12, 3, 13, 19, 20, 21, 38, 39, 40, 41, 42, 43, 44, 45, 46, 47, 48, 49, 50, 51] (by decide +kernel) (by decide +kernel)
set_option maxRecDepth 20000 in
theorem gX5_isText_X5_digit : GoodIn wsX5_isText (wsV RX5 137 RX5 yX5_digit wsX5_digit) := goodIn_app (goodIn_of _ (by decide +kernel)) ggX5_isText_X5_digit
set_option maxRecDepth 20000 in
theorem ggX5_isText_X5_number : GoodIn wsX5_isText wsX5_number := goodIn_r _ [25, 1, 18, 9, 10, 11, 7, 12, 3, 13, 19, 20, 21, 38, 39, 40, 41, 42, 43, 44, 45, 46, 47, 48, 49, 50, 51] (by decide +kernel) (by decide +kernel)
set_option maxRecDepth 20000 in
theorem gX5_isText_X5_number : GoodIn wsX5_isText (wsV RX5 143 RX5 yX5_number wsX5_number) := goodIn_app (goodIn_of _ (by decide +kernel)) ggX5_isText_X5_number
set_option maxRecDepth 20000 in
theorem ggX5_isText_X5_layers : GoodIn wsX5_isText wsX5_layers := goodIn_r _ [29, 18, 2, 14, 15, 16, 7, 17, 1, 9, 10, 11, 12, 3, 13, 19, 20, 21, 4, 5, 6, 8, 22, 23, 24, 25, 38, 39, 40, 41, 42, 43, 44, 45, 46, 47, 48, 49, 50, 51] (by decide +kernel) (by decide +kernel)
set_option maxRecDepth 20000 in
theorem gX5_isText_X5_layers : GoodIn wsX5_isText (wsV RX5 146 RX5 yX5_layers wsX5_layers) := goodIn_app (goodIn_of _ (by decide +kernel)) ggX5_isText_X5_layers
set_option maxRecDepth 20000 in
theorem ggX5_isText_X5_milestones : GoodIn wsX5_isText wsX5_milestones := goodIn_r _ [33, 18, 22, 23, 24, 7, 25, 1, 9, 10, 11, 12, 3, 13, 19, 20, 21, 4, 5, 6, 8, 38, 39, 40, 41, 42, 43, 44, 45, 46, 47, 48, 49, 50, 51] (by decide +kernel) (by decide +kernel)
set_option maxRecDepth 20000 in
theorem gX5_isText_X5_milestones : GoodIn wsX5_isText (wsV RX5 150 RX5 yX5_milestones wsX5_milestones) := goodIn_app (goodIn_of _ (by decide +kernel)) ggX5_isText_X5_milestones
set_option maxRecDepth 20000 in
theorem ggX5_isText_X5_way : GoodIn wsX5_isText wsX5_way := goodIn_r _ [37, 18, 4, 5, 6, 7, 8, 1, 9, 10, 11, 12, 3, 13, 38, 39, 40, 41, 42, 43, 44, 45, 46, 47, 48, 49, 50, 51] (by decide +kernel) (by decide +kernel)
set_option maxRecDepth 20000 in
theorem gX5_isText_X5_way : GoodIn wsX5_isText (wsV RX5 153 RX5 yX5_way wsX5_way) := goodIn_app (goodIn_of _ (by decide +kernel)) ggX5_isText_X5_way
theorem dX5_isText_0 : decode cX5_isText 0 = .ok (.aload_n 0, 1) := by decide +kernel
theorem dX5_isText_1 : decode cX5_isText 1 = .ok (.iconst 0, 1) := by decide +kernel
theorem dX5_isText_2 : decode cX5_isText 2 = .ok (.putfield 130, 3) := by decide +kernel
theorem dX5_isText_5 : decode cX5_isText 5 = .ok (.aload_n 0, 1) := by decide +kernel
theorem dX5_isText_6 : decode cX5_isText 6 = .ok (.bipush 112, 2) := by decide +kernel
theorem dX5_isText_8 : decode cX5_isText 8 = .ok (.invokevirtual 140, 3) := by decide +kernel
theorem dX5_isText_11 : decode cX5_isText 11 = .ok (.ifCond .eq 50, 3) := by decide +kernel
theorem dX5_isText_14 : decode cX5_isText 14 = .ok (.aload_n 0, 1) := by decide +kernel
theorem dX5_isText_15 : decode cX5_isText 15 = .ok (.iconst 0, 1) := by decide +kernel
theorem dX5_isText_16 : decode cX5_isText 16 = .ok (.invokevirtual 137, 3) := by decide +kernel
theorem dX5_isText_19 : decode cX5_isText 19 = .ok (.ifCond .eq 42, 3) := by decide +kernel
theorem dX5_isText_22 : decode cX5_isText 22 = .ok (.aload_n 0, 1) := by decide +kernel
theorem dX5_isText_23 : decode cX5_isText 23 = .ok (.bipush 115, 2) := by decide +kernel
theorem dX5_isText_25 : decode cX5_isText 25 = .ok (.invokevirtual 140, 3) := by decide +kernel
theorem dX5_isText_28 : decode cX5_isText 28 = .ok (.ifCond .eq 33, 3) := by decide +kernel
theorem dX5_isText_31 : decode cX5_isText 31 = .ok (.aload_n 0, 1) := by decide +kernel
theorem dX5_isText_32 : decode cX5_isText 32 = .ok (.iconst 1, 1) := by decide +kernel
theorem dX5_isText_33 : decode cX5_isText 33 = .ok (.ldc 39, 2) := by decide +kernel
theorem dX5_isText_35 : decode cX5_isText 35 = .ok (.invokevirtual 143, 3) := by decide +kernel
theorem dX5_isText_38 : decode cX5_isText 38 = .ok (.ifCond .eq 23, 3) := by decide +kernel
theorem dX5_isText_41 : decode cX5_isText 41 = .ok (.aload_n 0, 1) := by decide +kernel
theorem dX5_isText_42 : decode cX5_isText 42 = .ok (.bipush 58, 2) := by decide +kernel
theorem dX5_isText_44 : decode cX5_isText 44 = .ok (.invokevirtual 140, 3) := by decide +kernel
theorem dX5_isText_47 : decode cX5_isText 47 = .ok (.ifCond .eq 14, 3) := by decide +kernel
theorem dX5_isText_50 : decode cX5_isText 50 = .ok (.aload_n 0, 1) := by decide +kernel
theorem dX5_isText_51 : decode cX5_isText 51 = .ok (.invokevirtual 146, 3) := by decide +kernel
theorem dX5_isText_54 : decode cX5_isText 54 = .ok (.ifCond .eq 7, 3) := by decide +kernel
theorem dX5_isText_57 : decode cX5_isText 57 = .ok (.iconst 1, 1) := by decide +kernel
theorem dX5_isText_58 : decode cX5_isText 58 = .ok (.goto 4, 3) := by decide +kernel
theorem dX5_isText_61 : decode cX5_isText 61 = .ok (.iconst 0, 1) := by decide +kernel
theorem dX5_isText_62 : decode cX5_isText 62 = .ok (.istore_n 1, 1) := by decide +kernel
theorem dX5_isText_63 : decode cX5_isText 63 = .ok (.iload_n 1, 1) := by decide +kernel
theorem dX5_isText_64 : decode cX5_isText 64 = .ok (.ifCond .eq 41, 3) := by decide +kernel
theorem dX5_isText_67 : decode cX5_isText 67 = .ok (.aload_n 0, 1) := by decide +kernel
theorem dX5_isText_68 : decode cX5_isText 68 = .ok (.bipush 64, 2) := by decide +kernel
theorem dX5_isText_70 : decode cX5_isText 70 = .ok (.invokevirtual 140, 3) := by decide +kernel
theorem dX5_isText_73 : decode cX5_isText 73 = .ok (.ifCond .eq 32, 3) := by decide +kernel
theorem dX5_isText_76 : decode cX5_isText 76 = .ok (.aload_n 0, 1) := by decide +kernel
theorem dX5_isText_77 : decode cX5_isText 77 = .ok (.invokevirtual 150, 3) := by decide +kernel
theorem dX5_isText_80 : decode cX5_isText 80 = .ok (.ifCond .eq 25, 3) := by decide +kernel
theorem dX5_isText_83 : decode cX5_isText 83 = .ok (.aload_n 0, 1) := by decide +kernel
theorem dX5_isText_84 : decode cX5_isText 84 = .ok (.invokevirtual 153, 3) := by decide +kernel
theorem dX5_isText_87 : decode cX5_isText 87 = .ok (.ifCond .eq 18, 3) := by decide +kernel
theorem dX5_isText_90 : decode cX5_isText 90 = .ok (.aload_n 0, 1) := by decide +kernel
theorem dX5_isText_91 : decode cX5_isText 91 = .ok (.getfield 130, 3) := by decide +kernel
theorem dX5_isText_94 : decode cX5_isText 94 = .ok (.aload_n 0, 1) := by decide +kernel
theorem dX5_isText_95 : decode cX5_isText 95 = .ok (.getfield 127, 3) := by decide +kernel
theorem dX5_isText_98 : decode cX5_isText 98 = .ok (.if_icmp .ne 7, 3) := by decide +kernel
theorem dX5_isText_101 : decode cX5_isText 101 = .ok (.iconst 1, 1) := by decide +kernel
theorem dX5_isText_102 : decode cX5_isText 102 = .ok (.goto 4, 3) := by decide +kernel
theorem dX5_isText_105 : decode cX5_isText 105 = .ok (.iconst 0, 1) := by decide +kernel
theorem dX5_isText_106 : decode cX5_isText 106 = .ok (.ireturn, 1) := by decide +kernel
set_option maxRecDepth 20000 in
theorem ggX5_firstError_X5_isText : GoodIn wsX5_firstError wsX5_isText := goodIn_r _ [8, 3, 9, 2, 10, 11, 12, 7, 13, 14, 15, 16, 17, 18, 19, 20, 21, 22, 23, 24, 25, 26, 27, 28, 29, 30, 31, 32, 33, 34, 35, 36, 37, 38, 39, 40, 41, 42, 43, 44, 45, 46, 47, 48, 49, 50, 51, 52, 53, 54, 55, 56] (by decide +kernel) (by decide +kernel)
set_option maxRecDepth 20000 in
theorem gX5_firstError_X5_isText : GoodIn wsX5_firstError (wsV RX5 156 RX5 yX5_isText wsX5_isText) := goodIn_app (goodIn_of _ (by decide +kernel)) ggX5_firstError_X5_isText
theorem dX5_firstError_0 : decode cX5_firstError 0 = .ok (.aload_n 0, 1) := by decide +kernel
theorem dX5_firstError_1 : decode cX5_firstError 1 = .ok (.iconst 0, 1) := by decide +kernel
theorem dX5_firstError_2 : decode cX5_firstError 2 = .ok (.putfield 28, 3) := by decide +kernel
theorem dX5_firstError_5 : decode cX5_firstError 5 = .ok (.aload_n 0, 1) := by decide +kernel
theorem dX5_firstError_6 : decode cX5_firstError 6 = .ok (.invokevirtual 156, 3) := by decide +kernel
theorem dX5_firstError_9 : decode cX5_firstError 9 = .ok (.ifCond .eq 10, 3) := by decide +kernel
theorem dX5_firstError_12 : decode cX5_firstError 12 = .ok (.aload_n 0, 1) := by decide +kernel
theorem dX5_firstError_13 : decode cX5_firstError 13 = .ok (.getfield 127, 3) := by decide +kernel
theorem dX5_firstError_16 : decode cX5_firstError 16 = .ok (.goto 7, 3) := by decide +kernel
theorem dX5_firstError_19 : decode cX5_firstError 19 = .ok (.aload_n 0, 1) := by decide +kernel
theorem dX5_firstError_20 : decode cX5_firstError 20 = .ok (.getfield 130, 3) := by decide +kernel
theorem dX5_firstError_23 : decode cX5_firstError 23 = .ok (.ireturn, 1) := by decide +kernel
theorem dX5_isGood_0 : decode cX5_isGood 0 = .ok (.iconst 0, 1) := by decide +kernel
theorem dX5_isGood_1 : decode cX5_isGood 1 = .ok (.istore_n 1, 1) := by decide +kernel
theorem dX5_isGood_2 : decode cX5_isGood 2 = .ok (.iconst 0, 1) := by decide +kernel
theorem dX5_isGood_3 : decode cX5_isGood 3 = .ok (.istore_n 2, 1) := by decide +kernel
theorem dX5_isGood_4 : decode cX5_isGood 4 = .ok (.iconst 1, 1) := by decide +kernel
theorem dX5_isGood_5 : decode cX5_isGood 5 = .ok (.aload_n 0, 1) := by decide +kernel
theorem dX5_isGood_6 : decode cX5_isGood 6 = .ok (.getfield 25, 3) := by decide +kernel
theorem dX5_isGood_9 : decode cX5_isGood 9 = .ok (.iconst 0, 1) := by decide +kernel
theorem dX5_isGood_10 : decode cX5_isGood 10 = .ok (.iaload, 1) := by decide +kernel
theorem dX5_isGood_11 : decode cX5_isGood 11 = .ok (.ishl, 1) := by decide +kernel
theorem dX5_isGood_12 : decode cX5_isGood 12 = .ok (.istore_n 3, 1) := by decide +kernel
theorem dX5_isGood_13 : decode cX5_isGood 13 = .ok (.iconst 1, 1) := by decide +kernel
theorem dX5_isGood_14 : decode cX5_isGood 14 = .ok (.istore 4, 2) := by decide +kernel
theorem dX5_isGood_16 : decode cX5_isGood 16 = .ok (.iconst 0, 1) := by decide +kernel
theorem dX5_isGood_17 : decode cX5_isGood 17 = .ok (.istore 5, 2) := by decide +kernel
theorem dX5_isGood_19 : decode cX5_isGood 19 = .ok (.iload 5, 2) := by decide +kernel
theorem dX5_isGood_21 : decode cX5_isGood 21 = .ok (.aload_n 0, 1) := by decide +kernel
theorem dX5_isGood_22 : decode cX5_isGood 22 = .ok (.getfield 25, 3) := by decide +kernel
theorem dX5_isGood_25 : decode cX5_isGood 25 = .ok (.iconst 3, 1) := by decide +kernel
theorem dX5_isGood_26 : decode cX5_isGood 26 = .ok (.iaload, 1) := by decide +kernel
theorem dX5_isGood_27 : decode cX5_isGood 27 = .ok (.if_icmp .ge 74, 3) := by decide +kernel
theorem dX5_isGood_30 : decode cX5_isGood 30 = .ok (.iload 4, 2) := by decide +kernel
theorem dX5_isGood_32 : decode cX5_isGood 32 = .ok (.ifCond .eq 26, 3) := by decide +kernel
theorem dX5_isGood_35 : decode cX5_isGood 35 = .ok (.iload_n 3, 1) := by decide +kernel
theorem dX5_isGood_36 : decode cX5_isGood 36 = .ok (.aload_n 0, 1) := by decide +kernel
theorem dX5_isGood_37 : decode cX5_isGood 37 = .ok (.getfield 25, 3) := by decide +kernel
theorem dX5_isGood_40 : decode cX5_isGood 40 = .ok (.bipush 15, 2) := by decide +kernel
theorem dX5_isGood_42 : decode cX5_isGood 42 = .ok (.iconst 4, 1) := by decide +kernel
theorem dX5_isGood_43 : decode cX5_isGood 43 = .ok (.iload 5, 2) := by decide +kernel
theorem dX5_isGood_45 : decode cX5_isGood 45 = .ok (.imul, 1) := by decide +kernel
theorem dX5_isGood_46 : decode cX5_isGood 46 = .ok (.iadd, 1) := by decide +kernel
theorem dX5_isGood_47 : decode cX5_isGood 47 = .ok (.iaload, 1) := by decide +kernel
theorem dX5_isGood_48 : decode cX5_isGood 48 = .ok (.ishr, 1) := by decide +kernel
theorem dX5_isGood_49 : decode cX5_isGood 49 = .ok (.iconst 1, 1) := by decide +kernel
theorem dX5_isGood_50 : decode cX5_isGood 50 = .ok (.iand, 1) := by decide +kernel
theorem dX5_isGood_51 : decode cX5_isGood 51 = .ok (.ifCond .ne 7, 3) := by decide +kernel
theorem dX5_isGood_54 : decode cX5_isGood 54 = .ok (.iconst 1, 1) := by decide +kernel
theorem dX5_isGood_55 : decode cX5_isGood 55 = .ok (.goto 4, 3) := by decide +kernel
theorem dX5_isGood_58 : decode cX5_isGood 58 = .ok (.iconst 0, 1) := by decide +kernel
theorem dX5_isGood_59 : decode cX5_isGood 59 = .ok (.istore 4, 2) := by decide +kernel
theorem dX5_isGood_61 : decode cX5_isGood 61 = .ok (.iload_n 3, 1) := by decide +kernel
theorem dX5_isGood_62 : decode cX5_isGood 62 = .ok (.iconst 1, 1) := by decide +kernel
theorem dX5_isGood_63 : decode cX5_isGood 63 = .ok (.aload_n 0, 1) := by decide +kernel
theorem dX5_isGood_64 : decode cX5_isGood 64 = .ok (.getfield 25, 3) := by decide +kernel
theorem dX5_isGood_67 : decode cX5_isGood 67 = .ok (.bipush 15, 2) := by decide +kernel
theorem dX5_isGood_69 : decode cX5_isGood 69 = .ok (.iconst 4, 1) := by decide +kernel
theorem dX5_isGood_70 : decode cX5_isGood 70 = .ok (.iload 5, 2) := by decide +kernel
theorem dX5_isGood_72 : decode cX5_isGood 72 = .ok (.imul, 1) := by decide +kernel
theorem dX5_isGood_73 : decode cX5_isGood 73 = .ok (.iadd, 1) := by decide +kernel
theorem dX5_isGood_74 : decode cX5_isGood 74 = .ok (.iaload, 1) := by decide +kernel
theorem dX5_isGood_75 : decode cX5_isGood 75 = .ok (.ishl, 1) := by decide +kernel
theorem dX5_isGood_76 : decode cX5_isGood 76 = .ok (.ior, 1) := by decide +kernel
theorem dX5_isGood_77 : decode cX5_isGood 77 = .ok (.istore_n 3, 1) := by decide +kernel
theorem dX5_isGood_78 : decode cX5_isGood 78 = .ok (.iload_n 1, 1) := by decide +kernel
theorem dX5_isGood_79 : decode cX5_isGood 79 = .ok (.aload_n 0, 1) := by decide +kernel
theorem dX5_isGood_80 : decode cX5_isGood 80 = .ok (.getfield 25, 3) := by decide +kernel
theorem dX5_isGood_83 : decode cX5_isGood 83 = .ok (.bipush 15, 2) := by decide +kernel
theorem dX5_isGood_85 : decode cX5_isGood 85 = .ok (.iconst 4, 1) := by decide +kernel
theorem dX5_isGood_86 : decode cX5_isGood 86 = .ok (.iload 5, 2) := by decide +kernel
theorem dX5_isGood_88 : decode cX5_isGood 88 = .ok (.imul, 1) := by decide +kernel
theorem dX5_isGood_89 : decode cX5_isGood 89 = .ok (.iadd, 1) := by decide +kernel
theorem dX5_isGood_90 : decode cX5_isGood 90 = .ok (.iconst 1, 1) := by decide +kernel
theorem dX5_isGood_91 : decode cX5_isGood 91 = .ok (.iadd, 1) := by decide +kernel
theorem dX5_isGood_92 : decode cX5_isGood 92 = .ok (.iaload, 1) := by decide +kernel
theorem dX5_isGood_93 : decode cX5_isGood 93 = .ok (.iadd, 1) := by decide +kernel
theorem dX5_isGood_94 : decode cX5_isGood 94 = .ok (.istore_n 1, 1) := by decide +kernel
theorem dX5_isGood_95 : decode cX5_isGood 95 = .ok (.iinc 5 1, 3) := by decide +kernel
theorem dX5_isGood_98 : decode cX5_isGood 98 = .ok (.goto (-79), 3) := by decide +kernel
theorem dX5_isGood_101 : decode cX5_isGood 101 = .ok (.iconst 0, 1) := by decide +kernel
theorem dX5_isGood_102 : decode cX5_isGood 102 = .ok (.istore 5, 2) := by decide +kernel
theorem dX5_isGood_104 : decode cX5_isGood 104 = .ok (.iload 5, 2) := by decide +kernel
theorem dX5_isGood_106 : decode cX5_isGood 106 = .ok (.aload_n 0, 1) := by decide +kernel
theorem dX5_isGood_107 : decode cX5_isGood 107 = .ok (.getfield 25, 3) := by decide +kernel
theorem dX5_isGood_110 : decode cX5_isGood 110 = .ok (.iconst 4, 1) := by decide +kernel
theorem dX5_isGood_111 : decode cX5_isGood 111 = .ok (.iaload, 1) := by decide +kernel
theorem dX5_isGood_112 : decode cX5_isGood 112 = .ok (.if_icmp .ge 22, 3) := by decide +kernel
theorem dX5_isGood_115 : decode cX5_isGood 115 = .ok (.iload_n 2, 1) := by decide +kernel
theorem dX5_isGood_116 : decode cX5_isGood 116 = .ok (.aload_n 0, 1) := by decide +kernel
theorem dX5_isGood_117 : decode cX5_isGood 117 = .ok (.getfield 25, 3) := by decide +kernel
theorem dX5_isGood_120 : decode cX5_isGood 120 = .ok (.bipush 10, 2) := by decide +kernel
theorem dX5_isGood_122 : decode cX5_isGood 122 = .ok (.iload 5, 2) := by decide +kernel
theorem dX5_isGood_124 : decode cX5_isGood 124 = .ok (.iadd, 1) := by decide +kernel
theorem dX5_isGood_125 : decode cX5_isGood 125 = .ok (.iaload, 1) := by decide +kernel
theorem dX5_isGood_126 : decode cX5_isGood 126 = .ok (.iadd, 1) := by decide +kernel
theorem dX5_isGood_127 : decode cX5_isGood 127 = .ok (.istore_n 2, 1) := by decide +kernel
theorem dX5_isGood_128 : decode cX5_isGood 128 = .ok (.iinc 5 1, 3) := by decide +kernel
theorem dX5_isGood_131 : decode cX5_isGood 131 = .ok (.goto (-27), 3) := by decide +kernel
theorem dX5_isGood_134 : decode cX5_isGood 134 = .ok (.iload 4, 2) := by decide +kernel
theorem dX5_isGood_136 : decode cX5_isGood 136 = .ok (.ifCond .eq 24, 3) := by decide +kernel
theorem dX5_isGood_139 : decode cX5_isGood 139 = .ok (.iload_n 1, 1) := by decide +kernel
theorem dX5_isGood_140 : decode cX5_isGood 140 = .ok (.aload_n 0, 1) := by decide +kernel
theorem dX5_isGood_141 : decode cX5_isGood 141 = .ok (.getfield 25, 3) := by decide +kernel
theorem dX5_isGood_144 : decode cX5_isGood 144 = .ok (.iconst 1, 1) := by decide +kernel
theorem dX5_isGood_145 : decode cX5_isGood 145 = .ok (.iaload, 1) := by decide +kernel
theorem dX5_isGood_146 : decode cX5_isGood 146 = .ok (.if_icmp .gt 14, 3) := by decide +kernel
theorem dX5_isGood_149 : decode cX5_isGood 149 = .ok (.iload_n 2, 1) := by decide +kernel
theorem dX5_isGood_150 : decode cX5_isGood 150 = .ok (.sipush 1000, 3) := by decide +kernel
theorem dX5_isGood_153 : decode cX5_isGood 153 = .ok (.if_icmp .gt 7, 3) := by decide +kernel
theorem dX5_isGood_156 : decode cX5_isGood 156 = .ok (.iconst 1, 1) := by decide +kernel
theorem dX5_isGood_157 : decode cX5_isGood 157 = .ok (.goto 4, 3) := by decide +kernel
theorem dX5_isGood_160 : decode cX5_isGood 160 = .ok (.iconst 0, 1) := by decide +kernel
theorem dX5_isGood_161 : decode cX5_isGood 161 = .ok (.ireturn, 1) := by decide +kernel
set_option maxRecDepth 20000 in
theorem ggX5_canBind_X5_bound : GoodIn wsX5_canBind wsX5_bound := goodIn_r _ [7, 2, 8, 9, 6, 10, 11, 12, 13, 14, 15, 16, 17, 18, 19, 20, 21, 22, 23, 24, 25, 26, 27] (by decide +kernel) (by decide +kernel)
set_option maxRecDepth 20000 in
theorem gX5_canBind_X5_bound : GoodIn wsX5_canBind (wsV RX5 57 RX5 yX5_bound wsX5_bound) := goodIn_app (goodIn_of _ (by decide +kernel)) ggX5_canBind_X5_bound
theorem dX5_canBind_0 : decode cX5_canBind 0 = .ok (.iconst 1, 1) := by decide +kernel
theorem dX5_canBind_1 : decode cX5_canBind 1 = .ok (.istore_n 1, 1) := by decide +kernel
theorem dX5_canBind_2 : decode cX5_canBind 2 = .ok (.iconst 0, 1) := by decide +kernel
theorem dX5_canBind_3 : decode cX5_canBind 3 = .ok (.istore_n 2, 1) := by decide +kernel
theorem dX5_canBind_4 : decode cX5_canBind 4 = .ok (.iload_n 2, 1) := by decide +kernel
theorem dX5_canBind_5 : decode cX5_canBind 5 = .ok (.aload_n 0, 1) := by decide +kernel
theorem dX5_canBind_6 : decode cX5_canBind 6 = .ok (.getfield 25, 3) := by decide +kernel
theorem dX5_canBind_9 : decode cX5_canBind 9 = .ok (.iconst 3, 1) := by decide +kernel
theorem dX5_canBind_10 : decode cX5_canBind 10 = .ok (.iaload, 1) := by decide +kernel
theorem dX5_canBind_11 : decode cX5_canBind 11 = .ok (.if_icmp .ge 74, 3) := by decide +kernel
theorem dX5_canBind_14 : decode cX5_canBind 14 = .ok (.aload_n 0, 1) := by decide +kernel
theorem dX5_canBind_15 : decode cX5_canBind 15 = .ok (.getfield 25, 3) := by decide +kernel
theorem dX5_canBind_18 : decode cX5_canBind 18 = .ok (.bipush 15, 2) := by decide +kernel
theorem dX5_canBind_20 : decode cX5_canBind 20 = .ok (.iconst 4, 1) := by decide +kernel
theorem dX5_canBind_21 : decode cX5_canBind 21 = .ok (.iload_n 2, 1) := by decide +kernel
theorem dX5_canBind_22 : decode cX5_canBind 22 = .ok (.imul, 1) := by decide +kernel
theorem dX5_canBind_23 : decode cX5_canBind 23 = .ok (.iadd, 1) := by decide +kernel
theorem dX5_canBind_24 : decode cX5_canBind 24 = .ok (.iaload, 1) := by decide +kernel
theorem dX5_canBind_25 : decode cX5_canBind 25 = .ok (.istore_n 3, 1) := by decide +kernel
theorem dX5_canBind_26 : decode cX5_canBind 26 = .ok (.iload_n 1, 1) := by decide +kernel
theorem dX5_canBind_27 : decode cX5_canBind 27 = .ok (.ifCond .eq 50, 3) := by decide +kernel
theorem dX5_canBind_30 : decode cX5_canBind 30 = .ok (.aload_n 0, 1) := by decide +kernel
theorem dX5_canBind_31 : decode cX5_canBind 31 = .ok (.iload_n 3, 1) := by decide +kernel
theorem dX5_canBind_32 : decode cX5_canBind 32 = .ok (.invokevirtual 57, 3) := by decide +kernel
theorem dX5_canBind_35 : decode cX5_canBind 35 = .ok (.aload_n 0, 1) := by decide +kernel
theorem dX5_canBind_36 : decode cX5_canBind 36 = .ok (.getfield 25, 3) := by decide +kernel
theorem dX5_canBind_39 : decode cX5_canBind 39 = .ok (.bipush 15, 2) := by decide +kernel
theorem dX5_canBind_41 : decode cX5_canBind 41 = .ok (.iconst 4, 1) := by decide +kernel
theorem dX5_canBind_42 : decode cX5_canBind 42 = .ok (.iload_n 2, 1) := by decide +kernel
theorem dX5_canBind_43 : decode cX5_canBind 43 = .ok (.imul, 1) := by decide +kernel
theorem dX5_canBind_44 : decode cX5_canBind 44 = .ok (.iadd, 1) := by decide +kernel
theorem dX5_canBind_45 : decode cX5_canBind 45 = .ok (.iconst 1, 1) := by decide +kernel
theorem dX5_canBind_46 : decode cX5_canBind 46 = .ok (.iadd, 1) := by decide +kernel
theorem dX5_canBind_47 : decode cX5_canBind 47 = .ok (.iaload, 1) := by decide +kernel
theorem dX5_canBind_48 : decode cX5_canBind 48 = .ok (.iadd, 1) := by decide +kernel
theorem dX5_canBind_49 : decode cX5_canBind 49 = .ok (.i2l, 1) := by decide +kernel
theorem dX5_canBind_50 : decode cX5_canBind 50 = .ok (.aload_n 0, 1) := by decide +kernel
theorem dX5_canBind_51 : decode cX5_canBind 51 = .ok (.getfield 7, 3) := by decide +kernel
theorem dX5_canBind_54 : decode cX5_canBind 54 = .ok (.bipush 9, 2) := by decide +kernel
theorem dX5_canBind_56 : decode cX5_canBind 56 = .ok (.iload_n 3, 1) := by decide +kernel
theorem dX5_canBind_57 : decode cX5_canBind 57 = .ok (.iadd, 1) := by decide +kernel
theorem dX5_canBind_58 : decode cX5_canBind 58 = .ok (.iaload, 1) := by decide +kernel
theorem dX5_canBind_59 : decode cX5_canBind 59 = .ok (.i2l, 1) := by decide +kernel
theorem dX5_canBind_60 : decode cX5_canBind 60 = .ok (.aload_n 0, 1) := by decide +kernel
theorem dX5_canBind_61 : decode cX5_canBind 61 = .ok (.getfield 7, 3) := by decide +kernel
theorem dX5_canBind_64 : decode cX5_canBind 64 = .ok (.bipush 8, 2) := by decide +kernel
theorem dX5_canBind_66 : decode cX5_canBind 66 = .ok (.iaload, 1) := by decide +kernel
theorem dX5_canBind_67 : decode cX5_canBind 67 = .ok (.i2l, 1) := by decide +kernel
theorem dX5_canBind_68 : decode cX5_canBind 68 = .ok (.lmul, 1) := by decide +kernel
theorem dX5_canBind_69 : decode cX5_canBind 69 = .ok (.lcmp, 1) := by decide +kernel
theorem dX5_canBind_70 : decode cX5_canBind 70 = .ok (.ifCond .gt 7, 3) := by decide +kernel
theorem dX5_canBind_73 : decode cX5_canBind 73 = .ok (.iconst 1, 1) := by decide +kernel
theorem dX5_canBind_74 : decode cX5_canBind 74 = .ok (.goto 4, 3) := by decide +kernel
theorem dX5_canBind_77 : decode cX5_canBind 77 = .ok (.iconst 0, 1) := by decide +kernel
theorem dX5_canBind_78 : decode cX5_canBind 78 = .ok (.istore_n 1, 1) := by decide +kernel
theorem dX5_canBind_79 : decode cX5_canBind 79 = .ok (.iinc 2 1, 3) := by decide +kernel
theorem dX5_canBind_82 : decode cX5_canBind 82 = .ok (.goto (-78), 3) := by decide +kernel
theorem dX5_canBind_85 : decode cX5_canBind 85 = .ok (.iload_n 1, 1) := by decide +kernel
theorem dX5_canBind_86 : decode cX5_canBind 86 = .ok (.ireturn, 1) := by decide +kernel
set_option maxRecDepth 20000 in
theorem ggX5_give_X5_isText : GoodIn wsX5_give wsX5_isText := goodIn_r _ [9, 10, 11, 4, 12, 13, 14, 8, 15, 16, 17, 18, 19, 20, 21, 22, 23, 24, 3, 25, 26, 27, 28, 29, 30, 31, 32, 33, 34, 35, 36, 37, 38, 39, 40, 41, 42, 43, 72, 73, 74, 75, 76, 77, 78, 79, 80, 81, 82, 83, 84, 85] (by decide +kernel) (by decide +kernel)
set_option maxRecDepth 20000 in
theorem gX5_give_X5_isText : GoodIn wsX5_give (wsV RX5 156 RX5 yX5_isText wsX5_isText) := goodIn_app (goodIn_of _ (by decide +kernel)) ggX5_give_X5_isText
set_option maxRecDepth 20000 in
theorem ggX5_give_X5_isGood : GoodIn wsX5_give wsX5_isGood := goodIn_r _ [47, 3, 72, 73, 74, 75, 76, 77, 78, 79, 80, 81, 82, 83, 84, 85] (by decide +kernel) (by decide +kernel)
set_option maxRecDepth 20000 in
theorem gX5_give_X5_isGood : GoodIn wsX5_give (wsV RX5 159 RX5 yX5_isGood wsX5_isGood) := goodIn_app (goodIn_of _ (by decide +kernel)) ggX5_give_X5_isGood
set_option maxRecDepth 20000 in
theorem ggX5_give_X5_fails : GoodIn wsX5_give wsX5_fails := goodIn_r _ [51, 1, 72, 73, 74, 75, 76, 77, 78, 79, 80, 81, 82, 83, 84, 85] (by decide +kernel) (by decide +kernel)
set_option maxRecDepth 20000 in
theorem gX5_give_X5_fails : GoodIn wsX5_give (wsV RX5 64 RX5 yX5_fails wsX5_fails) := goodIn_app (goodIn_of _ (by decide +kernel)) ggX5_give_X5_fails
set_option maxRecDepth 20000 in
theorem ggX5_give_X5_canBind : GoodIn wsX5_give wsX5_canBind := goodIn_r _ [55, 3, 2, 56, 57, 58, 8, 59, 60, 61, 62, 63, 64, 65, 72, 73, 74, 75, 76, 77, 78, 79, 80, 81, 82, 83, 84, 85] (by decide +kernel) (by decide +kernel)
set_option maxRecDepth 20000 in
theorem gX5_give_X5_canBind : GoodIn wsX5_give (wsV RX5 162 RX5 yX5_canBind wsX5_canBind) := goodIn_app (goodIn_of _ (by decide +kernel)) ggX5_give_X5_canBind
set_option maxRecDepth 20000 in
theorem ggX5_give_X5_save : GoodIn wsX5_give wsX5_save := goodIn_r _ [69, 70, 71, 2, 72, 73, 74, 75, 76, 77, 78, 79, 80, 81, 82, 83, 84, 85] (by decide +kernel) (by decide +kernel)
set_option maxRecDepth 20000 in
theorem gX5_give_X5_save : GoodIn wsX5_give (wsV RX5 70 RX5 yX5_save wsX5_save) := goodIn_app (goodIn_of _ (by decide +kernel)) ggX5_give_X5_save
set_option maxRecDepth 20000 in
theorem ggX5_give_X5_at : GoodIn wsX5_give wsX5_at := goodIn_r _ [62] (by decide +kernel) (by decide +kernel)
set_option maxRecDepth 20000 in
theorem gX5_give_X5_at : GoodIn wsX5_give (va_wsS RX5 40 yX5_at wsX5_at) := goodIn_app (goodIn_of _ (by decide +kernel)) ggX5_give_X5_at
theorem dX5_give_0 : decode cX5_give 0 = .ok (.aload_n 0, 1) := by decide +kernel
theorem dX5_give_1 : decode cX5_give 1 = .ok (.iconst 0, 1) := by decide +kernel
theorem dX5_give_2 : decode cX5_give 2 = .ok (.putfield 28, 3) := by decide +kernel
theorem dX5_give_5 : decode cX5_give 5 = .ok (.aload_n 0, 1) := by decide +kernel
theorem dX5_give_6 : decode cX5_give 6 = .ok (.invokevirtual 156, 3) := by decide +kernel
theorem dX5_give_9 : decode cX5_give 9 = .ok (.ifCond .eq 10, 3) := by decide +kernel
theorem dX5_give_12 : decode cX5_give 12 = .ok (.aload_n 0, 1) := by decide +kernel
theorem dX5_give_13 : decode cX5_give 13 = .ok (.invokevirtual 159, 3) := by decide +kernel
theorem dX5_give_16 : decode cX5_give 16 = .ok (.ifCond .ne 9, 3) := by decide +kernel
theorem dX5_give_19 : decode cX5_give 19 = .ok (.aload_n 0, 1) := by decide +kernel
theorem dX5_give_20 : decode cX5_give 20 = .ok (.iconst 1, 1) := by decide +kernel
theorem dX5_give_21 : decode cX5_give 21 = .ok (.invokevirtual 64, 3) := by decide +kernel
theorem dX5_give_24 : decode cX5_give 24 = .ok (.ireturn, 1) := by decide +kernel
theorem dX5_give_25 : decode cX5_give 25 = .ok (.aload_n 0, 1) := by decide +kernel
theorem dX5_give_26 : decode cX5_give 26 = .ok (.getfield 7, 3) := by decide +kernel
theorem dX5_give_29 : decode cX5_give 29 = .ok (.iconst 0, 1) := by decide +kernel
theorem dX5_give_30 : decode cX5_give 30 = .ok (.iaload, 1) := by decide +kernel
theorem dX5_give_31 : decode cX5_give 31 = .ok (.bipush 10, 2) := by decide +kernel
theorem dX5_give_33 : decode cX5_give 33 = .ok (.if_icmp .eq 10, 3) := by decide +kernel
theorem dX5_give_36 : decode cX5_give 36 = .ok (.aload_n 0, 1) := by decide +kernel
theorem dX5_give_37 : decode cX5_give 37 = .ok (.invokevirtual 162, 3) := by decide +kernel
theorem dX5_give_40 : decode cX5_give 40 = .ok (.ifCond .ne 9, 3) := by decide +kernel
theorem dX5_give_43 : decode cX5_give 43 = .ok (.aload_n 0, 1) := by decide +kernel
theorem dX5_give_44 : decode cX5_give 44 = .ok (.iconst 2, 1) := by decide +kernel
theorem dX5_give_45 : decode cX5_give 45 = .ok (.invokevirtual 64, 3) := by decide +kernel
theorem dX5_give_48 : decode cX5_give 48 = .ok (.ireturn, 1) := by decide +kernel
theorem dX5_give_49 : decode cX5_give 49 = .ok (.aload_n 0, 1) := by decide +kernel
theorem dX5_give_50 : decode cX5_give 50 = .ok (.invokevirtual 70, 3) := by decide +kernel
theorem dX5_give_53 : decode cX5_give 53 = .ok (.aload_n 0, 1) := by decide +kernel
theorem dX5_give_54 : decode cX5_give 54 = .ok (.getfield 7, 3) := by decide +kernel
theorem dX5_give_57 : decode cX5_give 57 = .ok (.iconst 0, 1) := by decide +kernel
theorem dX5_give_58 : decode cX5_give 58 = .ok (.iaload, 1) := by decide +kernel
theorem dX5_give_59 : decode cX5_give 59 = .ok (.invokestatic 40, 3) := by decide +kernel
theorem dX5_give_62 : decode cX5_give 62 = .ok (.istore_n 1, 1) := by decide +kernel
theorem dX5_give_63 : decode cX5_give 63 = .ok (.iconst 0, 1) := by decide +kernel
theorem dX5_give_64 : decode cX5_give 64 = .ok (.istore_n 2, 1) := by decide +kernel
theorem dX5_give_65 : decode cX5_give 65 = .ok (.iload_n 2, 1) := by decide +kernel
theorem dX5_give_66 : decode cX5_give 66 = .ok (.bipush 31, 2) := by decide +kernel
theorem dX5_give_68 : decode cX5_give 68 = .ok (.if_icmp .ge 18, 3) := by decide +kernel
theorem dX5_give_71 : decode cX5_give 71 = .ok (.aload_n 0, 1) := by decide +kernel
theorem dX5_give_72 : decode cX5_give 72 = .ok (.getfield 7, 3) := by decide +kernel
theorem dX5_give_75 : decode cX5_give 75 = .ok (.iload_n 1, 1) := by decide +kernel
theorem dX5_give_76 : decode cX5_give 76 = .ok (.iload_n 2, 1) := by decide +kernel
theorem dX5_give_77 : decode cX5_give 77 = .ok (.iadd, 1) := by decide +kernel
theorem dX5_give_78 : decode cX5_give 78 = .ok (.iconst 0, 1) := by decide +kernel
theorem dX5_give_79 : decode cX5_give 79 = .ok (.iastore, 1) := by decide +kernel
theorem dX5_give_80 : decode cX5_give 80 = .ok (.iinc 2 1, 3) := by decide +kernel
theorem dX5_give_83 : decode cX5_give 83 = .ok (.goto (-18), 3) := by decide +kernel
theorem dX5_give_86 : decode cX5_give 86 = .ok (.iconst 0, 1) := by decide +kernel
theorem dX5_give_87 : decode cX5_give 87 = .ok (.istore_n 2, 1) := by decide +kernel
theorem dX5_give_88 : decode cX5_give 88 = .ok (.iload_n 2, 1) := by decide +kernel
theorem dX5_give_89 : decode cX5_give 89 = .ok (.iconst 5, 1) := by decide +kernel
theorem dX5_give_90 : decode cX5_give 90 = .ok (.if_icmp .ge 23, 3) := by decide +kernel
theorem dX5_give_93 : decode cX5_give 93 = .ok (.aload_n 0, 1) := by decide +kernel
theorem dX5_give_94 : decode cX5_give 94 = .ok (.getfield 7, 3) := by decide +kernel
theorem dX5_give_97 : decode cX5_give 97 = .ok (.iload_n 1, 1) := by decide +kernel
theorem dX5_give_98 : decode cX5_give 98 = .ok (.iload_n 2, 1) := by decide +kernel
theorem dX5_give_99 : decode cX5_give 99 = .ok (.iadd, 1) := by decide +kernel
theorem dX5_give_100 : decode cX5_give 100 = .ok (.aload_n 0, 1) := by decide +kernel
theorem dX5_give_101 : decode cX5_give 101 = .ok (.getfield 25, 3) := by decide +kernel
theorem dX5_give_104 : decode cX5_give 104 = .ok (.iload_n 2, 1) := by decide +kernel
theorem dX5_give_105 : decode cX5_give 105 = .ok (.iaload, 1) := by decide +kernel
theorem dX5_give_106 : decode cX5_give 106 = .ok (.iastore, 1) := by decide +kernel
theorem dX5_give_107 : decode cX5_give 107 = .ok (.iinc 2 1, 3) := by decide +kernel
theorem dX5_give_110 : decode cX5_give 110 = .ok (.goto (-22), 3) := by decide +kernel
theorem dX5_give_113 : decode cX5_give 113 = .ok (.aload_n 0, 1) := by decide +kernel
theorem dX5_give_114 : decode cX5_give 114 = .ok (.getfield 7, 3) := by decide +kernel
theorem dX5_give_117 : decode cX5_give 117 = .ok (.iload_n 1, 1) := by decide +kernel
theorem dX5_give_118 : decode cX5_give 118 = .ok (.bipush 9, 2) := by decide +kernel
theorem dX5_give_120 : decode cX5_give 120 = .ok (.iadd, 1) := by decide +kernel
theorem dX5_give_121 : decode cX5_give 121 = .ok (.iconst 1, 1) := by decide +kernel
theorem dX5_give_122 : decode cX5_give 122 = .ok (.iastore, 1) := by decide +kernel
theorem dX5_give_123 : decode cX5_give 123 = .ok (.iconst 0, 1) := by decide +kernel
theorem dX5_give_124 : decode cX5_give 124 = .ok (.istore_n 2, 1) := by decide +kernel
theorem dX5_give_125 : decode cX5_give 125 = .ok (.iload_n 2, 1) := by decide +kernel
theorem dX5_give_126 : decode cX5_give 126 = .ok (.aload_n 0, 1) := by decide +kernel
theorem dX5_give_127 : decode cX5_give 127 = .ok (.getfield 25, 3) := by decide +kernel
theorem dX5_give_130 : decode cX5_give 130 = .ok (.iconst 4, 1) := by decide +kernel
theorem dX5_give_131 : decode cX5_give 131 = .ok (.iaload, 1) := by decide +kernel
theorem dX5_give_132 : decode cX5_give 132 = .ok (.if_icmp .ge 29, 3) := by decide +kernel
theorem dX5_give_135 : decode cX5_give 135 = .ok (.aload_n 0, 1) := by decide +kernel
theorem dX5_give_136 : decode cX5_give 136 = .ok (.getfield 7, 3) := by decide +kernel
theorem dX5_give_139 : decode cX5_give 139 = .ok (.iload_n 1, 1) := by decide +kernel
theorem dX5_give_140 : decode cX5_give 140 = .ok (.bipush 10, 2) := by decide +kernel
theorem dX5_give_142 : decode cX5_give 142 = .ok (.iadd, 1) := by decide +kernel
theorem dX5_give_143 : decode cX5_give 143 = .ok (.iload_n 2, 1) := by decide +kernel
theorem dX5_give_144 : decode cX5_give 144 = .ok (.iadd, 1) := by decide +kernel
theorem dX5_give_145 : decode cX5_give 145 = .ok (.aload_n 0, 1) := by decide +kernel
theorem dX5_give_146 : decode cX5_give 146 = .ok (.getfield 25, 3) := by decide +kernel
theorem dX5_give_149 : decode cX5_give 149 = .ok (.bipush 10, 2) := by decide +kernel
theorem dX5_give_151 : decode cX5_give 151 = .ok (.iload_n 2, 1) := by decide +kernel
theorem dX5_give_152 : decode cX5_give 152 = .ok (.iadd, 1) := by decide +kernel
theorem dX5_give_153 : decode cX5_give 153 = .ok (.iaload, 1) := by decide +kernel
theorem dX5_give_154 : decode cX5_give 154 = .ok (.iastore, 1) := by decide +kernel
theorem dX5_give_155 : decode cX5_give 155 = .ok (.iinc 2 1, 3) := by decide +kernel
theorem dX5_give_158 : decode cX5_give 158 = .ok (.goto (-33), 3) := by decide +kernel
theorem dX5_give_161 : decode cX5_give 161 = .ok (.iconst 0, 1) := by decide +kernel
theorem dX5_give_162 : decode cX5_give 162 = .ok (.istore_n 2, 1) := by decide +kernel
theorem dX5_give_163 : decode cX5_give 163 = .ok (.iload_n 2, 1) := by decide +kernel
theorem dX5_give_164 : decode cX5_give 164 = .ok (.aload_n 0, 1) := by decide +kernel
theorem dX5_give_165 : decode cX5_give 165 = .ok (.getfield 25, 3) := by decide +kernel
theorem dX5_give_168 : decode cX5_give 168 = .ok (.iconst 3, 1) := by decide +kernel
theorem dX5_give_169 : decode cX5_give 169 = .ok (.iaload, 1) := by decide +kernel
theorem dX5_give_170 : decode cX5_give 170 = .ok (.if_icmp .ge 66, 3) := by decide +kernel
theorem dX5_give_173 : decode cX5_give 173 = .ok (.bipush 15, 2) := by decide +kernel
theorem dX5_give_175 : decode cX5_give 175 = .ok (.iconst 4, 1) := by decide +kernel
theorem dX5_give_176 : decode cX5_give 176 = .ok (.iload_n 2, 1) := by decide +kernel
theorem dX5_give_177 : decode cX5_give 177 = .ok (.imul, 1) := by decide +kernel
theorem dX5_give_178 : decode cX5_give 178 = .ok (.iadd, 1) := by decide +kernel
theorem dX5_give_179 : decode cX5_give 179 = .ok (.istore_n 3, 1) := by decide +kernel
theorem dX5_give_180 : decode cX5_give 180 = .ok (.aload_n 0, 1) := by decide +kernel
theorem dX5_give_181 : decode cX5_give 181 = .ok (.getfield 7, 3) := by decide +kernel
theorem dX5_give_184 : decode cX5_give 184 = .ok (.iload_n 1, 1) := by decide +kernel
theorem dX5_give_185 : decode cX5_give 185 = .ok (.iload_n 3, 1) := by decide +kernel
theorem dX5_give_186 : decode cX5_give 186 = .ok (.iadd, 1) := by decide +kernel
theorem dX5_give_187 : decode cX5_give 187 = .ok (.aload_n 0, 1) := by decide +kernel
theorem dX5_give_188 : decode cX5_give 188 = .ok (.getfield 25, 3) := by decide +kernel
theorem dX5_give_191 : decode cX5_give 191 = .ok (.iload_n 3, 1) := by decide +kernel
theorem dX5_give_192 : decode cX5_give 192 = .ok (.iaload, 1) := by decide +kernel
theorem dX5_give_193 : decode cX5_give 193 = .ok (.iastore, 1) := by decide +kernel
theorem dX5_give_194 : decode cX5_give 194 = .ok (.aload_n 0, 1) := by decide +kernel
theorem dX5_give_195 : decode cX5_give 195 = .ok (.getfield 7, 3) := by decide +kernel
theorem dX5_give_198 : decode cX5_give 198 = .ok (.iload_n 1, 1) := by decide +kernel
theorem dX5_give_199 : decode cX5_give 199 = .ok (.iload_n 3, 1) := by decide +kernel
theorem dX5_give_200 : decode cX5_give 200 = .ok (.iadd, 1) := by decide +kernel
theorem dX5_give_201 : decode cX5_give 201 = .ok (.iconst 1, 1) := by decide +kernel
theorem dX5_give_202 : decode cX5_give 202 = .ok (.iadd, 1) := by decide +kernel
theorem dX5_give_203 : decode cX5_give 203 = .ok (.aload_n 0, 1) := by decide +kernel
theorem dX5_give_204 : decode cX5_give 204 = .ok (.getfield 25, 3) := by decide +kernel
theorem dX5_give_207 : decode cX5_give 207 = .ok (.iload_n 3, 1) := by decide +kernel
theorem dX5_give_208 : decode cX5_give 208 = .ok (.iconst 1, 1) := by decide +kernel
theorem dX5_give_209 : decode cX5_give 209 = .ok (.iadd, 1) := by decide +kernel
theorem dX5_give_210 : decode cX5_give 210 = .ok (.iaload, 1) := by decide +kernel
theorem dX5_give_211 : decode cX5_give 211 = .ok (.iastore, 1) := by decide +kernel
theorem dX5_give_212 : decode cX5_give 212 = .ok (.aload_n 0, 1) := by decide +kernel
theorem dX5_give_213 : decode cX5_give 213 = .ok (.getfield 7, 3) := by decide +kernel
theorem dX5_give_216 : decode cX5_give 216 = .ok (.iload_n 1, 1) := by decide +kernel
theorem dX5_give_217 : decode cX5_give 217 = .ok (.iload_n 3, 1) := by decide +kernel
theorem dX5_give_218 : decode cX5_give 218 = .ok (.iadd, 1) := by decide +kernel
theorem dX5_give_219 : decode cX5_give 219 = .ok (.iconst 2, 1) := by decide +kernel
theorem dX5_give_220 : decode cX5_give 220 = .ok (.iadd, 1) := by decide +kernel
theorem dX5_give_221 : decode cX5_give 221 = .ok (.aload_n 0, 1) := by decide +kernel
theorem dX5_give_222 : decode cX5_give 222 = .ok (.getfield 25, 3) := by decide +kernel
theorem dX5_give_225 : decode cX5_give 225 = .ok (.iload_n 3, 1) := by decide +kernel
theorem dX5_give_226 : decode cX5_give 226 = .ok (.iconst 1, 1) := by decide +kernel
theorem dX5_give_227 : decode cX5_give 227 = .ok (.iadd, 1) := by decide +kernel
theorem dX5_give_228 : decode cX5_give 228 = .ok (.iaload, 1) := by decide +kernel
theorem dX5_give_229 : decode cX5_give 229 = .ok (.iastore, 1) := by decide +kernel
theorem dX5_give_230 : decode cX5_give 230 = .ok (.iinc 2 1, 3) := by decide +kernel
theorem dX5_give_233 : decode cX5_give 233 = .ok (.goto (-70), 3) := by decide +kernel
theorem dX5_give_236 : decode cX5_give 236 = .ok (.aload_n 0, 1) := by decide +kernel
theorem dX5_give_237 : decode cX5_give 237 = .ok (.getfield 7, 3) := by decide +kernel
theorem dX5_give_240 : decode cX5_give 240 = .ok (.iconst 0, 1) := by decide +kernel
theorem dX5_give_241 : decode cX5_give 241 = .ok (.dup2, 1) := by decide +kernel
theorem dX5_give_242 : decode cX5_give 242 = .ok (.iaload, 1) := by decide +kernel
theorem dX5_give_243 : decode cX5_give 243 = .ok (.iconst 1, 1) := by decide +kernel
theorem dX5_give_244 : decode cX5_give 244 = .ok (.iadd, 1) := by decide +kernel
theorem dX5_give_245 : decode cX5_give 245 = .ok (.iastore, 1) := by decide +kernel
theorem dX5_give_246 : decode cX5_give 246 = .ok (.aload_n 0, 1) := by decide +kernel
theorem dX5_give_247 : decode cX5_give 247 = .ok (.iconst 0, 1) := by decide +kernel
theorem dX5_give_248 : decode cX5_give 248 = .ok (.putfield 127, 3) := by decide +kernel
theorem dX5_give_251 : decode cX5_give 251 = .ok (.aload_n 0, 1) := by decide +kernel
theorem dX5_give_252 : decode cX5_give 252 = .ok (.getfield 7, 3) := by decide +kernel
theorem dX5_give_255 : decode cX5_give 255 = .ok (.iconst 0, 1) := by decide +kernel
theorem dX5_give_256 : decode cX5_give 256 = .ok (.iaload, 1) := by decide +kernel
theorem dX5_give_257 : decode cX5_give 257 = .ok (.iconst 1, 1) := by decide +kernel
theorem dX5_give_258 : decode cX5_give 258 = .ok (.isub, 1) := by decide +kernel
theorem dX5_give_259 : decode cX5_give 259 = .ok (.ireturn, 1) := by decide +kernel
set_option maxRecDepth 20000 in
theorem ggX5_undo_X5_fails : GoodIn wsX5_undo wsX5_fails := goodIn_r _ [9, 1, 10, 11, 12, 13, 14, 15, 16, 17, 18, 19, 20, 21, 22, 23] (by decide +kernel) (by decide +kernel)
set_option maxRecDepth 20000 in
theorem gX5_undo_X5_fails : GoodIn wsX5_undo (wsV RX5 64 RX5 yX5_fails wsX5_fails) := goodIn_app (goodIn_of _ (by decide +kernel)) ggX5_undo_X5_fails
theorem dX5_undo_0 : decode cX5_undo 0 = .ok (.aload_n 0, 1) := by decide +kernel
theorem dX5_undo_1 : decode cX5_undo 1 = .ok (.iconst 0, 1) := by decide +kernel
theorem dX5_undo_2 : decode cX5_undo 2 = .ok (.putfield 28, 3) := by decide +kernel
theorem dX5_undo_5 : decode cX5_undo 5 = .ok (.aload_n 0, 1) := by decide +kernel
theorem dX5_undo_6 : decode cX5_undo 6 = .ok (.getfield 32, 3) := by decide +kernel
theorem dX5_undo_9 : decode cX5_undo 9 = .ok (.ifCond .ne 9, 3) := by decide +kernel
theorem dX5_undo_12 : decode cX5_undo 12 = .ok (.aload_n 0, 1) := by decide +kernel
theorem dX5_undo_13 : decode cX5_undo 13 = .ok (.iconst 1, 1) := by decide +kernel
theorem dX5_undo_14 : decode cX5_undo 14 = .ok (.invokevirtual 64, 3) := by decide +kernel
theorem dX5_undo_17 : decode cX5_undo 17 = .ok (.ireturn, 1) := by decide +kernel
theorem dX5_undo_18 : decode cX5_undo 18 = .ok (.aload_n 0, 1) := by decide +kernel
theorem dX5_undo_19 : decode cX5_undo 19 = .ok (.dup, 1) := by decide +kernel
theorem dX5_undo_20 : decode cX5_undo 20 = .ok (.getfield 32, 3) := by decide +kernel
theorem dX5_undo_23 : decode cX5_undo 23 = .ok (.iconst 1, 1) := by decide +kernel
theorem dX5_undo_24 : decode cX5_undo 24 = .ok (.isub, 1) := by decide +kernel
theorem dX5_undo_25 : decode cX5_undo 25 = .ok (.putfield 32, 3) := by decide +kernel
theorem dX5_undo_28 : decode cX5_undo 28 = .ok (.iconst 0, 1) := by decide +kernel
theorem dX5_undo_29 : decode cX5_undo 29 = .ok (.istore_n 1, 1) := by decide +kernel
theorem dX5_undo_30 : decode cX5_undo 30 = .ok (.iload_n 1, 1) := by decide +kernel
theorem dX5_undo_31 : decode cX5_undo 31 = .ok (.sipush 431, 3) := by decide +kernel
theorem dX5_undo_34 : decode cX5_undo 34 = .ok (.if_icmp .ge 30, 3) := by decide +kernel
theorem dX5_undo_37 : decode cX5_undo 37 = .ok (.aload_n 0, 1) := by decide +kernel
theorem dX5_undo_38 : decode cX5_undo 38 = .ok (.getfield 7, 3) := by decide +kernel
theorem dX5_undo_41 : decode cX5_undo 41 = .ok (.iload_n 1, 1) := by decide +kernel
theorem dX5_undo_42 : decode cX5_undo 42 = .ok (.aload_n 0, 1) := by decide +kernel
theorem dX5_undo_43 : decode cX5_undo 43 = .ok (.getfield 13, 3) := by decide +kernel
theorem dX5_undo_46 : decode cX5_undo 46 = .ok (.sipush 431, 3) := by decide +kernel
theorem dX5_undo_49 : decode cX5_undo 49 = .ok (.aload_n 0, 1) := by decide +kernel
theorem dX5_undo_50 : decode cX5_undo 50 = .ok (.getfield 32, 3) := by decide +kernel
theorem dX5_undo_53 : decode cX5_undo 53 = .ok (.imul, 1) := by decide +kernel
theorem dX5_undo_54 : decode cX5_undo 54 = .ok (.iload_n 1, 1) := by decide +kernel
theorem dX5_undo_55 : decode cX5_undo 55 = .ok (.iadd, 1) := by decide +kernel
theorem dX5_undo_56 : decode cX5_undo 56 = .ok (.iaload, 1) := by decide +kernel
theorem dX5_undo_57 : decode cX5_undo 57 = .ok (.iastore, 1) := by decide +kernel
theorem dX5_undo_58 : decode cX5_undo 58 = .ok (.iinc 1 1, 3) := by decide +kernel
theorem dX5_undo_61 : decode cX5_undo 61 = .ok (.goto (-31), 3) := by decide +kernel
theorem dX5_undo_64 : decode cX5_undo 64 = .ok (.aload_n 0, 1) := by decide +kernel
theorem dX5_undo_65 : decode cX5_undo 65 = .ok (.getfield 32, 3) := by decide +kernel
theorem dX5_undo_68 : decode cX5_undo 68 = .ok (.ireturn, 1) := by decide +kernel
set_option maxRecDepth 20000 in
theorem ggX5_debts_X5_debtAt : GoodIn wsX5_debts wsX5_debtAt := goodIn_r _ [5] (by decide +kernel) (by decide +kernel)
set_option maxRecDepth 20000 in
theorem gX5_debts_X5_debtAt : GoodIn wsX5_debts (va_wsS RX5 80 yX5_debtAt wsX5_debtAt) := goodIn_app (goodIn_of _ (by decide +kernel)) ggX5_debts_X5_debtAt
theorem dX5_debts_0 : decode cX5_debts 0 = .ok (.iconst 0, 1) := by decide +kernel
theorem dX5_debts_1 : decode cX5_debts 1 = .ok (.istore_n 3, 1) := by decide +kernel
theorem dX5_debts_2 : decode cX5_debts 2 = .ok (.iconst 0, 1) := by decide +kernel
theorem dX5_debts_3 : decode cX5_debts 3 = .ok (.istore 4, 2) := by decide +kernel
theorem dX5_debts_5 : decode cX5_debts 5 = .ok (.iload 4, 2) := by decide +kernel
theorem dX5_debts_7 : decode cX5_debts 7 = .ok (.bipush 8, 2) := by decide +kernel
theorem dX5_debts_9 : decode cX5_debts 9 = .ok (.if_icmp .ge 41, 3) := by decide +kernel
theorem dX5_debts_12 : decode cX5_debts 12 = .ok (.iload_n 3, 1) := by decide +kernel
theorem dX5_debts_13 : decode cX5_debts 13 = .ok (.iload_n 2, 1) := by decide +kernel
theorem dX5_debts_14 : decode cX5_debts 14 = .ok (.ifCond .eq 17, 3) := by decide +kernel
theorem dX5_debts_17 : decode cX5_debts 17 = .ok (.aload_n 0, 1) := by decide +kernel
theorem dX5_debts_18 : decode cX5_debts 18 = .ok (.getfield 7, 3) := by decide +kernel
theorem dX5_debts_21 : decode cX5_debts 21 = .ok (.iload_n 1, 1) := by decide +kernel
theorem dX5_debts_22 : decode cX5_debts 22 = .ok (.iload 4, 2) := by decide +kernel
theorem dX5_debts_24 : decode cX5_debts 24 = .ok (.invokestatic 80, 3) := by decide +kernel
theorem dX5_debts_27 : decode cX5_debts 27 = .ok (.iaload, 1) := by decide +kernel
theorem dX5_debts_28 : decode cX5_debts 28 = .ok (.goto 14, 3) := by decide +kernel
theorem dX5_debts_31 : decode cX5_debts 31 = .ok (.aload_n 0, 1) := by decide +kernel
theorem dX5_debts_32 : decode cX5_debts 32 = .ok (.getfield 7, 3) := by decide +kernel
theorem dX5_debts_35 : decode cX5_debts 35 = .ok (.iload 4, 2) := by decide +kernel
theorem dX5_debts_37 : decode cX5_debts 37 = .ok (.iload_n 1, 1) := by decide +kernel
theorem dX5_debts_38 : decode cX5_debts 38 = .ok (.invokestatic 80, 3) := by decide +kernel
theorem dX5_debts_41 : decode cX5_debts 41 = .ok (.iaload, 1) := by decide +kernel
theorem dX5_debts_42 : decode cX5_debts 42 = .ok (.iadd, 1) := by decide +kernel
theorem dX5_debts_43 : decode cX5_debts 43 = .ok (.istore_n 3, 1) := by decide +kernel
theorem dX5_debts_44 : decode cX5_debts 44 = .ok (.iinc 4 1, 3) := by decide +kernel
theorem dX5_debts_47 : decode cX5_debts 47 = .ok (.goto (-42), 3) := by decide +kernel
theorem dX5_debts_50 : decode cX5_debts 50 = .ok (.iload_n 3, 1) := by decide +kernel
theorem dX5_debts_51 : decode cX5_debts 51 = .ok (.ireturn, 1) := by decide +kernel
theorem dX5_chainOf_0 : decode cX5_chainOf 0 = .ok (.iconst 0, 1) := by decide +kernel
theorem dX5_chainOf_1 : decode cX5_chainOf 1 = .ok (.istore_n 2, 1) := by decide +kernel
theorem dX5_chainOf_2 : decode cX5_chainOf 2 = .ok (.aload_n 0, 1) := by decide +kernel
theorem dX5_chainOf_3 : decode cX5_chainOf 3 = .ok (.getfield 7, 3) := by decide +kernel
theorem dX5_chainOf_6 : decode cX5_chainOf 6 = .ok (.bipush 17, 2) := by decide +kernel
theorem dX5_chainOf_8 : decode cX5_chainOf 8 = .ok (.iload_n 1, 1) := by decide +kernel
theorem dX5_chainOf_9 : decode cX5_chainOf 9 = .ok (.iadd, 1) := by decide +kernel
theorem dX5_chainOf_10 : decode cX5_chainOf 10 = .ok (.iaload, 1) := by decide +kernel
theorem dX5_chainOf_11 : decode cX5_chainOf 11 = .ok (.istore_n 3, 1) := by decide +kernel
theorem dX5_chainOf_12 : decode cX5_chainOf 12 = .ok (.iload_n 3, 1) := by decide +kernel
theorem dX5_chainOf_13 : decode cX5_chainOf 13 = .ok (.iconst (-1), 1) := by decide +kernel
theorem dX5_chainOf_14 : decode cX5_chainOf 14 = .ok (.if_icmp .eq 19, 3) := by decide +kernel
theorem dX5_chainOf_17 : decode cX5_chainOf 17 = .ok (.iinc 2 1, 3) := by decide +kernel
theorem dX5_chainOf_20 : decode cX5_chainOf 20 = .ok (.aload_n 0, 1) := by decide +kernel
theorem dX5_chainOf_21 : decode cX5_chainOf 21 = .ok (.getfield 7, 3) := by decide +kernel
theorem dX5_chainOf_24 : decode cX5_chainOf 24 = .ok (.bipush 17, 2) := by decide +kernel
theorem dX5_chainOf_26 : decode cX5_chainOf 26 = .ok (.iload_n 3, 1) := by decide +kernel
theorem dX5_chainOf_27 : decode cX5_chainOf 27 = .ok (.iadd, 1) := by decide +kernel
theorem dX5_chainOf_28 : decode cX5_chainOf 28 = .ok (.iaload, 1) := by decide +kernel
theorem dX5_chainOf_29 : decode cX5_chainOf 29 = .ok (.istore_n 3, 1) := by decide +kernel
theorem dX5_chainOf_30 : decode cX5_chainOf 30 = .ok (.goto (-18), 3) := by decide +kernel
theorem dX5_chainOf_33 : decode cX5_chainOf 33 = .ok (.iload_n 2, 1) := by decide +kernel
theorem dX5_chainOf_34 : decode cX5_chainOf 34 = .ok (.ireturn, 1) := by decide +kernel
set_option maxRecDepth 20000 in
theorem ggX5_bondsOf_X5_runs : GoodIn wsX5_bondsOf wsX5_runs := goodIn_r _ [6, 1, 7, 8, 5, 9, 10, 11, 12, 13, 14, 15, 16, 17, 18, 19, 20, 21, 22, 23] (by decide +kernel) (by decide +kernel)
set_option maxRecDepth 20000 in
theorem gX5_bondsOf_X5_runs : GoodIn wsX5_bondsOf (wsV RX5 116 RX5 yX5_runs wsX5_runs) := goodIn_app (goodIn_of _ (by decide +kernel)) ggX5_bondsOf_X5_runs
set_option maxRecDepth 20000 in
theorem ggX5_bondsOf_X5_at : GoodIn wsX5_bondsOf wsX5_at := goodIn_r _ [9] (by decide +kernel) (by decide +kernel)
set_option maxRecDepth 20000 in
theorem gX5_bondsOf_X5_at : GoodIn wsX5_bondsOf (va_wsS RX5 40 yX5_at wsX5_at) := goodIn_app (goodIn_of _ (by decide +kernel)) ggX5_bondsOf_X5_at
theorem dX5_bondsOf_0 : decode cX5_bondsOf 0 = .ok (.iconst 0, 1) := by decide +kernel
theorem dX5_bondsOf_1 : decode cX5_bondsOf 1 = .ok (.istore_n 2, 1) := by decide +kernel
theorem dX5_bondsOf_2 : decode cX5_bondsOf 2 = .ok (.iconst 0, 1) := by decide +kernel
theorem dX5_bondsOf_3 : decode cX5_bondsOf 3 = .ok (.istore_n 3, 1) := by decide +kernel
theorem dX5_bondsOf_4 : decode cX5_bondsOf 4 = .ok (.iload_n 3, 1) := by decide +kernel
theorem dX5_bondsOf_5 : decode cX5_bondsOf 5 = .ok (.aload_n 0, 1) := by decide +kernel
theorem dX5_bondsOf_6 : decode cX5_bondsOf 6 = .ok (.getfield 7, 3) := by decide +kernel
theorem dX5_bondsOf_9 : decode cX5_bondsOf 9 = .ok (.iconst 0, 1) := by decide +kernel
theorem dX5_bondsOf_10 : decode cX5_bondsOf 10 = .ok (.iaload, 1) := by decide +kernel
theorem dX5_bondsOf_11 : decode cX5_bondsOf 11 = .ok (.if_icmp .ge 38, 3) := by decide +kernel
theorem dX5_bondsOf_14 : decode cX5_bondsOf 14 = .ok (.iload_n 2, 1) := by decide +kernel
theorem dX5_bondsOf_15 : decode cX5_bondsOf 15 = .ok (.aload_n 0, 1) := by decide +kernel
theorem dX5_bondsOf_16 : decode cX5_bondsOf 16 = .ok (.iload_n 3, 1) := by decide +kernel
theorem dX5_bondsOf_17 : decode cX5_bondsOf 17 = .ok (.invokevirtual 116, 3) := by decide +kernel
theorem dX5_bondsOf_20 : decode cX5_bondsOf 20 = .ok (.ifCond .eq 20, 3) := by decide +kernel
theorem dX5_bondsOf_23 : decode cX5_bondsOf 23 = .ok (.aload_n 0, 1) := by decide +kernel
theorem dX5_bondsOf_24 : decode cX5_bondsOf 24 = .ok (.getfield 7, 3) := by decide +kernel
theorem dX5_bondsOf_27 : decode cX5_bondsOf 27 = .ok (.iload_n 3, 1) := by decide +kernel
theorem dX5_bondsOf_28 : decode cX5_bondsOf 28 = .ok (.invokestatic 40, 3) := by decide +kernel
theorem dX5_bondsOf_31 : decode cX5_bondsOf 31 = .ok (.iaload, 1) := by decide +kernel
theorem dX5_bondsOf_32 : decode cX5_bondsOf 32 = .ok (.iload_n 1, 1) := by decide +kernel
theorem dX5_bondsOf_33 : decode cX5_bondsOf 33 = .ok (.if_icmp .ne 7, 3) := by decide +kernel
theorem dX5_bondsOf_36 : decode cX5_bondsOf 36 = .ok (.iconst 1, 1) := by decide +kernel
theorem dX5_bondsOf_37 : decode cX5_bondsOf 37 = .ok (.goto 4, 3) := by decide +kernel
theorem dX5_bondsOf_40 : decode cX5_bondsOf 40 = .ok (.iconst 0, 1) := by decide +kernel
theorem dX5_bondsOf_41 : decode cX5_bondsOf 41 = .ok (.iadd, 1) := by decide +kernel
theorem dX5_bondsOf_42 : decode cX5_bondsOf 42 = .ok (.istore_n 2, 1) := by decide +kernel
theorem dX5_bondsOf_43 : decode cX5_bondsOf 43 = .ok (.iinc 3 1, 3) := by decide +kernel
theorem dX5_bondsOf_46 : decode cX5_bondsOf 46 = .ok (.goto (-42), 3) := by decide +kernel
theorem dX5_bondsOf_49 : decode cX5_bondsOf 49 = .ok (.iload_n 2, 1) := by decide +kernel
theorem dX5_bondsOf_50 : decode cX5_bondsOf 50 = .ok (.ireturn, 1) := by decide +kernel
set_option maxRecDepth 20000 in
theorem ggX5_personOf_X5_debts : GoodIn wsX5_personOf wsX5_debts := goodIn_r _ [6, 1, 7, 8, 5, 9, 32, 33, 34, 35, 36, 37, 38, 39, 40, 41, 42, 43, 44, 45] (by decide +kernel) (by decide +kernel)
set_option maxRecDepth 20000 in
theorem gX5_personOf_X5_debts : GoodIn wsX5_personOf (wsV RX5 165 RX5 yX5_debts wsX5_debts) := goodIn_app (goodIn_of _ (by decide +kernel)) ggX5_personOf_X5_debts
set_option maxRecDepth 20000 in
theorem ggX5_personOf_X5_bound : GoodIn wsX5_personOf wsX5_bound := goodIn_r _ [13, 1, 14, 15, 5, 16, 17, 18, 19, 32, 33, 34, 35, 36, 37, 38, 39, 40, 41, 42, 43, 44, 45] (by decide +kernel) (by decide +kernel)
set_option maxRecDepth 20000 in
theorem gX5_personOf_X5_bound : GoodIn wsX5_personOf (wsV RX5 57 RX5 yX5_bound wsX5_bound) := goodIn_app (goodIn_of _ (by decide +kernel)) ggX5_personOf_X5_bound
set_option maxRecDepth 20000 in
theorem ggX5_personOf_X5_chainOf : GoodIn wsX5_personOf wsX5_chainOf := goodIn_r _ [23, 1, 32, 33, 34, 35, 36, 37, 38, 39, 40, 41, 42, 43, 44, 45] (by decide +kernel) (by decide +kernel)
set_option maxRecDepth 20000 in
theorem gX5_personOf_X5_chainOf : GoodIn wsX5_personOf (wsV RX5 169 RX5 yX5_chainOf wsX5_chainOf) := goodIn_app (goodIn_of _ (by decide +kernel)) ggX5_personOf_X5_chainOf
set_option maxRecDepth 20000 in
theorem ggX5_personOf_X5_bondsOf : GoodIn wsX5_personOf wsX5_bondsOf := goodIn_r _ [27, 1, 28, 29, 30, 5, 31, 14, 15, 16, 32, 33, 34, 35, 36, 37, 38, 39, 40, 41, 42, 43, 44, 45] (by decide +kernel) (by decide +kernel)
set_option maxRecDepth 20000 in
theorem gX5_personOf_X5_bondsOf : GoodIn wsX5_personOf (wsV RX5 172 RX5 yX5_bondsOf wsX5_bondsOf) := goodIn_app (goodIn_of _ (by decide +kernel)) ggX5_personOf_X5_bondsOf
theorem dX5_personOf_0 : decode cX5_personOf 0 = .ok (.iload_n 2, 1) := by decide +kernel
theorem dX5_personOf_1 : decode cX5_personOf 1 = .ok (.tableswitch 131 0 9 #[55, 65, 65, 81, 87, 97, 107, 113, 113, 113], 55) := by decide +kernel
theorem dX5_personOf_56 : decode cX5_personOf 56 = .ok (.aload_n 0, 1) := by decide +kernel
theorem dX5_personOf_57 : decode cX5_personOf 57 = .ok (.getfield 7, 3) := by decide +kernel
theorem dX5_personOf_60 : decode cX5_personOf 60 = .ok (.bipush 9, 2) := by decide +kernel
theorem dX5_personOf_62 : decode cX5_personOf 62 = .ok (.iload_n 1, 1) := by decide +kernel
theorem dX5_personOf_63 : decode cX5_personOf 63 = .ok (.iadd, 1) := by decide +kernel
theorem dX5_personOf_64 : decode cX5_personOf 64 = .ok (.iaload, 1) := by decide +kernel
theorem dX5_personOf_65 : decode cX5_personOf 65 = .ok (.ireturn, 1) := by decide +kernel
theorem dX5_personOf_66 : decode cX5_personOf 66 = .ok (.aload_n 0, 1) := by decide +kernel
theorem dX5_personOf_67 : decode cX5_personOf 67 = .ok (.iload_n 1, 1) := by decide +kernel
theorem dX5_personOf_68 : decode cX5_personOf 68 = .ok (.iload_n 2, 1) := by decide +kernel
theorem dX5_personOf_69 : decode cX5_personOf 69 = .ok (.iconst 1, 1) := by decide +kernel
theorem dX5_personOf_70 : decode cX5_personOf 70 = .ok (.if_icmp .ne 7, 3) := by decide +kernel
theorem dX5_personOf_73 : decode cX5_personOf 73 = .ok (.iconst 1, 1) := by decide +kernel
theorem dX5_personOf_74 : decode cX5_personOf 74 = .ok (.goto 4, 3) := by decide +kernel
theorem dX5_personOf_77 : decode cX5_personOf 77 = .ok (.iconst 0, 1) := by decide +kernel
theorem dX5_personOf_78 : decode cX5_personOf 78 = .ok (.invokevirtual 165, 3) := by decide +kernel
theorem dX5_personOf_81 : decode cX5_personOf 81 = .ok (.ireturn, 1) := by decide +kernel
theorem dX5_personOf_82 : decode cX5_personOf 82 = .ok (.aload_n 0, 1) := by decide +kernel
theorem dX5_personOf_83 : decode cX5_personOf 83 = .ok (.iload_n 1, 1) := by decide +kernel
theorem dX5_personOf_84 : decode cX5_personOf 84 = .ok (.invokevirtual 57, 3) := by decide +kernel
theorem dX5_personOf_87 : decode cX5_personOf 87 = .ok (.ireturn, 1) := by decide +kernel
theorem dX5_personOf_88 : decode cX5_personOf 88 = .ok (.aload_n 0, 1) := by decide +kernel
theorem dX5_personOf_89 : decode cX5_personOf 89 = .ok (.getfield 7, 3) := by decide +kernel
theorem dX5_personOf_92 : decode cX5_personOf 92 = .ok (.bipush 17, 2) := by decide +kernel
theorem dX5_personOf_94 : decode cX5_personOf 94 = .ok (.iload_n 1, 1) := by decide +kernel
theorem dX5_personOf_95 : decode cX5_personOf 95 = .ok (.iadd, 1) := by decide +kernel
theorem dX5_personOf_96 : decode cX5_personOf 96 = .ok (.iaload, 1) := by decide +kernel
theorem dX5_personOf_97 : decode cX5_personOf 97 = .ok (.ireturn, 1) := by decide +kernel
theorem dX5_personOf_98 : decode cX5_personOf 98 = .ok (.aload_n 0, 1) := by decide +kernel
theorem dX5_personOf_99 : decode cX5_personOf 99 = .ok (.getfield 7, 3) := by decide +kernel
theorem dX5_personOf_102 : decode cX5_personOf 102 = .ok (.bipush 25, 2) := by decide +kernel
theorem dX5_personOf_104 : decode cX5_personOf 104 = .ok (.iload_n 1, 1) := by decide +kernel
theorem dX5_personOf_105 : decode cX5_personOf 105 = .ok (.iadd, 1) := by decide +kernel
theorem dX5_personOf_106 : decode cX5_personOf 106 = .ok (.iaload, 1) := by decide +kernel
theorem dX5_personOf_107 : decode cX5_personOf 107 = .ok (.ireturn, 1) := by decide +kernel
theorem dX5_personOf_108 : decode cX5_personOf 108 = .ok (.aload_n 0, 1) := by decide +kernel
theorem dX5_personOf_109 : decode cX5_personOf 109 = .ok (.iload_n 1, 1) := by decide +kernel
theorem dX5_personOf_110 : decode cX5_personOf 110 = .ok (.invokevirtual 169, 3) := by decide +kernel
theorem dX5_personOf_113 : decode cX5_personOf 113 = .ok (.ireturn, 1) := by decide +kernel
theorem dX5_personOf_114 : decode cX5_personOf 114 = .ok (.aload_n 0, 1) := by decide +kernel
theorem dX5_personOf_115 : decode cX5_personOf 115 = .ok (.getfield 7, 3) := by decide +kernel
theorem dX5_personOf_118 : decode cX5_personOf 118 = .ok (.bipush 33, 2) := by decide +kernel
theorem dX5_personOf_120 : decode cX5_personOf 120 = .ok (.bipush 8, 2) := by decide +kernel
theorem dX5_personOf_122 : decode cX5_personOf 122 = .ok (.iload_n 2, 1) := by decide +kernel
theorem dX5_personOf_123 : decode cX5_personOf 123 = .ok (.bipush 7, 2) := by decide +kernel
theorem dX5_personOf_125 : decode cX5_personOf 125 = .ok (.isub, 1) := by decide +kernel
theorem dX5_personOf_126 : decode cX5_personOf 126 = .ok (.imul, 1) := by decide +kernel
theorem dX5_personOf_127 : decode cX5_personOf 127 = .ok (.iadd, 1) := by decide +kernel
theorem dX5_personOf_128 : decode cX5_personOf 128 = .ok (.iload_n 1, 1) := by decide +kernel
theorem dX5_personOf_129 : decode cX5_personOf 129 = .ok (.iadd, 1) := by decide +kernel
theorem dX5_personOf_130 : decode cX5_personOf 130 = .ok (.iaload, 1) := by decide +kernel
theorem dX5_personOf_131 : decode cX5_personOf 131 = .ok (.ireturn, 1) := by decide +kernel
theorem dX5_personOf_132 : decode cX5_personOf 132 = .ok (.aload_n 0, 1) := by decide +kernel
theorem dX5_personOf_133 : decode cX5_personOf 133 = .ok (.iload_n 1, 1) := by decide +kernel
theorem dX5_personOf_134 : decode cX5_personOf 134 = .ok (.invokevirtual 172, 3) := by decide +kernel
theorem dX5_personOf_137 : decode cX5_personOf 137 = .ok (.ireturn, 1) := by decide +kernel
set_option maxRecDepth 20000 in
theorem ggX5_person_X5_isPerson : GoodIn wsX5_person wsX5_isPerson := goodIn_r _ [5, 6, 7, 4, 8] (by decide +kernel) (by decide +kernel)
set_option maxRecDepth 20000 in
theorem gX5_person_X5_isPerson : GoodIn wsX5_person (va_wsS RX5 60 yX5_isPerson wsX5_isPerson) := goodIn_app (goodIn_of _ (by decide +kernel)) ggX5_person_X5_isPerson
set_option maxRecDepth 20000 in
theorem ggX5_person_X5_fails : GoodIn wsX5_person wsX5_fails := goodIn_r _ [12, 1, 47, 48, 49, 50, 51, 52, 53, 54, 55, 56, 57, 58, 59, 60] (by decide +kernel) (by decide +kernel)
set_option maxRecDepth 20000 in
theorem gX5_person_X5_fails : GoodIn wsX5_person (wsV RX5 64 RX5 yX5_fails wsX5_fails) := goodIn_app (goodIn_of _ (by decide +kernel)) ggX5_person_X5_fails
set_option maxRecDepth 20000 in
theorem ggX5_person_X5_in : GoodIn wsX5_person wsX5_in := goodIn_r _ [8] (by decide +kernel) (by decide +kernel)
set_option maxRecDepth 20000 in
theorem gX5_person_X5_in : GoodIn wsX5_person (va_wsS RX5 35 yX5_in wsX5_in) := goodIn_app (goodIn_of _ (by decide +kernel)) ggX5_person_X5_in
set_option maxRecDepth 20000 in
theorem ggX5_person_X5_personOf : GoodIn wsX5_person wsX5_personOf := goodIn_r _ [16, 17, 18, 19, 20, 4, 21, 22, 23, 24, 25, 26, 27, 28, 29, 30, 31, 32, 33, 34, 35, 36, 37, 38, 39, 40, 41, 42, 43, 44, 45, 46, 47, 48, 49, 50, 51, 52, 53, 54, 55, 56, 57, 58, 59, 60] (by decide +kernel) (by decide +kernel)
set_option maxRecDepth 20000 in
theorem gX5_person_X5_personOf : GoodIn wsX5_person (wsV RX5 175 RX5 yX5_personOf wsX5_personOf) := goodIn_app (goodIn_of _ (by decide +kernel)) ggX5_person_X5_personOf
theorem dX5_person_0 : decode cX5_person 0 = .ok (.aload_n 0, 1) := by decide +kernel
theorem dX5_person_1 : decode cX5_person 1 = .ok (.iconst 0, 1) := by decide +kernel
theorem dX5_person_2 : decode cX5_person 2 = .ok (.putfield 28, 3) := by decide +kernel
theorem dX5_person_5 : decode cX5_person 5 = .ok (.iload_n 1, 1) := by decide +kernel
theorem dX5_person_6 : decode cX5_person 6 = .ok (.invokestatic 60, 3) := by decide +kernel
theorem dX5_person_9 : decode cX5_person 9 = .ok (.ifCond .ne 9, 3) := by decide +kernel
theorem dX5_person_12 : decode cX5_person 12 = .ok (.aload_n 0, 1) := by decide +kernel
theorem dX5_person_13 : decode cX5_person 13 = .ok (.iconst 1, 1) := by decide +kernel
theorem dX5_person_14 : decode cX5_person 14 = .ok (.invokevirtual 64, 3) := by decide +kernel
theorem dX5_person_17 : decode cX5_person 17 = .ok (.ireturn, 1) := by decide +kernel
theorem dX5_person_18 : decode cX5_person 18 = .ok (.iload_n 2, 1) := by decide +kernel
theorem dX5_person_19 : decode cX5_person 19 = .ok (.iconst 0, 1) := by decide +kernel
theorem dX5_person_20 : decode cX5_person 20 = .ok (.bipush 10, 2) := by decide +kernel
theorem dX5_person_22 : decode cX5_person 22 = .ok (.invokestatic 35, 3) := by decide +kernel
theorem dX5_person_25 : decode cX5_person 25 = .ok (.ifCond .eq 12, 3) := by decide +kernel
theorem dX5_person_28 : decode cX5_person 28 = .ok (.aload_n 0, 1) := by decide +kernel
theorem dX5_person_29 : decode cX5_person 29 = .ok (.iload_n 1, 1) := by decide +kernel
theorem dX5_person_30 : decode cX5_person 30 = .ok (.iload_n 2, 1) := by decide +kernel
theorem dX5_person_31 : decode cX5_person 31 = .ok (.invokevirtual 175, 3) := by decide +kernel
theorem dX5_person_34 : decode cX5_person 34 = .ok (.goto 8, 3) := by decide +kernel
theorem dX5_person_37 : decode cX5_person 37 = .ok (.aload_n 0, 1) := by decide +kernel
theorem dX5_person_38 : decode cX5_person 38 = .ok (.iconst 2, 1) := by decide +kernel
theorem dX5_person_39 : decode cX5_person 39 = .ok (.invokevirtual 64, 3) := by decide +kernel
theorem dX5_person_42 : decode cX5_person 42 = .ok (.ireturn, 1) := by decide +kernel
set_option maxRecDepth 20000 in
theorem ggX5_bondOf_X5_at : GoodIn wsX5_bondOf wsX5_at := goodIn_r _ [5] (by decide +kernel) (by decide +kernel)
set_option maxRecDepth 20000 in
theorem gX5_bondOf_X5_at : GoodIn wsX5_bondOf (va_wsS RX5 40 yX5_at wsX5_at) := goodIn_app (goodIn_of _ (by decide +kernel)) ggX5_bondOf_X5_at
set_option maxRecDepth 20000 in
theorem ggX5_bondOf_X5_leftOf : GoodIn wsX5_bondOf wsX5_leftOf := goodIn_r _ [9, 1, 2, 3, 4, 5, 17, 18, 19, 20, 21, 22, 23, 24, 25, 26, 27, 28, 29, 30] (by decide +kernel) (by decide +kernel)
set_option maxRecDepth 20000 in
theorem gX5_bondOf_X5_leftOf : GoodIn wsX5_bondOf (wsV RX5 51 RX5 yX5_leftOf wsX5_leftOf) := goodIn_app (goodIn_of _ (by decide +kernel)) ggX5_bondOf_X5_leftOf
set_option maxRecDepth 20000 in
theorem ggX5_bondOf_X5_limitsOf : GoodIn wsX5_bondOf wsX5_limitsOf := goodIn_r _ [13, 1, 2, 3, 4, 5, 14, 15, 16, 17, 18, 19, 20, 21, 22, 23, 24, 25, 26, 27, 28, 29, 30] (by decide +kernel) (by decide +kernel)
set_option maxRecDepth 20000 in
theorem gX5_bondOf_X5_limitsOf : GoodIn wsX5_bondOf (wsV RX5 48 RX5 yX5_limitsOf wsX5_limitsOf) := goodIn_app (goodIn_of _ (by decide +kernel)) ggX5_bondOf_X5_limitsOf
theorem dX5_bondOf_0 : decode cX5_bondOf 0 = .ok (.iload_n 2, 1) := by decide +kernel
theorem dX5_bondOf_1 : decode cX5_bondOf 1 = .ok (.bipush 9, 2) := by decide +kernel
theorem dX5_bondOf_3 : decode cX5_bondOf 3 = .ok (.if_icmp .ge 15, 3) := by decide +kernel
theorem dX5_bondOf_6 : decode cX5_bondOf 6 = .ok (.aload_n 0, 1) := by decide +kernel
theorem dX5_bondOf_7 : decode cX5_bondOf 7 = .ok (.getfield 7, 3) := by decide +kernel
theorem dX5_bondOf_10 : decode cX5_bondOf 10 = .ok (.iload_n 1, 1) := by decide +kernel
theorem dX5_bondOf_11 : decode cX5_bondOf 11 = .ok (.invokestatic 40, 3) := by decide +kernel
theorem dX5_bondOf_14 : decode cX5_bondOf 14 = .ok (.iload_n 2, 1) := by decide +kernel
theorem dX5_bondOf_15 : decode cX5_bondOf 15 = .ok (.iadd, 1) := by decide +kernel
theorem dX5_bondOf_16 : decode cX5_bondOf 16 = .ok (.iaload, 1) := by decide +kernel
theorem dX5_bondOf_17 : decode cX5_bondOf 17 = .ok (.ireturn, 1) := by decide +kernel
theorem dX5_bondOf_18 : decode cX5_bondOf 18 = .ok (.iload_n 2, 1) := by decide +kernel
theorem dX5_bondOf_19 : decode cX5_bondOf 19 = .ok (.bipush 9, 2) := by decide +kernel
theorem dX5_bondOf_21 : decode cX5_bondOf 21 = .ok (.if_icmp .ne 11, 3) := by decide +kernel
theorem dX5_bondOf_24 : decode cX5_bondOf 24 = .ok (.aload_n 0, 1) := by decide +kernel
theorem dX5_bondOf_25 : decode cX5_bondOf 25 = .ok (.iload_n 1, 1) := by decide +kernel
theorem dX5_bondOf_26 : decode cX5_bondOf 26 = .ok (.invokevirtual 51, 3) := by decide +kernel
theorem dX5_bondOf_29 : decode cX5_bondOf 29 = .ok (.goto 29, 3) := by decide +kernel
theorem dX5_bondOf_32 : decode cX5_bondOf 32 = .ok (.iload_n 2, 1) := by decide +kernel
theorem dX5_bondOf_33 : decode cX5_bondOf 33 = .ok (.bipush 10, 2) := by decide +kernel
theorem dX5_bondOf_35 : decode cX5_bondOf 35 = .ok (.if_icmp .ne 11, 3) := by decide +kernel
theorem dX5_bondOf_38 : decode cX5_bondOf 38 = .ok (.aload_n 0, 1) := by decide +kernel
theorem dX5_bondOf_39 : decode cX5_bondOf 39 = .ok (.iload_n 1, 1) := by decide +kernel
theorem dX5_bondOf_40 : decode cX5_bondOf 40 = .ok (.invokevirtual 48, 3) := by decide +kernel
theorem dX5_bondOf_43 : decode cX5_bondOf 43 = .ok (.goto 15, 3) := by decide +kernel
theorem dX5_bondOf_46 : decode cX5_bondOf 46 = .ok (.aload_n 0, 1) := by decide +kernel
theorem dX5_bondOf_47 : decode cX5_bondOf 47 = .ok (.getfield 7, 3) := by decide +kernel
theorem dX5_bondOf_50 : decode cX5_bondOf 50 = .ok (.iload_n 1, 1) := by decide +kernel
theorem dX5_bondOf_51 : decode cX5_bondOf 51 = .ok (.invokestatic 40, 3) := by decide +kernel
theorem dX5_bondOf_54 : decode cX5_bondOf 54 = .ok (.bipush 9, 2) := by decide +kernel
theorem dX5_bondOf_56 : decode cX5_bondOf 56 = .ok (.iadd, 1) := by decide +kernel
theorem dX5_bondOf_57 : decode cX5_bondOf 57 = .ok (.iaload, 1) := by decide +kernel
theorem dX5_bondOf_58 : decode cX5_bondOf 58 = .ok (.ireturn, 1) := by decide +kernel
set_option maxRecDepth 20000 in
theorem ggX5_bond_X5_isBond : GoodIn wsX5_bond wsX5_isBond := goodIn_r _ [6, 7, 8, 9, 5, 10, 33, 34, 35, 36, 37, 38, 39, 40, 41, 42, 43, 44, 45, 46] (by decide +kernel) (by decide +kernel)
set_option maxRecDepth 20000 in
theorem gX5_bond_X5_isBond : GoodIn wsX5_bond (wsV RX5 113 RX5 yX5_isBond wsX5_isBond) := goodIn_app (goodIn_of _ (by decide +kernel)) ggX5_bond_X5_isBond
set_option maxRecDepth 20000 in
theorem ggX5_bond_X5_fails : GoodIn wsX5_bond wsX5_fails := goodIn_r _ [14, 1, 33, 34, 35, 36, 37, 38, 39, 40, 41, 42, 43, 44, 45, 46] (by decide +kernel) (by decide +kernel)
set_option maxRecDepth 20000 in
theorem gX5_bond_X5_fails : GoodIn wsX5_bond (wsV RX5 64 RX5 yX5_fails wsX5_fails) := goodIn_app (goodIn_of _ (by decide +kernel)) ggX5_bond_X5_fails
set_option maxRecDepth 20000 in
theorem ggX5_bond_X5_in : GoodIn wsX5_bond wsX5_in := goodIn_r _ [10] (by decide +kernel) (by decide +kernel)
set_option maxRecDepth 20000 in
theorem gX5_bond_X5_in : GoodIn wsX5_bond (va_wsS RX5 35 yX5_in wsX5_in) := goodIn_app (goodIn_of _ (by decide +kernel)) ggX5_bond_X5_in
set_option maxRecDepth 20000 in
theorem ggX5_bond_X5_bondOf : GoodIn wsX5_bond wsX5_bondOf := goodIn_r _ [18, 7, 19, 20, 5, 21, 22, 23, 24, 25, 26, 27, 28, 29, 30, 31, 32, 33, 34, 35, 36, 37, 38, 39, 40, 41, 42, 43, 44, 45, 46] (by decide +kernel) (by decide +kernel)
set_option maxRecDepth 20000 in
theorem gX5_bond_X5_bondOf : GoodIn wsX5_bond (wsV RX5 178 RX5 yX5_bondOf wsX5_bondOf) := goodIn_app (goodIn_of _ (by decide +kernel)) ggX5_bond_X5_bondOf
theorem dX5_bond_0 : decode cX5_bond 0 = .ok (.aload_n 0, 1) := by decide +kernel
theorem dX5_bond_1 : decode cX5_bond 1 = .ok (.iconst 0, 1) := by decide +kernel
theorem dX5_bond_2 : decode cX5_bond 2 = .ok (.putfield 28, 3) := by decide +kernel
theorem dX5_bond_5 : decode cX5_bond 5 = .ok (.aload_n 0, 1) := by decide +kernel
theorem dX5_bond_6 : decode cX5_bond 6 = .ok (.iload_n 1, 1) := by decide +kernel
theorem dX5_bond_7 : decode cX5_bond 7 = .ok (.invokevirtual 113, 3) := by decide +kernel
theorem dX5_bond_10 : decode cX5_bond 10 = .ok (.ifCond .ne 9, 3) := by decide +kernel
theorem dX5_bond_13 : decode cX5_bond 13 = .ok (.aload_n 0, 1) := by decide +kernel
theorem dX5_bond_14 : decode cX5_bond 14 = .ok (.iconst 1, 1) := by decide +kernel
theorem dX5_bond_15 : decode cX5_bond 15 = .ok (.invokevirtual 64, 3) := by decide +kernel
theorem dX5_bond_18 : decode cX5_bond 18 = .ok (.ireturn, 1) := by decide +kernel
theorem dX5_bond_19 : decode cX5_bond 19 = .ok (.iload_n 2, 1) := by decide +kernel
theorem dX5_bond_20 : decode cX5_bond 20 = .ok (.iconst 0, 1) := by decide +kernel
theorem dX5_bond_21 : decode cX5_bond 21 = .ok (.bipush 11, 2) := by decide +kernel
theorem dX5_bond_23 : decode cX5_bond 23 = .ok (.invokestatic 35, 3) := by decide +kernel
theorem dX5_bond_26 : decode cX5_bond 26 = .ok (.ifCond .eq 12, 3) := by decide +kernel
theorem dX5_bond_29 : decode cX5_bond 29 = .ok (.aload_n 0, 1) := by decide +kernel
theorem dX5_bond_30 : decode cX5_bond 30 = .ok (.iload_n 1, 1) := by decide +kernel
theorem dX5_bond_31 : decode cX5_bond 31 = .ok (.iload_n 2, 1) := by decide +kernel
theorem dX5_bond_32 : decode cX5_bond 32 = .ok (.invokevirtual 178, 3) := by decide +kernel
theorem dX5_bond_35 : decode cX5_bond 35 = .ok (.goto 8, 3) := by decide +kernel
theorem dX5_bond_38 : decode cX5_bond 38 = .ok (.aload_n 0, 1) := by decide +kernel
theorem dX5_bond_39 : decode cX5_bond 39 = .ok (.iconst 2, 1) := by decide +kernel
theorem dX5_bond_40 : decode cX5_bond 40 = .ok (.invokevirtual 64, 3) := by decide +kernel
theorem dX5_bond_43 : decode cX5_bond 43 = .ok (.ireturn, 1) := by decide +kernel
set_option maxRecDepth 20000 in
theorem ggX5_layer_X5_isBond : GoodIn wsX5_layer wsX5_isBond := goodIn_r _ [7, 2, 8, 9, 6, 10, 21, 22, 23, 24, 25, 26, 27, 28, 29, 30, 31, 32, 33, 34] (by decide +kernel) (by decide +kernel)
set_option maxRecDepth 20000 in
theorem gX5_layer_X5_isBond : GoodIn wsX5_layer (wsV RX5 113 RX5 yX5_isBond wsX5_isBond) := goodIn_app (goodIn_of _ (by decide +kernel)) ggX5_layer_X5_isBond
set_option maxRecDepth 20000 in
theorem ggX5_layer_X5_at : GoodIn wsX5_layer wsX5_at := goodIn_r _ [13] (by decide +kernel) (by decide +kernel)
set_option maxRecDepth 20000 in
theorem gX5_layer_X5_at : GoodIn wsX5_layer (va_wsS RX5 40 yX5_at wsX5_at) := goodIn_app (goodIn_of _ (by decide +kernel)) ggX5_layer_X5_at
set_option maxRecDepth 20000 in
theorem ggX5_layer_X5_in : GoodIn wsX5_layer wsX5_in := goodIn_r _ [10] (by decide +kernel) (by decide +kernel)
set_option maxRecDepth 20000 in
theorem gX5_layer_X5_in : GoodIn wsX5_layer (va_wsS RX5 35 yX5_in wsX5_in) := goodIn_app (goodIn_of _ (by decide +kernel)) ggX5_layer_X5_in
set_option maxRecDepth 20000 in
theorem ggX5_layer_X5_fails : GoodIn wsX5_layer wsX5_fails := goodIn_r _ [17, 1, 21, 22, 23, 24, 25, 26, 27, 28, 29, 30, 31, 32, 33, 34] (by decide +kernel) (by decide +kernel)
set_option maxRecDepth 20000 in
theorem gX5_layer_X5_fails : GoodIn wsX5_layer (wsV RX5 64 RX5 yX5_fails wsX5_fails) := goodIn_app (goodIn_of _ (by decide +kernel)) ggX5_layer_X5_fails
set_option maxRecDepth 20000 in
theorem ggX5_layer_X5_layerAt : GoodIn wsX5_layer wsX5_layerAt := goodIn_r _ [20, 11, 12, 6, 13] (by decide +kernel) (by decide +kernel)
set_option maxRecDepth 20000 in
theorem gX5_layer_X5_layerAt : GoodIn wsX5_layer (va_wsS RX5 44 yX5_layerAt wsX5_layerAt) := goodIn_app (goodIn_of _ (by decide +kernel)) ggX5_layer_X5_layerAt
theorem dX5_layer_0 : decode cX5_layer 0 = .ok (.aload_n 0, 1) := by decide +kernel
theorem dX5_layer_1 : decode cX5_layer 1 = .ok (.iconst 0, 1) := by decide +kernel
theorem dX5_layer_2 : decode cX5_layer 2 = .ok (.putfield 28, 3) := by decide +kernel
theorem dX5_layer_5 : decode cX5_layer 5 = .ok (.aload_n 0, 1) := by decide +kernel
theorem dX5_layer_6 : decode cX5_layer 6 = .ok (.iload_n 1, 1) := by decide +kernel
theorem dX5_layer_7 : decode cX5_layer 7 = .ok (.invokevirtual 113, 3) := by decide +kernel
theorem dX5_layer_10 : decode cX5_layer 10 = .ok (.ifCond .eq 24, 3) := by decide +kernel
theorem dX5_layer_13 : decode cX5_layer 13 = .ok (.iload_n 2, 1) := by decide +kernel
theorem dX5_layer_14 : decode cX5_layer 14 = .ok (.iconst 0, 1) := by decide +kernel
theorem dX5_layer_15 : decode cX5_layer 15 = .ok (.aload_n 0, 1) := by decide +kernel
theorem dX5_layer_16 : decode cX5_layer 16 = .ok (.getfield 7, 3) := by decide +kernel
theorem dX5_layer_19 : decode cX5_layer 19 = .ok (.iload_n 1, 1) := by decide +kernel
theorem dX5_layer_20 : decode cX5_layer 20 = .ok (.invokestatic 40, 3) := by decide +kernel
theorem dX5_layer_23 : decode cX5_layer 23 = .ok (.iconst 3, 1) := by decide +kernel
theorem dX5_layer_24 : decode cX5_layer 24 = .ok (.iadd, 1) := by decide +kernel
theorem dX5_layer_25 : decode cX5_layer 25 = .ok (.iaload, 1) := by decide +kernel
theorem dX5_layer_26 : decode cX5_layer 26 = .ok (.iconst 1, 1) := by decide +kernel
theorem dX5_layer_27 : decode cX5_layer 27 = .ok (.isub, 1) := by decide +kernel
theorem dX5_layer_28 : decode cX5_layer 28 = .ok (.invokestatic 35, 3) := by decide +kernel
theorem dX5_layer_31 : decode cX5_layer 31 = .ok (.ifCond .ne 9, 3) := by decide +kernel
theorem dX5_layer_34 : decode cX5_layer 34 = .ok (.aload_n 0, 1) := by decide +kernel
theorem dX5_layer_35 : decode cX5_layer 35 = .ok (.iconst 1, 1) := by decide +kernel
theorem dX5_layer_36 : decode cX5_layer 36 = .ok (.invokevirtual 64, 3) := by decide +kernel
theorem dX5_layer_39 : decode cX5_layer 39 = .ok (.ireturn, 1) := by decide +kernel
theorem dX5_layer_40 : decode cX5_layer 40 = .ok (.iload_n 3, 1) := by decide +kernel
theorem dX5_layer_41 : decode cX5_layer 41 = .ok (.iconst 0, 1) := by decide +kernel
theorem dX5_layer_42 : decode cX5_layer 42 = .ok (.iconst 3, 1) := by decide +kernel
theorem dX5_layer_43 : decode cX5_layer 43 = .ok (.invokestatic 35, 3) := by decide +kernel
theorem dX5_layer_46 : decode cX5_layer 46 = .ok (.ifCond .eq 18, 3) := by decide +kernel
theorem dX5_layer_49 : decode cX5_layer 49 = .ok (.aload_n 0, 1) := by decide +kernel
theorem dX5_layer_50 : decode cX5_layer 50 = .ok (.getfield 7, 3) := by decide +kernel
theorem dX5_layer_53 : decode cX5_layer 53 = .ok (.iload_n 1, 1) := by decide +kernel
theorem dX5_layer_54 : decode cX5_layer 54 = .ok (.iload_n 2, 1) := by decide +kernel
theorem dX5_layer_55 : decode cX5_layer 55 = .ok (.invokestatic 44, 3) := by decide +kernel
theorem dX5_layer_58 : decode cX5_layer 58 = .ok (.iload_n 3, 1) := by decide +kernel
theorem dX5_layer_59 : decode cX5_layer 59 = .ok (.iadd, 1) := by decide +kernel
theorem dX5_layer_60 : decode cX5_layer 60 = .ok (.iaload, 1) := by decide +kernel
theorem dX5_layer_61 : decode cX5_layer 61 = .ok (.goto 8, 3) := by decide +kernel
theorem dX5_layer_64 : decode cX5_layer 64 = .ok (.aload_n 0, 1) := by decide +kernel
theorem dX5_layer_65 : decode cX5_layer 65 = .ok (.iconst 2, 1) := by decide +kernel
theorem dX5_layer_66 : decode cX5_layer 66 = .ok (.invokevirtual 64, 3) := by decide +kernel
theorem dX5_layer_69 : decode cX5_layer 69 = .ok (.ireturn, 1) := by decide +kernel
set_option maxRecDepth 20000 in
theorem ggX5_debt_X5_isPerson : GoodIn wsX5_debt wsX5_isPerson := goodIn_r _ [6, 7, 8, 5, 9] (by decide +kernel) (by decide +kernel)
set_option maxRecDepth 20000 in
theorem gX5_debt_X5_isPerson : GoodIn wsX5_debt (va_wsS RX5 60 yX5_isPerson wsX5_isPerson) := goodIn_app (goodIn_of _ (by decide +kernel)) ggX5_debt_X5_isPerson
set_option maxRecDepth 20000 in
theorem ggX5_debt_X5_debtAt : GoodIn wsX5_debt wsX5_debtAt := goodIn_r _ [12] (by decide +kernel) (by decide +kernel)
set_option maxRecDepth 20000 in
theorem gX5_debt_X5_debtAt : GoodIn wsX5_debt (va_wsS RX5 80 yX5_debtAt wsX5_debtAt) := goodIn_app (goodIn_of _ (by decide +kernel)) ggX5_debt_X5_debtAt
set_option maxRecDepth 20000 in
theorem ggX5_debt_X5_fails : GoodIn wsX5_debt wsX5_fails := goodIn_r _ [16, 1, 17, 18, 19, 20, 21, 22, 23, 24, 25, 26, 27, 28, 29, 30] (by decide +kernel) (by decide +kernel)
set_option maxRecDepth 20000 in
theorem gX5_debt_X5_fails : GoodIn wsX5_debt (wsV RX5 64 RX5 yX5_fails wsX5_fails) := goodIn_app (goodIn_of _ (by decide +kernel)) ggX5_debt_X5_fails
theorem dX5_debt_0 : decode cX5_debt 0 = .ok (.aload_n 0, 1) := by decide +kernel
theorem dX5_debt_1 : decode cX5_debt 1 = .ok (.iconst 0, 1) := by decide +kernel
theorem dX5_debt_2 : decode cX5_debt 2 = .ok (.putfield 28, 3) := by decide +kernel
theorem dX5_debt_5 : decode cX5_debt 5 = .ok (.iload_n 1, 1) := by decide +kernel
theorem dX5_debt_6 : decode cX5_debt 6 = .ok (.invokestatic 60, 3) := by decide +kernel
theorem dX5_debt_9 : decode cX5_debt 9 = .ok (.ifCond .eq 23, 3) := by decide +kernel
theorem dX5_debt_12 : decode cX5_debt 12 = .ok (.iload_n 2, 1) := by decide +kernel
theorem dX5_debt_13 : decode cX5_debt 13 = .ok (.invokestatic 60, 3) := by decide +kernel
theorem dX5_debt_16 : decode cX5_debt 16 = .ok (.ifCond .eq 16, 3) := by decide +kernel
theorem dX5_debt_19 : decode cX5_debt 19 = .ok (.aload_n 0, 1) := by decide +kernel
theorem dX5_debt_20 : decode cX5_debt 20 = .ok (.getfield 7, 3) := by decide +kernel
theorem dX5_debt_23 : decode cX5_debt 23 = .ok (.iload_n 1, 1) := by decide +kernel
theorem dX5_debt_24 : decode cX5_debt 24 = .ok (.iload_n 2, 1) := by decide +kernel
theorem dX5_debt_25 : decode cX5_debt 25 = .ok (.invokestatic 80, 3) := by decide +kernel
theorem dX5_debt_28 : decode cX5_debt 28 = .ok (.iaload, 1) := by decide +kernel
theorem dX5_debt_29 : decode cX5_debt 29 = .ok (.goto 8, 3) := by decide +kernel
theorem dX5_debt_32 : decode cX5_debt 32 = .ok (.aload_n 0, 1) := by decide +kernel
theorem dX5_debt_33 : decode cX5_debt 33 = .ok (.iconst 1, 1) := by decide +kernel
theorem dX5_debt_34 : decode cX5_debt 34 = .ok (.invokevirtual 64, 3) := by decide +kernel
theorem dX5_debt_37 : decode cX5_debt 37 = .ok (.ireturn, 1) := by decide +kernel
set_option maxRecDepth 20000 in
theorem ggX5_running_X5_runs : GoodIn wsX5_running wsX5_runs := goodIn_r _ [6, 1, 7, 8, 5, 9, 10, 11, 12, 13, 14, 15, 16, 17, 18, 19, 20, 21, 22, 23] (by decide +kernel) (by decide +kernel)
set_option maxRecDepth 20000 in
theorem gX5_running_X5_runs : GoodIn wsX5_running (wsV RX5 116 RX5 yX5_runs wsX5_runs) := goodIn_app (goodIn_of _ (by decide +kernel)) ggX5_running_X5_runs
theorem dX5_running_0 : decode cX5_running 0 = .ok (.iconst 0, 1) := by decide +kernel
theorem dX5_running_1 : decode cX5_running 1 = .ok (.istore_n 1, 1) := by decide +kernel
theorem dX5_running_2 : decode cX5_running 2 = .ok (.iconst 0, 1) := by decide +kernel
theorem dX5_running_3 : decode cX5_running 3 = .ok (.istore_n 2, 1) := by decide +kernel
theorem dX5_running_4 : decode cX5_running 4 = .ok (.iload_n 2, 1) := by decide +kernel
theorem dX5_running_5 : decode cX5_running 5 = .ok (.aload_n 0, 1) := by decide +kernel
theorem dX5_running_6 : decode cX5_running 6 = .ok (.getfield 7, 3) := by decide +kernel
theorem dX5_running_9 : decode cX5_running 9 = .ok (.iconst 0, 1) := by decide +kernel
theorem dX5_running_10 : decode cX5_running 10 = .ok (.iaload, 1) := by decide +kernel
theorem dX5_running_11 : decode cX5_running 11 = .ok (.if_icmp .ge 25, 3) := by decide +kernel
theorem dX5_running_14 : decode cX5_running 14 = .ok (.iload_n 1, 1) := by decide +kernel
theorem dX5_running_15 : decode cX5_running 15 = .ok (.aload_n 0, 1) := by decide +kernel
theorem dX5_running_16 : decode cX5_running 16 = .ok (.iload_n 2, 1) := by decide +kernel
theorem dX5_running_17 : decode cX5_running 17 = .ok (.invokevirtual 116, 3) := by decide +kernel
theorem dX5_running_20 : decode cX5_running 20 = .ok (.ifCond .eq 7, 3) := by decide +kernel
theorem dX5_running_23 : decode cX5_running 23 = .ok (.iconst 1, 1) := by decide +kernel
theorem dX5_running_24 : decode cX5_running 24 = .ok (.goto 4, 3) := by decide +kernel
theorem dX5_running_27 : decode cX5_running 27 = .ok (.iconst 0, 1) := by decide +kernel
theorem dX5_running_28 : decode cX5_running 28 = .ok (.iadd, 1) := by decide +kernel
theorem dX5_running_29 : decode cX5_running 29 = .ok (.istore_n 1, 1) := by decide +kernel
theorem dX5_running_30 : decode cX5_running 30 = .ok (.iinc 2 1, 3) := by decide +kernel
theorem dX5_running_33 : decode cX5_running 33 = .ok (.goto (-29), 3) := by decide +kernel
theorem dX5_running_36 : decode cX5_running 36 = .ok (.iload_n 1, 1) := by decide +kernel
theorem dX5_running_37 : decode cX5_running 37 = .ok (.ireturn, 1) := by decide +kernel
set_option maxRecDepth 20000 in
theorem ggX5_ofPersons_X5_personOf : GoodIn wsX5_ofPersons wsX5_personOf := goodIn_r _ [5, 6, 7, 8, 9, 4, 10, 11, 12, 13, 14, 15, 16, 17, 18, 19, 20, 21, 22, 23, 24, 25, 26, 27, 28, 29, 30, 31, 32, 33, 34, 35, 36, 37, 38, 39, 40, 41, 42, 43, 44, 45, 46, 47, 48, 49] (by decide +kernel) (by decide +kernel)
set_option maxRecDepth 20000 in
theorem gX5_ofPersons_X5_personOf : GoodIn wsX5_ofPersons (wsV RX5 175 RX5 yX5_personOf wsX5_personOf) := goodIn_app (goodIn_of _ (by decide +kernel)) ggX5_ofPersons_X5_personOf
theorem dX5_ofPersons_0 : decode cX5_ofPersons 0 = .ok (.iconst 0, 1) := by decide +kernel
theorem dX5_ofPersons_1 : decode cX5_ofPersons 1 = .ok (.istore_n 2, 1) := by decide +kernel
theorem dX5_ofPersons_2 : decode cX5_ofPersons 2 = .ok (.iconst 0, 1) := by decide +kernel
theorem dX5_ofPersons_3 : decode cX5_ofPersons 3 = .ok (.istore_n 3, 1) := by decide +kernel
theorem dX5_ofPersons_4 : decode cX5_ofPersons 4 = .ok (.iload_n 3, 1) := by decide +kernel
theorem dX5_ofPersons_5 : decode cX5_ofPersons 5 = .ok (.bipush 8, 2) := by decide +kernel
theorem dX5_ofPersons_7 : decode cX5_ofPersons 7 = .ok (.if_icmp .ge 18, 3) := by decide +kernel
theorem dX5_ofPersons_10 : decode cX5_ofPersons 10 = .ok (.iload_n 2, 1) := by decide +kernel
theorem dX5_ofPersons_11 : decode cX5_ofPersons 11 = .ok (.aload_n 0, 1) := by decide +kernel
theorem dX5_ofPersons_12 : decode cX5_ofPersons 12 = .ok (.iload_n 3, 1) := by decide +kernel
theorem dX5_ofPersons_13 : decode cX5_ofPersons 13 = .ok (.iload_n 1, 1) := by decide +kernel
theorem dX5_ofPersons_14 : decode cX5_ofPersons 14 = .ok (.invokevirtual 175, 3) := by decide +kernel
theorem dX5_ofPersons_17 : decode cX5_ofPersons 17 = .ok (.iadd, 1) := by decide +kernel
theorem dX5_ofPersons_18 : decode cX5_ofPersons 18 = .ok (.istore_n 2, 1) := by decide +kernel
theorem dX5_ofPersons_19 : decode cX5_ofPersons 19 = .ok (.iinc 3 1, 3) := by decide +kernel
theorem dX5_ofPersons_22 : decode cX5_ofPersons 22 = .ok (.goto (-18), 3) := by decide +kernel
theorem dX5_ofPersons_25 : decode cX5_ofPersons 25 = .ok (.iload_n 2, 1) := by decide +kernel
theorem dX5_ofPersons_26 : decode cX5_ofPersons 26 = .ok (.ireturn, 1) := by decide +kernel
set_option maxRecDepth 20000 in
theorem ggX5_counted_X5_running : GoodIn wsX5_counted wsX5_running := goodIn_r _ [7, 1, 8, 9, 10, 6, 11, 12, 13, 14, 45, 46, 47, 48, 49, 50, 51, 52, 53, 54, 55, 56, 57, 58] (by decide +kernel) (by decide +kernel)
set_option maxRecDepth 20000 in
theorem gX5_counted_X5_running : GoodIn wsX5_counted (wsV RX5 181 RX5 yX5_running wsX5_running) := goodIn_app (goodIn_of _ (by decide +kernel)) ggX5_counted_X5_running
set_option maxRecDepth 20000 in
theorem ggX5_counted_X5_ofPersons : GoodIn wsX5_counted wsX5_ofPersons := goodIn_r _ [18, 19, 20, 21, 6, 22, 1, 23, 24, 25, 26, 27, 28, 29, 30, 31, 32, 33, 12, 13, 14, 34, 35, 36, 37, 38, 39, 40, 41, 42, 43, 44, 8, 9, 10, 11, 45, 46, 47, 48, 49, 50, 51, 52, 53, 54, 55, 56, 57, 58] (by decide +kernel) (by decide +kernel)
set_option maxRecDepth 20000 in
theorem gX5_counted_X5_ofPersons : GoodIn wsX5_counted (wsV RX5 184 RX5 yX5_ofPersons wsX5_ofPersons) := goodIn_app (goodIn_of _ (by decide +kernel)) ggX5_counted_X5_ofPersons
theorem dX5_counted_0 : decode cX5_counted 0 = .ok (.iload_n 1, 1) := by decide +kernel
theorem dX5_counted_1 : decode cX5_counted 1 = .ok (.tableswitch 98 0 9 #[55, 62, 67, 73, 98, 98, 98, 80, 86, 93], 55) := by decide +kernel
theorem dX5_counted_56 : decode cX5_counted 56 = .ok (.aload_n 0, 1) := by decide +kernel
theorem dX5_counted_57 : decode cX5_counted 57 = .ok (.getfield 7, 3) := by decide +kernel
theorem dX5_counted_60 : decode cX5_counted 60 = .ok (.iconst 0, 1) := by decide +kernel
theorem dX5_counted_61 : decode cX5_counted 61 = .ok (.iaload, 1) := by decide +kernel
theorem dX5_counted_62 : decode cX5_counted 62 = .ok (.ireturn, 1) := by decide +kernel
theorem dX5_counted_63 : decode cX5_counted 63 = .ok (.aload_n 0, 1) := by decide +kernel
theorem dX5_counted_64 : decode cX5_counted 64 = .ok (.invokevirtual 181, 3) := by decide +kernel
theorem dX5_counted_67 : decode cX5_counted 67 = .ok (.ireturn, 1) := by decide +kernel
theorem dX5_counted_68 : decode cX5_counted 68 = .ok (.aload_n 0, 1) := by decide +kernel
theorem dX5_counted_69 : decode cX5_counted 69 = .ok (.iconst 0, 1) := by decide +kernel
theorem dX5_counted_70 : decode cX5_counted 70 = .ok (.invokevirtual 184, 3) := by decide +kernel
theorem dX5_counted_73 : decode cX5_counted 73 = .ok (.ireturn, 1) := by decide +kernel
theorem dX5_counted_74 : decode cX5_counted 74 = .ok (.aload_n 0, 1) := by decide +kernel
theorem dX5_counted_75 : decode cX5_counted 75 = .ok (.getfield 7, 3) := by decide +kernel
theorem dX5_counted_78 : decode cX5_counted 78 = .ok (.iconst 1, 1) := by decide +kernel
theorem dX5_counted_79 : decode cX5_counted 79 = .ok (.iaload, 1) := by decide +kernel
theorem dX5_counted_80 : decode cX5_counted 80 = .ok (.ireturn, 1) := by decide +kernel
theorem dX5_counted_81 : decode cX5_counted 81 = .ok (.aload_n 0, 1) := by decide +kernel
theorem dX5_counted_82 : decode cX5_counted 82 = .ok (.iconst 1, 1) := by decide +kernel
theorem dX5_counted_83 : decode cX5_counted 83 = .ok (.invokevirtual 184, 3) := by decide +kernel
theorem dX5_counted_86 : decode cX5_counted 86 = .ok (.ireturn, 1) := by decide +kernel
theorem dX5_counted_87 : decode cX5_counted 87 = .ok (.aload_n 0, 1) := by decide +kernel
theorem dX5_counted_88 : decode cX5_counted 88 = .ok (.getfield 7, 3) := by decide +kernel
theorem dX5_counted_91 : decode cX5_counted 91 = .ok (.iconst 5, 1) := by decide +kernel
theorem dX5_counted_92 : decode cX5_counted 92 = .ok (.iaload, 1) := by decide +kernel
theorem dX5_counted_93 : decode cX5_counted 93 = .ok (.ireturn, 1) := by decide +kernel
theorem dX5_counted_94 : decode cX5_counted 94 = .ok (.aload_n 0, 1) := by decide +kernel
theorem dX5_counted_95 : decode cX5_counted 95 = .ok (.getfield 32, 3) := by decide +kernel
theorem dX5_counted_98 : decode cX5_counted 98 = .ok (.ireturn, 1) := by decide +kernel
theorem dX5_counted_99 : decode cX5_counted 99 = .ok (.aload_n 0, 1) := by decide +kernel
theorem dX5_counted_100 : decode cX5_counted 100 = .ok (.getfield 7, 3) := by decide +kernel
theorem dX5_counted_103 : decode cX5_counted 103 = .ok (.iload_n 1, 1) := by decide +kernel
theorem dX5_counted_104 : decode cX5_counted 104 = .ok (.iconst 2, 1) := by decide +kernel
theorem dX5_counted_105 : decode cX5_counted 105 = .ok (.isub, 1) := by decide +kernel
theorem dX5_counted_106 : decode cX5_counted 106 = .ok (.iaload, 1) := by decide +kernel
theorem dX5_counted_107 : decode cX5_counted 107 = .ok (.ireturn, 1) := by decide +kernel
set_option maxRecDepth 20000 in
theorem ggX5_count_X5_in : GoodIn wsX5_count wsX5_in := goodIn_r _ [5] (by decide +kernel) (by decide +kernel)
set_option maxRecDepth 20000 in
theorem gX5_count_X5_in : GoodIn wsX5_count (va_wsS RX5 35 yX5_in wsX5_in) := goodIn_app (goodIn_of _ (by decide +kernel)) ggX5_count_X5_in
set_option maxRecDepth 20000 in
theorem ggX5_count_X5_counted : GoodIn wsX5_count wsX5_counted := goodIn_r _ [9, 10, 11, 12, 13, 14, 4, 15, 16, 17, 18, 19, 20, 21, 22, 23, 24, 25, 26, 27, 28, 29, 30, 31, 32, 33, 34, 35, 36, 37, 38, 39, 40, 41, 42, 43, 44, 45, 46, 47, 48, 49, 50, 51, 52, 57, 58, 59, 60, 61, 62, 63, 64, 65, 66, 67, 68, 69, 70] (by decide +kernel) (by decide +kernel)
set_option maxRecDepth 20000 in
theorem gX5_count_X5_counted : GoodIn wsX5_count (wsV RX5 187 RX5 yX5_counted wsX5_counted) := goodIn_app (goodIn_of _ (by decide +kernel)) ggX5_count_X5_counted
set_option maxRecDepth 20000 in
theorem ggX5_count_X5_fails : GoodIn wsX5_count wsX5_fails := goodIn_r _ [56, 1, 57, 58, 59, 60, 61, 62, 63, 64, 65, 66, 67, 68, 69, 70] (by decide +kernel) (by decide +kernel)
set_option maxRecDepth 20000 in
theorem gX5_count_X5_fails : GoodIn wsX5_count (wsV RX5 64 RX5 yX5_fails wsX5_fails) := goodIn_app (goodIn_of _ (by decide +kernel)) ggX5_count_X5_fails
theorem dX5_count_0 : decode cX5_count 0 = .ok (.aload_n 0, 1) := by decide +kernel
theorem dX5_count_1 : decode cX5_count 1 = .ok (.iconst 0, 1) := by decide +kernel
theorem dX5_count_2 : decode cX5_count 2 = .ok (.putfield 28, 3) := by decide +kernel
theorem dX5_count_5 : decode cX5_count 5 = .ok (.iload_n 1, 1) := by decide +kernel
theorem dX5_count_6 : decode cX5_count 6 = .ok (.iconst 0, 1) := by decide +kernel
theorem dX5_count_7 : decode cX5_count 7 = .ok (.bipush 9, 2) := by decide +kernel
theorem dX5_count_9 : decode cX5_count 9 = .ok (.invokestatic 35, 3) := by decide +kernel
theorem dX5_count_12 : decode cX5_count 12 = .ok (.ifCond .eq 11, 3) := by decide +kernel
theorem dX5_count_15 : decode cX5_count 15 = .ok (.aload_n 0, 1) := by decide +kernel
theorem dX5_count_16 : decode cX5_count 16 = .ok (.iload_n 1, 1) := by decide +kernel
theorem dX5_count_17 : decode cX5_count 17 = .ok (.invokevirtual 187, 3) := by decide +kernel
theorem dX5_count_20 : decode cX5_count 20 = .ok (.goto 8, 3) := by decide +kernel
theorem dX5_count_23 : decode cX5_count 23 = .ok (.aload_n 0, 1) := by decide +kernel
theorem dX5_count_24 : decode cX5_count 24 = .ok (.iconst 1, 1) := by decide +kernel
theorem dX5_count_25 : decode cX5_count 25 = .ok (.invokevirtual 64, 3) := by decide +kernel
theorem dX5_count_28 : decode cX5_count 28 = .ok (.ireturn, 1) := by decide +kernel
set_option maxRecDepth 20000 in
theorem ggX5_setting_X5_in : GoodIn wsX5_setting wsX5_in := goodIn_r _ [6] (by decide +kernel) (by decide +kernel)
set_option maxRecDepth 20000 in
theorem gX5_setting_X5_in : GoodIn wsX5_setting (va_wsS RX5 35 yX5_in wsX5_in) := goodIn_app (goodIn_of _ (by decide +kernel)) ggX5_setting_X5_in
set_option maxRecDepth 20000 in
theorem ggX5_setting_X5_fails : GoodIn wsX5_setting wsX5_fails := goodIn_r _ [10, 1, 11, 12, 13, 14, 15, 16, 17, 18, 19, 20, 21, 22, 23, 24] (by decide +kernel) (by decide +kernel)
set_option maxRecDepth 20000 in
theorem gX5_setting_X5_fails : GoodIn wsX5_setting (wsV RX5 64 RX5 yX5_fails wsX5_fails) := goodIn_app (goodIn_of _ (by decide +kernel)) ggX5_setting_X5_fails
theorem dX5_setting_0 : decode cX5_setting 0 = .ok (.aload_n 0, 1) := by decide +kernel
theorem dX5_setting_1 : decode cX5_setting 1 = .ok (.iconst 0, 1) := by decide +kernel
theorem dX5_setting_2 : decode cX5_setting 2 = .ok (.putfield 28, 3) := by decide +kernel
theorem dX5_setting_5 : decode cX5_setting 5 = .ok (.iload_n 1, 1) := by decide +kernel
theorem dX5_setting_6 : decode cX5_setting 6 = .ok (.iconst 0, 1) := by decide +kernel
theorem dX5_setting_7 : decode cX5_setting 7 = .ok (.iconst 2, 1) := by decide +kernel
theorem dX5_setting_8 : decode cX5_setting 8 = .ok (.invokestatic 35, 3) := by decide +kernel
theorem dX5_setting_11 : decode cX5_setting 11 = .ok (.ifCond .eq 15, 3) := by decide +kernel
theorem dX5_setting_14 : decode cX5_setting 14 = .ok (.aload_n 0, 1) := by decide +kernel
theorem dX5_setting_15 : decode cX5_setting 15 = .ok (.getfield 7, 3) := by decide +kernel
theorem dX5_setting_18 : decode cX5_setting 18 = .ok (.bipush 6, 2) := by decide +kernel
theorem dX5_setting_20 : decode cX5_setting 20 = .ok (.iload_n 1, 1) := by decide +kernel
theorem dX5_setting_21 : decode cX5_setting 21 = .ok (.iadd, 1) := by decide +kernel
theorem dX5_setting_22 : decode cX5_setting 22 = .ok (.iaload, 1) := by decide +kernel
theorem dX5_setting_23 : decode cX5_setting 23 = .ok (.goto 8, 3) := by decide +kernel
theorem dX5_setting_26 : decode cX5_setting 26 = .ok (.aload_n 0, 1) := by decide +kernel
theorem dX5_setting_27 : decode cX5_setting 27 = .ok (.iconst 1, 1) := by decide +kernel
theorem dX5_setting_28 : decode cX5_setting 28 = .ok (.invokevirtual 64, 3) := by decide +kernel
theorem dX5_setting_31 : decode cX5_setting 31 = .ok (.ireturn, 1) := by decide +kernel
set_option maxRecDepth 20000 in
theorem ggX5_calledOf_X5_runs : GoodIn wsX5_calledOf wsX5_runs := goodIn_r _ [8, 3, 9, 10, 7, 11, 61, 62, 63, 64, 65, 66, 67, 68, 69, 70, 71, 72, 73, 74] (by decide +kernel) (by decide +kernel)
set_option maxRecDepth 20000 in
theorem gX5_calledOf_X5_runs : GoodIn wsX5_calledOf (wsV RX5 116 RX5 yX5_runs wsX5_runs) := goodIn_app (goodIn_of _ (by decide +kernel)) ggX5_calledOf_X5_runs
set_option maxRecDepth 20000 in
theorem ggX5_calledOf_X5_putAside : GoodIn wsX5_calledOf wsX5_putAside := goodIn_r _ [15, 16, 3, 61, 62, 63, 64, 65, 66, 67, 68, 69, 70, 71, 72, 73, 74] (by decide +kernel) (by decide +kernel)
set_option maxRecDepth 20000 in
theorem gX5_calledOf_X5_putAside : GoodIn wsX5_calledOf (wsV RX5 190 RX5 yX5_putAside wsX5_putAside) := goodIn_app (goodIn_of _ (by decide +kernel)) ggX5_calledOf_X5_putAside
set_option maxRecDepth 20000 in
theorem ggX5_calledOf_X5_callNow : GoodIn wsX5_calledOf wsX5_callNow := goodIn_r _ [20, 3, 21, 1, 22, 2, 9, 10, 7, 11, 23, 24, 25, 26, 27, 28, 29, 30, 31, 32, 33, 34, 35, 36, 37, 38, 39, 40, 41, 42, 43, 44, 45, 46, 47, 48, 49, 50, 51, 52, 53, 54, 55, 56, 61, 62, 63, 64, 65, 66, 67, 68, 69, 70, 71, 72, 73, 74] (by decide +kernel) (by decide +kernel)
set_option maxRecDepth 20000 in
theorem gX5_calledOf_X5_callNow : GoodIn wsX5_calledOf (wsV RX5 119 RX5 yX5_callNow wsX5_callNow) := goodIn_app (goodIn_of _ (by decide +kernel)) ggX5_calledOf_X5_callNow
set_option maxRecDepth 20000 in
theorem ggX5_calledOf_X5_limitsOf : GoodIn wsX5_calledOf wsX5_limitsOf := goodIn_r _ [38, 3, 9, 10, 7, 11, 39, 40, 41, 61, 62, 63, 64, 65, 66, 67, 68, 69, 70, 71, 72, 73, 74] (by decide +kernel) (by decide +kernel)
set_option maxRecDepth 20000 in
theorem gX5_calledOf_X5_limitsOf : GoodIn wsX5_calledOf (wsV RX5 48 RX5 yX5_limitsOf wsX5_limitsOf) := goodIn_app (goodIn_of _ (by decide +kernel)) ggX5_calledOf_X5_limitsOf
set_option maxRecDepth 20000 in
theorem ggX5_calledOf_X5_putBack : GoodIn wsX5_calledOf wsX5_putBack := goodIn_r _ [60, 3, 16, 61, 62, 63, 64, 65, 66, 67, 68, 69, 70, 71, 72, 73, 74] (by decide +kernel) (by decide +kernel)
set_option maxRecDepth 20000 in
theorem gX5_calledOf_X5_putBack : GoodIn wsX5_calledOf (wsV RX5 193 RX5 yX5_putBack wsX5_putBack) := goodIn_app (goodIn_of _ (by decide +kernel)) ggX5_calledOf_X5_putBack
theorem dX5_calledOf_0 : decode cX5_calledOf 0 = .ok (.aload_n 0, 1) := by decide +kernel
theorem dX5_calledOf_1 : decode cX5_calledOf 1 = .ok (.iload_n 1, 1) := by decide +kernel
theorem dX5_calledOf_2 : decode cX5_calledOf 2 = .ok (.invokevirtual 116, 3) := by decide +kernel
theorem dX5_calledOf_5 : decode cX5_calledOf 5 = .ok (.ifCond .ne 5, 3) := by decide +kernel
theorem dX5_calledOf_8 : decode cX5_calledOf 8 = .ok (.iconst 0, 1) := by decide +kernel
theorem dX5_calledOf_9 : decode cX5_calledOf 9 = .ok (.ireturn, 1) := by decide +kernel
theorem dX5_calledOf_10 : decode cX5_calledOf 10 = .ok (.aload_n 0, 1) := by decide +kernel
theorem dX5_calledOf_11 : decode cX5_calledOf 11 = .ok (.invokevirtual 190, 3) := by decide +kernel
theorem dX5_calledOf_14 : decode cX5_calledOf 14 = .ok (.aload_n 0, 1) := by decide +kernel
theorem dX5_calledOf_15 : decode cX5_calledOf 15 = .ok (.iload_n 1, 1) := by decide +kernel
theorem dX5_calledOf_16 : decode cX5_calledOf 16 = .ok (.iload_n 2, 1) := by decide +kernel
theorem dX5_calledOf_17 : decode cX5_calledOf 17 = .ok (.invokevirtual 119, 3) := by decide +kernel
theorem dX5_calledOf_20 : decode cX5_calledOf 20 = .ok (.iload_n 3, 1) := by decide +kernel
theorem dX5_calledOf_21 : decode cX5_calledOf 21 = .ok (.ifCond .ne 10, 3) := by decide +kernel
theorem dX5_calledOf_24 : decode cX5_calledOf 24 = .ok (.aload_n 0, 1) := by decide +kernel
theorem dX5_calledOf_25 : decode cX5_calledOf 25 = .ok (.getfield 89, 3) := by decide +kernel
theorem dX5_calledOf_28 : decode cX5_calledOf 28 = .ok (.goto 40, 3) := by decide +kernel
theorem dX5_calledOf_31 : decode cX5_calledOf 31 = .ok (.iload_n 3, 1) := by decide +kernel
theorem dX5_calledOf_32 : decode cX5_calledOf 32 = .ok (.iconst 1, 1) := by decide +kernel
theorem dX5_calledOf_33 : decode cX5_calledOf 33 = .ok (.if_icmp .ne 10, 3) := by decide +kernel
theorem dX5_calledOf_36 : decode cX5_calledOf 36 = .ok (.aload_n 0, 1) := by decide +kernel
theorem dX5_calledOf_37 : decode cX5_calledOf 37 = .ok (.getfield 106, 3) := by decide +kernel
theorem dX5_calledOf_40 : decode cX5_calledOf 40 = .ok (.goto 28, 3) := by decide +kernel
theorem dX5_calledOf_43 : decode cX5_calledOf 43 = .ok (.iload_n 3, 1) := by decide +kernel
theorem dX5_calledOf_44 : decode cX5_calledOf 44 = .ok (.bipush 10, 2) := by decide +kernel
theorem dX5_calledOf_46 : decode cX5_calledOf 46 = .ok (.if_icmp .ne 11, 3) := by decide +kernel
theorem dX5_calledOf_49 : decode cX5_calledOf 49 = .ok (.aload_n 0, 1) := by decide +kernel
theorem dX5_calledOf_50 : decode cX5_calledOf 50 = .ok (.iload_n 1, 1) := by decide +kernel
theorem dX5_calledOf_51 : decode cX5_calledOf 51 = .ok (.invokevirtual 48, 3) := by decide +kernel
theorem dX5_calledOf_54 : decode cX5_calledOf 54 = .ok (.goto 14, 3) := by decide +kernel
theorem dX5_calledOf_57 : decode cX5_calledOf 57 = .ok (.aload_n 0, 1) := by decide +kernel
theorem dX5_calledOf_58 : decode cX5_calledOf 58 = .ok (.getfield 7, 3) := by decide +kernel
theorem dX5_calledOf_61 : decode cX5_calledOf 61 = .ok (.bipush 9, 2) := by decide +kernel
theorem dX5_calledOf_63 : decode cX5_calledOf 63 = .ok (.iload_n 3, 1) := by decide +kernel
theorem dX5_calledOf_64 : decode cX5_calledOf 64 = .ok (.iadd, 1) := by decide +kernel
theorem dX5_calledOf_65 : decode cX5_calledOf 65 = .ok (.iconst 2, 1) := by decide +kernel
theorem dX5_calledOf_66 : decode cX5_calledOf 66 = .ok (.isub, 1) := by decide +kernel
theorem dX5_calledOf_67 : decode cX5_calledOf 67 = .ok (.iaload, 1) := by decide +kernel
theorem dX5_calledOf_68 : decode cX5_calledOf 68 = .ok (.istore 4, 2) := by decide +kernel
theorem dX5_calledOf_70 : decode cX5_calledOf 70 = .ok (.aload_n 0, 1) := by decide +kernel
theorem dX5_calledOf_71 : decode cX5_calledOf 71 = .ok (.invokevirtual 193, 3) := by decide +kernel
theorem dX5_calledOf_74 : decode cX5_calledOf 74 = .ok (.iload_n 3, 1) := by decide +kernel
theorem dX5_calledOf_75 : decode cX5_calledOf 75 = .ok (.iconst 1, 1) := by decide +kernel
theorem dX5_calledOf_76 : decode cX5_calledOf 76 = .ok (.if_icmp .le 26, 3) := by decide +kernel
theorem dX5_calledOf_79 : decode cX5_calledOf 79 = .ok (.iload_n 3, 1) := by decide +kernel
theorem dX5_calledOf_80 : decode cX5_calledOf 80 = .ok (.bipush 10, 2) := by decide +kernel
theorem dX5_calledOf_82 : decode cX5_calledOf 82 = .ok (.if_icmp .ge 20, 3) := by decide +kernel
theorem dX5_calledOf_85 : decode cX5_calledOf 85 = .ok (.iload 4, 2) := by decide +kernel
theorem dX5_calledOf_87 : decode cX5_calledOf 87 = .ok (.aload_n 0, 1) := by decide +kernel
theorem dX5_calledOf_88 : decode cX5_calledOf 88 = .ok (.getfield 7, 3) := by decide +kernel
theorem dX5_calledOf_91 : decode cX5_calledOf 91 = .ok (.bipush 9, 2) := by decide +kernel
theorem dX5_calledOf_93 : decode cX5_calledOf 93 = .ok (.iload_n 3, 1) := by decide +kernel
theorem dX5_calledOf_94 : decode cX5_calledOf 94 = .ok (.iadd, 1) := by decide +kernel
theorem dX5_calledOf_95 : decode cX5_calledOf 95 = .ok (.iconst 2, 1) := by decide +kernel
theorem dX5_calledOf_96 : decode cX5_calledOf 96 = .ok (.isub, 1) := by decide +kernel
theorem dX5_calledOf_97 : decode cX5_calledOf 97 = .ok (.iaload, 1) := by decide +kernel
theorem dX5_calledOf_98 : decode cX5_calledOf 98 = .ok (.isub, 1) := by decide +kernel
theorem dX5_calledOf_99 : decode cX5_calledOf 99 = .ok (.goto 5, 3) := by decide +kernel
theorem dX5_calledOf_102 : decode cX5_calledOf 102 = .ok (.iload 4, 2) := by decide +kernel
theorem dX5_calledOf_104 : decode cX5_calledOf 104 = .ok (.ireturn, 1) := by decide +kernel
set_option maxRecDepth 20000 in
theorem ggX5_ifCalled_X5_isBond : GoodIn wsX5_ifCalled wsX5_isBond := goodIn_r _ [6, 7, 8, 9, 5, 10, 81, 82, 83, 84, 85, 86, 87, 88, 89, 90, 91, 92, 93, 94] (by decide +kernel) (by decide +kernel)
set_option maxRecDepth 20000 in
theorem gX5_ifCalled_X5_isBond : GoodIn wsX5_ifCalled (wsV RX5 113 RX5 yX5_isBond wsX5_isBond) := goodIn_app (goodIn_of _ (by decide +kernel)) ggX5_ifCalled_X5_isBond
set_option maxRecDepth 20000 in
theorem ggX5_ifCalled_X5_fails : GoodIn wsX5_ifCalled wsX5_fails := goodIn_r _ [14, 1, 81, 82, 83, 84, 85, 86, 87, 88, 89, 90, 91, 92, 93, 94] (by decide +kernel) (by decide +kernel)
set_option maxRecDepth 20000 in
theorem gX5_ifCalled_X5_fails : GoodIn wsX5_ifCalled (wsV RX5 64 RX5 yX5_fails wsX5_fails) := goodIn_app (goodIn_of _ (by decide +kernel)) ggX5_ifCalled_X5_fails
set_option maxRecDepth 20000 in
theorem ggX5_ifCalled_X5_isMoney : GoodIn wsX5_ifCalled wsX5_isMoney := goodIn_r _ [17, 18, 8, 9, 5, 10] (by decide +kernel) (by decide +kernel)
set_option maxRecDepth 20000 in
theorem gX5_ifCalled_X5_isMoney : GoodIn wsX5_ifCalled (va_wsS RX5 67 yX5_isMoney wsX5_isMoney) := goodIn_app (goodIn_of _ (by decide +kernel)) ggX5_ifCalled_X5_isMoney
set_option maxRecDepth 20000 in
theorem ggX5_ifCalled_X5_in : GoodIn wsX5_ifCalled wsX5_in := goodIn_r _ [10] (by decide +kernel) (by decide +kernel)
set_option maxRecDepth 20000 in
theorem gX5_ifCalled_X5_in : GoodIn wsX5_ifCalled (va_wsS RX5 35 yX5_in wsX5_in) := goodIn_app (goodIn_of _ (by decide +kernel)) ggX5_ifCalled_X5_in
set_option maxRecDepth 20000 in
theorem ggX5_ifCalled_X5_calledOf : GoodIn wsX5_ifCalled wsX5_calledOf := goodIn_r _ [22, 23, 24, 7, 25, 26, 27, 5, 28, 29, 30, 31, 32, 33, 34, 35, 36, 37, 38, 39, 40, 41, 42, 43, 44, 45, 46, 47, 48, 49, 50, 51, 52, 53, 54, 55, 56, 57, 58, 59, 60, 61, 62, 63, 64, 65, 66, 67, 68, 69, 70, 71, 72, 73, 74, 75, 76, 77, 78, 79, 80, 81, 82, 83, 84, 85, 86, 87, 88, 89, 90, 91, 92, 93, 94] (by decide +kernel) (by decide +kernel)
set_option maxRecDepth 20000 in
theorem gX5_ifCalled_X5_calledOf : GoodIn wsX5_ifCalled (wsV RX5 196 RX5 yX5_calledOf wsX5_calledOf) := goodIn_app (goodIn_of _ (by decide +kernel)) ggX5_ifCalled_X5_calledOf
theorem dX5_ifCalled_0 : decode cX5_ifCalled 0 = .ok (.aload_n 0, 1) := by decide +kernel
theorem dX5_ifCalled_1 : decode cX5_ifCalled 1 = .ok (.iconst 0, 1) := by decide +kernel
theorem dX5_ifCalled_2 : decode cX5_ifCalled 2 = .ok (.putfield 28, 3) := by decide +kernel
theorem dX5_ifCalled_5 : decode cX5_ifCalled 5 = .ok (.aload_n 0, 1) := by decide +kernel
theorem dX5_ifCalled_6 : decode cX5_ifCalled 6 = .ok (.iload_n 1, 1) := by decide +kernel
theorem dX5_ifCalled_7 : decode cX5_ifCalled 7 = .ok (.invokevirtual 113, 3) := by decide +kernel
theorem dX5_ifCalled_10 : decode cX5_ifCalled 10 = .ok (.ifCond .ne 9, 3) := by decide +kernel
theorem dX5_ifCalled_13 : decode cX5_ifCalled 13 = .ok (.aload_n 0, 1) := by decide +kernel
theorem dX5_ifCalled_14 : decode cX5_ifCalled 14 = .ok (.iconst 1, 1) := by decide +kernel
theorem dX5_ifCalled_15 : decode cX5_ifCalled 15 = .ok (.invokevirtual 64, 3) := by decide +kernel
theorem dX5_ifCalled_18 : decode cX5_ifCalled 18 = .ok (.ireturn, 1) := by decide +kernel
theorem dX5_ifCalled_19 : decode cX5_ifCalled 19 = .ok (.iload_n 2, 1) := by decide +kernel
theorem dX5_ifCalled_20 : decode cX5_ifCalled 20 = .ok (.invokestatic 67, 3) := by decide +kernel
theorem dX5_ifCalled_23 : decode cX5_ifCalled 23 = .ok (.ifCond .eq 23, 3) := by decide +kernel
theorem dX5_ifCalled_26 : decode cX5_ifCalled 26 = .ok (.iload_n 3, 1) := by decide +kernel
theorem dX5_ifCalled_27 : decode cX5_ifCalled 27 = .ok (.iconst 0, 1) := by decide +kernel
theorem dX5_ifCalled_28 : decode cX5_ifCalled 28 = .ok (.bipush 10, 2) := by decide +kernel
theorem dX5_ifCalled_30 : decode cX5_ifCalled 30 = .ok (.invokestatic 35, 3) := by decide +kernel
theorem dX5_ifCalled_33 : decode cX5_ifCalled 33 = .ok (.ifCond .eq 13, 3) := by decide +kernel
theorem dX5_ifCalled_36 : decode cX5_ifCalled 36 = .ok (.aload_n 0, 1) := by decide +kernel
theorem dX5_ifCalled_37 : decode cX5_ifCalled 37 = .ok (.iload_n 1, 1) := by decide +kernel
theorem dX5_ifCalled_38 : decode cX5_ifCalled 38 = .ok (.iload_n 2, 1) := by decide +kernel
theorem dX5_ifCalled_39 : decode cX5_ifCalled 39 = .ok (.iload_n 3, 1) := by decide +kernel
theorem dX5_ifCalled_40 : decode cX5_ifCalled 40 = .ok (.invokevirtual 196, 3) := by decide +kernel
theorem dX5_ifCalled_43 : decode cX5_ifCalled 43 = .ok (.goto 8, 3) := by decide +kernel
theorem dX5_ifCalled_46 : decode cX5_ifCalled 46 = .ok (.aload_n 0, 1) := by decide +kernel
theorem dX5_ifCalled_47 : decode cX5_ifCalled 47 = .ok (.iconst 2, 1) := by decide +kernel
theorem dX5_ifCalled_48 : decode cX5_ifCalled 48 = .ok (.invokevirtual 64, 3) := by decide +kernel
theorem dX5_ifCalled_51 : decode cX5_ifCalled 51 = .ok (.ireturn, 1) := by decide +kernel
set_option maxRecDepth 20000 in
theorem ggX5_thinOf_X5_runs : GoodIn wsX5_thinOf wsX5_runs := goodIn_r _ [6, 7, 8, 9, 5, 10, 61, 62, 63, 64, 65, 66, 67, 68, 69, 70, 71, 72, 73, 74] (by decide +kernel) (by decide +kernel)
set_option maxRecDepth 20000 in
theorem gX5_thinOf_X5_runs : GoodIn wsX5_thinOf (wsV RX5 116 RX5 yX5_runs wsX5_runs) := goodIn_app (goodIn_of _ (by decide +kernel)) ggX5_thinOf_X5_runs
set_option maxRecDepth 20000 in
theorem ggX5_thinOf_X5_putAside : GoodIn wsX5_thinOf wsX5_putAside := goodIn_r _ [14, 15, 7, 61, 62, 63, 64, 65, 66, 67, 68, 69, 70, 71, 72, 73, 74] (by decide +kernel) (by decide +kernel)
set_option maxRecDepth 20000 in
theorem gX5_thinOf_X5_putAside : GoodIn wsX5_thinOf (wsV RX5 190 RX5 yX5_putAside wsX5_putAside) := goodIn_app (goodIn_of _ (by decide +kernel)) ggX5_thinOf_X5_putAside
set_option maxRecDepth 20000 in
theorem ggX5_thinOf_X5_leftOf : GoodIn wsX5_thinOf wsX5_leftOf := goodIn_r _ [19, 7, 8, 9, 5, 10, 61, 62, 63, 64, 65, 66, 67, 68, 69, 70, 71, 72, 73, 74] (by decide +kernel) (by decide +kernel)
set_option maxRecDepth 20000 in
theorem gX5_thinOf_X5_leftOf : GoodIn wsX5_thinOf (wsV RX5 51 RX5 yX5_leftOf wsX5_leftOf) := goodIn_app (goodIn_of _ (by decide +kernel)) ggX5_thinOf_X5_leftOf
set_option maxRecDepth 20000 in
theorem ggX5_thinOf_X5_callNow : GoodIn wsX5_thinOf wsX5_callNow := goodIn_r _ [23, 7, 1, 24, 25, 26, 8, 9, 5, 10, 16, 17, 18, 19, 27, 28, 29, 30, 31, 32, 33, 34, 35, 36, 37, 38, 39, 40, 41, 42, 43, 44, 45, 46, 47, 48, 49, 50, 51, 52, 53, 54, 55, 56, 61, 62, 63, 64, 65, 66, 67, 68, 69, 70, 71, 72, 73, 74] (by decide +kernel) (by decide +kernel)
set_option maxRecDepth 20000 in
theorem gX5_thinOf_X5_callNow : GoodIn wsX5_thinOf (wsV RX5 119 RX5 yX5_callNow wsX5_callNow) := goodIn_app (goodIn_of _ (by decide +kernel)) ggX5_thinOf_X5_callNow
set_option maxRecDepth 20000 in
theorem ggX5_thinOf_X5_putBack : GoodIn wsX5_thinOf wsX5_putBack := goodIn_r _ [60, 7, 15, 61, 62, 63, 64, 65, 66, 67, 68, 69, 70, 71, 72, 73, 74] (by decide +kernel) (by decide +kernel)
set_option maxRecDepth 20000 in
theorem gX5_thinOf_X5_putBack : GoodIn wsX5_thinOf (wsV RX5 193 RX5 yX5_putBack wsX5_putBack) := goodIn_app (goodIn_of _ (by decide +kernel)) ggX5_thinOf_X5_putBack
theorem dX5_thinOf_0 : decode cX5_thinOf 0 = .ok (.aload_n 0, 1) := by decide +kernel
theorem dX5_thinOf_1 : decode cX5_thinOf 1 = .ok (.iload_n 1, 1) := by decide +kernel
theorem dX5_thinOf_2 : decode cX5_thinOf 2 = .ok (.invokevirtual 116, 3) := by decide +kernel
theorem dX5_thinOf_5 : decode cX5_thinOf 5 = .ok (.ifCond .ne 5, 3) := by decide +kernel
theorem dX5_thinOf_8 : decode cX5_thinOf 8 = .ok (.iconst (-1), 1) := by decide +kernel
theorem dX5_thinOf_9 : decode cX5_thinOf 9 = .ok (.ireturn, 1) := by decide +kernel
theorem dX5_thinOf_10 : decode cX5_thinOf 10 = .ok (.aload_n 0, 1) := by decide +kernel
theorem dX5_thinOf_11 : decode cX5_thinOf 11 = .ok (.invokevirtual 190, 3) := by decide +kernel
theorem dX5_thinOf_14 : decode cX5_thinOf 14 = .ok (.aload_n 0, 1) := by decide +kernel
theorem dX5_thinOf_15 : decode cX5_thinOf 15 = .ok (.iload_n 1, 1) := by decide +kernel
theorem dX5_thinOf_16 : decode cX5_thinOf 16 = .ok (.aload_n 0, 1) := by decide +kernel
theorem dX5_thinOf_17 : decode cX5_thinOf 17 = .ok (.iload_n 1, 1) := by decide +kernel
theorem dX5_thinOf_18 : decode cX5_thinOf 18 = .ok (.invokevirtual 51, 3) := by decide +kernel
theorem dX5_thinOf_21 : decode cX5_thinOf 21 = .ok (.invokevirtual 119, 3) := by decide +kernel
theorem dX5_thinOf_24 : decode cX5_thinOf 24 = .ok (.aload_n 0, 1) := by decide +kernel
theorem dX5_thinOf_25 : decode cX5_thinOf 25 = .ok (.invokevirtual 193, 3) := by decide +kernel
theorem dX5_thinOf_28 : decode cX5_thinOf 28 = .ok (.aload_n 0, 1) := by decide +kernel
theorem dX5_thinOf_29 : decode cX5_thinOf 29 = .ok (.getfield 86, 3) := by decide +kernel
theorem dX5_thinOf_32 : decode cX5_thinOf 32 = .ok (.ireturn, 1) := by decide +kernel
set_option maxRecDepth 20000 in
theorem ggX5_thin_X5_isBond : GoodIn wsX5_thin wsX5_isBond := goodIn_r _ [6, 7, 8, 9, 5, 10, 77, 78, 79, 80, 81, 82, 83, 84, 85, 86, 87, 88, 89, 90] (by decide +kernel) (by decide +kernel)
set_option maxRecDepth 20000 in
theorem gX5_thin_X5_isBond : GoodIn wsX5_thin (wsV RX5 113 RX5 yX5_isBond wsX5_isBond) := goodIn_app (goodIn_of _ (by decide +kernel)) ggX5_thin_X5_isBond
set_option maxRecDepth 20000 in
theorem ggX5_thin_X5_thinOf : GoodIn wsX5_thin wsX5_thinOf := goodIn_r _ [14, 15, 16, 17, 18, 5, 19, 7, 20, 21, 22, 23, 24, 25, 26, 27, 28, 29, 30, 31, 32, 33, 34, 35, 36, 37, 38, 39, 40, 41, 42, 43, 44, 45, 46, 47, 48, 49, 50, 51, 52, 53, 54, 55, 56, 57, 58, 59, 60, 61, 62, 63, 64, 65, 66, 67, 68, 69, 70, 71, 72, 77, 78, 79, 80, 81, 82, 83, 84, 85, 86, 87, 88, 89, 90] (by decide +kernel) (by decide +kernel)
set_option maxRecDepth 20000 in
theorem gX5_thin_X5_thinOf : GoodIn wsX5_thin (wsV RX5 199 RX5 yX5_thinOf wsX5_thinOf) := goodIn_app (goodIn_of _ (by decide +kernel)) ggX5_thin_X5_thinOf
set_option maxRecDepth 20000 in
theorem ggX5_thin_X5_fails : GoodIn wsX5_thin wsX5_fails := goodIn_r _ [76, 1, 77, 78, 79, 80, 81, 82, 83, 84, 85, 86, 87, 88, 89, 90] (by decide +kernel) (by decide +kernel)
set_option maxRecDepth 20000 in
theorem gX5_thin_X5_fails : GoodIn wsX5_thin (wsV RX5 64 RX5 yX5_fails wsX5_fails) := goodIn_app (goodIn_of _ (by decide +kernel)) ggX5_thin_X5_fails
theorem dX5_thin_0 : decode cX5_thin 0 = .ok (.aload_n 0, 1) := by decide +kernel
theorem dX5_thin_1 : decode cX5_thin 1 = .ok (.iconst 0, 1) := by decide +kernel
theorem dX5_thin_2 : decode cX5_thin 2 = .ok (.putfield 28, 3) := by decide +kernel
theorem dX5_thin_5 : decode cX5_thin 5 = .ok (.aload_n 0, 1) := by decide +kernel
theorem dX5_thin_6 : decode cX5_thin 6 = .ok (.iload_n 1, 1) := by decide +kernel
theorem dX5_thin_7 : decode cX5_thin 7 = .ok (.invokevirtual 113, 3) := by decide +kernel
theorem dX5_thin_10 : decode cX5_thin 10 = .ok (.ifCond .eq 11, 3) := by decide +kernel
theorem dX5_thin_13 : decode cX5_thin 13 = .ok (.aload_n 0, 1) := by decide +kernel
theorem dX5_thin_14 : decode cX5_thin 14 = .ok (.iload_n 1, 1) := by decide +kernel
theorem dX5_thin_15 : decode cX5_thin 15 = .ok (.invokevirtual 199, 3) := by decide +kernel
theorem dX5_thin_18 : decode cX5_thin 18 = .ok (.goto 8, 3) := by decide +kernel
theorem dX5_thin_21 : decode cX5_thin 21 = .ok (.aload_n 0, 1) := by decide +kernel
theorem dX5_thin_22 : decode cX5_thin 22 = .ok (.iconst 1, 1) := by decide +kernel
theorem dX5_thin_23 : decode cX5_thin 23 = .ok (.invokevirtual 64, 3) := by decide +kernel
theorem dX5_thin_26 : decode cX5_thin 26 = .ok (.ireturn, 1) := by decide +kernel
set_option maxRecDepth 20000 in
theorem ggX5_worstOf_X5_leftOf : GoodIn wsX5_worstOf wsX5_leftOf := goodIn_r _ [6, 1, 7, 8, 5, 9, 65, 66, 67, 68, 69, 70, 71, 72, 73, 74, 75, 76, 77, 78] (by decide +kernel) (by decide +kernel)
set_option maxRecDepth 20000 in
theorem gX5_worstOf_X5_leftOf : GoodIn wsX5_worstOf (wsV RX5 51 RX5 yX5_leftOf wsX5_leftOf) := goodIn_app (goodIn_of _ (by decide +kernel)) ggX5_worstOf_X5_leftOf
set_option maxRecDepth 20000 in
theorem ggX5_worstOf_X5_calledOf : GoodIn wsX5_worstOf wsX5_calledOf := goodIn_r _ [13, 14, 15, 1, 16, 17, 18, 5, 19, 7, 8, 9, 20, 21, 22, 23, 24, 25, 26, 27, 28, 29, 30, 2, 3, 4, 6, 31, 32, 33, 34, 35, 36, 37, 38, 39, 40, 41, 42, 43, 44, 45, 46, 47, 48, 49, 50, 51, 52, 53, 54, 55, 56, 57, 58, 59, 60, 61, 62, 63, 64, 65, 66, 67, 68, 69, 70, 71, 72, 73, 74, 75, 76, 77, 78] (by decide +kernel) (by decide +kernel)
set_option maxRecDepth 20000 in
theorem gX5_worstOf_X5_calledOf : GoodIn wsX5_worstOf (wsV RX5 196 RX5 yX5_calledOf wsX5_calledOf) := goodIn_app (goodIn_of _ (by decide +kernel)) ggX5_worstOf_X5_calledOf
theorem dX5_worstOf_0 : decode cX5_worstOf 0 = .ok (.iconst (-1), 1) := by decide +kernel
theorem dX5_worstOf_1 : decode cX5_worstOf 1 = .ok (.istore_n 1, 1) := by decide +kernel
theorem dX5_worstOf_2 : decode cX5_worstOf 2 = .ok (.iconst 0, 1) := by decide +kernel
theorem dX5_worstOf_3 : decode cX5_worstOf 3 = .ok (.istore_n 2, 1) := by decide +kernel
theorem dX5_worstOf_4 : decode cX5_worstOf 4 = .ok (.iconst 0, 1) := by decide +kernel
theorem dX5_worstOf_5 : decode cX5_worstOf 5 = .ok (.istore_n 3, 1) := by decide +kernel
theorem dX5_worstOf_6 : decode cX5_worstOf 6 = .ok (.iload_n 3, 1) := by decide +kernel
theorem dX5_worstOf_7 : decode cX5_worstOf 7 = .ok (.aload_n 0, 1) := by decide +kernel
theorem dX5_worstOf_8 : decode cX5_worstOf 8 = .ok (.getfield 7, 3) := by decide +kernel
theorem dX5_worstOf_11 : decode cX5_worstOf 11 = .ok (.iconst 0, 1) := by decide +kernel
theorem dX5_worstOf_12 : decode cX5_worstOf 12 = .ok (.iaload, 1) := by decide +kernel
theorem dX5_worstOf_13 : decode cX5_worstOf 13 = .ok (.if_icmp .ge 47, 3) := by decide +kernel
theorem dX5_worstOf_16 : decode cX5_worstOf 16 = .ok (.aload_n 0, 1) := by decide +kernel
theorem dX5_worstOf_17 : decode cX5_worstOf 17 = .ok (.iload_n 3, 1) := by decide +kernel
theorem dX5_worstOf_18 : decode cX5_worstOf 18 = .ok (.aload_n 0, 1) := by decide +kernel
theorem dX5_worstOf_19 : decode cX5_worstOf 19 = .ok (.iload_n 3, 1) := by decide +kernel
theorem dX5_worstOf_20 : decode cX5_worstOf 20 = .ok (.invokevirtual 51, 3) := by decide +kernel
theorem dX5_worstOf_23 : decode cX5_worstOf 23 = .ok (.iconst 1, 1) := by decide +kernel
theorem dX5_worstOf_24 : decode cX5_worstOf 24 = .ok (.invokevirtual 196, 3) := by decide +kernel
theorem dX5_worstOf_27 : decode cX5_worstOf 27 = .ok (.istore 4, 2) := by decide +kernel
theorem dX5_worstOf_29 : decode cX5_worstOf 29 = .ok (.iload 4, 2) := by decide +kernel
theorem dX5_worstOf_31 : decode cX5_worstOf 31 = .ok (.iload_n 2, 1) := by decide +kernel
theorem dX5_worstOf_32 : decode cX5_worstOf 32 = .ok (.if_icmp .le 7, 3) := by decide +kernel
theorem dX5_worstOf_35 : decode cX5_worstOf 35 = .ok (.iload_n 3, 1) := by decide +kernel
theorem dX5_worstOf_36 : decode cX5_worstOf 36 = .ok (.goto 4, 3) := by decide +kernel
theorem dX5_worstOf_39 : decode cX5_worstOf 39 = .ok (.iload_n 1, 1) := by decide +kernel
theorem dX5_worstOf_40 : decode cX5_worstOf 40 = .ok (.istore_n 1, 1) := by decide +kernel
theorem dX5_worstOf_41 : decode cX5_worstOf 41 = .ok (.iload 4, 2) := by decide +kernel
theorem dX5_worstOf_43 : decode cX5_worstOf 43 = .ok (.iload_n 2, 1) := by decide +kernel
theorem dX5_worstOf_44 : decode cX5_worstOf 44 = .ok (.if_icmp .le 8, 3) := by decide +kernel
theorem dX5_worstOf_47 : decode cX5_worstOf 47 = .ok (.iload 4, 2) := by decide +kernel
theorem dX5_worstOf_49 : decode cX5_worstOf 49 = .ok (.goto 4, 3) := by decide +kernel
theorem dX5_worstOf_52 : decode cX5_worstOf 52 = .ok (.iload_n 2, 1) := by decide +kernel
theorem dX5_worstOf_53 : decode cX5_worstOf 53 = .ok (.istore_n 2, 1) := by decide +kernel
theorem dX5_worstOf_54 : decode cX5_worstOf 54 = .ok (.iinc 3 1, 3) := by decide +kernel
theorem dX5_worstOf_57 : decode cX5_worstOf 57 = .ok (.goto (-51), 3) := by decide +kernel
theorem dX5_worstOf_60 : decode cX5_worstOf 60 = .ok (.iload_n 1, 1) := by decide +kernel
theorem dX5_worstOf_61 : decode cX5_worstOf 61 = .ok (.ireturn, 1) := by decide +kernel
set_option maxRecDepth 20000 in
theorem ggX5_worst_X5_worstOf : GoodIn wsX5_worst wsX5_worstOf := goodIn_r _ [6, 7, 8, 9, 10, 5, 11, 12, 13, 14, 15, 16, 17, 18, 19, 20, 21, 22, 23, 24, 25, 26, 27, 28, 29, 30, 31, 32, 33, 34, 35, 36, 37, 38, 39, 40, 41, 42, 43, 44, 45, 46, 47, 48, 49, 50, 51, 52, 53, 54, 55, 56, 57, 58, 59, 60, 61, 62, 63, 64, 65, 66, 67, 68, 69, 70, 71, 72, 73, 74, 75, 76, 77, 78, 79, 80, 81, 82, 83] (by decide +kernel) (by decide +kernel)
set_option maxRecDepth 20000 in
theorem gX5_worst_X5_worstOf : GoodIn wsX5_worst (wsV RX5 202 RX5 yX5_worstOf wsX5_worstOf) := goodIn_app (goodIn_of _ (by decide +kernel)) ggX5_worst_X5_worstOf
theorem dX5_worst_0 : decode cX5_worst 0 = .ok (.aload_n 0, 1) := by decide +kernel
theorem dX5_worst_1 : decode cX5_worst 1 = .ok (.iconst 0, 1) := by decide +kernel
theorem dX5_worst_2 : decode cX5_worst 2 = .ok (.putfield 28, 3) := by decide +kernel
theorem dX5_worst_5 : decode cX5_worst 5 = .ok (.aload_n 0, 1) := by decide +kernel
theorem dX5_worst_6 : decode cX5_worst 6 = .ok (.invokevirtual 202, 3) := by decide +kernel
theorem dX5_worst_9 : decode cX5_worst 9 = .ok (.ireturn, 1) := by decide +kernel
set_option maxRecDepth 20000 in
theorem ggX5_spare_X5_isPerson : GoodIn wsX5_spare wsX5_isPerson := goodIn_r _ [5, 6, 7, 4, 8] (by decide +kernel) (by decide +kernel)
set_option maxRecDepth 20000 in
theorem gX5_spare_X5_isPerson : GoodIn wsX5_spare (va_wsS RX5 60 yX5_isPerson wsX5_isPerson) := goodIn_app (goodIn_of _ (by decide +kernel)) ggX5_spare_X5_isPerson
set_option maxRecDepth 20000 in
theorem ggX5_spare_X5_spareOf : GoodIn wsX5_spare wsX5_spareOf := goodIn_r _ [12, 13, 14, 15, 16, 4, 17, 18, 19, 20, 21, 22, 23, 28, 29, 30, 31, 32, 33, 34, 35, 36, 37, 38, 39, 40, 41] (by decide +kernel) (by decide +kernel)
set_option maxRecDepth 20000 in
theorem gX5_spare_X5_spareOf : GoodIn wsX5_spare (wsV RX5 73 RX5 yX5_spareOf wsX5_spareOf) := goodIn_app (goodIn_of _ (by decide +kernel)) ggX5_spare_X5_spareOf
set_option maxRecDepth 20000 in
theorem ggX5_spare_X5_fails : GoodIn wsX5_spare wsX5_fails := goodIn_r _ [27, 1, 28, 29, 30, 31, 32, 33, 34, 35, 36, 37, 38, 39, 40, 41] (by decide +kernel) (by decide +kernel)
set_option maxRecDepth 20000 in
theorem gX5_spare_X5_fails : GoodIn wsX5_spare (wsV RX5 64 RX5 yX5_fails wsX5_fails) := goodIn_app (goodIn_of _ (by decide +kernel)) ggX5_spare_X5_fails
theorem dX5_spare_0 : decode cX5_spare 0 = .ok (.aload_n 0, 1) := by decide +kernel
theorem dX5_spare_1 : decode cX5_spare 1 = .ok (.iconst 0, 1) := by decide +kernel
theorem dX5_spare_2 : decode cX5_spare 2 = .ok (.putfield 28, 3) := by decide +kernel
theorem dX5_spare_5 : decode cX5_spare 5 = .ok (.iload_n 1, 1) := by decide +kernel
theorem dX5_spare_6 : decode cX5_spare 6 = .ok (.invokestatic 60, 3) := by decide +kernel
theorem dX5_spare_9 : decode cX5_spare 9 = .ok (.ifCond .eq 11, 3) := by decide +kernel
theorem dX5_spare_12 : decode cX5_spare 12 = .ok (.aload_n 0, 1) := by decide +kernel
theorem dX5_spare_13 : decode cX5_spare 13 = .ok (.iload_n 1, 1) := by decide +kernel
theorem dX5_spare_14 : decode cX5_spare 14 = .ok (.invokevirtual 73, 3) := by decide +kernel
theorem dX5_spare_17 : decode cX5_spare 17 = .ok (.goto 8, 3) := by decide +kernel
theorem dX5_spare_20 : decode cX5_spare 20 = .ok (.aload_n 0, 1) := by decide +kernel
theorem dX5_spare_21 : decode cX5_spare 21 = .ok (.iconst 1, 1) := by decide +kernel
theorem dX5_spare_22 : decode cX5_spare 22 = .ok (.invokevirtual 64, 3) := by decide +kernel
theorem dX5_spare_25 : decode cX5_spare 25 = .ok (.ireturn, 1) := by decide +kernel
theorem dX5_shareOf_0 : decode cX5_shareOf 0 = .ok (.aload_n 0, 1) := by decide +kernel
theorem dX5_shareOf_1 : decode cX5_shareOf 1 = .ok (.getfield 7, 3) := by decide +kernel
theorem dX5_shareOf_4 : decode cX5_shareOf 4 = .ok (.iconst 2, 1) := by decide +kernel
theorem dX5_shareOf_5 : decode cX5_shareOf 5 = .ok (.iaload, 1) := by decide +kernel
theorem dX5_shareOf_6 : decode cX5_shareOf 6 = .ok (.ifCond .ne 7, 3) := by decide +kernel
theorem dX5_shareOf_9 : decode cX5_shareOf 9 = .ok (.dconst 1, 1) := by decide +kernel
theorem dX5_shareOf_10 : decode cX5_shareOf 10 = .ok (.goto 18, 3) := by decide +kernel
theorem dX5_shareOf_13 : decode cX5_shareOf 13 = .ok (.aload_n 0, 1) := by decide +kernel
theorem dX5_shareOf_14 : decode cX5_shareOf 14 = .ok (.getfield 7, 3) := by decide +kernel
theorem dX5_shareOf_17 : decode cX5_shareOf 17 = .ok (.iconst 3, 1) := by decide +kernel
theorem dX5_shareOf_18 : decode cX5_shareOf 18 = .ok (.iaload, 1) := by decide +kernel
theorem dX5_shareOf_19 : decode cX5_shareOf 19 = .ok (.i2d, 1) := by decide +kernel
theorem dX5_shareOf_20 : decode cX5_shareOf 20 = .ok (.aload_n 0, 1) := by decide +kernel
theorem dX5_shareOf_21 : decode cX5_shareOf 21 = .ok (.getfield 7, 3) := by decide +kernel
theorem dX5_shareOf_24 : decode cX5_shareOf 24 = .ok (.iconst 2, 1) := by decide +kernel
theorem dX5_shareOf_25 : decode cX5_shareOf 25 = .ok (.iaload, 1) := by decide +kernel
theorem dX5_shareOf_26 : decode cX5_shareOf 26 = .ok (.i2d, 1) := by decide +kernel
theorem dX5_shareOf_27 : decode cX5_shareOf 27 = .ok (.ddiv, 1) := by decide +kernel
theorem dX5_shareOf_28 : decode cX5_shareOf 28 = .ok (.dreturn, 1) := by decide +kernel
set_option maxRecDepth 20000 in
theorem ggX5_paidShare_X5_shareOf : GoodIn wsX5_paidShare wsX5_shareOf := goodIn_r _ [6, 7, 8, 9, 10, 11, 12, 13, 14, 15, 16, 17, 18, 19, 20, 21] (by decide +kernel) (by decide +kernel)
set_option maxRecDepth 20000 in
theorem gX5_paidShare_X5_shareOf : GoodIn wsX5_paidShare (wsV RX5 205 RX5 yX5_shareOf wsX5_shareOf) := goodIn_app (goodIn_of _ (by decide +kernel)) ggX5_paidShare_X5_shareOf
theorem dX5_paidShare_0 : decode cX5_paidShare 0 = .ok (.aload_n 0, 1) := by decide +kernel
theorem dX5_paidShare_1 : decode cX5_paidShare 1 = .ok (.iconst 0, 1) := by decide +kernel
theorem dX5_paidShare_2 : decode cX5_paidShare 2 = .ok (.putfield 28, 3) := by decide +kernel
theorem dX5_paidShare_5 : decode cX5_paidShare 5 = .ok (.aload_n 0, 1) := by decide +kernel
theorem dX5_paidShare_6 : decode cX5_paidShare 6 = .ok (.invokevirtual 205, 3) := by decide +kernel
theorem dX5_paidShare_9 : decode cX5_paidShare 9 = .ok (.dreturn, 1) := by decide +kernel
theorem dX5_mix_0 : decode cX5_mix 0 = .ok (.aload_n 0, 1) := by decide +kernel
theorem dX5_mix_1 : decode cX5_mix 1 = .ok (.ldc2_w 209, 3) := by decide +kernel
theorem dX5_mix_4 : decode cX5_mix 4 = .ok (.aload_n 0, 1) := by decide +kernel
theorem dX5_mix_5 : decode cX5_mix 5 = .ok (.getfield 211, 3) := by decide +kernel
theorem dX5_mix_8 : decode cX5_mix 8 = .ok (.lmul, 1) := by decide +kernel
theorem dX5_mix_9 : decode cX5_mix 9 = .ok (.lload_n 1, 1) := by decide +kernel
theorem dX5_mix_10 : decode cX5_mix 10 = .ok (.ladd, 1) := by decide +kernel
theorem dX5_mix_11 : decode cX5_mix 11 = .ok (.putfield 211, 3) := by decide +kernel
theorem dX5_mix_14 : decode cX5_mix 14 = .ok (.return_, 1) := by decide +kernel
set_option maxRecDepth 20000 in
theorem ggX5_mixPerson_X5_personOf : GoodIn wsX5_mixPerson wsX5_personOf := goodIn_r _ [6, 1, 7, 8, 9, 5, 10, 11, 12, 13, 14, 15, 16, 17, 18, 19, 20, 21, 22, 23, 24, 25, 26, 27, 28, 29, 30, 31, 32, 33, 34, 35, 46, 47, 48, 49, 50, 51, 52, 53, 54, 55, 56, 57, 58, 59] (by decide +kernel) (by decide +kernel)
set_option maxRecDepth 20000 in
theorem gX5_mixPerson_X5_personOf : GoodIn wsX5_mixPerson (wsV RX5 175 RX5 yX5_personOf wsX5_personOf) := goodIn_app (goodIn_of _ (by decide +kernel)) ggX5_mixPerson_X5_personOf
set_option maxRecDepth 20000 in
theorem ggX5_mixPerson_X5_mix : GoodIn wsX5_mixPerson wsX5_mix := goodIn_r _ [39, 40, 41, 46, 47, 48, 49, 50, 51, 52, 53, 54, 55, 56, 57, 58, 59] (by decide +kernel) (by decide +kernel)
set_option maxRecDepth 20000 in
theorem gX5_mixPerson_X5_mix : GoodIn wsX5_mixPerson (wsV RX5 215 RX5 yX5_mix wsX5_mix) := goodIn_app (goodIn_of _ (by decide +kernel)) ggX5_mixPerson_X5_mix
set_option maxRecDepth 20000 in
theorem ggX5_mixPerson_X5_spareOf : GoodIn wsX5_mixPerson wsX5_spareOf := goodIn_r _ [45, 1, 14, 15, 16, 5, 17, 18, 19, 20, 21, 22, 23, 46, 47, 48, 49, 50, 51, 52, 53, 54, 55, 56, 57, 58, 59] (by decide +kernel) (by decide +kernel)
set_option maxRecDepth 20000 in
theorem gX5_mixPerson_X5_spareOf : GoodIn wsX5_mixPerson (wsV RX5 73 RX5 yX5_spareOf wsX5_spareOf) := goodIn_app (goodIn_of _ (by decide +kernel)) ggX5_mixPerson_X5_spareOf
set_option maxRecDepth 20000 in
theorem ggX5_mixPerson_X5_debtAt : GoodIn wsX5_mixPerson wsX5_debtAt := goodIn_r _ [13] (by decide +kernel) (by decide +kernel)
set_option maxRecDepth 20000 in
theorem gX5_mixPerson_X5_debtAt : GoodIn wsX5_mixPerson (va_wsS RX5 80 yX5_debtAt wsX5_debtAt) := goodIn_app (goodIn_of _ (by decide +kernel)) ggX5_mixPerson_X5_debtAt
theorem dX5_mixPerson_0 : decode cX5_mixPerson 0 = .ok (.iconst 0, 1) := by decide +kernel
theorem dX5_mixPerson_1 : decode cX5_mixPerson 1 = .ok (.istore_n 2, 1) := by decide +kernel
theorem dX5_mixPerson_2 : decode cX5_mixPerson 2 = .ok (.iload_n 2, 1) := by decide +kernel
theorem dX5_mixPerson_3 : decode cX5_mixPerson 3 = .ok (.bipush 11, 2) := by decide +kernel
theorem dX5_mixPerson_5 : decode cX5_mixPerson 5 = .ok (.if_icmp .ge 20, 3) := by decide +kernel
theorem dX5_mixPerson_8 : decode cX5_mixPerson 8 = .ok (.aload_n 0, 1) := by decide +kernel
theorem dX5_mixPerson_9 : decode cX5_mixPerson 9 = .ok (.aload_n 0, 1) := by decide +kernel
theorem dX5_mixPerson_10 : decode cX5_mixPerson 10 = .ok (.iload_n 1, 1) := by decide +kernel
theorem dX5_mixPerson_11 : decode cX5_mixPerson 11 = .ok (.iload_n 2, 1) := by decide +kernel
theorem dX5_mixPerson_12 : decode cX5_mixPerson 12 = .ok (.invokevirtual 175, 3) := by decide +kernel
theorem dX5_mixPerson_15 : decode cX5_mixPerson 15 = .ok (.i2l, 1) := by decide +kernel
theorem dX5_mixPerson_16 : decode cX5_mixPerson 16 = .ok (.invokevirtual 215, 3) := by decide +kernel
theorem dX5_mixPerson_19 : decode cX5_mixPerson 19 = .ok (.iinc 2 1, 3) := by decide +kernel
theorem dX5_mixPerson_22 : decode cX5_mixPerson 22 = .ok (.goto (-20), 3) := by decide +kernel
theorem dX5_mixPerson_25 : decode cX5_mixPerson 25 = .ok (.aload_n 0, 1) := by decide +kernel
theorem dX5_mixPerson_26 : decode cX5_mixPerson 26 = .ok (.aload_n 0, 1) := by decide +kernel
theorem dX5_mixPerson_27 : decode cX5_mixPerson 27 = .ok (.iload_n 1, 1) := by decide +kernel
theorem dX5_mixPerson_28 : decode cX5_mixPerson 28 = .ok (.invokevirtual 73, 3) := by decide +kernel
theorem dX5_mixPerson_31 : decode cX5_mixPerson 31 = .ok (.i2l, 1) := by decide +kernel
theorem dX5_mixPerson_32 : decode cX5_mixPerson 32 = .ok (.invokevirtual 215, 3) := by decide +kernel
theorem dX5_mixPerson_35 : decode cX5_mixPerson 35 = .ok (.iconst 0, 1) := by decide +kernel
theorem dX5_mixPerson_36 : decode cX5_mixPerson 36 = .ok (.istore_n 2, 1) := by decide +kernel
theorem dX5_mixPerson_37 : decode cX5_mixPerson 37 = .ok (.iload_n 2, 1) := by decide +kernel
theorem dX5_mixPerson_38 : decode cX5_mixPerson 38 = .ok (.bipush 8, 2) := by decide +kernel
theorem dX5_mixPerson_40 : decode cX5_mixPerson 40 = .ok (.if_icmp .ge 24, 3) := by decide +kernel
theorem dX5_mixPerson_43 : decode cX5_mixPerson 43 = .ok (.aload_n 0, 1) := by decide +kernel
theorem dX5_mixPerson_44 : decode cX5_mixPerson 44 = .ok (.aload_n 0, 1) := by decide +kernel
theorem dX5_mixPerson_45 : decode cX5_mixPerson 45 = .ok (.getfield 7, 3) := by decide +kernel
theorem dX5_mixPerson_48 : decode cX5_mixPerson 48 = .ok (.iload_n 1, 1) := by decide +kernel
theorem dX5_mixPerson_49 : decode cX5_mixPerson 49 = .ok (.iload_n 2, 1) := by decide +kernel
theorem dX5_mixPerson_50 : decode cX5_mixPerson 50 = .ok (.invokestatic 80, 3) := by decide +kernel
theorem dX5_mixPerson_53 : decode cX5_mixPerson 53 = .ok (.iaload, 1) := by decide +kernel
theorem dX5_mixPerson_54 : decode cX5_mixPerson 54 = .ok (.i2l, 1) := by decide +kernel
theorem dX5_mixPerson_55 : decode cX5_mixPerson 55 = .ok (.invokevirtual 215, 3) := by decide +kernel
theorem dX5_mixPerson_58 : decode cX5_mixPerson 58 = .ok (.iinc 2 1, 3) := by decide +kernel
theorem dX5_mixPerson_61 : decode cX5_mixPerson 61 = .ok (.goto (-24), 3) := by decide +kernel
theorem dX5_mixPerson_64 : decode cX5_mixPerson 64 = .ok (.return_, 1) := by decide +kernel
set_option maxRecDepth 20000 in
theorem ggX5_mixBond_X5_bondOf : GoodIn wsX5_mixBond wsX5_bondOf := goodIn_r _ [6, 1, 7, 8, 5, 9, 10, 11, 12, 13, 14, 15, 16, 17, 18, 19, 20, 79, 80, 81, 82, 83, 84, 85, 86, 87, 88, 89, 90, 91, 92] (by decide +kernel) (by decide +kernel)
set_option maxRecDepth 20000 in
theorem gX5_mixBond_X5_bondOf : GoodIn wsX5_mixBond (wsV RX5 178 RX5 yX5_bondOf wsX5_bondOf) := goodIn_app (goodIn_of _ (by decide +kernel)) ggX5_mixBond_X5_bondOf
set_option maxRecDepth 20000 in
theorem ggX5_mixBond_X5_mix : GoodIn wsX5_mixBond wsX5_mix := goodIn_r _ [24, 25, 26, 79, 80, 81, 82, 83, 84, 85, 86, 87, 88, 89, 90, 91, 92] (by decide +kernel) (by decide +kernel)
set_option maxRecDepth 20000 in
theorem gX5_mixBond_X5_mix : GoodIn wsX5_mixBond (wsV RX5 215 RX5 yX5_mix wsX5_mix) := goodIn_app (goodIn_of _ (by decide +kernel)) ggX5_mixBond_X5_mix
set_option maxRecDepth 20000 in
theorem ggX5_mixBond_X5_at : GoodIn wsX5_mixBond wsX5_at := goodIn_r _ [9] (by decide +kernel) (by decide +kernel)
set_option maxRecDepth 20000 in
theorem gX5_mixBond_X5_at : GoodIn wsX5_mixBond (va_wsS RX5 40 yX5_at wsX5_at) := goodIn_app (goodIn_of _ (by decide +kernel)) ggX5_mixBond_X5_at
set_option maxRecDepth 20000 in
theorem ggX5_mixBond_X5_calledOf : GoodIn wsX5_mixBond wsX5_calledOf := goodIn_r _ [30, 31, 32, 1, 33, 34, 35, 5, 36, 7, 8, 9, 37, 38, 39, 40, 41, 42, 43, 44, 45, 46, 47, 10, 11, 12, 13, 48, 49, 50, 51, 52, 53, 54, 55, 14, 15, 16, 17, 18, 19, 20, 56, 57, 58, 59, 60, 61, 62, 63, 64, 65, 66, 67, 68, 69, 70, 71, 72, 73, 74, 79, 80, 81, 82, 83, 84, 85, 86, 87, 88, 89, 90, 91, 92] (by decide +kernel) (by decide +kernel)
set_option maxRecDepth 20000 in
theorem gX5_mixBond_X5_calledOf : GoodIn wsX5_mixBond (wsV RX5 196 RX5 yX5_calledOf wsX5_calledOf) := goodIn_app (goodIn_of _ (by decide +kernel)) ggX5_mixBond_X5_calledOf
set_option maxRecDepth 20000 in
theorem ggX5_mixBond_X5_thinOf : GoodIn wsX5_mixBond wsX5_thinOf := goodIn_r _ [78, 46, 33, 34, 35, 5, 36, 1, 7, 8, 9, 37, 38, 39, 40, 41, 10, 11, 12, 13, 42, 43, 44, 45, 31, 47, 32, 48, 49, 50, 51, 52, 53, 54, 55, 14, 15, 16, 17, 18, 19, 20, 56, 57, 58, 59, 60, 61, 62, 63, 64, 65, 66, 67, 68, 69, 70, 71, 72, 73, 74, 79, 80, 81, 82, 83, 84, 85, 86, 87, 88, 89, 90, 91, 92] (by decide +kernel) (by decide +kernel)
set_option maxRecDepth 20000 in
theorem gX5_mixBond_X5_thinOf : GoodIn wsX5_mixBond (wsV RX5 199 RX5 yX5_thinOf wsX5_thinOf) := goodIn_app (goodIn_of _ (by decide +kernel)) ggX5_mixBond_X5_thinOf
theorem dX5_mixBond_0 : decode cX5_mixBond 0 = .ok (.iconst 0, 1) := by decide +kernel
theorem dX5_mixBond_1 : decode cX5_mixBond 1 = .ok (.istore_n 2, 1) := by decide +kernel
theorem dX5_mixBond_2 : decode cX5_mixBond 2 = .ok (.iload_n 2, 1) := by decide +kernel
theorem dX5_mixBond_3 : decode cX5_mixBond 3 = .ok (.bipush 12, 2) := by decide +kernel
theorem dX5_mixBond_5 : decode cX5_mixBond 5 = .ok (.if_icmp .ge 20, 3) := by decide +kernel
theorem dX5_mixBond_8 : decode cX5_mixBond 8 = .ok (.aload_n 0, 1) := by decide +kernel
theorem dX5_mixBond_9 : decode cX5_mixBond 9 = .ok (.aload_n 0, 1) := by decide +kernel
theorem dX5_mixBond_10 : decode cX5_mixBond 10 = .ok (.iload_n 1, 1) := by decide +kernel
theorem dX5_mixBond_11 : decode cX5_mixBond 11 = .ok (.iload_n 2, 1) := by decide +kernel
theorem dX5_mixBond_12 : decode cX5_mixBond 12 = .ok (.invokevirtual 178, 3) := by decide +kernel
theorem dX5_mixBond_15 : decode cX5_mixBond 15 = .ok (.i2l, 1) := by decide +kernel
theorem dX5_mixBond_16 : decode cX5_mixBond 16 = .ok (.invokevirtual 215, 3) := by decide +kernel
theorem dX5_mixBond_19 : decode cX5_mixBond 19 = .ok (.iinc 2 1, 3) := by decide +kernel
theorem dX5_mixBond_22 : decode cX5_mixBond 22 = .ok (.goto (-20), 3) := by decide +kernel
theorem dX5_mixBond_25 : decode cX5_mixBond 25 = .ok (.iconst 0, 1) := by decide +kernel
theorem dX5_mixBond_26 : decode cX5_mixBond 26 = .ok (.istore_n 2, 1) := by decide +kernel
theorem dX5_mixBond_27 : decode cX5_mixBond 27 = .ok (.iload_n 2, 1) := by decide +kernel
theorem dX5_mixBond_28 : decode cX5_mixBond 28 = .ok (.iconst 4, 1) := by decide +kernel
theorem dX5_mixBond_29 : decode cX5_mixBond 29 = .ok (.aload_n 0, 1) := by decide +kernel
theorem dX5_mixBond_30 : decode cX5_mixBond 30 = .ok (.getfield 7, 3) := by decide +kernel
theorem dX5_mixBond_33 : decode cX5_mixBond 33 = .ok (.iload_n 1, 1) := by decide +kernel
theorem dX5_mixBond_34 : decode cX5_mixBond 34 = .ok (.invokestatic 40, 3) := by decide +kernel
theorem dX5_mixBond_37 : decode cX5_mixBond 37 = .ok (.iconst 3, 1) := by decide +kernel
theorem dX5_mixBond_38 : decode cX5_mixBond 38 = .ok (.iadd, 1) := by decide +kernel
theorem dX5_mixBond_39 : decode cX5_mixBond 39 = .ok (.iaload, 1) := by decide +kernel
theorem dX5_mixBond_40 : decode cX5_mixBond 40 = .ok (.imul, 1) := by decide +kernel
theorem dX5_mixBond_41 : decode cX5_mixBond 41 = .ok (.if_icmp .ge 28, 3) := by decide +kernel
theorem dX5_mixBond_44 : decode cX5_mixBond 44 = .ok (.aload_n 0, 1) := by decide +kernel
theorem dX5_mixBond_45 : decode cX5_mixBond 45 = .ok (.aload_n 0, 1) := by decide +kernel
theorem dX5_mixBond_46 : decode cX5_mixBond 46 = .ok (.getfield 7, 3) := by decide +kernel
theorem dX5_mixBond_49 : decode cX5_mixBond 49 = .ok (.iload_n 1, 1) := by decide +kernel
theorem dX5_mixBond_50 : decode cX5_mixBond 50 = .ok (.invokestatic 40, 3) := by decide +kernel
theorem dX5_mixBond_53 : decode cX5_mixBond 53 = .ok (.bipush 15, 2) := by decide +kernel
theorem dX5_mixBond_55 : decode cX5_mixBond 55 = .ok (.iadd, 1) := by decide +kernel
theorem dX5_mixBond_56 : decode cX5_mixBond 56 = .ok (.iload_n 2, 1) := by decide +kernel
theorem dX5_mixBond_57 : decode cX5_mixBond 57 = .ok (.iadd, 1) := by decide +kernel
theorem dX5_mixBond_58 : decode cX5_mixBond 58 = .ok (.iaload, 1) := by decide +kernel
theorem dX5_mixBond_59 : decode cX5_mixBond 59 = .ok (.i2l, 1) := by decide +kernel
theorem dX5_mixBond_60 : decode cX5_mixBond 60 = .ok (.invokevirtual 215, 3) := by decide +kernel
theorem dX5_mixBond_63 : decode cX5_mixBond 63 = .ok (.iinc 2 1, 3) := by decide +kernel
theorem dX5_mixBond_66 : decode cX5_mixBond 66 = .ok (.goto (-39), 3) := by decide +kernel
theorem dX5_mixBond_69 : decode cX5_mixBond 69 = .ok (.iconst 0, 1) := by decide +kernel
theorem dX5_mixBond_70 : decode cX5_mixBond 70 = .ok (.istore_n 2, 1) := by decide +kernel
theorem dX5_mixBond_71 : decode cX5_mixBond 71 = .ok (.iload_n 2, 1) := by decide +kernel
theorem dX5_mixBond_72 : decode cX5_mixBond 72 = .ok (.bipush 11, 2) := by decide +kernel
theorem dX5_mixBond_74 : decode cX5_mixBond 74 = .ok (.if_icmp .ge 23, 3) := by decide +kernel
theorem dX5_mixBond_77 : decode cX5_mixBond 77 = .ok (.aload_n 0, 1) := by decide +kernel
theorem dX5_mixBond_78 : decode cX5_mixBond 78 = .ok (.aload_n 0, 1) := by decide +kernel
theorem dX5_mixBond_79 : decode cX5_mixBond 79 = .ok (.iload_n 1, 1) := by decide +kernel
theorem dX5_mixBond_80 : decode cX5_mixBond 80 = .ok (.sipush 1000, 3) := by decide +kernel
theorem dX5_mixBond_83 : decode cX5_mixBond 83 = .ok (.iload_n 2, 1) := by decide +kernel
theorem dX5_mixBond_84 : decode cX5_mixBond 84 = .ok (.invokevirtual 196, 3) := by decide +kernel
theorem dX5_mixBond_87 : decode cX5_mixBond 87 = .ok (.i2l, 1) := by decide +kernel
theorem dX5_mixBond_88 : decode cX5_mixBond 88 = .ok (.invokevirtual 215, 3) := by decide +kernel
theorem dX5_mixBond_91 : decode cX5_mixBond 91 = .ok (.iinc 2 1, 3) := by decide +kernel
theorem dX5_mixBond_94 : decode cX5_mixBond 94 = .ok (.goto (-23), 3) := by decide +kernel
theorem dX5_mixBond_97 : decode cX5_mixBond 97 = .ok (.aload_n 0, 1) := by decide +kernel
theorem dX5_mixBond_98 : decode cX5_mixBond 98 = .ok (.aload_n 0, 1) := by decide +kernel
theorem dX5_mixBond_99 : decode cX5_mixBond 99 = .ok (.iload_n 1, 1) := by decide +kernel
theorem dX5_mixBond_100 : decode cX5_mixBond 100 = .ok (.invokevirtual 199, 3) := by decide +kernel
theorem dX5_mixBond_103 : decode cX5_mixBond 103 = .ok (.i2l, 1) := by decide +kernel
theorem dX5_mixBond_104 : decode cX5_mixBond 104 = .ok (.invokevirtual 215, 3) := by decide +kernel
theorem dX5_mixBond_107 : decode cX5_mixBond 107 = .ok (.return_, 1) := by decide +kernel
set_option maxRecDepth 20000 in
theorem ggX5_digest_X5_counted : GoodIn wsX5_digest wsX5_counted := goodIn_r _ [11, 4, 12, 13, 14, 15, 10, 16, 17, 18, 19, 20, 21, 22, 23, 24, 25, 26, 27, 28, 29, 30, 31, 32, 33, 34, 35, 36, 37, 38, 39, 40, 41, 42, 43, 44, 45, 46, 47, 48, 49, 50, 51, 52, 53, 148, 149, 150, 151, 152, 153, 154, 155, 156, 157, 158, 159, 160, 161] (by decide +kernel) (by decide +kernel)
set_option maxRecDepth 20000 in
theorem gX5_digest_X5_counted : GoodIn wsX5_digest (wsV RX5 187 RX5 yX5_counted wsX5_counted) := goodIn_app (goodIn_of _ (by decide +kernel)) ggX5_digest_X5_counted
set_option maxRecDepth 20000 in
theorem ggX5_digest_X5_mix : GoodIn wsX5_digest wsX5_mix := goodIn_r _ [57, 58, 3, 148, 149, 150, 151, 152, 153, 154, 155, 156, 157, 158, 159, 160, 161] (by decide +kernel) (by decide +kernel)
set_option maxRecDepth 20000 in
theorem gX5_digest_X5_mix : GoodIn wsX5_digest (wsV RX5 215 RX5 yX5_mix wsX5_mix) := goodIn_app (goodIn_of _ (by decide +kernel)) ggX5_digest_X5_mix
set_option maxRecDepth 20000 in
theorem ggX5_digest_X5_mixPerson : GoodIn wsX5_digest wsX5_mixPerson := goodIn_r _ [62, 4, 28, 29, 30, 10, 31, 32, 33, 34, 35, 36, 37, 38, 39, 40, 41, 42, 21, 22, 23, 43, 44, 45, 46, 47, 48, 49, 50, 51, 52, 53, 17, 18, 19, 20, 54, 55, 56, 57, 58, 3, 63, 64, 65, 66, 148, 149, 150, 151, 152, 153, 154, 155, 156, 157, 158, 159, 160, 161] (by decide +kernel) (by decide +kernel)
set_option maxRecDepth 20000 in
theorem gX5_digest_X5_mixPerson : GoodIn wsX5_digest (wsV RX5 221 RX5 yX5_mixPerson wsX5_mixPerson) := goodIn_app (goodIn_of _ (by decide +kernel)) ggX5_digest_X5_mixPerson
set_option maxRecDepth 20000 in
theorem ggX5_digest_X5_mixBond : GoodIn wsX5_digest wsX5_mixBond := goodIn_r _ [70, 4, 71, 72, 73, 10, 74, 21, 22, 23, 75, 76, 77, 78, 79, 80, 81, 82, 43, 44, 45, 54, 55, 56, 57, 58, 3, 83, 84, 85, 86, 87, 88, 17, 18, 19, 20, 89, 90, 91, 92, 93, 94, 95, 96, 97, 98, 99, 100, 101, 102, 103, 104, 105, 106, 107, 108, 109, 110, 111, 112, 113, 114, 115, 36, 37, 38, 116, 117, 118, 119, 120, 121, 122, 123, 124, 125, 126, 127, 148, 149, 150, 151, 152, 153, 154, 155, 156, 157, 158, 159, 160, 161] (by decide +kernel) (by decide +kernel)
set_option maxRecDepth 20000 in
theorem gX5_digest_X5_mixBond : GoodIn wsX5_digest (wsV RX5 224 RX5 yX5_mixBond wsX5_mixBond) := goodIn_app (goodIn_of _ (by decide +kernel)) ggX5_digest_X5_mixBond
set_option maxRecDepth 20000 in
theorem ggX5_digest_X5_worstOf : GoodIn wsX5_digest wsX5_worstOf := goodIn_r _ [131, 4, 75, 76, 77, 10, 78, 21, 22, 23, 83, 84, 85, 86, 87, 88, 17, 18, 19, 20, 89, 90, 91, 92, 93, 94, 95, 96, 97, 98, 99, 100, 101, 102, 103, 104, 105, 106, 107, 79, 80, 81, 82, 43, 44, 45, 108, 109, 110, 111, 112, 113, 114, 115, 36, 37, 38, 116, 117, 118, 119, 120, 121, 122, 123, 148, 149, 150, 151, 152, 153, 154, 155, 156, 157, 158, 159, 160, 161] (by decide +kernel) (by decide +kernel)
set_option maxRecDepth 20000 in
theorem gX5_digest_X5_worstOf : GoodIn wsX5_digest (wsV RX5 202 RX5 yX5_worstOf wsX5_worstOf) := goodIn_app (goodIn_of _ (by decide +kernel)) ggX5_digest_X5_worstOf
set_option maxRecDepth 20000 in
theorem ggX5_digest_X5_shareOf : GoodIn wsX5_digest wsX5_shareOf := goodIn_r _ [135, 4, 148, 149, 150, 151, 152, 153, 154, 155, 156, 157, 158, 159, 160, 161] (by decide +kernel) (by decide +kernel)
set_option maxRecDepth 20000 in
theorem gX5_digest_X5_shareOf : GoodIn wsX5_digest (wsV RX5 205 RX5 yX5_shareOf wsX5_shareOf) := goodIn_app (goodIn_of _ (by decide +kernel)) ggX5_digest_X5_shareOf
set_option maxRecDepth 20000 in
theorem ggX5_digest_Jxe99ae_doubleToLongBits_ccdee : GoodIn wsX5_digest wsJxe99ae_doubleToLongBits_ccdee := goodIn_r _ [139, 140, 141, 142, 143, 144, 145, 146, 138, 147] (by decide +kernel) (by decide +kernel)
set_option maxRecDepth 20000 in
theorem gX5_digest_Jxe99ae_doubleToLongBits_ccdee : GoodIn wsX5_digest (va_wsS RX5 227 yJxe99ae_doubleToLongBits_ccdee wsJxe99ae_doubleToLongBits_ccdee) := goodIn_app (goodIn_of _ (by decide +kernel)) ggX5_digest_Jxe99ae_doubleToLongBits_ccdee
theorem dX5_digest_0 : decode cX5_digest 0 = .ok (.aload_n 0, 1) := by decide +kernel
theorem dX5_digest_1 : decode cX5_digest 1 = .ok (.iconst 0, 1) := by decide +kernel
theorem dX5_digest_2 : decode cX5_digest 2 = .ok (.putfield 28, 3) := by decide +kernel
theorem dX5_digest_5 : decode cX5_digest 5 = .ok (.aload_n 0, 1) := by decide +kernel
theorem dX5_digest_6 : decode cX5_digest 6 = .ok (.ldc2_w 219, 3) := by decide +kernel
theorem dX5_digest_9 : decode cX5_digest 9 = .ok (.putfield 211, 3) := by decide +kernel
theorem dX5_digest_12 : decode cX5_digest 12 = .ok (.iconst 0, 1) := by decide +kernel
theorem dX5_digest_13 : decode cX5_digest 13 = .ok (.istore_n 1, 1) := by decide +kernel
theorem dX5_digest_14 : decode cX5_digest 14 = .ok (.iload_n 1, 1) := by decide +kernel
theorem dX5_digest_15 : decode cX5_digest 15 = .ok (.bipush 10, 2) := by decide +kernel
theorem dX5_digest_17 : decode cX5_digest 17 = .ok (.if_icmp .ge 19, 3) := by decide +kernel
theorem dX5_digest_20 : decode cX5_digest 20 = .ok (.aload_n 0, 1) := by decide +kernel
theorem dX5_digest_21 : decode cX5_digest 21 = .ok (.aload_n 0, 1) := by decide +kernel
theorem dX5_digest_22 : decode cX5_digest 22 = .ok (.iload_n 1, 1) := by decide +kernel
theorem dX5_digest_23 : decode cX5_digest 23 = .ok (.invokevirtual 187, 3) := by decide +kernel
theorem dX5_digest_26 : decode cX5_digest 26 = .ok (.i2l, 1) := by decide +kernel
theorem dX5_digest_27 : decode cX5_digest 27 = .ok (.invokevirtual 215, 3) := by decide +kernel
theorem dX5_digest_30 : decode cX5_digest 30 = .ok (.iinc 1 1, 3) := by decide +kernel
theorem dX5_digest_33 : decode cX5_digest 33 = .ok (.goto (-19), 3) := by decide +kernel
theorem dX5_digest_36 : decode cX5_digest 36 = .ok (.iconst 0, 1) := by decide +kernel
theorem dX5_digest_37 : decode cX5_digest 37 = .ok (.istore_n 1, 1) := by decide +kernel
theorem dX5_digest_38 : decode cX5_digest 38 = .ok (.iload_n 1, 1) := by decide +kernel
theorem dX5_digest_39 : decode cX5_digest 39 = .ok (.iconst 3, 1) := by decide +kernel
theorem dX5_digest_40 : decode cX5_digest 40 = .ok (.if_icmp .ge 23, 3) := by decide +kernel
theorem dX5_digest_43 : decode cX5_digest 43 = .ok (.aload_n 0, 1) := by decide +kernel
theorem dX5_digest_44 : decode cX5_digest 44 = .ok (.aload_n 0, 1) := by decide +kernel
theorem dX5_digest_45 : decode cX5_digest 45 = .ok (.getfield 7, 3) := by decide +kernel
theorem dX5_digest_48 : decode cX5_digest 48 = .ok (.bipush 6, 2) := by decide +kernel
theorem dX5_digest_50 : decode cX5_digest 50 = .ok (.iload_n 1, 1) := by decide +kernel
theorem dX5_digest_51 : decode cX5_digest 51 = .ok (.iadd, 1) := by decide +kernel
theorem dX5_digest_52 : decode cX5_digest 52 = .ok (.iaload, 1) := by decide +kernel
theorem dX5_digest_53 : decode cX5_digest 53 = .ok (.i2l, 1) := by decide +kernel
theorem dX5_digest_54 : decode cX5_digest 54 = .ok (.invokevirtual 215, 3) := by decide +kernel
theorem dX5_digest_57 : decode cX5_digest 57 = .ok (.iinc 1 1, 3) := by decide +kernel
theorem dX5_digest_60 : decode cX5_digest 60 = .ok (.goto (-22), 3) := by decide +kernel
theorem dX5_digest_63 : decode cX5_digest 63 = .ok (.iconst 0, 1) := by decide +kernel
theorem dX5_digest_64 : decode cX5_digest 64 = .ok (.istore_n 1, 1) := by decide +kernel
theorem dX5_digest_65 : decode cX5_digest 65 = .ok (.iload_n 1, 1) := by decide +kernel
theorem dX5_digest_66 : decode cX5_digest 66 = .ok (.bipush 8, 2) := by decide +kernel
theorem dX5_digest_68 : decode cX5_digest 68 = .ok (.if_icmp .ge 14, 3) := by decide +kernel
theorem dX5_digest_71 : decode cX5_digest 71 = .ok (.aload_n 0, 1) := by decide +kernel
theorem dX5_digest_72 : decode cX5_digest 72 = .ok (.iload_n 1, 1) := by decide +kernel
theorem dX5_digest_73 : decode cX5_digest 73 = .ok (.invokevirtual 221, 3) := by decide +kernel
theorem dX5_digest_76 : decode cX5_digest 76 = .ok (.iinc 1 1, 3) := by decide +kernel
theorem dX5_digest_79 : decode cX5_digest 79 = .ok (.goto (-14), 3) := by decide +kernel
theorem dX5_digest_82 : decode cX5_digest 82 = .ok (.iconst 0, 1) := by decide +kernel
theorem dX5_digest_83 : decode cX5_digest 83 = .ok (.istore_n 1, 1) := by decide +kernel
theorem dX5_digest_84 : decode cX5_digest 84 = .ok (.iload_n 1, 1) := by decide +kernel
theorem dX5_digest_85 : decode cX5_digest 85 = .ok (.aload_n 0, 1) := by decide +kernel
theorem dX5_digest_86 : decode cX5_digest 86 = .ok (.getfield 7, 3) := by decide +kernel
theorem dX5_digest_89 : decode cX5_digest 89 = .ok (.iconst 0, 1) := by decide +kernel
theorem dX5_digest_90 : decode cX5_digest 90 = .ok (.iaload, 1) := by decide +kernel
theorem dX5_digest_91 : decode cX5_digest 91 = .ok (.if_icmp .ge 14, 3) := by decide +kernel
theorem dX5_digest_94 : decode cX5_digest 94 = .ok (.aload_n 0, 1) := by decide +kernel
theorem dX5_digest_95 : decode cX5_digest 95 = .ok (.iload_n 1, 1) := by decide +kernel
theorem dX5_digest_96 : decode cX5_digest 96 = .ok (.invokevirtual 224, 3) := by decide +kernel
theorem dX5_digest_99 : decode cX5_digest 99 = .ok (.iinc 1 1, 3) := by decide +kernel
theorem dX5_digest_102 : decode cX5_digest 102 = .ok (.goto (-18), 3) := by decide +kernel
theorem dX5_digest_105 : decode cX5_digest 105 = .ok (.aload_n 0, 1) := by decide +kernel
theorem dX5_digest_106 : decode cX5_digest 106 = .ok (.aload_n 0, 1) := by decide +kernel
theorem dX5_digest_107 : decode cX5_digest 107 = .ok (.invokevirtual 202, 3) := by decide +kernel
theorem dX5_digest_110 : decode cX5_digest 110 = .ok (.i2l, 1) := by decide +kernel
theorem dX5_digest_111 : decode cX5_digest 111 = .ok (.invokevirtual 215, 3) := by decide +kernel
theorem dX5_digest_114 : decode cX5_digest 114 = .ok (.aload_n 0, 1) := by decide +kernel
theorem dX5_digest_115 : decode cX5_digest 115 = .ok (.aload_n 0, 1) := by decide +kernel
theorem dX5_digest_116 : decode cX5_digest 116 = .ok (.invokevirtual 205, 3) := by decide +kernel
theorem dX5_digest_119 : decode cX5_digest 119 = .ok (.invokestatic 227, 3) := by decide +kernel
theorem dX5_digest_122 : decode cX5_digest 122 = .ok (.invokevirtual 215, 3) := by decide +kernel
theorem dX5_digest_125 : decode cX5_digest 125 = .ok (.aload_n 0, 1) := by decide +kernel
theorem dX5_digest_126 : decode cX5_digest 126 = .ok (.aload_n 0, 1) := by decide +kernel
theorem dX5_digest_127 : decode cX5_digest 127 = .ok (.getfield 127, 3) := by decide +kernel
theorem dX5_digest_130 : decode cX5_digest 130 = .ok (.i2l, 1) := by decide +kernel
theorem dX5_digest_131 : decode cX5_digest 131 = .ok (.invokevirtual 215, 3) := by decide +kernel
theorem dX5_digest_134 : decode cX5_digest 134 = .ok (.iconst 0, 1) := by decide +kernel
theorem dX5_digest_135 : decode cX5_digest 135 = .ok (.istore_n 1, 1) := by decide +kernel
theorem dX5_digest_136 : decode cX5_digest 136 = .ok (.iload_n 1, 1) := by decide +kernel
theorem dX5_digest_137 : decode cX5_digest 137 = .ok (.aload_n 0, 1) := by decide +kernel
theorem dX5_digest_138 : decode cX5_digest 138 = .ok (.getfield 127, 3) := by decide +kernel
theorem dX5_digest_141 : decode cX5_digest 141 = .ok (.if_icmp .ge 20, 3) := by decide +kernel
theorem dX5_digest_144 : decode cX5_digest 144 = .ok (.aload_n 0, 1) := by decide +kernel
theorem dX5_digest_145 : decode cX5_digest 145 = .ok (.aload_n 0, 1) := by decide +kernel
theorem dX5_digest_146 : decode cX5_digest 146 = .ok (.getfield 19, 3) := by decide +kernel
theorem dX5_digest_149 : decode cX5_digest 149 = .ok (.iload_n 1, 1) := by decide +kernel
theorem dX5_digest_150 : decode cX5_digest 150 = .ok (.iaload, 1) := by decide +kernel
theorem dX5_digest_151 : decode cX5_digest 151 = .ok (.i2l, 1) := by decide +kernel
theorem dX5_digest_152 : decode cX5_digest 152 = .ok (.invokevirtual 215, 3) := by decide +kernel
theorem dX5_digest_155 : decode cX5_digest 155 = .ok (.iinc 1 1, 3) := by decide +kernel
theorem dX5_digest_158 : decode cX5_digest 158 = .ok (.goto (-22), 3) := by decide +kernel
theorem dX5_digest_161 : decode cX5_digest 161 = .ok (.aload_n 0, 1) := by decide +kernel
theorem dX5_digest_162 : decode cX5_digest 162 = .ok (.getfield 211, 3) := by decide +kernel
theorem dX5_digest_165 : decode cX5_digest 165 = .ok (.lreturn, 1) := by decide +kernel
theorem dJxe99ae_isNaN_b9ae7_0 : decode cJxe99ae_isNaN_b9ae7 0 = .ok (.dload_n 0, 1) := by decide +kernel
theorem dJxe99ae_isNaN_b9ae7_1 : decode cJxe99ae_isNaN_b9ae7 1 = .ok (.dload_n 0, 1) := by decide +kernel
theorem dJxe99ae_isNaN_b9ae7_2 : decode cJxe99ae_isNaN_b9ae7 2 = .ok (.dcmp .l, 1) := by decide +kernel
theorem dJxe99ae_isNaN_b9ae7_3 : decode cJxe99ae_isNaN_b9ae7 3 = .ok (.ifCond .eq 7, 3) := by decide +kernel
theorem dJxe99ae_isNaN_b9ae7_6 : decode cJxe99ae_isNaN_b9ae7 6 = .ok (.iconst 1, 1) := by decide +kernel
theorem dJxe99ae_isNaN_b9ae7_7 : decode cJxe99ae_isNaN_b9ae7 7 = .ok (.goto 4, 3) := by decide +kernel
theorem dJxe99ae_isNaN_b9ae7_10 : decode cJxe99ae_isNaN_b9ae7 10 = .ok (.iconst 0, 1) := by decide +kernel
theorem dJxe99ae_isNaN_b9ae7_11 : decode cJxe99ae_isNaN_b9ae7 11 = .ok (.ireturn, 1) := by decide +kernel
set_option maxRecDepth 20000 in
theorem ggJxe99ae_doubleToLongBits_ccdee_Jxe99ae_isNaN_b9ae7 : GoodIn wsJxe99ae_doubleToLongBits_ccdee wsJxe99ae_isNaN_b9ae7 := goodIn_r _ [9] (by decide +kernel) (by decide +kernel)
set_option maxRecDepth 20000 in
theorem gJxe99ae_doubleToLongBits_ccdee_Jxe99ae_isNaN_b9ae7 : GoodIn wsJxe99ae_doubleToLongBits_ccdee (va_wsS RJxe99ae 122 yJxe99ae_isNaN_b9ae7 wsJxe99ae_isNaN_b9ae7) := goodIn_app (goodIn_of _ (by decide +kernel)) ggJxe99ae_doubleToLongBits_ccdee_Jxe99ae_isNaN_b9ae7
theorem dJxe99ae_doubleToLongBits_ccdee_0 : decode cJxe99ae_doubleToLongBits_ccdee 0 = .ok (.dload_n 0, 1) := by decide +kernel
theorem dJxe99ae_doubleToLongBits_ccdee_1 : decode cJxe99ae_doubleToLongBits_ccdee 1 = .ok (.invokestatic 122, 3) := by decide +kernel
theorem dJxe99ae_doubleToLongBits_ccdee_4 : decode cJxe99ae_doubleToLongBits_ccdee 4 = .ok (.ifCond .ne 8, 3) := by decide +kernel
theorem dJxe99ae_doubleToLongBits_ccdee_7 : decode cJxe99ae_doubleToLongBits_ccdee 7 = .ok (.dload_n 0, 1) := by decide +kernel
theorem dJxe99ae_doubleToLongBits_ccdee_8 : decode cJxe99ae_doubleToLongBits_ccdee 8 = .ok (.invokestatic 134, 3) := by decide +kernel
theorem dJxe99ae_doubleToLongBits_ccdee_11 : decode cJxe99ae_doubleToLongBits_ccdee 11 = .ok (.lreturn, 1) := by decide +kernel
theorem dJxe99ae_doubleToLongBits_ccdee_12 : decode cJxe99ae_doubleToLongBits_ccdee 12 = .ok (.ldc2_w 137, 3) := by decide +kernel
theorem dJxe99ae_doubleToLongBits_ccdee_15 : decode cJxe99ae_doubleToLongBits_ccdee 15 = .ok (.lreturn, 1) := by decide +kernel
theorem dJ9_max_7cf53_0 : decode cJ9_max_7cf53 0 = .ok (.iload_n 0, 1) := by decide +kernel
theorem dJ9_max_7cf53_1 : decode cJ9_max_7cf53 1 = .ok (.iload_n 1, 1) := by decide +kernel
theorem dJ9_max_7cf53_2 : decode cJ9_max_7cf53 2 = .ok (.if_icmp .lt 7, 3) := by decide +kernel
theorem dJ9_max_7cf53_5 : decode cJ9_max_7cf53 5 = .ok (.iload_n 0, 1) := by decide +kernel
theorem dJ9_max_7cf53_6 : decode cJ9_max_7cf53 6 = .ok (.goto 4, 3) := by decide +kernel
theorem dJ9_max_7cf53_9 : decode cJ9_max_7cf53 9 = .ok (.iload_n 1, 1) := by decide +kernel
theorem dJ9_max_7cf53_10 : decode cJ9_max_7cf53 10 = .ok (.ireturn, 1) := by decide +kernel
theorem dJ9_min_7cf53_0 : decode cJ9_min_7cf53 0 = .ok (.iload_n 0, 1) := by decide +kernel
theorem dJ9_min_7cf53_1 : decode cJ9_min_7cf53 1 = .ok (.iload_n 1, 1) := by decide +kernel
theorem dJ9_min_7cf53_2 : decode cJ9_min_7cf53 2 = .ok (.if_icmp .gt 7, 3) := by decide +kernel
theorem dJ9_min_7cf53_5 : decode cJ9_min_7cf53 5 = .ok (.iload_n 0, 1) := by decide +kernel
theorem dJ9_min_7cf53_6 : decode cJ9_min_7cf53 6 = .ok (.goto 4, 3) := by decide +kernel
theorem dJ9_min_7cf53_9 : decode cJ9_min_7cf53 9 = .ok (.iload_n 1, 1) := by decide +kernel
theorem dJ9_min_7cf53_10 : decode cJ9_min_7cf53 10 = .ok (.ireturn, 1) := by decide +kernel
theorem dJ9_min_f86c9_0 : decode cJ9_min_f86c9 0 = .ok (.lload_n 0, 1) := by decide +kernel
theorem dJ9_min_f86c9_1 : decode cJ9_min_f86c9 1 = .ok (.lload_n 2, 1) := by decide +kernel
theorem dJ9_min_f86c9_2 : decode cJ9_min_f86c9 2 = .ok (.lcmp, 1) := by decide +kernel
theorem dJ9_min_f86c9_3 : decode cJ9_min_f86c9 3 = .ok (.ifCond .gt 7, 3) := by decide +kernel
theorem dJ9_min_f86c9_6 : decode cJ9_min_f86c9 6 = .ok (.lload_n 0, 1) := by decide +kernel
theorem dJ9_min_f86c9_7 : decode cJ9_min_f86c9 7 = .ok (.goto 4, 3) := by decide +kernel
theorem dJ9_min_f86c9_10 : decode cJ9_min_f86c9 10 = .ok (.lload_n 2, 1) := by decide +kernel
theorem dJ9_min_f86c9_11 : decode cJ9_min_f86c9 11 = .ok (.lreturn, 1) := by decide +kernel
