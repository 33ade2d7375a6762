set_option maxRecDepth 20000 in
theorem ggX4_init_X3_init : GoodIn wsX4_init wsX3_init := goodIn_r _ [22, 23, 2, 3, 24, 25, 51] (by decide +kernel) (by decide +kernel)
set_option maxRecDepth 20000 in
theorem gX4_init_X3_init : GoodIn wsX4_init (wsX3_init) := ggX4_init_X3_init
set_option maxRecDepth 20000 in
theorem ggX4_init_X1_init : GoodIn wsX4_init wsX1_init := goodIn_r _ [28, 29, 2, 3, 30, 24, 31, 56, 57, 58] (by decide +kernel) (by decide +kernel)
set_option maxRecDepth 20000 in
theorem gX4_init_X1_init : GoodIn wsX4_init (wsX1_init) := ggX4_init_X1_init
set_option maxRecDepth 20000 in
theorem ggX4_init_X0_init : GoodIn wsX4_init wsX0_init := goodIn_r _ [34, 35, 2, 3, 24, 36, 37, 38, 39, 59, 60, 61, 62, 63, 64, 65, 66, 67, 68, 69, 70] (by decide +kernel) (by decide +kernel)
set_option maxRecDepth 20000 in
theorem gX4_init_X0_init : GoodIn wsX4_init (wsX0_init) := ggX4_init_X0_init
set_option maxRecDepth 20000 in
theorem ggX4_init_X2_init : GoodIn wsX4_init wsX2_init := goodIn_r _ [42, 43, 2, 3, 24, 44, 45, 46, 47, 48, 49, 50, 71, 72, 73, 74, 75, 76, 77, 78, 79, 80, 81, 82] (by decide +kernel) (by decide +kernel)
set_option maxRecDepth 20000 in
theorem gX4_init_X2_init : GoodIn wsX4_init (wsX2_init) := ggX4_init_X2_init
theorem dX4_init_0 : decode cX4_init 0 = .ok (.aload_n 0, 1) := by decide +kernel
theorem dX4_init_1 : decode cX4_init 1 = .ok (.invokespecial 1, 3) := by decide +kernel
theorem dX4_init_4 : decode cX4_init 4 = .ok (.aload_n 0, 1) := by decide +kernel
theorem dX4_init_5 : decode cX4_init 5 = .ok (.new 7, 3) := by decide +kernel
theorem dX4_init_8 : decode cX4_init 8 = .ok (.dup, 1) := by decide +kernel
theorem dX4_init_9 : decode cX4_init 9 = .ok (.invokespecial 9, 3) := by decide +kernel
theorem dX4_init_12 : decode cX4_init 12 = .ok (.putfield 10, 3) := by decide +kernel
theorem dX4_init_15 : decode cX4_init 15 = .ok (.aload_n 0, 1) := by decide +kernel
theorem dX4_init_16 : decode cX4_init 16 = .ok (.new 16, 3) := by decide +kernel
theorem dX4_init_19 : decode cX4_init 19 = .ok (.dup, 1) := by decide +kernel
theorem dX4_init_20 : decode cX4_init 20 = .ok (.invokespecial 18, 3) := by decide +kernel
theorem dX4_init_23 : decode cX4_init 23 = .ok (.putfield 19, 3) := by decide +kernel
theorem dX4_init_26 : decode cX4_init 26 = .ok (.aload_n 0, 1) := by decide +kernel
theorem dX4_init_27 : decode cX4_init 27 = .ok (.new 23, 3) := by decide +kernel
theorem dX4_init_30 : decode cX4_init 30 = .ok (.dup, 1) := by decide +kernel
theorem dX4_init_31 : decode cX4_init 31 = .ok (.invokespecial 25, 3) := by decide +kernel
theorem dX4_init_34 : decode cX4_init 34 = .ok (.putfield 26, 3) := by decide +kernel
theorem dX4_init_37 : decode cX4_init 37 = .ok (.aload_n 0, 1) := by decide +kernel
theorem dX4_init_38 : decode cX4_init 38 = .ok (.new 30, 3) := by decide +kernel
theorem dX4_init_41 : decode cX4_init 41 = .ok (.dup, 1) := by decide +kernel
theorem dX4_init_42 : decode cX4_init 42 = .ok (.invokespecial 32, 3) := by decide +kernel
theorem dX4_init_45 : decode cX4_init 45 = .ok (.putfield 33, 3) := by decide +kernel
theorem dX4_init_48 : decode cX4_init 48 = .ok (.return_, 1) := by decide +kernel
set_option maxRecDepth 20000 in
theorem ggX4_bring_X4_requirePerson : GoodIn wsX4_bring wsX4_requirePerson := goodIn_ca (goodIn_r _ [6, 7, 8] (by decide +kernel) (by decide +kernel)) (goodIn_sub (fun _ h => List.mem_cons_of_mem _ (List.mem_append_left _ (List.mem_append_right _ h))) (by decide +kernel))
set_option maxRecDepth 20000 in
theorem gX4_bring_X4_requirePerson : GoodIn wsX4_bring (va_wsS RX4 37 yX4_requirePerson wsX4_requirePerson) := goodIn_app (goodIn_of _ (by decide +kernel)) ggX4_bring_X4_requirePerson
set_option maxRecDepth 20000 in
theorem ggX4_bring_X4_requireAmount : GoodIn wsX4_bring wsX4_requireAmount := goodIn_ca (goodIn_r _ [11, 12, 13, 14, 5, 15, 16, 17] (by decide +kernel) (by decide +kernel)) (goodIn_sub (fun _ h => List.mem_cons_of_mem _ (List.mem_append_right _ h)) (by decide +kernel))
set_option maxRecDepth 20000 in
theorem gX4_bring_X4_requireAmount : GoodIn wsX4_bring (va_wsS RX4 41 yX4_requireAmount wsX4_requireAmount) := goodIn_app (goodIn_of _ (by decide +kernel)) ggX4_bring_X4_requireAmount
set_option maxRecDepth 20000 in
theorem ggX4_bring_X1_save : GoodIn wsX4_bring wsX1_save := goodIn_r _ [22, 23, 24, 25, 26, 27, 28, 29, 30, 31, 32, 33, 34, 35, 36, 37, 38, 39, 60, 61, 62, 63] (by decide +kernel) (by decide +kernel)
set_option maxRecDepth 20000 in
theorem gX4_bring_X1_save : GoodIn wsX4_bring (wsV RX4 44 RX1 yX1_save wsX1_save) := goodIn_app (goodIn_of _ (by decide +kernel)) ggX4_bring_X1_save
set_option maxRecDepth 20000 in
theorem ggX4_bring_X3_addCash : GoodIn wsX4_bring wsX3_addCash := goodIn_r _ [43, 44, 45, 46, 33, 47, 35, 63] (by decide +kernel) (by decide +kernel)
set_option maxRecDepth 20000 in
theorem gX4_bring_X3_addCash : GoodIn wsX4_bring (wsV RX4 48 RX3 yX3_addCash wsX3_addCash) := goodIn_app (goodIn_of _ (by decide +kernel)) ggX4_bring_X3_addCash
set_option maxRecDepth 20000 in
theorem ggX4_bring_X3_addBrought : GoodIn wsX4_bring wsX3_addBrought := goodIn_r _ [51, 35, 63] (by decide +kernel) (by decide +kernel)
set_option maxRecDepth 20000 in
theorem gX4_bring_X3_addBrought : GoodIn wsX4_bring (wsV RX4 52 RX3 yX3_addBrought wsX3_addBrought) := goodIn_app (goodIn_of _ (by decide +kernel)) ggX4_bring_X3_addBrought
set_option maxRecDepth 20000 in
theorem ggX4_bring_X3_fact : GoodIn wsX4_bring wsX3_fact := goodIn_r _ [55, 35, 63] (by decide +kernel) (by decide +kernel)
set_option maxRecDepth 20000 in
theorem gX4_bring_X3_fact : GoodIn wsX4_bring (wsV RX4 55 RX3 yX3_fact wsX3_fact) := goodIn_app (goodIn_of _ (by decide +kernel)) ggX4_bring_X3_fact
theorem dX4_bring_0 : decode cX4_bring 0 = .ok (.iload_n 1, 1) := by decide +kernel
theorem dX4_bring_1 : decode cX4_bring 1 = .ok (.invokestatic 37, 3) := by decide +kernel
theorem dX4_bring_4 : decode cX4_bring 4 = .ok (.iload_n 2, 1) := by decide +kernel
theorem dX4_bring_5 : decode cX4_bring 5 = .ok (.invokestatic 41, 3) := by decide +kernel
theorem dX4_bring_8 : decode cX4_bring 8 = .ok (.aload_n 0, 1) := by decide +kernel
theorem dX4_bring_9 : decode cX4_bring 9 = .ok (.getfield 19, 3) := by decide +kernel
theorem dX4_bring_12 : decode cX4_bring 12 = .ok (.aload_n 0, 1) := by decide +kernel
theorem dX4_bring_13 : decode cX4_bring 13 = .ok (.getfield 10, 3) := by decide +kernel
theorem dX4_bring_16 : decode cX4_bring 16 = .ok (.invokevirtual 44, 3) := by decide +kernel
theorem dX4_bring_19 : decode cX4_bring 19 = .ok (.aload_n 0, 1) := by decide +kernel
theorem dX4_bring_20 : decode cX4_bring 20 = .ok (.getfield 10, 3) := by decide +kernel
theorem dX4_bring_23 : decode cX4_bring 23 = .ok (.iload_n 1, 1) := by decide +kernel
theorem dX4_bring_24 : decode cX4_bring 24 = .ok (.iload_n 2, 1) := by decide +kernel
theorem dX4_bring_25 : decode cX4_bring 25 = .ok (.invokevirtual 48, 3) := by decide +kernel
theorem dX4_bring_28 : decode cX4_bring 28 = .ok (.aload_n 0, 1) := by decide +kernel
theorem dX4_bring_29 : decode cX4_bring 29 = .ok (.getfield 10, 3) := by decide +kernel
theorem dX4_bring_32 : decode cX4_bring 32 = .ok (.iload_n 2, 1) := by decide +kernel
theorem dX4_bring_33 : decode cX4_bring 33 = .ok (.invokevirtual 52, 3) := by decide +kernel
theorem dX4_bring_36 : decode cX4_bring 36 = .ok (.aload_n 0, 1) := by decide +kernel
theorem dX4_bring_37 : decode cX4_bring 37 = .ok (.getfield 10, 3) := by decide +kernel
theorem dX4_bring_40 : decode cX4_bring 40 = .ok (.iload_n 1, 1) := by decide +kernel
theorem dX4_bring_41 : decode cX4_bring 41 = .ok (.iconst 0, 1) := by decide +kernel
theorem dX4_bring_42 : decode cX4_bring 42 = .ok (.invokevirtual 55, 3) := by decide +kernel
theorem dX4_bring_45 : decode cX4_bring 45 = .ok (.ireturn, 1) := by decide +kernel
set_option maxRecDepth 20000 in
theorem ggX4_takeOut_X4_requirePerson : GoodIn wsX4_takeOut wsX4_requirePerson := goodIn_ca (goodIn_r _ [8, 9, 10] (by decide +kernel) (by decide +kernel)) (goodIn_sub (fun _ h => List.mem_cons_of_mem _ (List.mem_append_left _ (List.mem_append_right _ h))) (by decide +kernel))
set_option maxRecDepth 20000 in
theorem gX4_takeOut_X4_requirePerson : GoodIn wsX4_takeOut (va_wsS RX4 37 yX4_requirePerson wsX4_requirePerson) := goodIn_app (goodIn_of _ (by decide +kernel)) ggX4_takeOut_X4_requirePerson
set_option maxRecDepth 20000 in
theorem ggX4_takeOut_X4_requireAmount : GoodIn wsX4_takeOut wsX4_requireAmount := goodIn_ca (goodIn_r _ [13, 14, 15, 16, 7, 17, 18, 19] (by decide +kernel) (by decide +kernel)) (goodIn_sub (fun _ h => List.mem_cons_of_mem _ (List.mem_append_right _ h)) (by decide +kernel))
set_option maxRecDepth 20000 in
theorem gX4_takeOut_X4_requireAmount : GoodIn wsX4_takeOut (va_wsS RX4 41 yX4_requireAmount wsX4_requireAmount) := goodIn_app (goodIn_of _ (by decide +kernel)) ggX4_takeOut_X4_requireAmount
set_option maxRecDepth 20000 in
theorem ggX4_takeOut_X3_spareCash : GoodIn wsX4_takeOut wsX3_spareCash := goodIn_r _ [24, 25, 26, 27, 28, 29, 30, 31, 23, 32, 33, 34, 35, 36, 37, 38, 39, 40, 41, 42, 43, 44, 45, 46, 47, 48, 49, 50, 51, 52, 53, 90] (by decide +kernel) (by decide +kernel)
set_option maxRecDepth 20000 in
theorem gX4_takeOut_X3_spareCash : GoodIn wsX4_takeOut (wsV RX4 59 RX3 yX3_spareCash wsX3_spareCash) := goodIn_app (goodIn_of _ (by decide +kernel)) ggX4_takeOut_X3_spareCash
set_option maxRecDepth 20000 in
theorem ggX4_takeOut_X1_save : GoodIn wsX4_takeOut wsX1_save := goodIn_r _ [58, 59, 60, 61, 62, 63, 27, 64, 65, 66, 67, 23, 68, 37, 69, 70, 71, 72, 91, 92, 93, 90] (by decide +kernel) (by decide +kernel)
set_option maxRecDepth 20000 in
theorem gX4_takeOut_X1_save : GoodIn wsX4_takeOut (wsV RX4 44 RX1 yX1_save wsX1_save) := goodIn_app (goodIn_of _ (by decide +kernel)) ggX4_takeOut_X1_save
set_option maxRecDepth 20000 in
theorem ggX4_takeOut_X3_addCash : GoodIn wsX4_takeOut wsX3_addCash := goodIn_r _ [76, 77, 78, 79, 23, 80, 37, 90] (by decide +kernel) (by decide +kernel)
set_option maxRecDepth 20000 in
theorem gX4_takeOut_X3_addCash : GoodIn wsX4_takeOut (wsV RX4 48 RX3 yX3_addCash wsX3_addCash) := goodIn_app (goodIn_of _ (by decide +kernel)) ggX4_takeOut_X3_addCash
set_option maxRecDepth 20000 in
theorem ggX4_takeOut_X3_addBrought : GoodIn wsX4_takeOut wsX3_addBrought := goodIn_r _ [84, 37, 90] (by decide +kernel) (by decide +kernel)
set_option maxRecDepth 20000 in
theorem gX4_takeOut_X3_addBrought : GoodIn wsX4_takeOut (wsV RX4 52 RX3 yX3_addBrought wsX3_addBrought) := goodIn_app (goodIn_of _ (by decide +kernel)) ggX4_takeOut_X3_addBrought
set_option maxRecDepth 20000 in
theorem ggX4_takeOut_X3_fact : GoodIn wsX4_takeOut wsX3_fact := goodIn_r _ [53, 37, 90] (by decide +kernel) (by decide +kernel)
set_option maxRecDepth 20000 in
theorem gX4_takeOut_X3_fact : GoodIn wsX4_takeOut (wsV RX4 55 RX3 yX3_fact wsX3_fact) := goodIn_app (goodIn_of _ (by decide +kernel)) ggX4_takeOut_X3_fact
theorem dX4_takeOut_0 : decode cX4_takeOut 0 = .ok (.iload_n 1, 1) := by decide +kernel
theorem dX4_takeOut_1 : decode cX4_takeOut 1 = .ok (.invokestatic 37, 3) := by decide +kernel
theorem dX4_takeOut_4 : decode cX4_takeOut 4 = .ok (.iload_n 2, 1) := by decide +kernel
theorem dX4_takeOut_5 : decode cX4_takeOut 5 = .ok (.invokestatic 41, 3) := by decide +kernel
theorem dX4_takeOut_8 : decode cX4_takeOut 8 = .ok (.iload_n 2, 1) := by decide +kernel
theorem dX4_takeOut_9 : decode cX4_takeOut 9 = .ok (.aload_n 0, 1) := by decide +kernel
theorem dX4_takeOut_10 : decode cX4_takeOut 10 = .ok (.getfield 10, 3) := by decide +kernel
theorem dX4_takeOut_13 : decode cX4_takeOut 13 = .ok (.iload_n 1, 1) := by decide +kernel
theorem dX4_takeOut_14 : decode cX4_takeOut 14 = .ok (.invokevirtual 59, 3) := by decide +kernel
theorem dX4_takeOut_17 : decode cX4_takeOut 17 = .ok (.if_icmp .le 13, 3) := by decide +kernel
theorem dX4_takeOut_20 : decode cX4_takeOut 20 = .ok (.new 63, 3) := by decide +kernel
theorem dX4_takeOut_23 : decode cX4_takeOut 23 = .ok (.dup, 1) := by decide +kernel
theorem dX4_takeOut_24 : decode cX4_takeOut 24 = .ok (.ldc 65, 2) := by decide +kernel
theorem dX4_takeOut_26 : decode cX4_takeOut 26 = .ok (.invokespecial 67, 3) := by decide +kernel
theorem dX4_takeOut_29 : decode cX4_takeOut 29 = .ok (.athrow, 1) := by decide +kernel
theorem dX4_takeOut_30 : decode cX4_takeOut 30 = .ok (.aload_n 0, 1) := by decide +kernel
theorem dX4_takeOut_31 : decode cX4_takeOut 31 = .ok (.getfield 19, 3) := by decide +kernel
theorem dX4_takeOut_34 : decode cX4_takeOut 34 = .ok (.aload_n 0, 1) := by decide +kernel
theorem dX4_takeOut_35 : decode cX4_takeOut 35 = .ok (.getfield 10, 3) := by decide +kernel
theorem dX4_takeOut_38 : decode cX4_takeOut 38 = .ok (.invokevirtual 44, 3) := by decide +kernel
theorem dX4_takeOut_41 : decode cX4_takeOut 41 = .ok (.aload_n 0, 1) := by decide +kernel
theorem dX4_takeOut_42 : decode cX4_takeOut 42 = .ok (.getfield 10, 3) := by decide +kernel
theorem dX4_takeOut_45 : decode cX4_takeOut 45 = .ok (.iload_n 1, 1) := by decide +kernel
theorem dX4_takeOut_46 : decode cX4_takeOut 46 = .ok (.iload_n 2, 1) := by decide +kernel
theorem dX4_takeOut_47 : decode cX4_takeOut 47 = .ok (.ineg, 1) := by decide +kernel
theorem dX4_takeOut_48 : decode cX4_takeOut 48 = .ok (.invokevirtual 48, 3) := by decide +kernel
theorem dX4_takeOut_51 : decode cX4_takeOut 51 = .ok (.aload_n 0, 1) := by decide +kernel
theorem dX4_takeOut_52 : decode cX4_takeOut 52 = .ok (.getfield 10, 3) := by decide +kernel
theorem dX4_takeOut_55 : decode cX4_takeOut 55 = .ok (.iload_n 2, 1) := by decide +kernel
theorem dX4_takeOut_56 : decode cX4_takeOut 56 = .ok (.ineg, 1) := by decide +kernel
theorem dX4_takeOut_57 : decode cX4_takeOut 57 = .ok (.invokevirtual 52, 3) := by decide +kernel
theorem dX4_takeOut_60 : decode cX4_takeOut 60 = .ok (.aload_n 0, 1) := by decide +kernel
theorem dX4_takeOut_61 : decode cX4_takeOut 61 = .ok (.getfield 10, 3) := by decide +kernel
theorem dX4_takeOut_64 : decode cX4_takeOut 64 = .ok (.iload_n 1, 1) := by decide +kernel
theorem dX4_takeOut_65 : decode cX4_takeOut 65 = .ok (.iconst 0, 1) := by decide +kernel
theorem dX4_takeOut_66 : decode cX4_takeOut 66 = .ok (.invokevirtual 55, 3) := by decide +kernel
theorem dX4_takeOut_69 : decode cX4_takeOut 69 = .ok (.ireturn, 1) := by decide +kernel
set_option maxRecDepth 20000 in
theorem ggX4_guarantee_X4_requirePerson : GoodIn wsX4_guarantee wsX4_requirePerson := goodIn_ca (goodIn_r _ [8, 9, 10] (by decide +kernel) (by decide +kernel)) (goodIn_sub (fun _ h => List.mem_cons_of_mem _ (List.mem_append_left _ (List.mem_append_right _ h))) (by decide +kernel))
set_option maxRecDepth 20000 in
theorem gX4_guarantee_X4_requirePerson : GoodIn wsX4_guarantee (va_wsS RX4 37 yX4_requirePerson wsX4_requirePerson) := goodIn_app (goodIn_of _ (by decide +kernel)) ggX4_guarantee_X4_requirePerson
set_option maxRecDepth 20000 in
theorem ggX4_guarantee_X4_requireRange : GoodIn wsX4_guarantee wsX4_requireRange := goodIn_ca (goodIn_r _ [13, 14, 15] (by decide +kernel) (by decide +kernel)) (goodIn_sub (fun _ h => List.mem_cons_of_mem _ (List.mem_append_right _ h)) (by decide +kernel))
set_option maxRecDepth 20000 in
theorem gX4_guarantee_X4_requireRange : GoodIn wsX4_guarantee (va_wsS RX4 70 yX4_requireRange wsX4_requireRange) := goodIn_app (goodIn_of _ (by decide +kernel)) ggX4_guarantee_X4_requireRange
set_option maxRecDepth 20000 in
theorem ggX4_guarantee_X3_chainHolds : GoodIn wsX4_guarantee wsX3_chainHolds := goodIn_r _ [20, 21, 22, 19, 23, 24, 25, 26, 27, 28, 58] (by decide +kernel) (by decide +kernel)
set_option maxRecDepth 20000 in
theorem gX4_guarantee_X3_chainHolds : GoodIn wsX4_guarantee (wsV RX4 74 RX3 yX3_chainHolds wsX3_chainHolds) := goodIn_app (goodIn_of _ (by decide +kernel)) ggX4_guarantee_X3_chainHolds
set_option maxRecDepth 20000 in
theorem ggX4_guarantee_X1_save : GoodIn wsX4_guarantee wsX1_save := goodIn_r _ [33, 34, 35, 36, 37, 38, 39, 40, 41, 42, 43, 19, 44, 28, 45, 46, 47, 48, 59, 60, 61, 58] (by decide +kernel) (by decide +kernel)
set_option maxRecDepth 20000 in
theorem gX4_guarantee_X1_save : GoodIn wsX4_guarantee (wsV RX4 44 RX1 yX1_save wsX1_save) := goodIn_app (goodIn_of _ (by decide +kernel)) ggX4_guarantee_X1_save
set_option maxRecDepth 20000 in
theorem ggX4_guarantee_X3_fact : GoodIn wsX4_guarantee wsX3_fact := goodIn_r _ [27, 28, 58] (by decide +kernel) (by decide +kernel)
set_option maxRecDepth 20000 in
theorem gX4_guarantee_X3_fact : GoodIn wsX4_guarantee (wsV RX4 55 RX3 yX3_fact wsX3_fact) := goodIn_app (goodIn_of _ (by decide +kernel)) ggX4_guarantee_X3_fact
set_option maxRecDepth 20000 in
theorem ggX4_guarantee_X3_putFact : GoodIn wsX4_guarantee wsX3_putFact := goodIn_r _ [53, 28, 58] (by decide +kernel) (by decide +kernel)
set_option maxRecDepth 20000 in
theorem gX4_guarantee_X3_putFact : GoodIn wsX4_guarantee (wsV RX4 80 RX3 yX3_putFact wsX3_putFact) := goodIn_app (goodIn_of _ (by decide +kernel)) ggX4_guarantee_X3_putFact
theorem dX4_guarantee_0 : decode cX4_guarantee 0 = .ok (.iload_n 1, 1) := by decide +kernel
theorem dX4_guarantee_1 : decode cX4_guarantee 1 = .ok (.invokestatic 37, 3) := by decide +kernel
theorem dX4_guarantee_4 : decode cX4_guarantee 4 = .ok (.iload_n 2, 1) := by decide +kernel
theorem dX4_guarantee_5 : decode cX4_guarantee 5 = .ok (.iconst (-1), 1) := by decide +kernel
theorem dX4_guarantee_6 : decode cX4_guarantee 6 = .ok (.if_icmp .eq 36, 3) := by decide +kernel
theorem dX4_guarantee_9 : decode cX4_guarantee 9 = .ok (.iload_n 2, 1) := by decide +kernel
theorem dX4_guarantee_10 : decode cX4_guarantee 10 = .ok (.invokestatic 37, 3) := by decide +kernel
theorem dX4_guarantee_13 : decode cX4_guarantee 13 = .ok (.iload_n 3, 1) := by decide +kernel
theorem dX4_guarantee_14 : decode cX4_guarantee 14 = .ok (.iconst 1, 1) := by decide +kernel
theorem dX4_guarantee_15 : decode cX4_guarantee 15 = .ok (.bipush 100, 2) := by decide +kernel
theorem dX4_guarantee_17 : decode cX4_guarantee 17 = .ok (.invokestatic 70, 3) := by decide +kernel
theorem dX4_guarantee_20 : decode cX4_guarantee 20 = .ok (.aload_n 0, 1) := by decide +kernel
theorem dX4_guarantee_21 : decode cX4_guarantee 21 = .ok (.getfield 10, 3) := by decide +kernel
theorem dX4_guarantee_24 : decode cX4_guarantee 24 = .ok (.iload_n 2, 1) := by decide +kernel
theorem dX4_guarantee_25 : decode cX4_guarantee 25 = .ok (.iload_n 1, 1) := by decide +kernel
theorem dX4_guarantee_26 : decode cX4_guarantee 26 = .ok (.invokevirtual 74, 3) := by decide +kernel
theorem dX4_guarantee_29 : decode cX4_guarantee 29 = .ok (.ifCond .eq 13, 3) := by decide +kernel
theorem dX4_guarantee_32 : decode cX4_guarantee 32 = .ok (.new 63, 3) := by decide +kernel
theorem dX4_guarantee_35 : decode cX4_guarantee 35 = .ok (.dup, 1) := by decide +kernel
theorem dX4_guarantee_36 : decode cX4_guarantee 36 = .ok (.ldc 78, 2) := by decide +kernel
theorem dX4_guarantee_38 : decode cX4_guarantee 38 = .ok (.invokespecial 67, 3) := by decide +kernel
theorem dX4_guarantee_41 : decode cX4_guarantee 41 = .ok (.athrow, 1) := by decide +kernel
theorem dX4_guarantee_42 : decode cX4_guarantee 42 = .ok (.aload_n 0, 1) := by decide +kernel
theorem dX4_guarantee_43 : decode cX4_guarantee 43 = .ok (.getfield 19, 3) := by decide +kernel
theorem dX4_guarantee_46 : decode cX4_guarantee 46 = .ok (.aload_n 0, 1) := by decide +kernel
theorem dX4_guarantee_47 : decode cX4_guarantee 47 = .ok (.getfield 10, 3) := by decide +kernel
theorem dX4_guarantee_50 : decode cX4_guarantee 50 = .ok (.invokevirtual 44, 3) := by decide +kernel
theorem dX4_guarantee_53 : decode cX4_guarantee 53 = .ok (.aload_n 0, 1) := by decide +kernel
theorem dX4_guarantee_54 : decode cX4_guarantee 54 = .ok (.getfield 10, 3) := by decide +kernel
theorem dX4_guarantee_57 : decode cX4_guarantee 57 = .ok (.iload_n 1, 1) := by decide +kernel
theorem dX4_guarantee_58 : decode cX4_guarantee 58 = .ok (.iconst 1, 1) := by decide +kernel
theorem dX4_guarantee_59 : decode cX4_guarantee 59 = .ok (.invokevirtual 55, 3) := by decide +kernel
theorem dX4_guarantee_62 : decode cX4_guarantee 62 = .ok (.istore 4, 2) := by decide +kernel
theorem dX4_guarantee_64 : decode cX4_guarantee 64 = .ok (.aload_n 0, 1) := by decide +kernel
theorem dX4_guarantee_65 : decode cX4_guarantee 65 = .ok (.getfield 10, 3) := by decide +kernel
theorem dX4_guarantee_68 : decode cX4_guarantee 68 = .ok (.iload_n 1, 1) := by decide +kernel
theorem dX4_guarantee_69 : decode cX4_guarantee 69 = .ok (.iconst 1, 1) := by decide +kernel
theorem dX4_guarantee_70 : decode cX4_guarantee 70 = .ok (.iload_n 2, 1) := by decide +kernel
theorem dX4_guarantee_71 : decode cX4_guarantee 71 = .ok (.invokevirtual 80, 3) := by decide +kernel
theorem dX4_guarantee_74 : decode cX4_guarantee 74 = .ok (.aload_n 0, 1) := by decide +kernel
theorem dX4_guarantee_75 : decode cX4_guarantee 75 = .ok (.getfield 10, 3) := by decide +kernel
theorem dX4_guarantee_78 : decode cX4_guarantee 78 = .ok (.iload_n 1, 1) := by decide +kernel
theorem dX4_guarantee_79 : decode cX4_guarantee 79 = .ok (.iconst 2, 1) := by decide +kernel
theorem dX4_guarantee_80 : decode cX4_guarantee 80 = .ok (.iload_n 2, 1) := by decide +kernel
theorem dX4_guarantee_81 : decode cX4_guarantee 81 = .ok (.iconst (-1), 1) := by decide +kernel
theorem dX4_guarantee_82 : decode cX4_guarantee 82 = .ok (.if_icmp .ne 7, 3) := by decide +kernel
theorem dX4_guarantee_85 : decode cX4_guarantee 85 = .ok (.iconst 0, 1) := by decide +kernel
theorem dX4_guarantee_86 : decode cX4_guarantee 86 = .ok (.goto 4, 3) := by decide +kernel
theorem dX4_guarantee_89 : decode cX4_guarantee 89 = .ok (.iload_n 3, 1) := by decide +kernel
theorem dX4_guarantee_90 : decode cX4_guarantee 90 = .ok (.invokevirtual 80, 3) := by decide +kernel
theorem dX4_guarantee_93 : decode cX4_guarantee 93 = .ok (.iload 4, 2) := by decide +kernel
theorem dX4_guarantee_95 : decode cX4_guarantee 95 = .ok (.ireturn, 1) := by decide +kernel
set_option maxRecDepth 20000 in
theorem ggX4_repay_X4_requirePerson : GoodIn wsX4_repay wsX4_requirePerson := goodIn_ca (goodIn_r _ [8, 9, 10] (by decide +kernel) (by decide +kernel)) (goodIn_sub (fun _ h => List.mem_cons_of_mem _ (List.mem_append_left _ (List.mem_append_right _ h))) (by decide +kernel))
set_option maxRecDepth 20000 in
theorem gX4_repay_X4_requirePerson : GoodIn wsX4_repay (va_wsS RX4 37 yX4_requirePerson wsX4_requirePerson) := goodIn_app (goodIn_of _ (by decide +kernel)) ggX4_repay_X4_requirePerson
set_option maxRecDepth 20000 in
theorem ggX4_repay_X4_requireAmount : GoodIn wsX4_repay wsX4_requireAmount := goodIn_ca (goodIn_r _ [13, 14, 15, 16, 7, 17, 18, 19] (by decide +kernel) (by decide +kernel)) (goodIn_sub (fun _ h => List.mem_cons_of_mem _ (List.mem_append_right _ h)) (by decide +kernel))
set_option maxRecDepth 20000 in
theorem gX4_repay_X4_requireAmount : GoodIn wsX4_repay (va_wsS RX4 41 yX4_requireAmount wsX4_requireAmount) := goodIn_app (goodIn_of _ (by decide +kernel)) ggX4_repay_X4_requireAmount
set_option maxRecDepth 20000 in
theorem ggX4_repay_X3_owed : GoodIn wsX4_repay wsX3_owed := goodIn_r _ [24, 25, 66] (by decide +kernel) (by decide +kernel)
set_option maxRecDepth 20000 in
theorem gX4_repay_X3_owed : GoodIn wsX4_repay (wsV RX4 83 RX3 yX3_owed wsX3_owed) := goodIn_app (goodIn_of _ (by decide +kernel)) ggX4_repay_X3_owed
set_option maxRecDepth 20000 in
theorem ggX4_repay_X3_fact : GoodIn wsX4_repay wsX3_fact := goodIn_r _ [29, 25, 66] (by decide +kernel) (by decide +kernel)
set_option maxRecDepth 20000 in
theorem gX4_repay_X3_fact : GoodIn wsX4_repay (wsV RX4 55 RX3 yX3_fact wsX3_fact) := goodIn_app (goodIn_of _ (by decide +kernel)) ggX4_repay_X3_fact
set_option maxRecDepth 20000 in
theorem ggX4_repay_X1_save : GoodIn wsX4_repay wsX1_save := goodIn_r _ [34, 35, 36, 37, 38, 39, 40, 41, 42, 43, 44, 23, 45, 25, 46, 47, 48, 49, 67, 68, 69, 66] (by decide +kernel) (by decide +kernel)
set_option maxRecDepth 20000 in
theorem gX4_repay_X1_save : GoodIn wsX4_repay (wsV RX4 44 RX1 yX1_save wsX1_save) := goodIn_app (goodIn_of _ (by decide +kernel)) ggX4_repay_X1_save
set_option maxRecDepth 20000 in
theorem ggX4_repay_X3_addCash : GoodIn wsX4_repay wsX3_addCash := goodIn_r _ [53, 54, 55, 56, 23, 57, 25, 66] (by decide +kernel) (by decide +kernel)
set_option maxRecDepth 20000 in
theorem gX4_repay_X3_addCash : GoodIn wsX4_repay (wsV RX4 48 RX3 yX3_addCash wsX3_addCash) := goodIn_app (goodIn_of _ (by decide +kernel)) ggX4_repay_X3_addCash
set_option maxRecDepth 20000 in
theorem ggX4_repay_X3_addOwed : GoodIn wsX4_repay wsX3_addOwed := goodIn_r _ [61, 25, 66] (by decide +kernel) (by decide +kernel)
set_option maxRecDepth 20000 in
theorem gX4_repay_X3_addOwed : GoodIn wsX4_repay (wsV RX4 88 RX3 yX3_addOwed wsX3_addOwed) := goodIn_app (goodIn_of _ (by decide +kernel)) ggX4_repay_X3_addOwed
theorem dX4_repay_0 : decode cX4_repay 0 = .ok (.iload_n 1, 1) := by decide +kernel
theorem dX4_repay_1 : decode cX4_repay 1 = .ok (.invokestatic 37, 3) := by decide +kernel
theorem dX4_repay_4 : decode cX4_repay 4 = .ok (.iload_n 2, 1) := by decide +kernel
theorem dX4_repay_5 : decode cX4_repay 5 = .ok (.invokestatic 37, 3) := by decide +kernel
theorem dX4_repay_8 : decode cX4_repay 8 = .ok (.iload_n 3, 1) := by decide +kernel
theorem dX4_repay_9 : decode cX4_repay 9 = .ok (.invokestatic 41, 3) := by decide +kernel
theorem dX4_repay_12 : decode cX4_repay 12 = .ok (.aload_n 0, 1) := by decide +kernel
theorem dX4_repay_13 : decode cX4_repay 13 = .ok (.getfield 10, 3) := by decide +kernel
theorem dX4_repay_16 : decode cX4_repay 16 = .ok (.iload_n 1, 1) := by decide +kernel
theorem dX4_repay_17 : decode cX4_repay 17 = .ok (.iload_n 2, 1) := by decide +kernel
theorem dX4_repay_18 : decode cX4_repay 18 = .ok (.invokevirtual 83, 3) := by decide +kernel
theorem dX4_repay_21 : decode cX4_repay 21 = .ok (.iload_n 3, 1) := by decide +kernel
theorem dX4_repay_22 : decode cX4_repay 22 = .ok (.if_icmp .lt 16, 3) := by decide +kernel
theorem dX4_repay_25 : decode cX4_repay 25 = .ok (.aload_n 0, 1) := by decide +kernel
theorem dX4_repay_26 : decode cX4_repay 26 = .ok (.getfield 10, 3) := by decide +kernel
theorem dX4_repay_29 : decode cX4_repay 29 = .ok (.iload_n 1, 1) := by decide +kernel
theorem dX4_repay_30 : decode cX4_repay 30 = .ok (.iconst 0, 1) := by decide +kernel
theorem dX4_repay_31 : decode cX4_repay 31 = .ok (.invokevirtual 55, 3) := by decide +kernel
theorem dX4_repay_34 : decode cX4_repay 34 = .ok (.iload_n 3, 1) := by decide +kernel
theorem dX4_repay_35 : decode cX4_repay 35 = .ok (.if_icmp .ge 13, 3) := by decide +kernel
theorem dX4_repay_38 : decode cX4_repay 38 = .ok (.new 63, 3) := by decide +kernel
theorem dX4_repay_41 : decode cX4_repay 41 = .ok (.dup, 1) := by decide +kernel
theorem dX4_repay_42 : decode cX4_repay 42 = .ok (.ldc 86, 2) := by decide +kernel
theorem dX4_repay_44 : decode cX4_repay 44 = .ok (.invokespecial 67, 3) := by decide +kernel
theorem dX4_repay_47 : decode cX4_repay 47 = .ok (.athrow, 1) := by decide +kernel
theorem dX4_repay_48 : decode cX4_repay 48 = .ok (.aload_n 0, 1) := by decide +kernel
theorem dX4_repay_49 : decode cX4_repay 49 = .ok (.getfield 19, 3) := by decide +kernel
theorem dX4_repay_52 : decode cX4_repay 52 = .ok (.aload_n 0, 1) := by decide +kernel
theorem dX4_repay_53 : decode cX4_repay 53 = .ok (.getfield 10, 3) := by decide +kernel
theorem dX4_repay_56 : decode cX4_repay 56 = .ok (.invokevirtual 44, 3) := by decide +kernel
theorem dX4_repay_59 : decode cX4_repay 59 = .ok (.aload_n 0, 1) := by decide +kernel
theorem dX4_repay_60 : decode cX4_repay 60 = .ok (.getfield 10, 3) := by decide +kernel
theorem dX4_repay_63 : decode cX4_repay 63 = .ok (.iload_n 1, 1) := by decide +kernel
theorem dX4_repay_64 : decode cX4_repay 64 = .ok (.iload_n 3, 1) := by decide +kernel
theorem dX4_repay_65 : decode cX4_repay 65 = .ok (.ineg, 1) := by decide +kernel
theorem dX4_repay_66 : decode cX4_repay 66 = .ok (.invokevirtual 48, 3) := by decide +kernel
theorem dX4_repay_69 : decode cX4_repay 69 = .ok (.aload_n 0, 1) := by decide +kernel
theorem dX4_repay_70 : decode cX4_repay 70 = .ok (.getfield 10, 3) := by decide +kernel
theorem dX4_repay_73 : decode cX4_repay 73 = .ok (.iload_n 2, 1) := by decide +kernel
theorem dX4_repay_74 : decode cX4_repay 74 = .ok (.iload_n 3, 1) := by decide +kernel
theorem dX4_repay_75 : decode cX4_repay 75 = .ok (.invokevirtual 48, 3) := by decide +kernel
theorem dX4_repay_78 : decode cX4_repay 78 = .ok (.aload_n 0, 1) := by decide +kernel
theorem dX4_repay_79 : decode cX4_repay 79 = .ok (.getfield 10, 3) := by decide +kernel
theorem dX4_repay_82 : decode cX4_repay 82 = .ok (.iload_n 1, 1) := by decide +kernel
theorem dX4_repay_83 : decode cX4_repay 83 = .ok (.iload_n 2, 1) := by decide +kernel
theorem dX4_repay_84 : decode cX4_repay 84 = .ok (.iload_n 3, 1) := by decide +kernel
theorem dX4_repay_85 : decode cX4_repay 85 = .ok (.ineg, 1) := by decide +kernel
theorem dX4_repay_86 : decode cX4_repay 86 = .ok (.invokevirtual 88, 3) := by decide +kernel
theorem dX4_repay_89 : decode cX4_repay 89 = .ok (.aload_n 0, 1) := by decide +kernel
theorem dX4_repay_90 : decode cX4_repay 90 = .ok (.getfield 10, 3) := by decide +kernel
theorem dX4_repay_93 : decode cX4_repay 93 = .ok (.iload_n 1, 1) := by decide +kernel
theorem dX4_repay_94 : decode cX4_repay 94 = .ok (.iload_n 2, 1) := by decide +kernel
theorem dX4_repay_95 : decode cX4_repay 95 = .ok (.invokevirtual 83, 3) := by decide +kernel
theorem dX4_repay_98 : decode cX4_repay 98 = .ok (.ireturn, 1) := by decide +kernel
set_option maxRecDepth 20000 in
theorem ggX4_set_X4_requireSetting : GoodIn wsX4_set wsX4_requireSetting := goodIn_ca (goodIn_r _ [6, 7, 8] (by decide +kernel) (by decide +kernel)) (goodIn_sub (fun _ h => List.mem_cons_of_mem _ (List.mem_append_left _ (List.mem_append_right _ h))) (by decide +kernel))
set_option maxRecDepth 20000 in
theorem gX4_set_X4_requireSetting : GoodIn wsX4_set (va_wsS RX4 91 yX4_requireSetting wsX4_requireSetting) := goodIn_app (goodIn_of _ (by decide +kernel)) ggX4_set_X4_requireSetting
set_option maxRecDepth 20000 in
theorem ggX4_set_X4_leastOfSetting : GoodIn wsX4_set wsX4_leastOfSetting := goodIn_r _ [11] (by decide +kernel) (by decide +kernel)
set_option maxRecDepth 20000 in
theorem gX4_set_X4_leastOfSetting : GoodIn wsX4_set (va_wsS RX4 94 yX4_leastOfSetting wsX4_leastOfSetting) := goodIn_app (goodIn_of _ (by decide +kernel)) ggX4_set_X4_leastOfSetting
set_option maxRecDepth 20000 in
theorem ggX4_set_X4_mostOfSetting : GoodIn wsX4_set wsX4_mostOfSetting := goodIn_r _ [14] (by decide +kernel) (by decide +kernel)
set_option maxRecDepth 20000 in
theorem gX4_set_X4_mostOfSetting : GoodIn wsX4_set (va_wsS RX4 97 yX4_mostOfSetting wsX4_mostOfSetting) := goodIn_app (goodIn_of _ (by decide +kernel)) ggX4_set_X4_mostOfSetting
set_option maxRecDepth 20000 in
theorem ggX4_set_X4_requireRange : GoodIn wsX4_set wsX4_requireRange := goodIn_ca (goodIn_r _ [17, 18, 19] (by decide +kernel) (by decide +kernel)) (goodIn_sub (fun _ h => List.mem_cons_of_mem _ (List.mem_append_right _ h)) (by decide +kernel))
set_option maxRecDepth 20000 in
theorem gX4_set_X4_requireRange : GoodIn wsX4_set (va_wsS RX4 70 yX4_requireRange wsX4_requireRange) := goodIn_app (goodIn_of _ (by decide +kernel)) ggX4_set_X4_requireRange
set_option maxRecDepth 20000 in
theorem ggX4_set_X1_save : GoodIn wsX4_set wsX1_save := goodIn_r _ [24, 25, 26, 27, 28, 29, 30, 31, 32, 33, 34, 35, 36, 37, 38, 39, 40, 41, 54, 55, 56, 57] (by decide +kernel) (by decide +kernel)
set_option maxRecDepth 20000 in
theorem gX4_set_X1_save : GoodIn wsX4_set (wsV RX4 44 RX1 yX1_save wsX1_save) := goodIn_app (goodIn_of _ (by decide +kernel)) ggX4_set_X1_save
set_option maxRecDepth 20000 in
theorem ggX4_set_X3_settingValue : GoodIn wsX4_set wsX3_settingValue := goodIn_r _ [45, 37, 57] (by decide +kernel) (by decide +kernel)
set_option maxRecDepth 20000 in
theorem gX4_set_X3_settingValue : GoodIn wsX4_set (wsV RX4 100 RX3 yX3_settingValue wsX3_settingValue) := goodIn_app (goodIn_of _ (by decide +kernel)) ggX4_set_X3_settingValue
set_option maxRecDepth 20000 in
theorem ggX4_set_X3_putSetting : GoodIn wsX4_set wsX3_putSetting := goodIn_r _ [49, 37, 57] (by decide +kernel) (by decide +kernel)
set_option maxRecDepth 20000 in
theorem gX4_set_X3_putSetting : GoodIn wsX4_set (wsV RX4 103 RX3 yX3_putSetting wsX3_putSetting) := goodIn_app (goodIn_of _ (by decide +kernel)) ggX4_set_X3_putSetting
theorem dX4_set_0 : decode cX4_set 0 = .ok (.iload_n 1, 1) := by decide +kernel
theorem dX4_set_1 : decode cX4_set 1 = .ok (.invokestatic 91, 3) := by decide +kernel
theorem dX4_set_4 : decode cX4_set 4 = .ok (.iload_n 2, 1) := by decide +kernel
theorem dX4_set_5 : decode cX4_set 5 = .ok (.iload_n 1, 1) := by decide +kernel
theorem dX4_set_6 : decode cX4_set 6 = .ok (.invokestatic 94, 3) := by decide +kernel
theorem dX4_set_9 : decode cX4_set 9 = .ok (.iload_n 1, 1) := by decide +kernel
theorem dX4_set_10 : decode cX4_set 10 = .ok (.invokestatic 97, 3) := by decide +kernel
theorem dX4_set_13 : decode cX4_set 13 = .ok (.invokestatic 70, 3) := by decide +kernel
theorem dX4_set_16 : decode cX4_set 16 = .ok (.aload_n 0, 1) := by decide +kernel
theorem dX4_set_17 : decode cX4_set 17 = .ok (.getfield 19, 3) := by decide +kernel
theorem dX4_set_20 : decode cX4_set 20 = .ok (.aload_n 0, 1) := by decide +kernel
theorem dX4_set_21 : decode cX4_set 21 = .ok (.getfield 10, 3) := by decide +kernel
theorem dX4_set_24 : decode cX4_set 24 = .ok (.invokevirtual 44, 3) := by decide +kernel
theorem dX4_set_27 : decode cX4_set 27 = .ok (.aload_n 0, 1) := by decide +kernel
theorem dX4_set_28 : decode cX4_set 28 = .ok (.getfield 10, 3) := by decide +kernel
theorem dX4_set_31 : decode cX4_set 31 = .ok (.iload_n 1, 1) := by decide +kernel
theorem dX4_set_32 : decode cX4_set 32 = .ok (.invokevirtual 100, 3) := by decide +kernel
theorem dX4_set_35 : decode cX4_set 35 = .ok (.istore_n 3, 1) := by decide +kernel
theorem dX4_set_36 : decode cX4_set 36 = .ok (.aload_n 0, 1) := by decide +kernel
theorem dX4_set_37 : decode cX4_set 37 = .ok (.getfield 10, 3) := by decide +kernel
theorem dX4_set_40 : decode cX4_set 40 = .ok (.iload_n 1, 1) := by decide +kernel
theorem dX4_set_41 : decode cX4_set 41 = .ok (.iload_n 2, 1) := by decide +kernel
theorem dX4_set_42 : decode cX4_set 42 = .ok (.invokevirtual 103, 3) := by decide +kernel
theorem dX4_set_45 : decode cX4_set 45 = .ok (.iload_n 3, 1) := by decide +kernel
theorem dX4_set_46 : decode cX4_set 46 = .ok (.ireturn, 1) := by decide +kernel
set_option maxRecDepth 20000 in
theorem ggX4_call_X4_requireBond : GoodIn wsX4_call wsX4_requireBond := goodIn_ca (goodIn_r _ [10, 11, 12, 3, 13, 14, 15, 16, 17, 18, 160, 161, 162, 163, 164] (by decide +kernel) (by decide +kernel)) (goodIn_sub (fun _ h => List.mem_cons_of_mem _ (List.mem_append_left _ (List.mem_append_right _ h))) (by decide +kernel))
set_option maxRecDepth 20000 in
theorem gX4_call_X4_requireBond : GoodIn wsX4_call (wsV RX4 106 RX4 yX4_requireBond wsX4_requireBond) := goodIn_app (goodIn_of _ (by decide +kernel)) ggX4_call_X4_requireBond
set_option maxRecDepth 20000 in
theorem ggX4_call_X4_requireAmount : GoodIn wsX4_call wsX4_requireAmount := goodIn_ca (goodIn_r _ [21, 22, 23, 24, 9, 25, 26, 27] (by decide +kernel) (by decide +kernel)) (goodIn_sub (fun _ h => List.mem_cons_of_mem _ (List.mem_append_right _ h)) (by decide +kernel))
set_option maxRecDepth 20000 in
theorem gX4_call_X4_requireAmount : GoodIn wsX4_call (va_wsS RX4 41 yX4_requireAmount wsX4_requireAmount) := goodIn_app (goodIn_of _ (by decide +kernel)) ggX4_call_X4_requireAmount
set_option maxRecDepth 20000 in
theorem ggX4_call_X4_requireRange : GoodIn wsX4_call wsX4_requireRange := goodIn_ca (goodIn_r _ [25, 26, 27] (by decide +kernel) (by decide +kernel)) (goodIn_sub (fun _ h => List.mem_cons_of_mem _ (List.mem_append_right _ h)) (by decide +kernel))
set_option maxRecDepth 20000 in
theorem gX4_call_X4_requireRange : GoodIn wsX4_call (va_wsS RX4 70 yX4_requireRange wsX4_requireRange) := goodIn_app (goodIn_of _ (by decide +kernel)) ggX4_call_X4_requireRange
set_option maxRecDepth 20000 in
theorem ggX4_call_X4_requireRunning : GoodIn wsX4_call wsX4_requireRunning := goodIn_ca (goodIn_r _ [31, 1, 2, 3, 32, 33, 34, 16, 35, 18, 160, 161, 162, 163, 164] (by decide +kernel) (by decide +kernel)) (goodIn_sub (fun _ h => List.mem_cons_of_mem _ (List.mem_append_left _ (List.mem_append_left _ (List.mem_append_right _ h)))) (by decide +kernel))
set_option maxRecDepth 20000 in
theorem gX4_call_X4_requireRunning : GoodIn wsX4_call (wsV RX4 109 RX4 yX4_requireRunning wsX4_requireRunning) := goodIn_app (goodIn_of _ (by decide +kernel)) ggX4_call_X4_requireRunning
set_option maxRecDepth 20000 in
theorem ggX4_call_X3_settingValue : GoodIn wsX4_call wsX3_settingValue := goodIn_r _ [39, 18, 164] (by decide +kernel) (by decide +kernel)
set_option maxRecDepth 20000 in
theorem gX4_call_X3_settingValue : GoodIn wsX4_call (wsV RX4 100 RX3 yX3_settingValue wsX3_settingValue) := goodIn_app (goodIn_of _ (by decide +kernel)) ggX4_call_X3_settingValue
set_option maxRecDepth 20000 in
theorem ggX4_call_X1_save : GoodIn wsX4_call wsX1_save := goodIn_r _ [44, 45, 46, 47, 48, 49, 50, 51, 52, 53, 54, 16, 55, 18, 56, 57, 58, 59, 165, 166, 167, 164] (by decide +kernel) (by decide +kernel)
set_option maxRecDepth 20000 in
theorem gX4_call_X1_save : GoodIn wsX4_call (wsV RX4 44 RX1 yX1_save wsX1_save) := goodIn_app (goodIn_of _ (by decide +kernel)) ggX4_call_X1_save
set_option maxRecDepth 20000 in
theorem ggX4_call_X2_draw : GoodIn wsX4_call wsX2_draw := goodIn_r _ [64, 65, 66, 67, 68, 49, 50, 51, 69, 70, 71, 72, 73, 74, 75, 63, 76, 77, 78, 79, 80, 81, 82, 16, 83, 18, 84, 33, 34, 35, 85, 86, 87, 88, 89, 90, 91, 92, 93, 94, 95, 96, 97, 98, 99, 100, 101, 102, 103, 104, 105, 106, 107, 108, 109, 110, 111, 112, 113, 114, 115, 116, 117, 118, 119, 120, 121, 122, 123, 168, 169, 170, 171, 172, 173, 174, 175, 176, 177, 178, 179, 164] (by decide +kernel) (by decide +kernel)
set_option maxRecDepth 20000 in
theorem gX4_call_X2_draw : GoodIn wsX4_call (wsV RX4 114 RX2 yX2_draw wsX2_draw) := goodIn_app (goodIn_of _ (by decide +kernel)) ggX4_call_X2_draw
set_option maxRecDepth 20000 in
theorem ggX4_call_X2_carryOut : GoodIn wsX4_call wsX2_carryOut := goodIn_r _ [127, 66, 78, 67, 77, 69, 71, 116, 65, 70, 128, 129, 130, 16, 131, 18, 132, 133, 134, 135, 136, 137, 138, 139, 84, 33, 34, 35, 107, 104, 105, 106, 140, 141, 142, 143, 144, 145, 146, 147, 148, 149, 150, 151, 152, 49, 50, 51, 153, 100, 101, 102, 89, 103, 154, 86, 87, 88, 155, 168, 169, 170, 171, 172, 173, 174, 175, 176, 177, 178, 179, 164] (by decide +kernel) (by decide +kernel)
set_option maxRecDepth 20000 in
theorem gX4_call_X2_carryOut : GoodIn wsX4_call (wsV RX4 118 RX2 yX2_carryOut wsX2_carryOut) := goodIn_app (goodIn_of _ (by decide +kernel)) ggX4_call_X2_carryOut
set_option maxRecDepth 20000 in
theorem ggX4_call_X2_paid : GoodIn wsX4_call wsX2_paid := goodIn_r _ [159, 70, 168, 169, 170, 171, 172, 173, 174, 175, 176, 177, 178, 179] (by decide +kernel) (by decide +kernel)
set_option maxRecDepth 20000 in
theorem gX4_call_X2_paid : GoodIn wsX4_call (wsV RX4 121 RX2 yX2_paid wsX2_paid) := goodIn_app (goodIn_of _ (by decide +kernel)) ggX4_call_X2_paid
theorem dX4_call_0 : decode cX4_call 0 = .ok (.aload_n 0, 1) := by decide +kernel
theorem dX4_call_1 : decode cX4_call 1 = .ok (.iload_n 1, 1) := by decide +kernel
theorem dX4_call_2 : decode cX4_call 2 = .ok (.invokevirtual 106, 3) := by decide +kernel
theorem dX4_call_5 : decode cX4_call 5 = .ok (.iload_n 2, 1) := by decide +kernel
theorem dX4_call_6 : decode cX4_call 6 = .ok (.invokestatic 41, 3) := by decide +kernel
theorem dX4_call_9 : decode cX4_call 9 = .ok (.iload_n 3, 1) := by decide +kernel
theorem dX4_call_10 : decode cX4_call 10 = .ok (.iconst 0, 1) := by decide +kernel
theorem dX4_call_11 : decode cX4_call 11 = .ok (.bipush 9, 2) := by decide +kernel
theorem dX4_call_13 : decode cX4_call 13 = .ok (.invokestatic 70, 3) := by decide +kernel
theorem dX4_call_16 : decode cX4_call 16 = .ok (.aload_n 0, 1) := by decide +kernel
theorem dX4_call_17 : decode cX4_call 17 = .ok (.iload_n 1, 1) := by decide +kernel
theorem dX4_call_18 : decode cX4_call 18 = .ok (.invokevirtual 109, 3) := by decide +kernel
theorem dX4_call_21 : decode cX4_call 21 = .ok (.iload_n 3, 1) := by decide +kernel
theorem dX4_call_22 : decode cX4_call 22 = .ok (.aload_n 0, 1) := by decide +kernel
theorem dX4_call_23 : decode cX4_call 23 = .ok (.getfield 10, 3) := by decide +kernel
theorem dX4_call_26 : decode cX4_call 26 = .ok (.iconst 0, 1) := by decide +kernel
theorem dX4_call_27 : decode cX4_call 27 = .ok (.invokevirtual 100, 3) := by decide +kernel
theorem dX4_call_30 : decode cX4_call 30 = .ok (.if_icmp .ge 13, 3) := by decide +kernel
theorem dX4_call_33 : decode cX4_call 33 = .ok (.new 63, 3) := by decide +kernel
theorem dX4_call_36 : decode cX4_call 36 = .ok (.dup, 1) := by decide +kernel
theorem dX4_call_37 : decode cX4_call 37 = .ok (.ldc 112, 2) := by decide +kernel
theorem dX4_call_39 : decode cX4_call 39 = .ok (.invokespecial 67, 3) := by decide +kernel
theorem dX4_call_42 : decode cX4_call 42 = .ok (.athrow, 1) := by decide +kernel
theorem dX4_call_43 : decode cX4_call 43 = .ok (.aload_n 0, 1) := by decide +kernel
theorem dX4_call_44 : decode cX4_call 44 = .ok (.getfield 19, 3) := by decide +kernel
theorem dX4_call_47 : decode cX4_call 47 = .ok (.aload_n 0, 1) := by decide +kernel
theorem dX4_call_48 : decode cX4_call 48 = .ok (.getfield 10, 3) := by decide +kernel
theorem dX4_call_51 : decode cX4_call 51 = .ok (.invokevirtual 44, 3) := by decide +kernel
theorem dX4_call_54 : decode cX4_call 54 = .ok (.aload_n 0, 1) := by decide +kernel
theorem dX4_call_55 : decode cX4_call 55 = .ok (.getfield 33, 3) := by decide +kernel
theorem dX4_call_58 : decode cX4_call 58 = .ok (.aload_n 0, 1) := by decide +kernel
theorem dX4_call_59 : decode cX4_call 59 = .ok (.getfield 10, 3) := by decide +kernel
theorem dX4_call_62 : decode cX4_call 62 = .ok (.iload_n 1, 1) := by decide +kernel
theorem dX4_call_63 : decode cX4_call 63 = .ok (.iload_n 2, 1) := by decide +kernel
theorem dX4_call_64 : decode cX4_call 64 = .ok (.invokevirtual 114, 3) := by decide +kernel
theorem dX4_call_67 : decode cX4_call 67 = .ok (.aload_n 0, 1) := by decide +kernel
theorem dX4_call_68 : decode cX4_call 68 = .ok (.getfield 33, 3) := by decide +kernel
theorem dX4_call_71 : decode cX4_call 71 = .ok (.aload_n 0, 1) := by decide +kernel
theorem dX4_call_72 : decode cX4_call 72 = .ok (.getfield 10, 3) := by decide +kernel
theorem dX4_call_75 : decode cX4_call 75 = .ok (.invokevirtual 118, 3) := by decide +kernel
theorem dX4_call_78 : decode cX4_call 78 = .ok (.aload_n 0, 1) := by decide +kernel
theorem dX4_call_79 : decode cX4_call 79 = .ok (.getfield 33, 3) := by decide +kernel
theorem dX4_call_82 : decode cX4_call 82 = .ok (.invokevirtual 121, 3) := by decide +kernel
theorem dX4_call_85 : decode cX4_call 85 = .ok (.ireturn, 1) := by decide +kernel
set_option maxRecDepth 20000 in
theorem ggX4_reach_X4_requireBond : GoodIn wsX4_reach wsX4_requireBond := goodIn_ca (goodIn_r _ [13, 14, 15, 3, 16, 17, 18, 19, 20, 21, 83, 84, 85, 86, 87] (by decide +kernel) (by decide +kernel)) (goodIn_sub (fun _ h => List.mem_cons_of_mem _ (List.mem_append_right _ h)) (by decide +kernel))
set_option maxRecDepth 20000 in
theorem gX4_reach_X4_requireBond : GoodIn wsX4_reach (wsV RX4 106 RX4 yX4_requireBond wsX4_requireBond) := goodIn_app (goodIn_of _ (by decide +kernel)) ggX4_reach_X4_requireBond
set_option maxRecDepth 20000 in
theorem ggX4_reach_X4_requireRunning : GoodIn wsX4_reach wsX4_requireRunning := goodIn_ca (goodIn_r _ [25, 1, 2, 3, 26, 27, 28, 19, 29, 21, 83, 84, 85, 86, 87] (by decide +kernel) (by decide +kernel)) (goodIn_sub (fun _ h => List.mem_cons_of_mem _ (List.mem_append_left _ (List.mem_append_right _ h))) (by decide +kernel))
set_option maxRecDepth 20000 in
theorem gX4_reach_X4_requireRunning : GoodIn wsX4_reach (wsV RX4 109 RX4 yX4_requireRunning wsX4_requireRunning) := goodIn_app (goodIn_of _ (by decide +kernel)) ggX4_reach_X4_requireRunning
set_option maxRecDepth 20000 in
theorem ggX4_reach_X3_bondFact : GoodIn wsX4_reach wsX3_bondFact := goodIn_r _ [29, 21, 87] (by decide +kernel) (by decide +kernel)
set_option maxRecDepth 20000 in
theorem gX4_reach_X3_bondFact : GoodIn wsX4_reach (wsV RX4 125 RX3 yX3_bondFact wsX3_bondFact) := goodIn_app (goodIn_of _ (by decide +kernel)) ggX4_reach_X3_bondFact
set_option maxRecDepth 20000 in
theorem ggX4_reach_X1_save : GoodIn wsX4_reach wsX1_save := goodIn_r _ [34, 35, 36, 37, 38, 6, 7, 8, 39, 40, 41, 19, 42, 21, 43, 44, 45, 46, 88, 89, 90, 87] (by decide +kernel) (by decide +kernel)
set_option maxRecDepth 20000 in
theorem gX4_reach_X1_save : GoodIn wsX4_reach (wsV RX4 44 RX1 yX1_save wsX1_save) := goodIn_app (goodIn_of _ (by decide +kernel)) ggX4_reach_X1_save
set_option maxRecDepth 20000 in
theorem ggX4_reach_X3_milestoneShare : GoodIn wsX4_reach wsX3_milestoneShare := goodIn_r _ [50, 51, 27, 28, 19, 29, 21, 87] (by decide +kernel) (by decide +kernel)
set_option maxRecDepth 20000 in
theorem gX4_reach_X3_milestoneShare : GoodIn wsX4_reach (wsV RX4 130 RX3 yX3_milestoneShare wsX3_milestoneShare) := goodIn_app (goodIn_of _ (by decide +kernel)) ggX4_reach_X3_milestoneShare
set_option maxRecDepth 20000 in
theorem ggX4_reach_X3_leftOfBond : GoodIn wsX4_reach wsX3_leftOfBond := goodIn_r _ [55, 51, 27, 28, 19, 29, 21, 87] (by decide +kernel) (by decide +kernel)
set_option maxRecDepth 20000 in
theorem gX4_reach_X3_leftOfBond : GoodIn wsX4_reach (wsV RX4 133 RX3 yX3_leftOfBond wsX3_leftOfBond) := goodIn_app (goodIn_of _ (by decide +kernel)) ggX4_reach_X3_leftOfBond
set_option maxRecDepth 20000 in
theorem ggX4_reach_X3_addBondFact : GoodIn wsX4_reach wsX3_addBondFact := goodIn_r _ [59, 21, 87] (by decide +kernel) (by decide +kernel)
set_option maxRecDepth 20000 in
theorem gX4_reach_X3_addBondFact : GoodIn wsX4_reach (wsV RX4 141 RX3 yX3_addBondFact wsX3_addBondFact) := goodIn_app (goodIn_of _ (by decide +kernel)) ggX4_reach_X3_addBondFact
set_option maxRecDepth 20000 in
theorem ggX4_reach_X3_release : GoodIn wsX4_reach wsX3_release := goodIn_r _ [63, 64, 57, 58, 19, 59, 21, 65, 66, 67, 68, 69, 6, 7, 8, 70, 71, 72, 73, 51, 27, 28, 29, 74, 75, 76, 77, 78, 53, 54, 55, 79, 80, 81, 82, 87] (by decide +kernel) (by decide +kernel)
set_option maxRecDepth 20000 in
theorem gX4_reach_X3_release : GoodIn wsX4_reach (wsV RX4 144 RX3 yX3_release wsX3_release) := goodIn_app (goodIn_of _ (by decide +kernel)) ggX4_reach_X3_release
theorem dX4_reach_0 : decode cX4_reach 0 = .ok (.aload_n 0, 1) := by decide +kernel
theorem dX4_reach_1 : decode cX4_reach 1 = .ok (.iload_n 1, 1) := by decide +kernel
theorem dX4_reach_2 : decode cX4_reach 2 = .ok (.invokevirtual 106, 3) := by decide +kernel
theorem dX4_reach_5 : decode cX4_reach 5 = .ok (.aload_n 0, 1) := by decide +kernel
theorem dX4_reach_6 : decode cX4_reach 6 = .ok (.iload_n 1, 1) := by decide +kernel
theorem dX4_reach_7 : decode cX4_reach 7 = .ok (.invokevirtual 109, 3) := by decide +kernel
theorem dX4_reach_10 : decode cX4_reach 10 = .ok (.aload_n 0, 1) := by decide +kernel
theorem dX4_reach_11 : decode cX4_reach 11 = .ok (.getfield 10, 3) := by decide +kernel
theorem dX4_reach_14 : decode cX4_reach 14 = .ok (.iload_n 1, 1) := by decide +kernel
theorem dX4_reach_15 : decode cX4_reach 15 = .ok (.iconst 5, 1) := by decide +kernel
theorem dX4_reach_16 : decode cX4_reach 16 = .ok (.invokevirtual 125, 3) := by decide +kernel
theorem dX4_reach_19 : decode cX4_reach 19 = .ok (.istore_n 2, 1) := by decide +kernel
theorem dX4_reach_20 : decode cX4_reach 20 = .ok (.iload_n 2, 1) := by decide +kernel
theorem dX4_reach_21 : decode cX4_reach 21 = .ok (.aload_n 0, 1) := by decide +kernel
theorem dX4_reach_22 : decode cX4_reach 22 = .ok (.getfield 10, 3) := by decide +kernel
theorem dX4_reach_25 : decode cX4_reach 25 = .ok (.iload_n 1, 1) := by decide +kernel
theorem dX4_reach_26 : decode cX4_reach 26 = .ok (.iconst 4, 1) := by decide +kernel
theorem dX4_reach_27 : decode cX4_reach 27 = .ok (.invokevirtual 125, 3) := by decide +kernel
theorem dX4_reach_30 : decode cX4_reach 30 = .ok (.if_icmp .lt 13, 3) := by decide +kernel
theorem dX4_reach_33 : decode cX4_reach 33 = .ok (.new 63, 3) := by decide +kernel
theorem dX4_reach_36 : decode cX4_reach 36 = .ok (.dup, 1) := by decide +kernel
theorem dX4_reach_37 : decode cX4_reach 37 = .ok (.ldc 128, 2) := by decide +kernel
theorem dX4_reach_39 : decode cX4_reach 39 = .ok (.invokespecial 67, 3) := by decide +kernel
theorem dX4_reach_42 : decode cX4_reach 42 = .ok (.athrow, 1) := by decide +kernel
theorem dX4_reach_43 : decode cX4_reach 43 = .ok (.aload_n 0, 1) := by decide +kernel
theorem dX4_reach_44 : decode cX4_reach 44 = .ok (.getfield 19, 3) := by decide +kernel
theorem dX4_reach_47 : decode cX4_reach 47 = .ok (.aload_n 0, 1) := by decide +kernel
theorem dX4_reach_48 : decode cX4_reach 48 = .ok (.getfield 10, 3) := by decide +kernel
theorem dX4_reach_51 : decode cX4_reach 51 = .ok (.invokevirtual 44, 3) := by decide +kernel
theorem dX4_reach_54 : decode cX4_reach 54 = .ok (.aload_n 0, 1) := by decide +kernel
theorem dX4_reach_55 : decode cX4_reach 55 = .ok (.getfield 10, 3) := by decide +kernel
theorem dX4_reach_58 : decode cX4_reach 58 = .ok (.iload_n 1, 1) := by decide +kernel
theorem dX4_reach_59 : decode cX4_reach 59 = .ok (.iconst 1, 1) := by decide +kernel
theorem dX4_reach_60 : decode cX4_reach 60 = .ok (.invokevirtual 125, 3) := by decide +kernel
theorem dX4_reach_63 : decode cX4_reach 63 = .ok (.aload_n 0, 1) := by decide +kernel
theorem dX4_reach_64 : decode cX4_reach 64 = .ok (.getfield 10, 3) := by decide +kernel
theorem dX4_reach_67 : decode cX4_reach 67 = .ok (.iload_n 1, 1) := by decide +kernel
theorem dX4_reach_68 : decode cX4_reach 68 = .ok (.iload_n 2, 1) := by decide +kernel
theorem dX4_reach_69 : decode cX4_reach 69 = .ok (.invokevirtual 130, 3) := by decide +kernel
theorem dX4_reach_72 : decode cX4_reach 72 = .ok (.imul, 1) := by decide +kernel
theorem dX4_reach_73 : decode cX4_reach 73 = .ok (.sipush 1000, 3) := by decide +kernel
theorem dX4_reach_76 : decode cX4_reach 76 = .ok (.idiv, 1) := by decide +kernel
theorem dX4_reach_77 : decode cX4_reach 77 = .ok (.istore_n 3, 1) := by decide +kernel
theorem dX4_reach_78 : decode cX4_reach 78 = .ok (.iload_n 3, 1) := by decide +kernel
theorem dX4_reach_79 : decode cX4_reach 79 = .ok (.aload_n 0, 1) := by decide +kernel
theorem dX4_reach_80 : decode cX4_reach 80 = .ok (.getfield 10, 3) := by decide +kernel
theorem dX4_reach_83 : decode cX4_reach 83 = .ok (.iload_n 1, 1) := by decide +kernel
theorem dX4_reach_84 : decode cX4_reach 84 = .ok (.invokevirtual 133, 3) := by decide +kernel
theorem dX4_reach_87 : decode cX4_reach 87 = .ok (.invokestatic 136, 3) := by decide +kernel
theorem dX4_reach_90 : decode cX4_reach 90 = .ok (.istore 4, 2) := by decide +kernel
theorem dX4_reach_92 : decode cX4_reach 92 = .ok (.aload_n 0, 1) := by decide +kernel
theorem dX4_reach_93 : decode cX4_reach 93 = .ok (.getfield 10, 3) := by decide +kernel
theorem dX4_reach_96 : decode cX4_reach 96 = .ok (.iload_n 1, 1) := by decide +kernel
theorem dX4_reach_97 : decode cX4_reach 97 = .ok (.iconst 5, 1) := by decide +kernel
theorem dX4_reach_98 : decode cX4_reach 98 = .ok (.iconst 1, 1) := by decide +kernel
theorem dX4_reach_99 : decode cX4_reach 99 = .ok (.invokevirtual 141, 3) := by decide +kernel
theorem dX4_reach_102 : decode cX4_reach 102 = .ok (.aload_n 0, 1) := by decide +kernel
theorem dX4_reach_103 : decode cX4_reach 103 = .ok (.getfield 10, 3) := by decide +kernel
theorem dX4_reach_106 : decode cX4_reach 106 = .ok (.iload_n 1, 1) := by decide +kernel
theorem dX4_reach_107 : decode cX4_reach 107 = .ok (.iload 4, 2) := by decide +kernel
theorem dX4_reach_109 : decode cX4_reach 109 = .ok (.invokevirtual 144, 3) := by decide +kernel
theorem dX4_reach_112 : decode cX4_reach 112 = .ok (.iload 4, 2) := by decide +kernel
theorem dX4_reach_114 : decode cX4_reach 114 = .ok (.ireturn, 1) := by decide +kernel
set_option maxRecDepth 20000 in
theorem ggX4_end_X4_requireBond : GoodIn wsX4_end wsX4_requireBond := goodIn_ca (goodIn_r _ [7, 8, 9, 2, 10, 11, 12, 13, 14, 15, 81, 82, 83, 84, 85] (by decide +kernel) (by decide +kernel)) (goodIn_sub (fun _ h => List.mem_cons_of_mem _ (List.mem_append_left _ (List.mem_append_right _ h))) (by decide +kernel))
set_option maxRecDepth 20000 in
theorem gX4_end_X4_requireBond : GoodIn wsX4_end (wsV RX4 106 RX4 yX4_requireBond wsX4_requireBond) := goodIn_app (goodIn_of _ (by decide +kernel)) ggX4_end_X4_requireBond
set_option maxRecDepth 20000 in
theorem ggX4_end_X4_requireRunning : GoodIn wsX4_end wsX4_requireRunning := goodIn_ca (goodIn_r _ [19, 20, 21, 2, 22, 23, 24, 13, 25, 15, 81, 82, 83, 84, 85] (by decide +kernel) (by decide +kernel)) (goodIn_sub (fun _ h => List.mem_cons_of_mem _ (List.mem_append_right _ h)) (by decide +kernel))
set_option maxRecDepth 20000 in
theorem gX4_end_X4_requireRunning : GoodIn wsX4_end (wsV RX4 109 RX4 yX4_requireRunning wsX4_requireRunning) := goodIn_app (goodIn_of _ (by decide +kernel)) ggX4_end_X4_requireRunning
set_option maxRecDepth 20000 in
theorem ggX4_end_X1_save : GoodIn wsX4_end wsX1_save := goodIn_r _ [30, 31, 32, 33, 34, 35, 36, 37, 38, 39, 40, 13, 41, 15, 42, 43, 44, 45, 86, 87, 88, 85] (by decide +kernel) (by decide +kernel)
set_option maxRecDepth 20000 in
theorem gX4_end_X1_save : GoodIn wsX4_end (wsV RX4 44 RX1 yX1_save wsX1_save) := goodIn_app (goodIn_of _ (by decide +kernel)) ggX4_end_X1_save
set_option maxRecDepth 20000 in
theorem ggX4_end_X3_leftOfBond : GoodIn wsX4_end wsX3_leftOfBond := goodIn_r _ [49, 50, 23, 24, 13, 25, 15, 85] (by decide +kernel) (by decide +kernel)
set_option maxRecDepth 20000 in
theorem gX4_end_X3_leftOfBond : GoodIn wsX4_end (wsV RX4 133 RX3 yX3_leftOfBond wsX3_leftOfBond) := goodIn_app (goodIn_of _ (by decide +kernel)) ggX4_end_X3_leftOfBond
set_option maxRecDepth 20000 in
theorem ggX4_end_X3_release : GoodIn wsX4_end wsX3_release := goodIn_r _ [54, 55, 56, 57, 13, 58, 15, 59, 60, 61, 62, 63, 35, 36, 37, 64, 65, 66, 67, 50, 23, 24, 25, 68, 69, 70, 71, 72, 47, 48, 49, 73, 74, 75, 76, 85] (by decide +kernel) (by decide +kernel)
set_option maxRecDepth 20000 in
theorem gX4_end_X3_release : GoodIn wsX4_end (wsV RX4 144 RX3 yX3_release wsX3_release) := goodIn_app (goodIn_of _ (by decide +kernel)) ggX4_end_X3_release
set_option maxRecDepth 20000 in
theorem ggX4_end_X3_putBondFact : GoodIn wsX4_end wsX3_putBondFact := goodIn_r _ [80, 15, 85] (by decide +kernel) (by decide +kernel)
set_option maxRecDepth 20000 in
theorem gX4_end_X3_putBondFact : GoodIn wsX4_end (wsV RX4 147 RX3 yX3_putBondFact wsX3_putBondFact) := goodIn_app (goodIn_of _ (by decide +kernel)) ggX4_end_X3_putBondFact
theorem dX4_end_0 : decode cX4_end 0 = .ok (.aload_n 0, 1) := by decide +kernel
theorem dX4_end_1 : decode cX4_end 1 = .ok (.iload_n 1, 1) := by decide +kernel
theorem dX4_end_2 : decode cX4_end 2 = .ok (.invokevirtual 106, 3) := by decide +kernel
theorem dX4_end_5 : decode cX4_end 5 = .ok (.aload_n 0, 1) := by decide +kernel
theorem dX4_end_6 : decode cX4_end 6 = .ok (.iload_n 1, 1) := by decide +kernel
theorem dX4_end_7 : decode cX4_end 7 = .ok (.invokevirtual 109, 3) := by decide +kernel
theorem dX4_end_10 : decode cX4_end 10 = .ok (.aload_n 0, 1) := by decide +kernel
theorem dX4_end_11 : decode cX4_end 11 = .ok (.getfield 19, 3) := by decide +kernel
theorem dX4_end_14 : decode cX4_end 14 = .ok (.aload_n 0, 1) := by decide +kernel
theorem dX4_end_15 : decode cX4_end 15 = .ok (.getfield 10, 3) := by decide +kernel
theorem dX4_end_18 : decode cX4_end 18 = .ok (.invokevirtual 44, 3) := by decide +kernel
theorem dX4_end_21 : decode cX4_end 21 = .ok (.aload_n 0, 1) := by decide +kernel
theorem dX4_end_22 : decode cX4_end 22 = .ok (.getfield 10, 3) := by decide +kernel
theorem dX4_end_25 : decode cX4_end 25 = .ok (.iload_n 1, 1) := by decide +kernel
theorem dX4_end_26 : decode cX4_end 26 = .ok (.invokevirtual 133, 3) := by decide +kernel
theorem dX4_end_29 : decode cX4_end 29 = .ok (.istore_n 2, 1) := by decide +kernel
theorem dX4_end_30 : decode cX4_end 30 = .ok (.aload_n 0, 1) := by decide +kernel
theorem dX4_end_31 : decode cX4_end 31 = .ok (.getfield 10, 3) := by decide +kernel
theorem dX4_end_34 : decode cX4_end 34 = .ok (.iload_n 1, 1) := by decide +kernel
theorem dX4_end_35 : decode cX4_end 35 = .ok (.iload_n 2, 1) := by decide +kernel
theorem dX4_end_36 : decode cX4_end 36 = .ok (.invokevirtual 144, 3) := by decide +kernel
theorem dX4_end_39 : decode cX4_end 39 = .ok (.aload_n 0, 1) := by decide +kernel
theorem dX4_end_40 : decode cX4_end 40 = .ok (.getfield 10, 3) := by decide +kernel
theorem dX4_end_43 : decode cX4_end 43 = .ok (.iload_n 1, 1) := by decide +kernel
theorem dX4_end_44 : decode cX4_end 44 = .ok (.bipush 9, 2) := by decide +kernel
theorem dX4_end_46 : decode cX4_end 46 = .ok (.iconst 0, 1) := by decide +kernel
theorem dX4_end_47 : decode cX4_end 47 = .ok (.invokevirtual 147, 3) := by decide +kernel
theorem dX4_end_50 : decode cX4_end 50 = .ok (.iload_n 2, 1) := by decide +kernel
theorem dX4_end_51 : decode cX4_end 51 = .ok (.ireturn, 1) := by decide +kernel
set_option maxRecDepth 20000 in
theorem ggX4_append_X4_requireRange : GoodIn wsX4_append wsX4_requireRange := goodIn_ca (goodIn_r _ [7, 8, 9] (by decide +kernel) (by decide +kernel)) (goodIn_sub (fun _ h => List.mem_cons_of_mem _ (List.mem_append_right _ h)) (by decide +kernel))
set_option maxRecDepth 20000 in
theorem gX4_append_X4_requireRange : GoodIn wsX4_append (va_wsS RX4 70 yX4_requireRange wsX4_requireRange) := goodIn_app (goodIn_of _ (by decide +kernel)) ggX4_append_X4_requireRange
set_option maxRecDepth 20000 in
theorem ggX4_append_X0_length : GoodIn wsX4_append wsX0_length := goodIn_r _ [14, 15, 25, 26, 27, 28, 29, 30, 31, 32, 33, 34, 35, 36] (by decide +kernel) (by decide +kernel)
set_option maxRecDepth 20000 in
theorem gX4_append_X0_length : GoodIn wsX4_append (wsV RX4 150 RX0 yX0_length wsX0_length) := goodIn_app (goodIn_of _ (by decide +kernel)) ggX4_append_X0_length
set_option maxRecDepth 20000 in
theorem ggX4_append_X0_add : GoodIn wsX4_append wsX0_add := goodIn_r _ [19, 20, 15, 25, 26, 27, 28, 29, 30, 31, 32, 33, 34, 35, 36] (by decide +kernel) (by decide +kernel)
set_option maxRecDepth 20000 in
theorem gX4_append_X0_add : GoodIn wsX4_append (wsV RX4 155 RX0 yX0_add wsX0_add) := goodIn_app (goodIn_of _ (by decide +kernel)) ggX4_append_X0_add
theorem dX4_append_0 : decode cX4_append 0 = .ok (.iload_n 1, 1) := by decide +kernel
theorem dX4_append_1 : decode cX4_append 1 = .ok (.bipush 33, 2) := by decide +kernel
theorem dX4_append_3 : decode cX4_append 3 = .ok (.bipush 126, 2) := by decide +kernel
theorem dX4_append_5 : decode cX4_append 5 = .ok (.invokestatic 70, 3) := by decide +kernel
theorem dX4_append_8 : decode cX4_append 8 = .ok (.aload_n 0, 1) := by decide +kernel
theorem dX4_append_9 : decode cX4_append 9 = .ok (.getfield 26, 3) := by decide +kernel
theorem dX4_append_12 : decode cX4_append 12 = .ok (.invokevirtual 150, 3) := by decide +kernel
theorem dX4_append_15 : decode cX4_append 15 = .ok (.bipush 60, 2) := by decide +kernel
theorem dX4_append_17 : decode cX4_append 17 = .ok (.if_icmp .lt 13, 3) := by decide +kernel
theorem dX4_append_20 : decode cX4_append 20 = .ok (.new 63, 3) := by decide +kernel
theorem dX4_append_23 : decode cX4_append 23 = .ok (.dup, 1) := by decide +kernel
theorem dX4_append_24 : decode cX4_append 24 = .ok (.ldc 153, 2) := by decide +kernel
theorem dX4_append_26 : decode cX4_append 26 = .ok (.invokespecial 67, 3) := by decide +kernel
theorem dX4_append_29 : decode cX4_append 29 = .ok (.athrow, 1) := by decide +kernel
theorem dX4_append_30 : decode cX4_append 30 = .ok (.aload_n 0, 1) := by decide +kernel
theorem dX4_append_31 : decode cX4_append 31 = .ok (.getfield 26, 3) := by decide +kernel
theorem dX4_append_34 : decode cX4_append 34 = .ok (.iload_n 1, 1) := by decide +kernel
theorem dX4_append_35 : decode cX4_append 35 = .ok (.invokevirtual 155, 3) := by decide +kernel
theorem dX4_append_38 : decode cX4_append 38 = .ok (.aload_n 0, 1) := by decide +kernel
theorem dX4_append_39 : decode cX4_append 39 = .ok (.getfield 26, 3) := by decide +kernel
theorem dX4_append_42 : decode cX4_append 42 = .ok (.invokevirtual 150, 3) := by decide +kernel
theorem dX4_append_45 : decode cX4_append 45 = .ok (.ireturn, 1) := by decide +kernel
set_option maxRecDepth 20000 in
theorem ggX4_clearBuffer_X0_length : GoodIn wsX4_clearBuffer wsX0_length := goodIn_r _ [6, 7, 16, 17, 18, 19, 20, 21, 22, 23, 24, 25, 26, 27] (by decide +kernel) (by decide +kernel)
set_option maxRecDepth 20000 in
theorem gX4_clearBuffer_X0_length : GoodIn wsX4_clearBuffer (wsV RX4 150 RX0 yX0_length wsX0_length) := goodIn_app (goodIn_of _ (by decide +kernel)) ggX4_clearBuffer_X0_length
set_option maxRecDepth 20000 in
theorem ggX4_clearBuffer_X0_clear : GoodIn wsX4_clearBuffer wsX0_clear := goodIn_r _ [11, 7, 16, 17, 18, 19, 20, 21, 22, 23, 24, 25, 26, 27] (by decide +kernel) (by decide +kernel)
set_option maxRecDepth 20000 in
theorem gX4_clearBuffer_X0_clear : GoodIn wsX4_clearBuffer (wsV RX4 158 RX0 yX0_clear wsX0_clear) := goodIn_app (goodIn_of _ (by decide +kernel)) ggX4_clearBuffer_X0_clear
theorem dX4_clearBuffer_0 : decode cX4_clearBuffer 0 = .ok (.aload_n 0, 1) := by decide +kernel
theorem dX4_clearBuffer_1 : decode cX4_clearBuffer 1 = .ok (.getfield 26, 3) := by decide +kernel
theorem dX4_clearBuffer_4 : decode cX4_clearBuffer 4 = .ok (.invokevirtual 150, 3) := by decide +kernel
theorem dX4_clearBuffer_7 : decode cX4_clearBuffer 7 = .ok (.istore_n 1, 1) := by decide +kernel
theorem dX4_clearBuffer_8 : decode cX4_clearBuffer 8 = .ok (.aload_n 0, 1) := by decide +kernel
theorem dX4_clearBuffer_9 : decode cX4_clearBuffer 9 = .ok (.getfield 26, 3) := by decide +kernel
theorem dX4_clearBuffer_12 : decode cX4_clearBuffer 12 = .ok (.invokevirtual 158, 3) := by decide +kernel
theorem dX4_clearBuffer_15 : decode cX4_clearBuffer 15 = .ok (.iload_n 1, 1) := by decide +kernel
theorem dX4_clearBuffer_16 : decode cX4_clearBuffer 16 = .ok (.ireturn, 1) := by decide +kernel
set_option maxRecDepth 20000 in
theorem ggX4_firstError_X0_read : GoodIn wsX4_firstError wsX0_read := goodIn_r _ [6, 7, 8, 9, 10, 11, 12, 13, 14, 15, 5, 16, 17, 18, 19, 20, 21, 22, 23, 24, 25, 26, 27, 28, 29, 30, 31, 32, 33, 34, 35, 36, 37, 38, 39, 40, 41, 42, 43, 44, 45, 46, 47, 48, 49, 50, 51, 52, 53, 54, 55, 56, 57, 58, 59, 64, 65, 66, 67, 68, 69, 70, 71, 72, 73, 74, 75] (by decide +kernel) (by decide +kernel)
set_option maxRecDepth 20000 in
theorem gX4_firstError_X0_read : GoodIn wsX4_firstError (wsV RX4 161 RX0 yX0_read wsX0_read) := goodIn_app (goodIn_of _ (by decide +kernel)) ggX4_firstError_X0_read
theorem dX4_firstError_0 : decode cX4_firstError 0 = .ok (.aload_n 0, 1) := by decide +kernel
theorem dX4_firstError_1 : decode cX4_firstError 1 = .ok (.getfield 26, 3) := by decide +kernel
theorem dX4_firstError_4 : decode cX4_firstError 4 = .ok (.invokevirtual 161, 3) := by decide +kernel
theorem dX4_firstError_7 : decode cX4_firstError 7 = .ok (.ireturn, 1) := by decide +kernel
set_option maxRecDepth 20000 in
theorem ggX4_give_X0_read : GoodIn wsX4_give wsX0_read := goodIn_r _ [12, 13, 14, 15, 16, 17, 18, 19, 20, 21, 11, 22, 23, 24, 25, 26, 27, 28, 29, 30, 31, 32, 33, 34, 35, 36, 37, 38, 39, 40, 41, 42, 43, 44, 45, 46, 47, 48, 49, 50, 51, 52, 53, 54, 55, 56, 57, 58, 59, 60, 61, 62, 63, 64, 65, 184, 185, 186, 187, 188, 189, 190, 191, 192, 193, 194, 195] (by decide +kernel) (by decide +kernel)
set_option maxRecDepth 20000 in
theorem gX4_give_X0_read : GoodIn wsX4_give (wsV RX4 161 RX0 yX0_read wsX0_read) := goodIn_app (goodIn_of _ (by decide +kernel)) ggX4_give_X0_read
set_option maxRecDepth 20000 in
theorem ggX4_give_X0_isBond : GoodIn wsX4_give wsX0_isBond := goodIn_r _ [69, 13, 184, 185, 186, 187, 188, 189, 190, 191, 192, 193, 194, 195] (by decide +kernel) (by decide +kernel)
set_option maxRecDepth 20000 in
theorem gX4_give_X0_isBond : GoodIn wsX4_give (wsV RX4 164 RX0 yX0_isBond wsX0_isBond) := goodIn_app (goodIn_of _ (by decide +kernel)) ggX4_give_X0_isBond
set_option maxRecDepth 20000 in
theorem ggX4_give_X0_isSound : GoodIn wsX4_give wsX0_isSound := goodIn_r _ [73, 15, 54, 32, 59, 16, 64, 45, 74, 75, 76, 11, 77, 184, 185, 186, 187, 188, 189, 190, 191, 192, 193, 194, 195] (by decide +kernel) (by decide +kernel)
set_option maxRecDepth 20000 in
theorem gX4_give_X0_isSound : GoodIn wsX4_give (wsV RX4 168 RX0 yX0_isSound wsX0_isSound) := goodIn_app (goodIn_of _ (by decide +kernel)) ggX4_give_X0_isSound
set_option maxRecDepth 20000 in
theorem ggX4_give_X3_bondCount : GoodIn wsX4_give wsX3_bondCount := goodIn_r _ [81, 82, 196] (by decide +kernel) (by decide +kernel)
set_option maxRecDepth 20000 in
theorem gX4_give_X3_bondCount : GoodIn wsX4_give (wsV RX4 176 RX3 yX3_bondCount wsX3_bondCount) := goodIn_app (goodIn_of _ (by decide +kernel)) ggX4_give_X3_bondCount
set_option maxRecDepth 20000 in
theorem ggX4_give_X4_isTooMuchForSomebody : GoodIn wsX4_give wsX4_isTooMuchForSomebody := goodIn_r _ [87, 5, 6, 88, 89, 90, 11, 91, 15, 92, 93, 94, 95, 54, 96, 97, 98, 35, 99, 82, 100, 101, 102, 103, 104, 105, 106, 107, 108, 79, 80, 81, 109, 110, 111, 112, 113, 114, 115, 116, 117, 118, 119, 120, 59, 180, 181, 182, 183, 184, 185, 186, 187, 188, 189, 190, 191, 192, 193, 194, 195, 196] (by decide +kernel) (by decide +kernel)
set_option maxRecDepth 20000 in
theorem gX4_give_X4_isTooMuchForSomebody : GoodIn wsX4_give (wsV RX4 179 RX4 yX4_isTooMuchForSomebody wsX4_isTooMuchForSomebody) := goodIn_app (goodIn_of _ (by decide +kernel)) ggX4_give_X4_isTooMuchForSomebody
set_option maxRecDepth 20000 in
theorem ggX4_give_X1_save : GoodIn wsX4_give wsX1_save := goodIn_r _ [125, 126, 127, 128, 129, 130, 131, 132, 133, 134, 135, 35, 136, 82, 137, 138, 139, 140, 197, 198, 199, 196] (by decide +kernel) (by decide +kernel)
set_option maxRecDepth 20000 in
theorem gX4_give_X1_save : GoodIn wsX4_give (wsV RX4 44 RX1 yX1_save wsX1_save) := goodIn_app (goodIn_of _ (by decide +kernel)) ggX4_give_X1_save
set_option maxRecDepth 20000 in
theorem ggX4_give_X3_addBond : GoodIn wsX4_give wsX3_addBond := goodIn_r _ [144, 82, 108, 79, 80, 35, 81, 145, 146, 147, 11, 148, 32, 149, 150, 151, 152, 153, 154, 155, 156, 45, 157, 158, 159, 160, 65, 161, 89, 90, 91, 15, 162, 163, 164, 165, 16, 166, 167, 168, 169, 64, 170, 93, 94, 95, 54, 171, 172, 173, 174, 175, 118, 119, 120, 59, 196, 184, 185, 186, 187, 188, 189, 190, 191, 192, 193, 194, 195] (by decide +kernel) (by decide +kernel)
set_option maxRecDepth 20000 in
theorem gX4_give_X3_addBond : GoodIn wsX4_give (wsV RX4 184 RX3 yX3_addBond wsX3_addBond) := goodIn_app (goodIn_of _ (by decide +kernel)) ggX4_give_X3_addBond
set_option maxRecDepth 20000 in
theorem ggX4_give_X0_clear : GoodIn wsX4_give wsX0_clear := goodIn_r _ [179, 17, 184, 185, 186, 187, 188, 189, 190, 191, 192, 193, 194, 195] (by decide +kernel) (by decide +kernel)
set_option maxRecDepth 20000 in
theorem gX4_give_X0_clear : GoodIn wsX4_give (wsV RX4 158 RX0 yX0_clear wsX0_clear) := goodIn_app (goodIn_of _ (by decide +kernel)) ggX4_give_X0_clear
theorem dX4_give_0 : decode cX4_give 0 = .ok (.aload_n 0, 1) := by decide +kernel
theorem dX4_give_1 : decode cX4_give 1 = .ok (.getfield 26, 3) := by decide +kernel
theorem dX4_give_4 : decode cX4_give 4 = .ok (.invokevirtual 161, 3) := by decide +kernel
theorem dX4_give_7 : decode cX4_give 7 = .ok (.pop, 1) := by decide +kernel
theorem dX4_give_8 : decode cX4_give 8 = .ok (.aload_n 0, 1) := by decide +kernel
theorem dX4_give_9 : decode cX4_give 9 = .ok (.getfield 26, 3) := by decide +kernel
theorem dX4_give_12 : decode cX4_give 12 = .ok (.invokevirtual 164, 3) := by decide +kernel
theorem dX4_give_15 : decode cX4_give 15 = .ok (.ifCond .eq 13, 3) := by decide +kernel
theorem dX4_give_18 : decode cX4_give 18 = .ok (.aload_n 0, 1) := by decide +kernel
theorem dX4_give_19 : decode cX4_give 19 = .ok (.getfield 26, 3) := by decide +kernel
theorem dX4_give_22 : decode cX4_give 22 = .ok (.invokevirtual 168, 3) := by decide +kernel
theorem dX4_give_25 : decode cX4_give 25 = .ok (.ifCond .ne 13, 3) := by decide +kernel
theorem dX4_give_28 : decode cX4_give 28 = .ok (.new 171, 3) := by decide +kernel
theorem dX4_give_31 : decode cX4_give 31 = .ok (.dup, 1) := by decide +kernel
theorem dX4_give_32 : decode cX4_give 32 = .ok (.ldc 173, 2) := by decide +kernel
theorem dX4_give_34 : decode cX4_give 34 = .ok (.invokespecial 175, 3) := by decide +kernel
theorem dX4_give_37 : decode cX4_give 37 = .ok (.athrow, 1) := by decide +kernel
theorem dX4_give_38 : decode cX4_give 38 = .ok (.aload_n 0, 1) := by decide +kernel
theorem dX4_give_39 : decode cX4_give 39 = .ok (.getfield 10, 3) := by decide +kernel
theorem dX4_give_42 : decode cX4_give 42 = .ok (.invokevirtual 176, 3) := by decide +kernel
theorem dX4_give_45 : decode cX4_give 45 = .ok (.bipush 10, 2) := by decide +kernel
theorem dX4_give_47 : decode cX4_give 47 = .ok (.if_icmp .ge 10, 3) := by decide +kernel
theorem dX4_give_50 : decode cX4_give 50 = .ok (.aload_n 0, 1) := by decide +kernel
theorem dX4_give_51 : decode cX4_give 51 = .ok (.invokevirtual 179, 3) := by decide +kernel
theorem dX4_give_54 : decode cX4_give 54 = .ok (.ifCond .eq 13, 3) := by decide +kernel
theorem dX4_give_57 : decode cX4_give 57 = .ok (.new 63, 3) := by decide +kernel
theorem dX4_give_60 : decode cX4_give 60 = .ok (.dup, 1) := by decide +kernel
theorem dX4_give_61 : decode cX4_give 61 = .ok (.ldc 182, 2) := by decide +kernel
theorem dX4_give_63 : decode cX4_give 63 = .ok (.invokespecial 67, 3) := by decide +kernel
theorem dX4_give_66 : decode cX4_give 66 = .ok (.athrow, 1) := by decide +kernel
theorem dX4_give_67 : decode cX4_give 67 = .ok (.aload_n 0, 1) := by decide +kernel
theorem dX4_give_68 : decode cX4_give 68 = .ok (.getfield 19, 3) := by decide +kernel
theorem dX4_give_71 : decode cX4_give 71 = .ok (.aload_n 0, 1) := by decide +kernel
theorem dX4_give_72 : decode cX4_give 72 = .ok (.getfield 10, 3) := by decide +kernel
theorem dX4_give_75 : decode cX4_give 75 = .ok (.invokevirtual 44, 3) := by decide +kernel
theorem dX4_give_78 : decode cX4_give 78 = .ok (.aload_n 0, 1) := by decide +kernel
theorem dX4_give_79 : decode cX4_give 79 = .ok (.getfield 10, 3) := by decide +kernel
theorem dX4_give_82 : decode cX4_give 82 = .ok (.aload_n 0, 1) := by decide +kernel
theorem dX4_give_83 : decode cX4_give 83 = .ok (.getfield 26, 3) := by decide +kernel
theorem dX4_give_86 : decode cX4_give 86 = .ok (.invokevirtual 184, 3) := by decide +kernel
theorem dX4_give_89 : decode cX4_give 89 = .ok (.istore_n 1, 1) := by decide +kernel
theorem dX4_give_90 : decode cX4_give 90 = .ok (.aload_n 0, 1) := by decide +kernel
theorem dX4_give_91 : decode cX4_give 91 = .ok (.getfield 26, 3) := by decide +kernel
theorem dX4_give_94 : decode cX4_give 94 = .ok (.invokevirtual 158, 3) := by decide +kernel
theorem dX4_give_97 : decode cX4_give 97 = .ok (.iload_n 1, 1) := by decide +kernel
theorem dX4_give_98 : decode cX4_give 98 = .ok (.ireturn, 1) := by decide +kernel
set_option maxRecDepth 20000 in
theorem ggX4_undo_X1_size : GoodIn wsX4_undo wsX1_size := goodIn_r _ [9, 10, 31, 32, 33] (by decide +kernel) (by decide +kernel)
set_option maxRecDepth 20000 in
theorem gX4_undo_X1_size : GoodIn wsX4_undo (wsV RX4 188 RX1 yX1_size wsX1_size) := goodIn_app (goodIn_of _ (by decide +kernel)) ggX4_undo_X1_size
set_option maxRecDepth 20000 in
theorem ggX4_undo_X1_restoreLatest : GoodIn wsX4_undo wsX1_restoreLatest := goodIn_r _ [14, 15, 10, 16, 17, 18, 19, 20, 21, 22, 23, 24, 25, 26, 31, 32, 33, 34] (by decide +kernel) (by decide +kernel)
set_option maxRecDepth 20000 in
theorem gX4_undo_X1_restoreLatest : GoodIn wsX4_undo (wsV RX4 193 RX1 yX1_restoreLatest wsX1_restoreLatest) := goodIn_app (goodIn_of _ (by decide +kernel)) ggX4_undo_X1_restoreLatest
theorem dX4_undo_0 : decode cX4_undo 0 = .ok (.aload_n 0, 1) := by decide +kernel
theorem dX4_undo_1 : decode cX4_undo 1 = .ok (.getfield 19, 3) := by decide +kernel
theorem dX4_undo_4 : decode cX4_undo 4 = .ok (.invokevirtual 188, 3) := by decide +kernel
theorem dX4_undo_7 : decode cX4_undo 7 = .ok (.ifCond .ne 13, 3) := by decide +kernel
theorem dX4_undo_10 : decode cX4_undo 10 = .ok (.new 63, 3) := by decide +kernel
theorem dX4_undo_13 : decode cX4_undo 13 = .ok (.dup, 1) := by decide +kernel
theorem dX4_undo_14 : decode cX4_undo 14 = .ok (.ldc 191, 2) := by decide +kernel
theorem dX4_undo_16 : decode cX4_undo 16 = .ok (.invokespecial 67, 3) := by decide +kernel
theorem dX4_undo_19 : decode cX4_undo 19 = .ok (.athrow, 1) := by decide +kernel
theorem dX4_undo_20 : decode cX4_undo 20 = .ok (.aload_n 0, 1) := by decide +kernel
theorem dX4_undo_21 : decode cX4_undo 21 = .ok (.getfield 19, 3) := by decide +kernel
theorem dX4_undo_24 : decode cX4_undo 24 = .ok (.aload_n 0, 1) := by decide +kernel
theorem dX4_undo_25 : decode cX4_undo 25 = .ok (.getfield 10, 3) := by decide +kernel
theorem dX4_undo_28 : decode cX4_undo 28 = .ok (.invokevirtual 193, 3) := by decide +kernel
theorem dX4_undo_31 : decode cX4_undo 31 = .ok (.aload_n 0, 1) := by decide +kernel
theorem dX4_undo_32 : decode cX4_undo 32 = .ok (.getfield 19, 3) := by decide +kernel
theorem dX4_undo_35 : decode cX4_undo 35 = .ok (.invokevirtual 188, 3) := by decide +kernel
theorem dX4_undo_38 : decode cX4_undo 38 = .ok (.ireturn, 1) := by decide +kernel
set_option maxRecDepth 20000 in
theorem ggX4_person_X4_requirePerson : GoodIn wsX4_person wsX4_requirePerson := goodIn_ca (goodIn_r _ [5, 6, 7] (by decide +kernel) (by decide +kernel)) (goodIn_sub (fun _ h => List.mem_cons_of_mem _ (List.mem_append_left _ (List.mem_append_right _ h))) (by decide +kernel))
set_option maxRecDepth 20000 in
theorem gX4_person_X4_requirePerson : GoodIn wsX4_person (va_wsS RX4 37 yX4_requirePerson wsX4_requirePerson) := goodIn_app (goodIn_of _ (by decide +kernel)) ggX4_person_X4_requirePerson
set_option maxRecDepth 20000 in
theorem ggX4_person_X4_requireRange : GoodIn wsX4_person wsX4_requireRange := goodIn_ca (goodIn_r _ [10, 11, 12] (by decide +kernel) (by decide +kernel)) (goodIn_sub (fun _ h => List.mem_cons_of_mem _ (List.mem_append_right _ h)) (by decide +kernel))
set_option maxRecDepth 20000 in
theorem gX4_person_X4_requireRange : GoodIn wsX4_person (va_wsS RX4 70 yX4_requireRange wsX4_requireRange) := goodIn_app (goodIn_of _ (by decide +kernel)) ggX4_person_X4_requireRange
set_option maxRecDepth 20000 in
theorem ggX4_person_X3_fact : GoodIn wsX4_person wsX3_fact := goodIn_r _ [17, 18, 63] (by decide +kernel) (by decide +kernel)
set_option maxRecDepth 20000 in
theorem gX4_person_X3_fact : GoodIn wsX4_person (wsV RX4 55 RX3 yX3_fact wsX3_fact) := goodIn_app (goodIn_of _ (by decide +kernel)) ggX4_person_X3_fact
set_option maxRecDepth 20000 in
theorem ggX4_person_X3_owedBy : GoodIn wsX4_person wsX3_owedBy := goodIn_r _ [22, 23, 24, 25, 16, 26, 18, 63] (by decide +kernel) (by decide +kernel)
set_option maxRecDepth 20000 in
theorem gX4_person_X3_owedBy : GoodIn wsX4_person (wsV RX4 196 RX3 yX3_owedBy wsX3_owedBy) := goodIn_app (goodIn_of _ (by decide +kernel)) ggX4_person_X3_owedBy
set_option maxRecDepth 20000 in
theorem ggX4_person_X3_owedTo : GoodIn wsX4_person wsX3_owedTo := goodIn_r _ [30, 23, 24, 25, 16, 26, 18, 63] (by decide +kernel) (by decide +kernel)
set_option maxRecDepth 20000 in
theorem gX4_person_X3_owedTo : GoodIn wsX4_person (wsV RX4 199 RX3 yX3_owedTo wsX3_owedTo) := goodIn_app (goodIn_of _ (by decide +kernel)) ggX4_person_X3_owedTo
set_option maxRecDepth 20000 in
theorem ggX4_person_X3_boundFor : GoodIn wsX4_person wsX3_boundFor := goodIn_r _ [34, 35, 36, 37, 16, 38, 18, 39, 40, 41, 42, 43, 44, 45, 46, 63] (by decide +kernel) (by decide +kernel)
set_option maxRecDepth 20000 in
theorem gX4_person_X3_boundFor : GoodIn wsX4_person (wsV RX4 202 RX3 yX3_boundFor wsX3_boundFor) := goodIn_app (goodIn_of _ (by decide +kernel)) ggX4_person_X3_boundFor
set_option maxRecDepth 20000 in
theorem ggX4_person_X3_chainLength : GoodIn wsX4_person wsX3_chainLength := goodIn_r _ [50, 51, 14, 15, 16, 17, 18, 52, 53, 54, 63] (by decide +kernel) (by decide +kernel)
set_option maxRecDepth 20000 in
theorem gX4_person_X3_chainLength : GoodIn wsX4_person (wsV RX4 205 RX3 yX3_chainLength wsX3_chainLength) := goodIn_app (goodIn_of _ (by decide +kernel)) ggX4_person_X3_chainLength
set_option maxRecDepth 20000 in
theorem ggX4_person_X3_runningBondsOf : GoodIn wsX4_person wsX3_runningBondsOf := goodIn_r _ [58, 35, 36, 37, 16, 38, 18, 39, 40, 41, 42, 63] (by decide +kernel) (by decide +kernel)
set_option maxRecDepth 20000 in
theorem gX4_person_X3_runningBondsOf : GoodIn wsX4_person (wsV RX4 208 RX3 yX3_runningBondsOf wsX3_runningBondsOf) := goodIn_app (goodIn_of _ (by decide +kernel)) ggX4_person_X3_runningBondsOf
theorem dX4_person_0 : decode cX4_person 0 = .ok (.iload_n 1, 1) := by decide +kernel
theorem dX4_person_1 : decode cX4_person 1 = .ok (.invokestatic 37, 3) := by decide +kernel
theorem dX4_person_4 : decode cX4_person 4 = .ok (.iload_n 2, 1) := by decide +kernel
theorem dX4_person_5 : decode cX4_person 5 = .ok (.iconst 0, 1) := by decide +kernel
theorem dX4_person_6 : decode cX4_person 6 = .ok (.bipush 10, 2) := by decide +kernel
theorem dX4_person_8 : decode cX4_person 8 = .ok (.invokestatic 70, 3) := by decide +kernel
theorem dX4_person_11 : decode cX4_person 11 = .ok (.iload_n 2, 1) := by decide +kernel
theorem dX4_person_12 : decode cX4_person 12 = .ok (.tableswitch 152 0 9 #[56, 66, 75, 84, 93, 103, 113, 122, 132, 142], 56) := by decide +kernel
theorem dX4_person_68 : decode cX4_person 68 = .ok (.aload_n 0, 1) := by decide +kernel
theorem dX4_person_69 : decode cX4_person 69 = .ok (.getfield 10, 3) := by decide +kernel
theorem dX4_person_72 : decode cX4_person 72 = .ok (.iload_n 1, 1) := by decide +kernel
theorem dX4_person_73 : decode cX4_person 73 = .ok (.iconst 0, 1) := by decide +kernel
theorem dX4_person_74 : decode cX4_person 74 = .ok (.invokevirtual 55, 3) := by decide +kernel
theorem dX4_person_77 : decode cX4_person 77 = .ok (.ireturn, 1) := by decide +kernel
theorem dX4_person_78 : decode cX4_person 78 = .ok (.aload_n 0, 1) := by decide +kernel
theorem dX4_person_79 : decode cX4_person 79 = .ok (.getfield 10, 3) := by decide +kernel
theorem dX4_person_82 : decode cX4_person 82 = .ok (.iload_n 1, 1) := by decide +kernel
theorem dX4_person_83 : decode cX4_person 83 = .ok (.invokevirtual 196, 3) := by decide +kernel
theorem dX4_person_86 : decode cX4_person 86 = .ok (.ireturn, 1) := by decide +kernel
theorem dX4_person_87 : decode cX4_person 87 = .ok (.aload_n 0, 1) := by decide +kernel
theorem dX4_person_88 : decode cX4_person 88 = .ok (.getfield 10, 3) := by decide +kernel
theorem dX4_person_91 : decode cX4_person 91 = .ok (.iload_n 1, 1) := by decide +kernel
theorem dX4_person_92 : decode cX4_person 92 = .ok (.invokevirtual 199, 3) := by decide +kernel
theorem dX4_person_95 : decode cX4_person 95 = .ok (.ireturn, 1) := by decide +kernel
theorem dX4_person_96 : decode cX4_person 96 = .ok (.aload_n 0, 1) := by decide +kernel
theorem dX4_person_97 : decode cX4_person 97 = .ok (.getfield 10, 3) := by decide +kernel
theorem dX4_person_100 : decode cX4_person 100 = .ok (.iload_n 1, 1) := by decide +kernel
theorem dX4_person_101 : decode cX4_person 101 = .ok (.invokevirtual 202, 3) := by decide +kernel
theorem dX4_person_104 : decode cX4_person 104 = .ok (.ireturn, 1) := by decide +kernel
theorem dX4_person_105 : decode cX4_person 105 = .ok (.aload_n 0, 1) := by decide +kernel
theorem dX4_person_106 : decode cX4_person 106 = .ok (.getfield 10, 3) := by decide +kernel
theorem dX4_person_109 : decode cX4_person 109 = .ok (.iload_n 1, 1) := by decide +kernel
theorem dX4_person_110 : decode cX4_person 110 = .ok (.iconst 1, 1) := by decide +kernel
theorem dX4_person_111 : decode cX4_person 111 = .ok (.invokevirtual 55, 3) := by decide +kernel
theorem dX4_person_114 : decode cX4_person 114 = .ok (.ireturn, 1) := by decide +kernel
theorem dX4_person_115 : decode cX4_person 115 = .ok (.aload_n 0, 1) := by decide +kernel
theorem dX4_person_116 : decode cX4_person 116 = .ok (.getfield 10, 3) := by decide +kernel
theorem dX4_person_119 : decode cX4_person 119 = .ok (.iload_n 1, 1) := by decide +kernel
theorem dX4_person_120 : decode cX4_person 120 = .ok (.iconst 2, 1) := by decide +kernel
theorem dX4_person_121 : decode cX4_person 121 = .ok (.invokevirtual 55, 3) := by decide +kernel
theorem dX4_person_124 : decode cX4_person 124 = .ok (.ireturn, 1) := by decide +kernel
theorem dX4_person_125 : decode cX4_person 125 = .ok (.aload_n 0, 1) := by decide +kernel
theorem dX4_person_126 : decode cX4_person 126 = .ok (.getfield 10, 3) := by decide +kernel
theorem dX4_person_129 : decode cX4_person 129 = .ok (.iload_n 1, 1) := by decide +kernel
theorem dX4_person_130 : decode cX4_person 130 = .ok (.invokevirtual 205, 3) := by decide +kernel
theorem dX4_person_133 : decode cX4_person 133 = .ok (.ireturn, 1) := by decide +kernel
theorem dX4_person_134 : decode cX4_person 134 = .ok (.aload_n 0, 1) := by decide +kernel
theorem dX4_person_135 : decode cX4_person 135 = .ok (.getfield 10, 3) := by decide +kernel
theorem dX4_person_138 : decode cX4_person 138 = .ok (.iload_n 1, 1) := by decide +kernel
theorem dX4_person_139 : decode cX4_person 139 = .ok (.iconst 3, 1) := by decide +kernel
theorem dX4_person_140 : decode cX4_person 140 = .ok (.invokevirtual 55, 3) := by decide +kernel
theorem dX4_person_143 : decode cX4_person 143 = .ok (.ireturn, 1) := by decide +kernel
theorem dX4_person_144 : decode cX4_person 144 = .ok (.aload_n 0, 1) := by decide +kernel
theorem dX4_person_145 : decode cX4_person 145 = .ok (.getfield 10, 3) := by decide +kernel
theorem dX4_person_148 : decode cX4_person 148 = .ok (.iload_n 1, 1) := by decide +kernel
theorem dX4_person_149 : decode cX4_person 149 = .ok (.iconst 4, 1) := by decide +kernel
theorem dX4_person_150 : decode cX4_person 150 = .ok (.invokevirtual 55, 3) := by decide +kernel
theorem dX4_person_153 : decode cX4_person 153 = .ok (.ireturn, 1) := by decide +kernel
theorem dX4_person_154 : decode cX4_person 154 = .ok (.aload_n 0, 1) := by decide +kernel
theorem dX4_person_155 : decode cX4_person 155 = .ok (.getfield 10, 3) := by decide +kernel
theorem dX4_person_158 : decode cX4_person 158 = .ok (.iload_n 1, 1) := by decide +kernel
theorem dX4_person_159 : decode cX4_person 159 = .ok (.iconst 5, 1) := by decide +kernel
theorem dX4_person_160 : decode cX4_person 160 = .ok (.invokevirtual 55, 3) := by decide +kernel
theorem dX4_person_163 : decode cX4_person 163 = .ok (.ireturn, 1) := by decide +kernel
theorem dX4_person_164 : decode cX4_person 164 = .ok (.aload_n 0, 1) := by decide +kernel
theorem dX4_person_165 : decode cX4_person 165 = .ok (.getfield 10, 3) := by decide +kernel
theorem dX4_person_168 : decode cX4_person 168 = .ok (.iload_n 1, 1) := by decide +kernel
theorem dX4_person_169 : decode cX4_person 169 = .ok (.invokevirtual 208, 3) := by decide +kernel
theorem dX4_person_172 : decode cX4_person 172 = .ok (.ireturn, 1) := by decide +kernel
set_option maxRecDepth 20000 in
theorem ggX4_bond_X4_requireBond : GoodIn wsX4_bond wsX4_requireBond := goodIn_ca (goodIn_r _ [6, 7, 8, 1, 9, 10, 11, 12, 13, 14, 37, 38, 39, 40, 41] (by decide +kernel) (by decide +kernel)) (goodIn_sub (fun _ h => List.mem_cons_of_mem _ (List.mem_append_left _ (List.mem_append_right _ h))) (by decide +kernel))
set_option maxRecDepth 20000 in
theorem gX4_bond_X4_requireBond : GoodIn wsX4_bond (wsV RX4 106 RX4 yX4_requireBond wsX4_requireBond) := goodIn_app (goodIn_of _ (by decide +kernel)) ggX4_bond_X4_requireBond
set_option maxRecDepth 20000 in
theorem ggX4_bond_X4_requireRange : GoodIn wsX4_bond wsX4_requireRange := goodIn_ca (goodIn_r _ [17, 18, 19] (by decide +kernel) (by decide +kernel)) (goodIn_sub (fun _ h => List.mem_cons_of_mem _ (List.mem_append_right _ h)) (by decide +kernel))
set_option maxRecDepth 20000 in
theorem gX4_bond_X4_requireRange : GoodIn wsX4_bond (va_wsS RX4 70 yX4_requireRange wsX4_requireRange) := goodIn_app (goodIn_of _ (by decide +kernel)) ggX4_bond_X4_requireRange
set_option maxRecDepth 20000 in
theorem ggX4_bond_X3_leftOfBond : GoodIn wsX4_bond wsX3_leftOfBond := goodIn_r _ [23, 24, 25, 26, 12, 27, 14, 41] (by decide +kernel) (by decide +kernel)
set_option maxRecDepth 20000 in
theorem gX4_bond_X3_leftOfBond : GoodIn wsX4_bond (wsV RX4 133 RX3 yX3_leftOfBond wsX3_leftOfBond) := goodIn_app (goodIn_of _ (by decide +kernel)) ggX4_bond_X3_leftOfBond
set_option maxRecDepth 20000 in
theorem ggX4_bond_X3_leftOfLimits : GoodIn wsX4_bond wsX3_leftOfLimits := goodIn_r _ [31, 24, 25, 26, 12, 27, 14, 32, 33, 34, 35, 41] (by decide +kernel) (by decide +kernel)
set_option maxRecDepth 20000 in
theorem gX4_bond_X3_leftOfLimits : GoodIn wsX4_bond (wsV RX4 211 RX3 yX3_leftOfLimits wsX3_leftOfLimits) := goodIn_app (goodIn_of _ (by decide +kernel)) ggX4_bond_X3_leftOfLimits
set_option maxRecDepth 20000 in
theorem ggX4_bond_X3_bondFact : GoodIn wsX4_bond wsX3_bondFact := goodIn_r _ [27, 14, 41] (by decide +kernel) (by decide +kernel)
set_option maxRecDepth 20000 in
theorem gX4_bond_X3_bondFact : GoodIn wsX4_bond (wsV RX4 125 RX3 yX3_bondFact wsX3_bondFact) := goodIn_app (goodIn_of _ (by decide +kernel)) ggX4_bond_X3_bondFact
theorem dX4_bond_0 : decode cX4_bond 0 = .ok (.aload_n 0, 1) := by decide +kernel
theorem dX4_bond_1 : decode cX4_bond 1 = .ok (.iload_n 1, 1) := by decide +kernel
theorem dX4_bond_2 : decode cX4_bond 2 = .ok (.invokevirtual 106, 3) := by decide +kernel
theorem dX4_bond_5 : decode cX4_bond 5 = .ok (.iload_n 2, 1) := by decide +kernel
theorem dX4_bond_6 : decode cX4_bond 6 = .ok (.iconst 0, 1) := by decide +kernel
theorem dX4_bond_7 : decode cX4_bond 7 = .ok (.bipush 11, 2) := by decide +kernel
theorem dX4_bond_9 : decode cX4_bond 9 = .ok (.invokestatic 70, 3) := by decide +kernel
theorem dX4_bond_12 : decode cX4_bond 12 = .ok (.iload_n 2, 1) := by decide +kernel
theorem dX4_bond_13 : decode cX4_bond 13 = .ok (.tableswitch 56 9 11 #[27, 36, 45], 27) := by decide +kernel
theorem dX4_bond_40 : decode cX4_bond 40 = .ok (.aload_n 0, 1) := by decide +kernel
theorem dX4_bond_41 : decode cX4_bond 41 = .ok (.getfield 10, 3) := by decide +kernel
theorem dX4_bond_44 : decode cX4_bond 44 = .ok (.iload_n 1, 1) := by decide +kernel
theorem dX4_bond_45 : decode cX4_bond 45 = .ok (.invokevirtual 133, 3) := by decide +kernel
theorem dX4_bond_48 : decode cX4_bond 48 = .ok (.ireturn, 1) := by decide +kernel
theorem dX4_bond_49 : decode cX4_bond 49 = .ok (.aload_n 0, 1) := by decide +kernel
theorem dX4_bond_50 : decode cX4_bond 50 = .ok (.getfield 10, 3) := by decide +kernel
theorem dX4_bond_53 : decode cX4_bond 53 = .ok (.iload_n 1, 1) := by decide +kernel
theorem dX4_bond_54 : decode cX4_bond 54 = .ok (.invokevirtual 211, 3) := by decide +kernel
theorem dX4_bond_57 : decode cX4_bond 57 = .ok (.ireturn, 1) := by decide +kernel
theorem dX4_bond_58 : decode cX4_bond 58 = .ok (.aload_n 0, 1) := by decide +kernel
theorem dX4_bond_59 : decode cX4_bond 59 = .ok (.getfield 10, 3) := by decide +kernel
theorem dX4_bond_62 : decode cX4_bond 62 = .ok (.iload_n 1, 1) := by decide +kernel
theorem dX4_bond_63 : decode cX4_bond 63 = .ok (.bipush 9, 2) := by decide +kernel
theorem dX4_bond_65 : decode cX4_bond 65 = .ok (.invokevirtual 125, 3) := by decide +kernel
theorem dX4_bond_68 : decode cX4_bond 68 = .ok (.ireturn, 1) := by decide +kernel
theorem dX4_bond_69 : decode cX4_bond 69 = .ok (.aload_n 0, 1) := by decide +kernel
theorem dX4_bond_70 : decode cX4_bond 70 = .ok (.getfield 10, 3) := by decide +kernel
theorem dX4_bond_73 : decode cX4_bond 73 = .ok (.iload_n 1, 1) := by decide +kernel
theorem dX4_bond_74 : decode cX4_bond 74 = .ok (.iload_n 2, 1) := by decide +kernel
theorem dX4_bond_75 : decode cX4_bond 75 = .ok (.invokevirtual 125, 3) := by decide +kernel
theorem dX4_bond_78 : decode cX4_bond 78 = .ok (.ireturn, 1) := by decide +kernel
set_option maxRecDepth 20000 in
theorem ggX4_layer_X4_requireBond : GoodIn wsX4_layer wsX4_requireBond := goodIn_ca (goodIn_r _ [8, 1, 2, 3, 9, 10, 11, 12, 13, 14, 28, 29, 30, 31, 32] (by decide +kernel) (by decide +kernel)) (goodIn_sub (fun _ h => List.mem_cons_of_mem _ (List.mem_append_left _ (List.mem_append_right _ h))) (by decide +kernel))
set_option maxRecDepth 20000 in
theorem gX4_layer_X4_requireBond : GoodIn wsX4_layer (wsV RX4 106 RX4 yX4_requireBond wsX4_requireBond) := goodIn_app (goodIn_of _ (by decide +kernel)) ggX4_layer_X4_requireBond
set_option maxRecDepth 20000 in
theorem ggX4_layer_X3_bondFact : GoodIn wsX4_layer wsX3_bondFact := goodIn_r _ [18, 14, 32] (by decide +kernel) (by decide +kernel)
set_option maxRecDepth 20000 in
theorem gX4_layer_X3_bondFact : GoodIn wsX4_layer (wsV RX4 125 RX3 yX3_bondFact wsX3_bondFact) := goodIn_app (goodIn_of _ (by decide +kernel)) ggX4_layer_X3_bondFact
set_option maxRecDepth 20000 in
theorem ggX4_layer_X4_requireRange : GoodIn wsX4_layer wsX4_requireRange := goodIn_ca (goodIn_r _ [21, 22, 23] (by decide +kernel) (by decide +kernel)) (goodIn_sub (fun _ h => List.mem_cons_of_mem _ (List.mem_append_right _ h)) (by decide +kernel))
set_option maxRecDepth 20000 in
theorem gX4_layer_X4_requireRange : GoodIn wsX4_layer (va_wsS RX4 70 yX4_requireRange wsX4_requireRange) := goodIn_app (goodIn_of _ (by decide +kernel)) ggX4_layer_X4_requireRange
set_option maxRecDepth 20000 in
theorem ggX4_layer_X3_layerFact : GoodIn wsX4_layer wsX3_layerFact := goodIn_r _ [27, 14, 32] (by decide +kernel) (by decide +kernel)
set_option maxRecDepth 20000 in
theorem gX4_layer_X3_layerFact : GoodIn wsX4_layer (wsV RX4 219 RX3 yX3_layerFact wsX3_layerFact) := goodIn_app (goodIn_of _ (by decide +kernel)) ggX4_layer_X3_layerFact
theorem dX4_layer_0 : decode cX4_layer 0 = .ok (.aload_n 0, 1) := by decide +kernel
theorem dX4_layer_1 : decode cX4_layer 1 = .ok (.iload_n 1, 1) := by decide +kernel
theorem dX4_layer_2 : decode cX4_layer 2 = .ok (.invokevirtual 106, 3) := by decide +kernel
theorem dX4_layer_5 : decode cX4_layer 5 = .ok (.iload_n 2, 1) := by decide +kernel
theorem dX4_layer_6 : decode cX4_layer 6 = .ok (.ifCond .lt 16, 3) := by decide +kernel
theorem dX4_layer_9 : decode cX4_layer 9 = .ok (.iload_n 2, 1) := by decide +kernel
theorem dX4_layer_10 : decode cX4_layer 10 = .ok (.aload_n 0, 1) := by decide +kernel
theorem dX4_layer_11 : decode cX4_layer 11 = .ok (.getfield 10, 3) := by decide +kernel
theorem dX4_layer_14 : decode cX4_layer 14 = .ok (.iload_n 1, 1) := by decide +kernel
theorem dX4_layer_15 : decode cX4_layer 15 = .ok (.iconst 3, 1) := by decide +kernel
theorem dX4_layer_16 : decode cX4_layer 16 = .ok (.invokevirtual 125, 3) := by decide +kernel
theorem dX4_layer_19 : decode cX4_layer 19 = .ok (.if_icmp .lt 13, 3) := by decide +kernel
theorem dX4_layer_22 : decode cX4_layer 22 = .ok (.new 214, 3) := by decide +kernel
theorem dX4_layer_25 : decode cX4_layer 25 = .ok (.dup, 1) := by decide +kernel
theorem dX4_layer_26 : decode cX4_layer 26 = .ok (.ldc 216, 2) := by decide +kernel
theorem dX4_layer_28 : decode cX4_layer 28 = .ok (.invokespecial 218, 3) := by decide +kernel
theorem dX4_layer_31 : decode cX4_layer 31 = .ok (.athrow, 1) := by decide +kernel
theorem dX4_layer_32 : decode cX4_layer 32 = .ok (.iload_n 3, 1) := by decide +kernel
theorem dX4_layer_33 : decode cX4_layer 33 = .ok (.iconst 0, 1) := by decide +kernel
theorem dX4_layer_34 : decode cX4_layer 34 = .ok (.iconst 3, 1) := by decide +kernel
theorem dX4_layer_35 : decode cX4_layer 35 = .ok (.invokestatic 70, 3) := by decide +kernel
theorem dX4_layer_38 : decode cX4_layer 38 = .ok (.aload_n 0, 1) := by decide +kernel
theorem dX4_layer_39 : decode cX4_layer 39 = .ok (.getfield 10, 3) := by decide +kernel
theorem dX4_layer_42 : decode cX4_layer 42 = .ok (.iload_n 1, 1) := by decide +kernel
theorem dX4_layer_43 : decode cX4_layer 43 = .ok (.iload_n 2, 1) := by decide +kernel
theorem dX4_layer_44 : decode cX4_layer 44 = .ok (.iload_n 3, 1) := by decide +kernel
theorem dX4_layer_45 : decode cX4_layer 45 = .ok (.invokevirtual 219, 3) := by decide +kernel
theorem dX4_layer_48 : decode cX4_layer 48 = .ok (.ireturn, 1) := by decide +kernel
set_option maxRecDepth 20000 in
theorem ggX4_debt_X4_requirePerson : GoodIn wsX4_debt wsX4_requirePerson := goodIn_ca (goodIn_r _ [5, 6, 7] (by decide +kernel) (by decide +kernel)) (goodIn_sub (fun _ h => List.mem_cons_of_mem _ (List.mem_append_right _ h)) (by decide +kernel))
set_option maxRecDepth 20000 in
theorem gX4_debt_X4_requirePerson : GoodIn wsX4_debt (va_wsS RX4 37 yX4_requirePerson wsX4_requirePerson) := goodIn_app (goodIn_of _ (by decide +kernel)) ggX4_debt_X4_requirePerson
set_option maxRecDepth 20000 in
theorem ggX4_debt_X3_owed : GoodIn wsX4_debt wsX3_owed := goodIn_r _ [12, 13, 18] (by decide +kernel) (by decide +kernel)
set_option maxRecDepth 20000 in
theorem gX4_debt_X3_owed : GoodIn wsX4_debt (wsV RX4 83 RX3 yX3_owed wsX3_owed) := goodIn_app (goodIn_of _ (by decide +kernel)) ggX4_debt_X3_owed
theorem dX4_debt_0 : decode cX4_debt 0 = .ok (.iload_n 1, 1) := by decide +kernel
theorem dX4_debt_1 : decode cX4_debt 1 = .ok (.invokestatic 37, 3) := by decide +kernel
theorem dX4_debt_4 : decode cX4_debt 4 = .ok (.iload_n 2, 1) := by decide +kernel
theorem dX4_debt_5 : decode cX4_debt 5 = .ok (.invokestatic 37, 3) := by decide +kernel
theorem dX4_debt_8 : decode cX4_debt 8 = .ok (.aload_n 0, 1) := by decide +kernel
theorem dX4_debt_9 : decode cX4_debt 9 = .ok (.getfield 10, 3) := by decide +kernel
theorem dX4_debt_12 : decode cX4_debt 12 = .ok (.iload_n 1, 1) := by decide +kernel
theorem dX4_debt_13 : decode cX4_debt 13 = .ok (.iload_n 2, 1) := by decide +kernel
theorem dX4_debt_14 : decode cX4_debt 14 = .ok (.invokevirtual 83, 3) := by decide +kernel
theorem dX4_debt_17 : decode cX4_debt 17 = .ok (.ireturn, 1) := by decide +kernel
set_option maxRecDepth 20000 in
theorem ggX4_count_X4_requireRange : GoodIn wsX4_count wsX4_requireRange := goodIn_ca (goodIn_r _ [6, 7, 8] (by decide +kernel) (by decide +kernel)) (goodIn_sub (fun _ h => List.mem_cons_of_mem _ (List.mem_append_right _ h)) (by decide +kernel))
set_option maxRecDepth 20000 in
theorem gX4_count_X4_requireRange : GoodIn wsX4_count (va_wsS RX4 70 yX4_requireRange wsX4_requireRange) := goodIn_app (goodIn_of _ (by decide +kernel)) ggX4_count_X4_requireRange
set_option maxRecDepth 20000 in
theorem ggX4_count_X3_bondCount : GoodIn wsX4_count wsX3_bondCount := goodIn_r _ [13, 14, 58] (by decide +kernel) (by decide +kernel)
set_option maxRecDepth 20000 in
theorem gX4_count_X3_bondCount : GoodIn wsX4_count (wsV RX4 176 RX3 yX3_bondCount wsX3_bondCount) := goodIn_app (goodIn_of _ (by decide +kernel)) ggX4_count_X3_bondCount
set_option maxRecDepth 20000 in
theorem ggX4_count_X3_sumOverBonds : GoodIn wsX4_count wsX3_sumOverBonds := goodIn_r _ [18, 19, 10, 11, 12, 13, 14, 20, 21, 22, 23, 58] (by decide +kernel) (by decide +kernel)
set_option maxRecDepth 20000 in
theorem gX4_count_X3_sumOverBonds : GoodIn wsX4_count (wsV RX4 223 RX3 yX3_sumOverBonds wsX3_sumOverBonds) := goodIn_app (goodIn_of _ (by decide +kernel)) ggX4_count_X3_sumOverBonds
set_option maxRecDepth 20000 in
theorem ggX4_count_X3_cashOfAll : GoodIn wsX4_count wsX3_cashOfAll := goodIn_r _ [27, 28, 29, 30, 12, 31, 14, 58] (by decide +kernel) (by decide +kernel)
set_option maxRecDepth 20000 in
theorem gX4_count_X3_cashOfAll : GoodIn wsX4_count (wsV RX4 226 RX3 yX3_cashOfAll wsX3_cashOfAll) := goodIn_app (goodIn_of _ (by decide +kernel)) ggX4_count_X3_cashOfAll
set_option maxRecDepth 20000 in
theorem ggX4_count_X3_brought : GoodIn wsX4_count wsX3_brought := goodIn_r _ [35, 14, 58] (by decide +kernel) (by decide +kernel)
set_option maxRecDepth 20000 in
theorem gX4_count_X3_brought : GoodIn wsX4_count (wsV RX4 229 RX3 yX3_brought wsX3_brought) := goodIn_app (goodIn_of _ (by decide +kernel)) ggX4_count_X3_brought
set_option maxRecDepth 20000 in
theorem ggX4_count_X3_debtsOfAll : GoodIn wsX4_count wsX3_debtsOfAll := goodIn_r _ [39, 40, 41, 42, 12, 43, 44, 45, 46, 47, 14, 58] (by decide +kernel) (by decide +kernel)
set_option maxRecDepth 20000 in
theorem gX4_count_X3_debtsOfAll : GoodIn wsX4_count (wsV RX4 232 RX3 yX3_debtsOfAll wsX3_debtsOfAll) := goodIn_app (goodIn_of _ (by decide +kernel)) ggX4_count_X3_debtsOfAll
set_option maxRecDepth 20000 in
theorem ggX4_count_X1_size : GoodIn wsX4_count wsX1_size := goodIn_r _ [52, 53, 59, 60, 61] (by decide +kernel) (by decide +kernel)
set_option maxRecDepth 20000 in
theorem gX4_count_X1_size : GoodIn wsX4_count (wsV RX4 188 RX1 yX1_size wsX1_size) := goodIn_app (goodIn_of _ (by decide +kernel)) ggX4_count_X1_size
theorem dX4_count_0 : decode cX4_count 0 = .ok (.iload_n 1, 1) := by decide +kernel
theorem dX4_count_1 : decode cX4_count 1 = .ok (.iconst 0, 1) := by decide +kernel
theorem dX4_count_2 : decode cX4_count 2 = .ok (.bipush 9, 2) := by decide +kernel
theorem dX4_count_4 : decode cX4_count 4 = .ok (.invokestatic 70, 3) := by decide +kernel
theorem dX4_count_7 : decode cX4_count 7 = .ok (.iload_n 1, 1) := by decide +kernel
theorem dX4_count_8 : decode cX4_count 8 = .ok (.tableswitch 144 0 8 #[52, 60, 70, 78, 86, 96, 106, 126, 134], 52) := by decide +kernel
theorem dX4_count_60 : decode cX4_count 60 = .ok (.aload_n 0, 1) := by decide +kernel
theorem dX4_count_61 : decode cX4_count 61 = .ok (.getfield 10, 3) := by decide +kernel
theorem dX4_count_64 : decode cX4_count 64 = .ok (.invokevirtual 176, 3) := by decide +kernel
theorem dX4_count_67 : decode cX4_count 67 = .ok (.ireturn, 1) := by decide +kernel
theorem dX4_count_68 : decode cX4_count 68 = .ok (.aload_n 0, 1) := by decide +kernel
theorem dX4_count_69 : decode cX4_count 69 = .ok (.getfield 10, 3) := by decide +kernel
theorem dX4_count_72 : decode cX4_count 72 = .ok (.bipush 9, 2) := by decide +kernel
theorem dX4_count_74 : decode cX4_count 74 = .ok (.invokevirtual 223, 3) := by decide +kernel
theorem dX4_count_77 : decode cX4_count 77 = .ok (.ireturn, 1) := by decide +kernel
theorem dX4_count_78 : decode cX4_count 78 = .ok (.aload_n 0, 1) := by decide +kernel
theorem dX4_count_79 : decode cX4_count 79 = .ok (.getfield 10, 3) := by decide +kernel
theorem dX4_count_82 : decode cX4_count 82 = .ok (.invokevirtual 226, 3) := by decide +kernel
theorem dX4_count_85 : decode cX4_count 85 = .ok (.ireturn, 1) := by decide +kernel
theorem dX4_count_86 : decode cX4_count 86 = .ok (.aload_n 0, 1) := by decide +kernel
theorem dX4_count_87 : decode cX4_count 87 = .ok (.getfield 10, 3) := by decide +kernel
theorem dX4_count_90 : decode cX4_count 90 = .ok (.invokevirtual 229, 3) := by decide +kernel
theorem dX4_count_93 : decode cX4_count 93 = .ok (.ireturn, 1) := by decide +kernel
theorem dX4_count_94 : decode cX4_count 94 = .ok (.aload_n 0, 1) := by decide +kernel
theorem dX4_count_95 : decode cX4_count 95 = .ok (.getfield 10, 3) := by decide +kernel
theorem dX4_count_98 : decode cX4_count 98 = .ok (.bipush 6, 2) := by decide +kernel
theorem dX4_count_100 : decode cX4_count 100 = .ok (.invokevirtual 223, 3) := by decide +kernel
theorem dX4_count_103 : decode cX4_count 103 = .ok (.ireturn, 1) := by decide +kernel
theorem dX4_count_104 : decode cX4_count 104 = .ok (.aload_n 0, 1) := by decide +kernel
theorem dX4_count_105 : decode cX4_count 105 = .ok (.getfield 10, 3) := by decide +kernel
theorem dX4_count_108 : decode cX4_count 108 = .ok (.bipush 7, 2) := by decide +kernel
theorem dX4_count_110 : decode cX4_count 110 = .ok (.invokevirtual 223, 3) := by decide +kernel
theorem dX4_count_113 : decode cX4_count 113 = .ok (.ireturn, 1) := by decide +kernel
theorem dX4_count_114 : decode cX4_count 114 = .ok (.aload_n 0, 1) := by decide +kernel
theorem dX4_count_115 : decode cX4_count 115 = .ok (.getfield 10, 3) := by decide +kernel
theorem dX4_count_118 : decode cX4_count 118 = .ok (.bipush 6, 2) := by decide +kernel
theorem dX4_count_120 : decode cX4_count 120 = .ok (.invokevirtual 223, 3) := by decide +kernel
theorem dX4_count_123 : decode cX4_count 123 = .ok (.aload_n 0, 1) := by decide +kernel
theorem dX4_count_124 : decode cX4_count 124 = .ok (.getfield 10, 3) := by decide +kernel
theorem dX4_count_127 : decode cX4_count 127 = .ok (.bipush 7, 2) := by decide +kernel
theorem dX4_count_129 : decode cX4_count 129 = .ok (.invokevirtual 223, 3) := by decide +kernel
theorem dX4_count_132 : decode cX4_count 132 = .ok (.isub, 1) := by decide +kernel
theorem dX4_count_133 : decode cX4_count 133 = .ok (.ireturn, 1) := by decide +kernel
theorem dX4_count_134 : decode cX4_count 134 = .ok (.aload_n 0, 1) := by decide +kernel
theorem dX4_count_135 : decode cX4_count 135 = .ok (.getfield 10, 3) := by decide +kernel
theorem dX4_count_138 : decode cX4_count 138 = .ok (.invokevirtual 232, 3) := by decide +kernel
theorem dX4_count_141 : decode cX4_count 141 = .ok (.ireturn, 1) := by decide +kernel
theorem dX4_count_142 : decode cX4_count 142 = .ok (.aload_n 0, 1) := by decide +kernel
theorem dX4_count_143 : decode cX4_count 143 = .ok (.getfield 10, 3) := by decide +kernel
theorem dX4_count_146 : decode cX4_count 146 = .ok (.bipush 8, 2) := by decide +kernel
theorem dX4_count_148 : decode cX4_count 148 = .ok (.invokevirtual 223, 3) := by decide +kernel
theorem dX4_count_151 : decode cX4_count 151 = .ok (.ireturn, 1) := by decide +kernel
theorem dX4_count_152 : decode cX4_count 152 = .ok (.aload_n 0, 1) := by decide +kernel
theorem dX4_count_153 : decode cX4_count 153 = .ok (.getfield 19, 3) := by decide +kernel
theorem dX4_count_156 : decode cX4_count 156 = .ok (.invokevirtual 188, 3) := by decide +kernel
theorem dX4_count_159 : decode cX4_count 159 = .ok (.ireturn, 1) := by decide +kernel
set_option maxRecDepth 20000 in
theorem ggX4_setting_X4_requireSetting : GoodIn wsX4_setting wsX4_requireSetting := goodIn_ca (goodIn_r _ [5, 6, 7] (by decide +kernel) (by decide +kernel)) (goodIn_sub (fun _ h => List.mem_cons_of_mem _ (List.mem_append_right _ h)) (by decide +kernel))
set_option maxRecDepth 20000 in
theorem gX4_setting_X4_requireSetting : GoodIn wsX4_setting (va_wsS RX4 91 yX4_requireSetting wsX4_requireSetting) := goodIn_app (goodIn_of _ (by decide +kernel)) ggX4_setting_X4_requireSetting
set_option maxRecDepth 20000 in
theorem ggX4_setting_X3_settingValue : GoodIn wsX4_setting wsX3_settingValue := goodIn_r _ [12, 13, 18] (by decide +kernel) (by decide +kernel)
set_option maxRecDepth 20000 in
theorem gX4_setting_X3_settingValue : GoodIn wsX4_setting (wsV RX4 100 RX3 yX3_settingValue wsX3_settingValue) := goodIn_app (goodIn_of _ (by decide +kernel)) ggX4_setting_X3_settingValue
theorem dX4_setting_0 : decode cX4_setting 0 = .ok (.iload_n 1, 1) := by decide +kernel
theorem dX4_setting_1 : decode cX4_setting 1 = .ok (.invokestatic 91, 3) := by decide +kernel
theorem dX4_setting_4 : decode cX4_setting 4 = .ok (.aload_n 0, 1) := by decide +kernel
theorem dX4_setting_5 : decode cX4_setting 5 = .ok (.getfield 10, 3) := by decide +kernel
theorem dX4_setting_8 : decode cX4_setting 8 = .ok (.iload_n 1, 1) := by decide +kernel
theorem dX4_setting_9 : decode cX4_setting 9 = .ok (.invokevirtual 100, 3) := by decide +kernel
theorem dX4_setting_12 : decode cX4_setting 12 = .ok (.ireturn, 1) := by decide +kernel
set_option maxRecDepth 20000 in
theorem ggX4_ifCalled_X4_requireBond : GoodIn wsX4_ifCalled wsX4_requireBond := goodIn_ca (goodIn_r _ [7, 8, 9, 2, 10, 11, 12, 13, 14, 15, 107, 108, 109, 110, 111] (by decide +kernel) (by decide +kernel)) (goodIn_sub (fun _ h => List.mem_cons_of_mem _ (List.mem_append_left _ (List.mem_append_right _ h))) (by decide +kernel))
set_option maxRecDepth 20000 in
theorem gX4_ifCalled_X4_requireBond : GoodIn wsX4_ifCalled (wsV RX4 106 RX4 yX4_requireBond wsX4_requireBond) := goodIn_app (goodIn_of _ (by decide +kernel)) ggX4_ifCalled_X4_requireBond
set_option maxRecDepth 20000 in
theorem ggX4_ifCalled_X4_requireAmount : GoodIn wsX4_ifCalled wsX4_requireAmount := goodIn_ca (goodIn_r _ [18, 19, 20, 21, 6, 22, 23, 24] (by decide +kernel) (by decide +kernel)) (goodIn_sub (fun _ h => List.mem_cons_of_mem _ (List.mem_append_right _ h)) (by decide +kernel))
set_option maxRecDepth 20000 in
theorem gX4_ifCalled_X4_requireAmount : GoodIn wsX4_ifCalled (va_wsS RX4 41 yX4_requireAmount wsX4_requireAmount) := goodIn_app (goodIn_of _ (by decide +kernel)) ggX4_ifCalled_X4_requireAmount
set_option maxRecDepth 20000 in
theorem ggX4_ifCalled_X4_requireRange : GoodIn wsX4_ifCalled wsX4_requireRange := goodIn_ca (goodIn_r _ [22, 23, 24] (by decide +kernel) (by decide +kernel)) (goodIn_sub (fun _ h => List.mem_cons_of_mem _ (List.mem_append_right _ h)) (by decide +kernel))
set_option maxRecDepth 20000 in
theorem gX4_ifCalled_X4_requireRange : GoodIn wsX4_ifCalled (va_wsS RX4 70 yX4_requireRange wsX4_requireRange) := goodIn_app (goodIn_of _ (by decide +kernel)) ggX4_ifCalled_X4_requireRange
set_option maxRecDepth 20000 in
theorem ggX4_ifCalled_X2_draw : GoodIn wsX4_ifCalled wsX2_draw := goodIn_r _ [29, 30, 31, 32, 33, 34, 35, 36, 37, 38, 39, 40, 41, 42, 43, 28, 44, 45, 46, 47, 48, 49, 50, 13, 51, 15, 52, 53, 54, 55, 56, 57, 58, 59, 60, 61, 62, 63, 64, 65, 66, 67, 68, 69, 70, 71, 72, 73, 74, 75, 76, 77, 78, 79, 80, 81, 82, 83, 84, 85, 86, 87, 88, 89, 90, 91, 92, 93, 94, 112, 113, 114, 115, 116, 117, 118, 119, 120, 121, 122, 123, 111] (by decide +kernel) (by decide +kernel)
set_option maxRecDepth 20000 in
theorem gX4_ifCalled_X2_draw : GoodIn wsX4_ifCalled (wsV RX4 114 RX2 yX2_draw wsX2_draw) := goodIn_app (goodIn_of _ (by decide +kernel)) ggX4_ifCalled_X2_draw
set_option maxRecDepth 20000 in
theorem ggX4_ifCalled_X2_effect : GoodIn wsX4_ifCalled wsX2_effect := goodIn_r _ [98, 38, 31, 99, 100, 101, 28, 102, 30, 103, 104, 105, 106, 39, 37, 33, 34, 35, 36, 70, 71, 72, 13, 73, 60, 53, 54, 55, 15, 74, 75, 76, 77, 56, 57, 58, 59, 48, 49, 50, 51, 112, 113, 114, 115, 116, 117, 118, 119, 120, 121, 122, 123, 111] (by decide +kernel) (by decide +kernel)
set_option maxRecDepth 20000 in
theorem gX4_ifCalled_X2_effect : GoodIn wsX4_ifCalled (wsV RX4 235 RX2 yX2_effect wsX2_effect) := goodIn_app (goodIn_of _ (by decide +kernel)) ggX4_ifCalled_X2_effect
theorem dX4_ifCalled_0 : decode cX4_ifCalled 0 = .ok (.aload_n 0, 1) := by decide +kernel
theorem dX4_ifCalled_1 : decode cX4_ifCalled 1 = .ok (.iload_n 1, 1) := by decide +kernel
theorem dX4_ifCalled_2 : decode cX4_ifCalled 2 = .ok (.invokevirtual 106, 3) := by decide +kernel
theorem dX4_ifCalled_5 : decode cX4_ifCalled 5 = .ok (.iload_n 2, 1) := by decide +kernel
theorem dX4_ifCalled_6 : decode cX4_ifCalled 6 = .ok (.invokestatic 41, 3) := by decide +kernel
theorem dX4_ifCalled_9 : decode cX4_ifCalled 9 = .ok (.iload_n 3, 1) := by decide +kernel
theorem dX4_ifCalled_10 : decode cX4_ifCalled 10 = .ok (.iconst 0, 1) := by decide +kernel
theorem dX4_ifCalled_11 : decode cX4_ifCalled 11 = .ok (.bipush 10, 2) := by decide +kernel
theorem dX4_ifCalled_13 : decode cX4_ifCalled 13 = .ok (.invokestatic 70, 3) := by decide +kernel
theorem dX4_ifCalled_16 : decode cX4_ifCalled 16 = .ok (.aload_n 0, 1) := by decide +kernel
theorem dX4_ifCalled_17 : decode cX4_ifCalled 17 = .ok (.getfield 33, 3) := by decide +kernel
theorem dX4_ifCalled_20 : decode cX4_ifCalled 20 = .ok (.aload_n 0, 1) := by decide +kernel
theorem dX4_ifCalled_21 : decode cX4_ifCalled 21 = .ok (.getfield 10, 3) := by decide +kernel
theorem dX4_ifCalled_24 : decode cX4_ifCalled 24 = .ok (.iload_n 1, 1) := by decide +kernel
theorem dX4_ifCalled_25 : decode cX4_ifCalled 25 = .ok (.iload_n 2, 1) := by decide +kernel
theorem dX4_ifCalled_26 : decode cX4_ifCalled 26 = .ok (.invokevirtual 114, 3) := by decide +kernel
theorem dX4_ifCalled_29 : decode cX4_ifCalled 29 = .ok (.aload_n 0, 1) := by decide +kernel
theorem dX4_ifCalled_30 : decode cX4_ifCalled 30 = .ok (.getfield 33, 3) := by decide +kernel
theorem dX4_ifCalled_33 : decode cX4_ifCalled 33 = .ok (.aload_n 0, 1) := by decide +kernel
theorem dX4_ifCalled_34 : decode cX4_ifCalled 34 = .ok (.getfield 10, 3) := by decide +kernel
theorem dX4_ifCalled_37 : decode cX4_ifCalled 37 = .ok (.iload_n 3, 1) := by decide +kernel
theorem dX4_ifCalled_38 : decode cX4_ifCalled 38 = .ok (.invokevirtual 235, 3) := by decide +kernel
theorem dX4_ifCalled_41 : decode cX4_ifCalled 41 = .ok (.ireturn, 1) := by decide +kernel
set_option maxRecDepth 20000 in
theorem ggX4_thin_X4_requireBond : GoodIn wsX4_thin wsX4_requireBond := goodIn_ca (goodIn_r _ [7, 8, 9, 2, 10, 11, 12, 13, 14, 15, 91, 92, 93, 94, 95] (by decide +kernel) (by decide +kernel)) (goodIn_sub (fun _ h => List.mem_cons_of_mem _ (List.mem_append_right _ h)) (by decide +kernel))
set_option maxRecDepth 20000 in
theorem gX4_thin_X4_requireBond : GoodIn wsX4_thin (wsV RX4 106 RX4 yX4_requireBond wsX4_requireBond) := goodIn_app (goodIn_of _ (by decide +kernel)) ggX4_thin_X4_requireBond
set_option maxRecDepth 20000 in
theorem ggX4_thin_X3_leftOfBond : GoodIn wsX4_thin wsX3_leftOfBond := goodIn_r _ [19, 20, 21, 22, 13, 23, 15, 95] (by decide +kernel) (by decide +kernel)
set_option maxRecDepth 20000 in
theorem gX4_thin_X3_leftOfBond : GoodIn wsX4_thin (wsV RX4 133 RX3 yX3_leftOfBond wsX3_leftOfBond) := goodIn_app (goodIn_of _ (by decide +kernel)) ggX4_thin_X3_leftOfBond
set_option maxRecDepth 20000 in
theorem ggX4_thin_X2_draw : GoodIn wsX4_thin wsX2_draw := goodIn_r _ [28, 29, 30, 31, 32, 33, 34, 35, 36, 37, 38, 39, 40, 41, 42, 27, 43, 44, 45, 46, 47, 48, 49, 13, 50, 15, 51, 21, 22, 23, 52, 17, 18, 19, 20, 53, 54, 55, 56, 57, 58, 59, 60, 61, 62, 63, 64, 65, 66, 67, 68, 69, 70, 71, 72, 73, 74, 75, 76, 77, 78, 79, 80, 81, 82, 83, 84, 85, 86, 96, 97, 98, 99, 100, 101, 102, 103, 104, 105, 106, 107, 95] (by decide +kernel) (by decide +kernel)
set_option maxRecDepth 20000 in
theorem gX4_thin_X2_draw : GoodIn wsX4_thin (wsV RX4 114 RX2 yX2_draw wsX2_draw) := goodIn_app (goodIn_of _ (by decide +kernel)) ggX4_thin_X2_draw
set_option maxRecDepth 20000 in
theorem ggX4_thin_X2_thinLayer : GoodIn wsX4_thin wsX2_thinLayer := goodIn_r _ [90, 46, 96, 97, 98, 99, 100, 101, 102, 103, 104, 105, 106, 107] (by decide +kernel) (by decide +kernel)
set_option maxRecDepth 20000 in
theorem gX4_thin_X2_thinLayer : GoodIn wsX4_thin (wsV RX4 239 RX2 yX2_thinLayer wsX2_thinLayer) := goodIn_app (goodIn_of _ (by decide +kernel)) ggX4_thin_X2_thinLayer
theorem dX4_thin_0 : decode cX4_thin 0 = .ok (.aload_n 0, 1) := by decide +kernel
theorem dX4_thin_1 : decode cX4_thin 1 = .ok (.iload_n 1, 1) := by decide +kernel
theorem dX4_thin_2 : decode cX4_thin 2 = .ok (.invokevirtual 106, 3) := by decide +kernel
theorem dX4_thin_5 : decode cX4_thin 5 = .ok (.aload_n 0, 1) := by decide +kernel
theorem dX4_thin_6 : decode cX4_thin 6 = .ok (.getfield 33, 3) := by decide +kernel
theorem dX4_thin_9 : decode cX4_thin 9 = .ok (.aload_n 0, 1) := by decide +kernel
theorem dX4_thin_10 : decode cX4_thin 10 = .ok (.getfield 10, 3) := by decide +kernel
theorem dX4_thin_13 : decode cX4_thin 13 = .ok (.iload_n 1, 1) := by decide +kernel
theorem dX4_thin_14 : decode cX4_thin 14 = .ok (.aload_n 0, 1) := by decide +kernel
theorem dX4_thin_15 : decode cX4_thin 15 = .ok (.getfield 10, 3) := by decide +kernel
theorem dX4_thin_18 : decode cX4_thin 18 = .ok (.iload_n 1, 1) := by decide +kernel
theorem dX4_thin_19 : decode cX4_thin 19 = .ok (.invokevirtual 133, 3) := by decide +kernel
theorem dX4_thin_22 : decode cX4_thin 22 = .ok (.invokevirtual 114, 3) := by decide +kernel
theorem dX4_thin_25 : decode cX4_thin 25 = .ok (.aload_n 0, 1) := by decide +kernel
theorem dX4_thin_26 : decode cX4_thin 26 = .ok (.getfield 33, 3) := by decide +kernel
theorem dX4_thin_29 : decode cX4_thin 29 = .ok (.invokevirtual 239, 3) := by decide +kernel
theorem dX4_thin_32 : decode cX4_thin 32 = .ok (.ireturn, 1) := by decide +kernel
set_option maxRecDepth 20000 in
theorem ggX4_worst_X3_bondCount : GoodIn wsX4_worst wsX3_bondCount := goodIn_r _ [7, 8, 88] (by decide +kernel) (by decide +kernel)
set_option maxRecDepth 20000 in
theorem gX4_worst_X3_bondCount : GoodIn wsX4_worst (wsV RX4 176 RX3 yX3_bondCount wsX3_bondCount) := goodIn_app (goodIn_of _ (by decide +kernel)) ggX4_worst_X3_bondCount
set_option maxRecDepth 20000 in
theorem ggX4_worst_X3_leftOfBond : GoodIn wsX4_worst wsX3_leftOfBond := goodIn_r _ [12, 13, 14, 15, 6, 16, 8, 88] (by decide +kernel) (by decide +kernel)
set_option maxRecDepth 20000 in
theorem gX4_worst_X3_leftOfBond : GoodIn wsX4_worst (wsV RX4 133 RX3 yX3_leftOfBond wsX3_leftOfBond) := goodIn_app (goodIn_of _ (by decide +kernel)) ggX4_worst_X3_leftOfBond
set_option maxRecDepth 20000 in
theorem ggX4_worst_X2_draw : GoodIn wsX4_worst wsX2_draw := goodIn_r _ [21, 22, 23, 24, 25, 26, 27, 28, 29, 30, 31, 32, 33, 34, 35, 20, 36, 37, 38, 39, 40, 41, 42, 6, 43, 8, 44, 14, 15, 16, 45, 10, 11, 12, 13, 46, 47, 48, 49, 50, 51, 52, 53, 54, 55, 56, 57, 58, 59, 60, 61, 62, 63, 64, 65, 66, 67, 68, 69, 70, 71, 72, 73, 74, 75, 76, 77, 78, 79, 89, 90, 91, 92, 93, 94, 95, 96, 97, 98, 99, 100, 88] (by decide +kernel) (by decide +kernel)
set_option maxRecDepth 20000 in
theorem gX4_worst_X2_draw : GoodIn wsX4_worst (wsV RX4 114 RX2 yX2_draw wsX2_draw) := goodIn_app (goodIn_of _ (by decide +kernel)) ggX4_worst_X2_draw
set_option maxRecDepth 20000 in
theorem ggX4_worst_X2_loss : GoodIn wsX4_worst wsX2_loss := goodIn_r _ [83, 22, 30, 89, 90, 91, 92, 93, 94, 95, 96, 97, 98, 99, 100] (by decide +kernel) (by decide +kernel)
set_option maxRecDepth 20000 in
theorem gX4_worst_X2_loss : GoodIn wsX4_worst (wsV RX4 242 RX2 yX2_loss wsX2_loss) := goodIn_app (goodIn_of _ (by decide +kernel)) ggX4_worst_X2_loss
theorem dX4_worst_0 : decode cX4_worst 0 = .ok (.iconst (-1), 1) := by decide +kernel
theorem dX4_worst_1 : decode cX4_worst 1 = .ok (.istore_n 1, 1) := by decide +kernel
theorem dX4_worst_2 : decode cX4_worst 2 = .ok (.iconst 0, 1) := by decide +kernel
theorem dX4_worst_3 : decode cX4_worst 3 = .ok (.istore_n 2, 1) := by decide +kernel
theorem dX4_worst_4 : decode cX4_worst 4 = .ok (.iconst 0, 1) := by decide +kernel
theorem dX4_worst_5 : decode cX4_worst 5 = .ok (.istore_n 3, 1) := by decide +kernel
theorem dX4_worst_6 : decode cX4_worst 6 = .ok (.iload_n 3, 1) := by decide +kernel
theorem dX4_worst_7 : decode cX4_worst 7 = .ok (.aload_n 0, 1) := by decide +kernel
theorem dX4_worst_8 : decode cX4_worst 8 = .ok (.getfield 10, 3) := by decide +kernel
theorem dX4_worst_11 : decode cX4_worst 11 = .ok (.invokevirtual 176, 3) := by decide +kernel
theorem dX4_worst_14 : decode cX4_worst 14 = .ok (.if_icmp .ge 50, 3) := by decide +kernel
theorem dX4_worst_17 : decode cX4_worst 17 = .ok (.aload_n 0, 1) := by decide +kernel
theorem dX4_worst_18 : decode cX4_worst 18 = .ok (.getfield 33, 3) := by decide +kernel
theorem dX4_worst_21 : decode cX4_worst 21 = .ok (.aload_n 0, 1) := by decide +kernel
theorem dX4_worst_22 : decode cX4_worst 22 = .ok (.getfield 10, 3) := by decide +kernel
theorem dX4_worst_25 : decode cX4_worst 25 = .ok (.iload_n 3, 1) := by decide +kernel
theorem dX4_worst_26 : decode cX4_worst 26 = .ok (.aload_n 0, 1) := by decide +kernel
theorem dX4_worst_27 : decode cX4_worst 27 = .ok (.getfield 10, 3) := by decide +kernel
theorem dX4_worst_30 : decode cX4_worst 30 = .ok (.iload_n 3, 1) := by decide +kernel
theorem dX4_worst_31 : decode cX4_worst 31 = .ok (.invokevirtual 133, 3) := by decide +kernel
theorem dX4_worst_34 : decode cX4_worst 34 = .ok (.invokevirtual 114, 3) := by decide +kernel
theorem dX4_worst_37 : decode cX4_worst 37 = .ok (.aload_n 0, 1) := by decide +kernel
theorem dX4_worst_38 : decode cX4_worst 38 = .ok (.getfield 33, 3) := by decide +kernel
theorem dX4_worst_41 : decode cX4_worst 41 = .ok (.invokevirtual 242, 3) := by decide +kernel
theorem dX4_worst_44 : decode cX4_worst 44 = .ok (.iload_n 2, 1) := by decide +kernel
theorem dX4_worst_45 : decode cX4_worst 45 = .ok (.if_icmp .le 13, 3) := by decide +kernel
theorem dX4_worst_48 : decode cX4_worst 48 = .ok (.aload_n 0, 1) := by decide +kernel
theorem dX4_worst_49 : decode cX4_worst 49 = .ok (.getfield 33, 3) := by decide +kernel
theorem dX4_worst_52 : decode cX4_worst 52 = .ok (.invokevirtual 242, 3) := by decide +kernel
theorem dX4_worst_55 : decode cX4_worst 55 = .ok (.istore_n 2, 1) := by decide +kernel
theorem dX4_worst_56 : decode cX4_worst 56 = .ok (.iload_n 3, 1) := by decide +kernel
theorem dX4_worst_57 : decode cX4_worst 57 = .ok (.istore_n 1, 1) := by decide +kernel
theorem dX4_worst_58 : decode cX4_worst 58 = .ok (.iinc 3 1, 3) := by decide +kernel
theorem dX4_worst_61 : decode cX4_worst 61 = .ok (.goto (-55), 3) := by decide +kernel
theorem dX4_worst_64 : decode cX4_worst 64 = .ok (.iload_n 1, 1) := by decide +kernel
theorem dX4_worst_65 : decode cX4_worst 65 = .ok (.ireturn, 1) := by decide +kernel
set_option maxRecDepth 20000 in
theorem ggX4_spare_X4_requirePerson : GoodIn wsX4_spare wsX4_requirePerson := goodIn_ca (goodIn_r _ [5, 6, 7] (by decide +kernel) (by decide +kernel)) (goodIn_sub (fun _ h => List.mem_cons_of_mem _ (List.mem_append_right _ h)) (by decide +kernel))
set_option maxRecDepth 20000 in
theorem gX4_spare_X4_requirePerson : GoodIn wsX4_spare (va_wsS RX4 37 yX4_requirePerson wsX4_requirePerson) := goodIn_app (goodIn_of _ (by decide +kernel)) ggX4_spare_X4_requirePerson
set_option maxRecDepth 20000 in
theorem ggX4_spare_X3_spareCash : GoodIn wsX4_spare wsX3_spareCash := goodIn_r _ [12, 13, 14, 15, 16, 17, 18, 19, 11, 20, 21, 22, 23, 24, 25, 26, 27, 28, 29, 30, 31, 32, 33, 34, 35, 36, 37, 38, 39, 40, 41, 46] (by decide +kernel) (by decide +kernel)
set_option maxRecDepth 20000 in
theorem gX4_spare_X3_spareCash : GoodIn wsX4_spare (wsV RX4 59 RX3 yX3_spareCash wsX3_spareCash) := goodIn_app (goodIn_of _ (by decide +kernel)) ggX4_spare_X3_spareCash
theorem dX4_spare_0 : decode cX4_spare 0 = .ok (.iload_n 1, 1) := by decide +kernel
theorem dX4_spare_1 : decode cX4_spare 1 = .ok (.invokestatic 37, 3) := by decide +kernel
theorem dX4_spare_4 : decode cX4_spare 4 = .ok (.aload_n 0, 1) := by decide +kernel
theorem dX4_spare_5 : decode cX4_spare 5 = .ok (.getfield 10, 3) := by decide +kernel
theorem dX4_spare_8 : decode cX4_spare 8 = .ok (.iload_n 1, 1) := by decide +kernel
theorem dX4_spare_9 : decode cX4_spare 9 = .ok (.invokevirtual 59, 3) := by decide +kernel
theorem dX4_spare_12 : decode cX4_spare 12 = .ok (.ireturn, 1) := by decide +kernel
set_option maxRecDepth 20000 in
theorem ggX4_paidShare_X3_sumOverBonds : GoodIn wsX4_paidShare wsX3_sumOverBonds := goodIn_r _ [6, 7, 8, 9, 5, 10, 11, 12, 13, 14, 15, 20] (by decide +kernel) (by decide +kernel)
set_option maxRecDepth 20000 in
theorem gX4_paidShare_X3_sumOverBonds : GoodIn wsX4_paidShare (wsV RX4 223 RX3 yX3_sumOverBonds wsX3_sumOverBonds) := goodIn_app (goodIn_of _ (by decide +kernel)) ggX4_paidShare_X3_sumOverBonds
theorem dX4_paidShare_0 : decode cX4_paidShare 0 = .ok (.aload_n 0, 1) := by decide +kernel
theorem dX4_paidShare_1 : decode cX4_paidShare 1 = .ok (.getfield 10, 3) := by decide +kernel
theorem dX4_paidShare_4 : decode cX4_paidShare 4 = .ok (.bipush 6, 2) := by decide +kernel
theorem dX4_paidShare_6 : decode cX4_paidShare 6 = .ok (.invokevirtual 223, 3) := by decide +kernel
theorem dX4_paidShare_9 : decode cX4_paidShare 9 = .ok (.istore_n 1, 1) := by decide +kernel
theorem dX4_paidShare_10 : decode cX4_paidShare 10 = .ok (.iload_n 1, 1) := by decide +kernel
theorem dX4_paidShare_11 : decode cX4_paidShare 11 = .ok (.ifCond .ne 5, 3) := by decide +kernel
theorem dX4_paidShare_14 : decode cX4_paidShare 14 = .ok (.dconst 1, 1) := by decide +kernel
theorem dX4_paidShare_15 : decode cX4_paidShare 15 = .ok (.dreturn, 1) := by decide +kernel
theorem dX4_paidShare_16 : decode cX4_paidShare 16 = .ok (.aload_n 0, 1) := by decide +kernel
theorem dX4_paidShare_17 : decode cX4_paidShare 17 = .ok (.getfield 10, 3) := by decide +kernel
theorem dX4_paidShare_20 : decode cX4_paidShare 20 = .ok (.bipush 7, 2) := by decide +kernel
theorem dX4_paidShare_22 : decode cX4_paidShare 22 = .ok (.invokevirtual 223, 3) := by decide +kernel
theorem dX4_paidShare_25 : decode cX4_paidShare 25 = .ok (.i2d, 1) := by decide +kernel
theorem dX4_paidShare_26 : decode cX4_paidShare 26 = .ok (.iload_n 1, 1) := by decide +kernel
theorem dX4_paidShare_27 : decode cX4_paidShare 27 = .ok (.i2d, 1) := by decide +kernel
theorem dX4_paidShare_28 : decode cX4_paidShare 28 = .ok (.ddiv, 1) := by decide +kernel
theorem dX4_paidShare_29 : decode cX4_paidShare 29 = .ok (.dreturn, 1) := by decide +kernel
set_option maxRecDepth 20000 in
theorem ggX4_digest_X4_count : GoodIn wsX4_digest wsX4_count := goodIn_ca (goodIn_r _ [8, 2, 9, 10, 11, 7, 12, 13, 14, 15, 16, 17, 18, 19, 20, 21, 22, 23, 24, 25, 26, 27, 28, 29, 30, 31, 32, 33, 34, 35, 36, 37, 38, 39, 40, 41, 42, 43, 44, 45, 46, 47, 48, 49, 50, 51, 52, 53, 54, 55, 56, 57, 58, 59, 255, 256, 257, 258, 259, 260, 261, 262] (by decide +kernel) (by decide +kernel)) (goodIn_sub (fun _ h => List.mem_cons_of_mem _ (List.mem_append_left _ (List.mem_append_right _ h))) (by decide +kernel))
set_option maxRecDepth 20000 in
theorem gX4_digest_X4_count : GoodIn wsX4_digest (wsV RX4 247 RX4 yX4_count wsX4_count) := goodIn_app (goodIn_of _ (by decide +kernel)) ggX4_digest_X4_count
set_option maxRecDepth 20000 in
theorem ggX4_digest_X4_mix : GoodIn wsX4_digest wsX4_mix := goodIn_r _ [62, 63] (by decide +kernel) (by decide +kernel)
set_option maxRecDepth 20000 in
theorem gX4_digest_X4_mix : GoodIn wsX4_digest (va_wsS RX4 250 yX4_mix wsX4_mix) := goodIn_app (goodIn_of _ (by decide +kernel)) ggX4_digest_X4_mix
set_option maxRecDepth 20000 in
theorem ggX4_digest_X4_setting : GoodIn wsX4_digest wsX4_setting := goodIn_ca (goodIn_r _ [67, 2, 68, 69, 7, 70, 71, 72, 73, 74, 75, 18, 76, 20, 255, 256, 257, 258, 259] (by decide +kernel) (by decide +kernel)) (goodIn_sub (fun _ h => List.mem_cons_of_mem _ (List.mem_append_right _ h)) (by decide +kernel))
set_option maxRecDepth 20000 in
theorem gX4_digest_X4_setting : GoodIn wsX4_digest (wsV RX4 254 RX4 yX4_setting wsX4_setting) := goodIn_app (goodIn_of _ (by decide +kernel)) ggX4_digest_X4_setting
set_option maxRecDepth 20000 in
theorem ggX4_digest_X4_mixPerson : GoodIn wsX4_digest wsX4_mixPerson := goodIn_ca (goodIn_ca (goodIn_r _ [80, 81, 82, 83, 7, 84, 2, 85, 86, 87, 71, 72, 10, 11, 12, 13, 14, 88, 35, 36, 18, 37, 20, 89, 47, 48, 49, 50, 51, 52, 53, 90, 91, 92, 93, 94, 95, 96, 97, 25, 16, 17, 19, 26, 27, 28, 29, 98, 99, 100, 101, 102, 103, 104, 105, 34, 106, 107, 108, 109, 110, 111, 112, 60, 61, 62, 63, 113, 114, 115, 116, 117, 118, 119, 120, 121, 122, 123, 124, 125, 126, 74, 75, 76, 127, 128, 129, 130, 131, 255, 256, 257, 258, 259] (by decide +kernel) (by decide +kernel)) (goodIn_sub (fun _ h => List.mem_cons_of_mem _ (List.mem_append_right _ h)) (by decide +kernel))) (goodIn_sub (fun _ h => List.mem_cons_of_mem _ (List.mem_append_left _ (List.mem_append_right _ h))) (by decide +kernel))
set_option maxRecDepth 20000 in
theorem gX4_digest_X4_mixPerson : GoodIn wsX4_digest (wsV RX4 257 RX4 yX4_mixPerson wsX4_mixPerson) := goodIn_app (goodIn_of _ (by decide +kernel)) ggX4_digest_X4_mixPerson
set_option maxRecDepth 20000 in
theorem ggX4_digest_X3_bondCount : GoodIn wsX4_digest wsX3_bondCount := goodIn_r _ [19, 20, 259] (by decide +kernel) (by decide +kernel)
set_option maxRecDepth 20000 in
theorem gX4_digest_X3_bondCount : GoodIn wsX4_digest (wsV RX4 176 RX3 yX3_bondCount wsX3_bondCount) := goodIn_app (goodIn_of _ (by decide +kernel)) ggX4_digest_X3_bondCount
set_option maxRecDepth 20000 in
theorem ggX4_digest_X4_mixBond : GoodIn wsX4_digest wsX4_mixBond := goodIn_ca (goodIn_ca (goodIn_r _ [135, 2, 136, 137, 138, 139, 7, 140, 141, 142, 143, 144, 71, 72, 15, 16, 17, 18, 19, 20, 10, 11, 12, 13, 14, 145, 146, 147, 148, 26, 27, 28, 29, 149, 150, 151, 152, 98, 99, 100, 101, 153, 60, 61, 62, 63, 154, 155, 156, 157, 158, 159, 160, 161, 162, 163, 164, 165, 166, 167, 168, 123, 169, 170, 171, 172, 173, 174, 175, 176, 177, 178, 179, 180, 181, 35, 36, 37, 182, 183, 184, 185, 186, 187, 188, 189, 190, 191, 192, 193, 194, 195, 196, 197, 198, 199, 200, 201, 202, 203, 204, 205, 206, 207, 208, 107, 108, 209, 210, 211, 212, 213, 214, 215, 216, 217, 218, 219, 220, 221, 222, 223, 224, 225, 226, 227, 228, 255, 256, 257, 258, 259, 263, 264, 265, 266, 267, 268, 269, 270, 271, 272, 273, 274] (by decide +kernel) (by decide +kernel)) (goodIn_sub (fun _ h => List.mem_cons_of_mem _ (List.mem_append_right _ h)) (by decide +kernel))) (goodIn_sub (fun _ h => List.mem_cons_of_mem _ (List.mem_append_left _ (List.mem_append_right _ h))) (by decide +kernel))
set_option maxRecDepth 20000 in
theorem gX4_digest_X4_mixBond : GoodIn wsX4_digest (wsV RX4 261 RX4 yX4_mixBond wsX4_mixBond) := goodIn_app (goodIn_of _ (by decide +kernel)) ggX4_digest_X4_mixBond
set_option maxRecDepth 20000 in
theorem ggX4_digest_X4_worst : GoodIn wsX4_digest wsX4_worst := goodIn_r _ [232, 2, 136, 15, 16, 17, 18, 19, 20, 145, 146, 147, 148, 26, 27, 28, 29, 159, 160, 161, 162, 163, 164, 165, 166, 167, 168, 123, 169, 170, 171, 172, 173, 174, 175, 176, 177, 178, 179, 180, 181, 35, 36, 37, 182, 183, 184, 185, 186, 187, 188, 189, 190, 191, 192, 193, 150, 151, 152, 98, 99, 100, 101, 194, 195, 196, 197, 198, 199, 200, 201, 202, 203, 204, 205, 206, 207, 208, 107, 108, 233, 214, 215, 216, 255, 256, 257, 258, 259, 263, 264, 265, 266, 267, 268, 269, 270, 271, 272, 273, 274] (by decide +kernel) (by decide +kernel)
set_option maxRecDepth 20000 in
theorem gX4_digest_X4_worst : GoodIn wsX4_digest (wsV RX4 264 RX4 yX4_worst wsX4_worst) := goodIn_app (goodIn_of _ (by decide +kernel)) ggX4_digest_X4_worst
set_option maxRecDepth 20000 in
theorem ggX4_digest_X4_paidShare : GoodIn wsX4_digest wsX4_paidShare := goodIn_r _ [237, 2, 21, 22, 23, 18, 24, 25, 16, 17, 19, 20, 26, 27, 28, 29, 255, 256, 257, 258, 259] (by decide +kernel) (by decide +kernel)
set_option maxRecDepth 20000 in
theorem gX4_digest_X4_paidShare : GoodIn wsX4_digest (wsV RX4 267 RX4 yX4_paidShare wsX4_paidShare) := goodIn_app (goodIn_of _ (by decide +kernel)) ggX4_digest_X4_paidShare
set_option maxRecDepth 20000 in
theorem ggX4_digest_X4_bitsOfShare : GoodIn wsX4_digest wsX4_bitsOfShare := goodIn_r _ [240, 241, 242, 243] (by decide +kernel) (by decide +kernel)
set_option maxRecDepth 20000 in
theorem gX4_digest_X4_bitsOfShare : GoodIn wsX4_digest (va_wsS RX4 271 yX4_bitsOfShare wsX4_bitsOfShare) := goodIn_app (goodIn_of _ (by decide +kernel)) ggX4_digest_X4_bitsOfShare
set_option maxRecDepth 20000 in
theorem ggX4_digest_X0_length : GoodIn wsX4_digest wsX0_length := goodIn_r _ [248, 249, 275, 276, 277, 278, 279, 280, 281, 282, 283, 284, 285, 286] (by decide +kernel) (by decide +kernel)
set_option maxRecDepth 20000 in
theorem gX4_digest_X0_length : GoodIn wsX4_digest (wsV RX4 150 RX0 yX0_length wsX0_length) := goodIn_app (goodIn_of _ (by decide +kernel)) ggX4_digest_X0_length
set_option maxRecDepth 20000 in
theorem ggX4_digest_X0_codeAt : GoodIn wsX4_digest wsX0_codeAt := goodIn_r _ [253, 254, 275, 276, 277, 278, 279, 280, 281, 282, 283, 284, 285, 286] (by decide +kernel) (by decide +kernel)
set_option maxRecDepth 20000 in
theorem gX4_digest_X0_codeAt : GoodIn wsX4_digest (wsV RX4 275 RX0 yX0_codeAt wsX0_codeAt) := goodIn_app (goodIn_of _ (by decide +kernel)) ggX4_digest_X0_codeAt
theorem dX4_digest_0 : decode cX4_digest 0 = .ok (.ldc2_w 245, 3) := by decide +kernel
theorem dX4_digest_3 : decode cX4_digest 3 = .ok (.lstore_n 1, 1) := by decide +kernel
theorem dX4_digest_4 : decode cX4_digest 4 = .ok (.iconst 0, 1) := by decide +kernel
theorem dX4_digest_5 : decode cX4_digest 5 = .ok (.istore_n 3, 1) := by decide +kernel
theorem dX4_digest_6 : decode cX4_digest 6 = .ok (.iload_n 3, 1) := by decide +kernel
theorem dX4_digest_7 : decode cX4_digest 7 = .ok (.bipush 9, 2) := by decide +kernel
theorem dX4_digest_9 : decode cX4_digest 9 = .ok (.if_icmp .gt 20, 3) := by decide +kernel
theorem dX4_digest_12 : decode cX4_digest 12 = .ok (.lload_n 1, 1) := by decide +kernel
theorem dX4_digest_13 : decode cX4_digest 13 = .ok (.aload_n 0, 1) := by decide +kernel
theorem dX4_digest_14 : decode cX4_digest 14 = .ok (.iload_n 3, 1) := by decide +kernel
theorem dX4_digest_15 : decode cX4_digest 15 = .ok (.invokevirtual 247, 3) := by decide +kernel
theorem dX4_digest_18 : decode cX4_digest 18 = .ok (.i2l, 1) := by decide +kernel
theorem dX4_digest_19 : decode cX4_digest 19 = .ok (.invokestatic 250, 3) := by decide +kernel
theorem dX4_digest_22 : decode cX4_digest 22 = .ok (.lstore_n 1, 1) := by decide +kernel
theorem dX4_digest_23 : decode cX4_digest 23 = .ok (.iinc 3 1, 3) := by decide +kernel
theorem dX4_digest_26 : decode cX4_digest 26 = .ok (.goto (-20), 3) := by decide +kernel
theorem dX4_digest_29 : decode cX4_digest 29 = .ok (.iconst 0, 1) := by decide +kernel
theorem dX4_digest_30 : decode cX4_digest 30 = .ok (.istore_n 3, 1) := by decide +kernel
theorem dX4_digest_31 : decode cX4_digest 31 = .ok (.iload_n 3, 1) := by decide +kernel
theorem dX4_digest_32 : decode cX4_digest 32 = .ok (.iconst 3, 1) := by decide +kernel
theorem dX4_digest_33 : decode cX4_digest 33 = .ok (.if_icmp .ge 20, 3) := by decide +kernel
theorem dX4_digest_36 : decode cX4_digest 36 = .ok (.lload_n 1, 1) := by decide +kernel
theorem dX4_digest_37 : decode cX4_digest 37 = .ok (.aload_n 0, 1) := by decide +kernel
theorem dX4_digest_38 : decode cX4_digest 38 = .ok (.iload_n 3, 1) := by decide +kernel
theorem dX4_digest_39 : decode cX4_digest 39 = .ok (.invokevirtual 254, 3) := by decide +kernel
theorem dX4_digest_42 : decode cX4_digest 42 = .ok (.i2l, 1) := by decide +kernel
theorem dX4_digest_43 : decode cX4_digest 43 = .ok (.invokestatic 250, 3) := by decide +kernel
theorem dX4_digest_46 : decode cX4_digest 46 = .ok (.lstore_n 1, 1) := by decide +kernel
theorem dX4_digest_47 : decode cX4_digest 47 = .ok (.iinc 3 1, 3) := by decide +kernel
theorem dX4_digest_50 : decode cX4_digest 50 = .ok (.goto (-19), 3) := by decide +kernel
theorem dX4_digest_53 : decode cX4_digest 53 = .ok (.iconst 0, 1) := by decide +kernel
theorem dX4_digest_54 : decode cX4_digest 54 = .ok (.istore_n 3, 1) := by decide +kernel
theorem dX4_digest_55 : decode cX4_digest 55 = .ok (.iload_n 3, 1) := by decide +kernel
theorem dX4_digest_56 : decode cX4_digest 56 = .ok (.bipush 8, 2) := by decide +kernel
theorem dX4_digest_58 : decode cX4_digest 58 = .ok (.if_icmp .ge 16, 3) := by decide +kernel
theorem dX4_digest_61 : decode cX4_digest 61 = .ok (.aload_n 0, 1) := by decide +kernel
theorem dX4_digest_62 : decode cX4_digest 62 = .ok (.lload_n 1, 1) := by decide +kernel
theorem dX4_digest_63 : decode cX4_digest 63 = .ok (.iload_n 3, 1) := by decide +kernel
theorem dX4_digest_64 : decode cX4_digest 64 = .ok (.invokevirtual 257, 3) := by decide +kernel
theorem dX4_digest_67 : decode cX4_digest 67 = .ok (.lstore_n 1, 1) := by decide +kernel
theorem dX4_digest_68 : decode cX4_digest 68 = .ok (.iinc 3 1, 3) := by decide +kernel
theorem dX4_digest_71 : decode cX4_digest 71 = .ok (.goto (-16), 3) := by decide +kernel
theorem dX4_digest_74 : decode cX4_digest 74 = .ok (.iconst 0, 1) := by decide +kernel
theorem dX4_digest_75 : decode cX4_digest 75 = .ok (.istore_n 3, 1) := by decide +kernel
theorem dX4_digest_76 : decode cX4_digest 76 = .ok (.iload_n 3, 1) := by decide +kernel
theorem dX4_digest_77 : decode cX4_digest 77 = .ok (.aload_n 0, 1) := by decide +kernel
theorem dX4_digest_78 : decode cX4_digest 78 = .ok (.getfield 10, 3) := by decide +kernel
theorem dX4_digest_81 : decode cX4_digest 81 = .ok (.invokevirtual 176, 3) := by decide +kernel
theorem dX4_digest_84 : decode cX4_digest 84 = .ok (.if_icmp .ge 16, 3) := by decide +kernel
theorem dX4_digest_87 : decode cX4_digest 87 = .ok (.aload_n 0, 1) := by decide +kernel
theorem dX4_digest_88 : decode cX4_digest 88 = .ok (.lload_n 1, 1) := by decide +kernel
theorem dX4_digest_89 : decode cX4_digest 89 = .ok (.iload_n 3, 1) := by decide +kernel
theorem dX4_digest_90 : decode cX4_digest 90 = .ok (.invokevirtual 261, 3) := by decide +kernel
theorem dX4_digest_93 : decode cX4_digest 93 = .ok (.lstore_n 1, 1) := by decide +kernel
theorem dX4_digest_94 : decode cX4_digest 94 = .ok (.iinc 3 1, 3) := by decide +kernel
theorem dX4_digest_97 : decode cX4_digest 97 = .ok (.goto (-21), 3) := by decide +kernel
theorem dX4_digest_100 : decode cX4_digest 100 = .ok (.lload_n 1, 1) := by decide +kernel
theorem dX4_digest_101 : decode cX4_digest 101 = .ok (.aload_n 0, 1) := by decide +kernel
theorem dX4_digest_102 : decode cX4_digest 102 = .ok (.invokevirtual 264, 3) := by decide +kernel
theorem dX4_digest_105 : decode cX4_digest 105 = .ok (.i2l, 1) := by decide +kernel
theorem dX4_digest_106 : decode cX4_digest 106 = .ok (.invokestatic 250, 3) := by decide +kernel
theorem dX4_digest_109 : decode cX4_digest 109 = .ok (.lstore_n 1, 1) := by decide +kernel
theorem dX4_digest_110 : decode cX4_digest 110 = .ok (.lload_n 1, 1) := by decide +kernel
theorem dX4_digest_111 : decode cX4_digest 111 = .ok (.aload_n 0, 1) := by decide +kernel
theorem dX4_digest_112 : decode cX4_digest 112 = .ok (.invokevirtual 267, 3) := by decide +kernel
theorem dX4_digest_115 : decode cX4_digest 115 = .ok (.invokestatic 271, 3) := by decide +kernel
theorem dX4_digest_118 : decode cX4_digest 118 = .ok (.invokestatic 250, 3) := by decide +kernel
theorem dX4_digest_121 : decode cX4_digest 121 = .ok (.lstore_n 1, 1) := by decide +kernel
theorem dX4_digest_122 : decode cX4_digest 122 = .ok (.lload_n 1, 1) := by decide +kernel
theorem dX4_digest_123 : decode cX4_digest 123 = .ok (.aload_n 0, 1) := by decide +kernel
theorem dX4_digest_124 : decode cX4_digest 124 = .ok (.getfield 26, 3) := by decide +kernel
theorem dX4_digest_127 : decode cX4_digest 127 = .ok (.invokevirtual 150, 3) := by decide +kernel
theorem dX4_digest_130 : decode cX4_digest 130 = .ok (.i2l, 1) := by decide +kernel
theorem dX4_digest_131 : decode cX4_digest 131 = .ok (.invokestatic 250, 3) := by decide +kernel
theorem dX4_digest_134 : decode cX4_digest 134 = .ok (.lstore_n 1, 1) := by decide +kernel
theorem dX4_digest_135 : decode cX4_digest 135 = .ok (.iconst 0, 1) := by decide +kernel
theorem dX4_digest_136 : decode cX4_digest 136 = .ok (.istore_n 3, 1) := by decide +kernel
theorem dX4_digest_137 : decode cX4_digest 137 = .ok (.iload_n 3, 1) := by decide +kernel
theorem dX4_digest_138 : decode cX4_digest 138 = .ok (.aload_n 0, 1) := by decide +kernel
theorem dX4_digest_139 : decode cX4_digest 139 = .ok (.getfield 26, 3) := by decide +kernel
theorem dX4_digest_142 : decode cX4_digest 142 = .ok (.invokevirtual 150, 3) := by decide +kernel
theorem dX4_digest_145 : decode cX4_digest 145 = .ok (.if_icmp .ge 23, 3) := by decide +kernel
theorem dX4_digest_148 : decode cX4_digest 148 = .ok (.lload_n 1, 1) := by decide +kernel
theorem dX4_digest_149 : decode cX4_digest 149 = .ok (.aload_n 0, 1) := by decide +kernel
theorem dX4_digest_150 : decode cX4_digest 150 = .ok (.getfield 26, 3) := by decide +kernel
theorem dX4_digest_153 : decode cX4_digest 153 = .ok (.iload_n 3, 1) := by decide +kernel
theorem dX4_digest_154 : decode cX4_digest 154 = .ok (.invokevirtual 275, 3) := by decide +kernel
theorem dX4_digest_157 : decode cX4_digest 157 = .ok (.i2l, 1) := by decide +kernel
theorem dX4_digest_158 : decode cX4_digest 158 = .ok (.invokestatic 250, 3) := by decide +kernel
theorem dX4_digest_161 : decode cX4_digest 161 = .ok (.lstore_n 1, 1) := by decide +kernel
theorem dX4_digest_162 : decode cX4_digest 162 = .ok (.iinc 3 1, 3) := by decide +kernel
theorem dX4_digest_165 : decode cX4_digest 165 = .ok (.goto (-28), 3) := by decide +kernel
theorem dX4_digest_168 : decode cX4_digest 168 = .ok (.lload_n 1, 1) := by decide +kernel
theorem dX4_digest_169 : decode cX4_digest 169 = .ok (.lreturn, 1) := by decide +kernel
theorem dX4_mix_0 : decode cX4_mix 0 = .ok (.ldc2_w 278, 3) := by decide +kernel
theorem dX4_mix_3 : decode cX4_mix 3 = .ok (.lload_n 0, 1) := by decide +kernel
theorem dX4_mix_4 : decode cX4_mix 4 = .ok (.lmul, 1) := by decide +kernel
theorem dX4_mix_5 : decode cX4_mix 5 = .ok (.lload_n 2, 1) := by decide +kernel
theorem dX4_mix_6 : decode cX4_mix 6 = .ok (.ladd, 1) := by decide +kernel
theorem dX4_mix_7 : decode cX4_mix 7 = .ok (.lreturn, 1) := by decide +kernel
set_option maxRecDepth 20000 in
theorem ggX4_mixPerson_X4_person : GoodIn wsX4_mixPerson wsX4_person := goodIn_ca (goodIn_ca (goodIn_r _ [5, 6, 7, 8, 4, 9, 10, 11, 12, 13, 14, 15, 16, 17, 18, 19, 20, 21, 22, 23, 24, 25, 26, 27, 28, 29, 30, 31, 32, 33, 34, 35, 36, 37, 38, 39, 40, 41, 42, 43, 44, 45, 46, 47, 48, 49, 50, 51, 52, 53, 54, 55, 56, 57, 58, 59, 60, 61, 62, 89, 90, 91, 92, 93] (by decide +kernel) (by decide +kernel)) (goodIn_sub (fun _ h => List.mem_cons_of_mem _ (List.mem_append_left _ (List.mem_append_right _ h))) (by decide +kernel))) (goodIn_sub (fun _ h => List.mem_cons_of_mem _ (List.mem_append_right _ h)) (by decide +kernel))
set_option maxRecDepth 20000 in
theorem gX4_mixPerson_X4_person : GoodIn wsX4_mixPerson (wsV RX4 280 RX4 yX4_person wsX4_person) := goodIn_app (goodIn_of _ (by decide +kernel)) ggX4_mixPerson_X4_person
set_option maxRecDepth 20000 in
theorem ggX4_mixPerson_X4_mix : GoodIn wsX4_mixPerson wsX4_mix := goodIn_r _ [65, 66] (by decide +kernel) (by decide +kernel)
set_option maxRecDepth 20000 in
theorem gX4_mixPerson_X4_mix : GoodIn wsX4_mixPerson (va_wsS RX4 250 yX4_mix wsX4_mix) := goodIn_app (goodIn_of _ (by decide +kernel)) ggX4_mixPerson_X4_mix
set_option maxRecDepth 20000 in
theorem ggX4_mixPerson_X4_spare : GoodIn wsX4_mixPerson wsX4_spare := goodIn_ca (goodIn_r _ [70, 6, 7, 8, 4, 9, 10, 11, 71, 72, 73, 20, 74, 75, 76, 77, 78, 79, 36, 37, 38, 39, 40, 41, 42, 22, 43, 44, 45, 46, 47, 48, 49, 50, 80, 81, 82, 83, 55, 18, 19, 21, 89, 90, 91, 92, 93] (by decide +kernel) (by decide +kernel)) (goodIn_sub (fun _ h => List.mem_cons_of_mem _ (List.mem_append_left _ (List.mem_append_right _ h))) (by decide +kernel))
set_option maxRecDepth 20000 in
theorem gX4_mixPerson_X4_spare : GoodIn wsX4_mixPerson (wsV RX4 283 RX4 yX4_spare wsX4_spare) := goodIn_app (goodIn_of _ (by decide +kernel)) ggX4_mixPerson_X4_spare
set_option maxRecDepth 20000 in
theorem ggX4_mixPerson_X4_debt : GoodIn wsX4_mixPerson wsX4_debt := goodIn_ca (goodIn_r _ [87, 6, 7, 8, 4, 9, 10, 11, 88, 28, 29, 20, 30, 22, 89, 90, 91, 92, 93] (by decide +kernel) (by decide +kernel)) (goodIn_sub (fun _ h => List.mem_cons_of_mem _ (List.mem_append_left _ (List.mem_append_right _ h))) (by decide +kernel))
set_option maxRecDepth 20000 in
theorem gX4_mixPerson_X4_debt : GoodIn wsX4_mixPerson (wsV RX4 286 RX4 yX4_debt wsX4_debt) := goodIn_app (goodIn_of _ (by decide +kernel)) ggX4_mixPerson_X4_debt
theorem dX4_mixPerson_0 : decode cX4_mixPerson 0 = .ok (.lload_n 1, 1) := by decide +kernel
theorem dX4_mixPerson_1 : decode cX4_mixPerson 1 = .ok (.lstore 4, 2) := by decide +kernel
theorem dX4_mixPerson_3 : decode cX4_mixPerson 3 = .ok (.iconst 0, 1) := by decide +kernel
theorem dX4_mixPerson_4 : decode cX4_mixPerson 4 = .ok (.istore 6, 2) := by decide +kernel
theorem dX4_mixPerson_6 : decode cX4_mixPerson 6 = .ok (.iload 6, 2) := by decide +kernel
theorem dX4_mixPerson_8 : decode cX4_mixPerson 8 = .ok (.bipush 10, 2) := by decide +kernel
theorem dX4_mixPerson_10 : decode cX4_mixPerson 10 = .ok (.if_icmp .gt 24, 3) := by decide +kernel
theorem dX4_mixPerson_13 : decode cX4_mixPerson 13 = .ok (.lload 4, 2) := by decide +kernel
theorem dX4_mixPerson_15 : decode cX4_mixPerson 15 = .ok (.aload_n 0, 1) := by decide +kernel
theorem dX4_mixPerson_16 : decode cX4_mixPerson 16 = .ok (.iload_n 3, 1) := by decide +kernel
theorem dX4_mixPerson_17 : decode cX4_mixPerson 17 = .ok (.iload 6, 2) := by decide +kernel
theorem dX4_mixPerson_19 : decode cX4_mixPerson 19 = .ok (.invokevirtual 280, 3) := by decide +kernel
theorem dX4_mixPerson_22 : decode cX4_mixPerson 22 = .ok (.i2l, 1) := by decide +kernel
theorem dX4_mixPerson_23 : decode cX4_mixPerson 23 = .ok (.invokestatic 250, 3) := by decide +kernel
theorem dX4_mixPerson_26 : decode cX4_mixPerson 26 = .ok (.lstore 4, 2) := by decide +kernel
theorem dX4_mixPerson_28 : decode cX4_mixPerson 28 = .ok (.iinc 6 1, 3) := by decide +kernel
theorem dX4_mixPerson_31 : decode cX4_mixPerson 31 = .ok (.goto (-25), 3) := by decide +kernel
theorem dX4_mixPerson_34 : decode cX4_mixPerson 34 = .ok (.lload 4, 2) := by decide +kernel
theorem dX4_mixPerson_36 : decode cX4_mixPerson 36 = .ok (.aload_n 0, 1) := by decide +kernel
theorem dX4_mixPerson_37 : decode cX4_mixPerson 37 = .ok (.iload_n 3, 1) := by decide +kernel
theorem dX4_mixPerson_38 : decode cX4_mixPerson 38 = .ok (.invokevirtual 283, 3) := by decide +kernel
theorem dX4_mixPerson_41 : decode cX4_mixPerson 41 = .ok (.i2l, 1) := by decide +kernel
theorem dX4_mixPerson_42 : decode cX4_mixPerson 42 = .ok (.invokestatic 250, 3) := by decide +kernel
theorem dX4_mixPerson_45 : decode cX4_mixPerson 45 = .ok (.lstore 4, 2) := by decide +kernel
theorem dX4_mixPerson_47 : decode cX4_mixPerson 47 = .ok (.iconst 0, 1) := by decide +kernel
theorem dX4_mixPerson_48 : decode cX4_mixPerson 48 = .ok (.istore 6, 2) := by decide +kernel
theorem dX4_mixPerson_50 : decode cX4_mixPerson 50 = .ok (.iload 6, 2) := by decide +kernel
theorem dX4_mixPerson_52 : decode cX4_mixPerson 52 = .ok (.bipush 8, 2) := by decide +kernel
theorem dX4_mixPerson_54 : decode cX4_mixPerson 54 = .ok (.if_icmp .ge 24, 3) := by decide +kernel
theorem dX4_mixPerson_57 : decode cX4_mixPerson 57 = .ok (.lload 4, 2) := by decide +kernel
theorem dX4_mixPerson_59 : decode cX4_mixPerson 59 = .ok (.aload_n 0, 1) := by decide +kernel
theorem dX4_mixPerson_60 : decode cX4_mixPerson 60 = .ok (.iload_n 3, 1) := by decide +kernel
theorem dX4_mixPerson_61 : decode cX4_mixPerson 61 = .ok (.iload 6, 2) := by decide +kernel
theorem dX4_mixPerson_63 : decode cX4_mixPerson 63 = .ok (.invokevirtual 286, 3) := by decide +kernel
theorem dX4_mixPerson_66 : decode cX4_mixPerson 66 = .ok (.i2l, 1) := by decide +kernel
theorem dX4_mixPerson_67 : decode cX4_mixPerson 67 = .ok (.invokestatic 250, 3) := by decide +kernel
theorem dX4_mixPerson_70 : decode cX4_mixPerson 70 = .ok (.lstore 4, 2) := by decide +kernel
theorem dX4_mixPerson_72 : decode cX4_mixPerson 72 = .ok (.iinc 6 1, 3) := by decide +kernel
theorem dX4_mixPerson_75 : decode cX4_mixPerson 75 = .ok (.goto (-25), 3) := by decide +kernel
theorem dX4_mixPerson_78 : decode cX4_mixPerson 78 = .ok (.lload 4, 2) := by decide +kernel
theorem dX4_mixPerson_80 : decode cX4_mixPerson 80 = .ok (.lreturn, 1) := by decide +kernel
set_option maxRecDepth 20000 in
theorem ggX4_mixBond_X4_bond : GoodIn wsX4_mixBond wsX4_bond := goodIn_ca (goodIn_ca (goodIn_r _ [7, 1, 8, 9, 10, 6, 11, 12, 13, 14, 15, 16, 17, 18, 19, 20, 21, 22, 23, 24, 25, 26, 27, 28, 29, 30, 31, 32, 33, 34, 35, 36, 37, 38, 39, 40, 41, 127, 128, 129, 130, 131] (by decide +kernel) (by decide +kernel)) (goodIn_sub (fun _ h => List.mem_cons_of_mem _ (List.mem_append_left _ (List.mem_append_right _ h))) (by decide +kernel))) (goodIn_sub (fun _ h => List.mem_cons_of_mem _ (List.mem_append_right _ h)) (by decide +kernel))
set_option maxRecDepth 20000 in
theorem gX4_mixBond_X4_bond : GoodIn wsX4_mixBond (wsV RX4 289 RX4 yX4_bond wsX4_bond) := goodIn_app (goodIn_of _ (by decide +kernel)) ggX4_mixBond_X4_bond
set_option maxRecDepth 20000 in
theorem ggX4_mixBond_X4_mix : GoodIn wsX4_mixBond wsX4_mix := goodIn_r _ [44, 45] (by decide +kernel) (by decide +kernel)
set_option maxRecDepth 20000 in
theorem gX4_mixBond_X4_mix : GoodIn wsX4_mixBond (va_wsS RX4 250 yX4_mix wsX4_mix) := goodIn_app (goodIn_of _ (by decide +kernel)) ggX4_mixBond_X4_mix
set_option maxRecDepth 20000 in
theorem ggX4_mixBond_X3_bondFact : GoodIn wsX4_mixBond wsX3_bondFact := goodIn_r _ [32, 19, 131] (by decide +kernel) (by decide +kernel)
set_option maxRecDepth 20000 in
theorem gX4_mixBond_X3_bondFact : GoodIn wsX4_mixBond (wsV RX4 125 RX3 yX3_bondFact wsX3_bondFact) := goodIn_app (goodIn_of _ (by decide +kernel)) ggX4_mixBond_X3_bondFact
set_option maxRecDepth 20000 in
theorem ggX4_mixBond_X4_layer : GoodIn wsX4_mixBond wsX4_layer := goodIn_ca (goodIn_ca (goodIn_r _ [49, 12, 13, 1, 8, 9, 10, 6, 11, 14, 15, 16, 17, 18, 19, 41, 30, 31, 32, 20, 21, 22, 23, 24, 50, 38, 39, 40, 127, 128, 129, 130, 131] (by decide +kernel) (by decide +kernel)) (goodIn_sub (fun _ h => List.mem_cons_of_mem _ (List.mem_append_left _ (List.mem_append_right _ h))) (by decide +kernel))) (goodIn_sub (fun _ h => List.mem_cons_of_mem _ (List.mem_append_right _ h)) (by decide +kernel))
set_option maxRecDepth 20000 in
theorem gX4_mixBond_X4_layer : GoodIn wsX4_mixBond (wsV RX4 292 RX4 yX4_layer wsX4_layer) := goodIn_app (goodIn_of _ (by decide +kernel)) ggX4_mixBond_X4_layer
set_option maxRecDepth 20000 in
theorem ggX4_mixBond_X2_draw : GoodIn wsX4_mixBond wsX2_draw := goodIn_r _ [55, 56, 57, 58, 59, 60, 61, 62, 63, 64, 65, 66, 67, 68, 69, 54, 70, 71, 72, 73, 74, 75, 76, 17, 77, 19, 78, 30, 31, 32, 79, 26, 27, 28, 29, 80, 81, 82, 83, 84, 85, 86, 87, 88, 89, 34, 35, 36, 37, 38, 39, 40, 90, 91, 92, 93, 94, 95, 96, 97, 98, 99, 100, 101, 102, 103, 104, 105, 106, 132, 133, 134, 135, 136, 137, 138, 139, 140, 141, 142, 143, 131] (by decide +kernel) (by decide +kernel)
set_option maxRecDepth 20000 in
theorem gX4_mixBond_X2_draw : GoodIn wsX4_mixBond (wsV RX4 114 RX2 yX2_draw wsX2_draw) := goodIn_app (goodIn_of _ (by decide +kernel)) ggX4_mixBond_X2_draw
set_option maxRecDepth 20000 in
theorem ggX4_mixBond_X2_effect : GoodIn wsX4_mixBond wsX2_effect := goodIn_r _ [110, 64, 57, 111, 112, 113, 54, 114, 56, 115, 116, 117, 118, 65, 63, 59, 60, 61, 62, 89, 34, 35, 17, 36, 29, 30, 31, 32, 19, 37, 38, 39, 40, 79, 26, 27, 28, 74, 75, 76, 77, 132, 133, 134, 135, 136, 137, 138, 139, 140, 141, 142, 143, 131] (by decide +kernel) (by decide +kernel)
set_option maxRecDepth 20000 in
theorem gX4_mixBond_X2_effect : GoodIn wsX4_mixBond (wsV RX4 235 RX2 yX2_effect wsX2_effect) := goodIn_app (goodIn_of _ (by decide +kernel)) ggX4_mixBond_X2_effect
set_option maxRecDepth 20000 in
theorem ggX4_mixBond_X4_thin : GoodIn wsX4_mixBond wsX4_thin := goodIn_ca (goodIn_r _ [122, 2, 1, 8, 9, 10, 6, 11, 12, 13, 14, 15, 16, 17, 18, 19, 25, 26, 27, 28, 29, 30, 31, 32, 51, 52, 53, 54, 55, 56, 57, 58, 59, 60, 61, 62, 63, 64, 65, 66, 67, 68, 69, 70, 71, 72, 73, 74, 75, 76, 77, 78, 79, 80, 81, 82, 83, 84, 85, 86, 87, 88, 89, 34, 35, 36, 37, 38, 39, 40, 90, 91, 92, 93, 94, 95, 96, 97, 98, 99, 100, 101, 102, 103, 104, 105, 106, 123, 124, 125, 126, 127, 128, 129, 130, 131, 132, 133, 134, 135, 136, 137, 138, 139, 140, 141, 142, 143] (by decide +kernel) (by decide +kernel)) (goodIn_sub (fun _ h => List.mem_cons_of_mem _ (List.mem_append_left _ (List.mem_append_right _ h))) (by decide +kernel))
set_option maxRecDepth 20000 in
theorem gX4_mixBond_X4_thin : GoodIn wsX4_mixBond (wsV RX4 295 RX4 yX4_thin wsX4_thin) := goodIn_app (goodIn_of _ (by decide +kernel)) ggX4_mixBond_X4_thin
theorem dX4_mixBond_0 : decode cX4_mixBond 0 = .ok (.lload_n 1, 1) := by decide +kernel
theorem dX4_mixBond_1 : decode cX4_mixBond 1 = .ok (.lstore 4, 2) := by decide +kernel
theorem dX4_mixBond_3 : decode cX4_mixBond 3 = .ok (.iconst 0, 1) := by decide +kernel
theorem dX4_mixBond_4 : decode cX4_mixBond 4 = .ok (.istore 6, 2) := by decide +kernel
theorem dX4_mixBond_6 : decode cX4_mixBond 6 = .ok (.iload 6, 2) := by decide +kernel
theorem dX4_mixBond_8 : decode cX4_mixBond 8 = .ok (.bipush 11, 2) := by decide +kernel
theorem dX4_mixBond_10 : decode cX4_mixBond 10 = .ok (.if_icmp .gt 24, 3) := by decide +kernel
theorem dX4_mixBond_13 : decode cX4_mixBond 13 = .ok (.lload 4, 2) := by decide +kernel
theorem dX4_mixBond_15 : decode cX4_mixBond 15 = .ok (.aload_n 0, 1) := by decide +kernel
theorem dX4_mixBond_16 : decode cX4_mixBond 16 = .ok (.iload_n 3, 1) := by decide +kernel
theorem dX4_mixBond_17 : decode cX4_mixBond 17 = .ok (.iload 6, 2) := by decide +kernel
theorem dX4_mixBond_19 : decode cX4_mixBond 19 = .ok (.invokevirtual 289, 3) := by decide +kernel
theorem dX4_mixBond_22 : decode cX4_mixBond 22 = .ok (.i2l, 1) := by decide +kernel
theorem dX4_mixBond_23 : decode cX4_mixBond 23 = .ok (.invokestatic 250, 3) := by decide +kernel
theorem dX4_mixBond_26 : decode cX4_mixBond 26 = .ok (.lstore 4, 2) := by decide +kernel
theorem dX4_mixBond_28 : decode cX4_mixBond 28 = .ok (.iinc 6 1, 3) := by decide +kernel
theorem dX4_mixBond_31 : decode cX4_mixBond 31 = .ok (.goto (-25), 3) := by decide +kernel
theorem dX4_mixBond_34 : decode cX4_mixBond 34 = .ok (.iconst 0, 1) := by decide +kernel
theorem dX4_mixBond_35 : decode cX4_mixBond 35 = .ok (.istore 6, 2) := by decide +kernel
theorem dX4_mixBond_37 : decode cX4_mixBond 37 = .ok (.iload 6, 2) := by decide +kernel
theorem dX4_mixBond_39 : decode cX4_mixBond 39 = .ok (.aload_n 0, 1) := by decide +kernel
theorem dX4_mixBond_40 : decode cX4_mixBond 40 = .ok (.getfield 10, 3) := by decide +kernel
theorem dX4_mixBond_43 : decode cX4_mixBond 43 = .ok (.iload_n 3, 1) := by decide +kernel
theorem dX4_mixBond_44 : decode cX4_mixBond 44 = .ok (.iconst 3, 1) := by decide +kernel
theorem dX4_mixBond_45 : decode cX4_mixBond 45 = .ok (.invokevirtual 125, 3) := by decide +kernel
theorem dX4_mixBond_48 : decode cX4_mixBond 48 = .ok (.if_icmp .ge 41, 3) := by decide +kernel
theorem dX4_mixBond_51 : decode cX4_mixBond 51 = .ok (.iconst 0, 1) := by decide +kernel
theorem dX4_mixBond_52 : decode cX4_mixBond 52 = .ok (.istore 7, 2) := by decide +kernel
theorem dX4_mixBond_54 : decode cX4_mixBond 54 = .ok (.iload 7, 2) := by decide +kernel
theorem dX4_mixBond_56 : decode cX4_mixBond 56 = .ok (.iconst 3, 1) := by decide +kernel
theorem dX4_mixBond_57 : decode cX4_mixBond 57 = .ok (.if_icmp .gt 26, 3) := by decide +kernel
theorem dX4_mixBond_60 : decode cX4_mixBond 60 = .ok (.lload 4, 2) := by decide +kernel
theorem dX4_mixBond_62 : decode cX4_mixBond 62 = .ok (.aload_n 0, 1) := by decide +kernel
theorem dX4_mixBond_63 : decode cX4_mixBond 63 = .ok (.iload_n 3, 1) := by decide +kernel
theorem dX4_mixBond_64 : decode cX4_mixBond 64 = .ok (.iload 6, 2) := by decide +kernel
theorem dX4_mixBond_66 : decode cX4_mixBond 66 = .ok (.iload 7, 2) := by decide +kernel
theorem dX4_mixBond_68 : decode cX4_mixBond 68 = .ok (.invokevirtual 292, 3) := by decide +kernel
theorem dX4_mixBond_71 : decode cX4_mixBond 71 = .ok (.i2l, 1) := by decide +kernel
theorem dX4_mixBond_72 : decode cX4_mixBond 72 = .ok (.invokestatic 250, 3) := by decide +kernel
theorem dX4_mixBond_75 : decode cX4_mixBond 75 = .ok (.lstore 4, 2) := by decide +kernel
theorem dX4_mixBond_77 : decode cX4_mixBond 77 = .ok (.iinc 7 1, 3) := by decide +kernel
theorem dX4_mixBond_80 : decode cX4_mixBond 80 = .ok (.goto (-26), 3) := by decide +kernel
theorem dX4_mixBond_83 : decode cX4_mixBond 83 = .ok (.iinc 6 1, 3) := by decide +kernel
theorem dX4_mixBond_86 : decode cX4_mixBond 86 = .ok (.goto (-49), 3) := by decide +kernel
theorem dX4_mixBond_89 : decode cX4_mixBond 89 = .ok (.aload_n 0, 1) := by decide +kernel
theorem dX4_mixBond_90 : decode cX4_mixBond 90 = .ok (.getfield 33, 3) := by decide +kernel
theorem dX4_mixBond_93 : decode cX4_mixBond 93 = .ok (.aload_n 0, 1) := by decide +kernel
theorem dX4_mixBond_94 : decode cX4_mixBond 94 = .ok (.getfield 10, 3) := by decide +kernel
theorem dX4_mixBond_97 : decode cX4_mixBond 97 = .ok (.iload_n 3, 1) := by decide +kernel
theorem dX4_mixBond_98 : decode cX4_mixBond 98 = .ok (.sipush 1000, 3) := by decide +kernel
theorem dX4_mixBond_101 : decode cX4_mixBond 101 = .ok (.invokevirtual 114, 3) := by decide +kernel
theorem dX4_mixBond_104 : decode cX4_mixBond 104 = .ok (.iconst 0, 1) := by decide +kernel
theorem dX4_mixBond_105 : decode cX4_mixBond 105 = .ok (.istore 6, 2) := by decide +kernel
theorem dX4_mixBond_107 : decode cX4_mixBond 107 = .ok (.iload 6, 2) := by decide +kernel
theorem dX4_mixBond_109 : decode cX4_mixBond 109 = .ok (.bipush 10, 2) := by decide +kernel
theorem dX4_mixBond_111 : decode cX4_mixBond 111 = .ok (.if_icmp .gt 30, 3) := by decide +kernel
theorem dX4_mixBond_114 : decode cX4_mixBond 114 = .ok (.lload 4, 2) := by decide +kernel
theorem dX4_mixBond_116 : decode cX4_mixBond 116 = .ok (.aload_n 0, 1) := by decide +kernel
theorem dX4_mixBond_117 : decode cX4_mixBond 117 = .ok (.getfield 33, 3) := by decide +kernel
theorem dX4_mixBond_120 : decode cX4_mixBond 120 = .ok (.aload_n 0, 1) := by decide +kernel
theorem dX4_mixBond_121 : decode cX4_mixBond 121 = .ok (.getfield 10, 3) := by decide +kernel
theorem dX4_mixBond_124 : decode cX4_mixBond 124 = .ok (.iload 6, 2) := by decide +kernel
theorem dX4_mixBond_126 : decode cX4_mixBond 126 = .ok (.invokevirtual 235, 3) := by decide +kernel
theorem dX4_mixBond_129 : decode cX4_mixBond 129 = .ok (.i2l, 1) := by decide +kernel
theorem dX4_mixBond_130 : decode cX4_mixBond 130 = .ok (.invokestatic 250, 3) := by decide +kernel
theorem dX4_mixBond_133 : decode cX4_mixBond 133 = .ok (.lstore 4, 2) := by decide +kernel
theorem dX4_mixBond_135 : decode cX4_mixBond 135 = .ok (.iinc 6 1, 3) := by decide +kernel
theorem dX4_mixBond_138 : decode cX4_mixBond 138 = .ok (.goto (-31), 3) := by decide +kernel
theorem dX4_mixBond_141 : decode cX4_mixBond 141 = .ok (.lload 4, 2) := by decide +kernel
theorem dX4_mixBond_143 : decode cX4_mixBond 143 = .ok (.aload_n 0, 1) := by decide +kernel
theorem dX4_mixBond_144 : decode cX4_mixBond 144 = .ok (.iload_n 3, 1) := by decide +kernel
theorem dX4_mixBond_145 : decode cX4_mixBond 145 = .ok (.invokevirtual 295, 3) := by decide +kernel
theorem dX4_mixBond_148 : decode cX4_mixBond 148 = .ok (.i2l, 1) := by decide +kernel
theorem dX4_mixBond_149 : decode cX4_mixBond 149 = .ok (.invokestatic 250, 3) := by decide +kernel
theorem dX4_mixBond_152 : decode cX4_mixBond 152 = .ok (.lreturn, 1) := by decide +kernel
theorem dX4_bitsOfShare_0 : decode cX4_bitsOfShare 0 = .ok (.dload_n 0, 1) := by decide +kernel
theorem dX4_bitsOfShare_1 : decode cX4_bitsOfShare 1 = .ok (.dconst 0, 1) := by decide +kernel
theorem dX4_bitsOfShare_2 : decode cX4_bitsOfShare 2 = .ok (.dcmp .l, 1) := by decide +kernel
theorem dX4_bitsOfShare_3 : decode cX4_bitsOfShare 3 = .ok (.ifCond .gt 5, 3) := by decide +kernel
theorem dX4_bitsOfShare_6 : decode cX4_bitsOfShare 6 = .ok (.lconst 0, 1) := by decide +kernel
theorem dX4_bitsOfShare_7 : decode cX4_bitsOfShare 7 = .ok (.lreturn, 1) := by decide +kernel
theorem dX4_bitsOfShare_8 : decode cX4_bitsOfShare 8 = .ok (.dload_n 0, 1) := by decide +kernel
theorem dX4_bitsOfShare_9 : decode cX4_bitsOfShare 9 = .ok (.dstore_n 2, 1) := by decide +kernel
theorem dX4_bitsOfShare_10 : decode cX4_bitsOfShare 10 = .ok (.ldc2_w 298, 3) := by decide +kernel
theorem dX4_bitsOfShare_13 : decode cX4_bitsOfShare 13 = .ok (.lstore 4, 2) := by decide +kernel
theorem dX4_bitsOfShare_15 : decode cX4_bitsOfShare 15 = .ok (.iconst 0, 1) := by decide +kernel
theorem dX4_bitsOfShare_16 : decode cX4_bitsOfShare 16 = .ok (.istore 6, 2) := by decide +kernel
theorem dX4_bitsOfShare_18 : decode cX4_bitsOfShare 18 = .ok (.iload 6, 2) := by decide +kernel
theorem dX4_bitsOfShare_20 : decode cX4_bitsOfShare 20 = .ok (.bipush 60, 2) := by decide +kernel
theorem dX4_bitsOfShare_22 : decode cX4_bitsOfShare 22 = .ok (.if_icmp .ge 27, 3) := by decide +kernel
theorem dX4_bitsOfShare_25 : decode cX4_bitsOfShare 25 = .ok (.dload_n 2, 1) := by decide +kernel
theorem dX4_bitsOfShare_26 : decode cX4_bitsOfShare 26 = .ok (.dconst 1, 1) := by decide +kernel
theorem dX4_bitsOfShare_27 : decode cX4_bitsOfShare 27 = .ok (.dcmp .g, 1) := by decide +kernel
theorem dX4_bitsOfShare_28 : decode cX4_bitsOfShare 28 = .ok (.ifCond .ge 21, 3) := by decide +kernel
theorem dX4_bitsOfShare_31 : decode cX4_bitsOfShare 31 = .ok (.dload_n 2, 1) := by decide +kernel
theorem dX4_bitsOfShare_32 : decode cX4_bitsOfShare 32 = .ok (.ldc2_w 300, 3) := by decide +kernel
theorem dX4_bitsOfShare_35 : decode cX4_bitsOfShare 35 = .ok (.dmul, 1) := by decide +kernel
theorem dX4_bitsOfShare_36 : decode cX4_bitsOfShare 36 = .ok (.dstore_n 2, 1) := by decide +kernel
theorem dX4_bitsOfShare_37 : decode cX4_bitsOfShare 37 = .ok (.lload 4, 2) := by decide +kernel
theorem dX4_bitsOfShare_39 : decode cX4_bitsOfShare 39 = .ok (.lconst 1, 1) := by decide +kernel
theorem dX4_bitsOfShare_40 : decode cX4_bitsOfShare 40 = .ok (.lsub, 1) := by decide +kernel
theorem dX4_bitsOfShare_41 : decode cX4_bitsOfShare 41 = .ok (.lstore 4, 2) := by decide +kernel
theorem dX4_bitsOfShare_43 : decode cX4_bitsOfShare 43 = .ok (.iinc 6 1, 3) := by decide +kernel
theorem dX4_bitsOfShare_46 : decode cX4_bitsOfShare 46 = .ok (.goto (-28), 3) := by decide +kernel
theorem dX4_bitsOfShare_49 : decode cX4_bitsOfShare 49 = .ok (.lload 4, 2) := by decide +kernel
theorem dX4_bitsOfShare_51 : decode cX4_bitsOfShare 51 = .ok (.bipush 52, 2) := by decide +kernel
theorem dX4_bitsOfShare_53 : decode cX4_bitsOfShare 53 = .ok (.lshl, 1) := by decide +kernel
theorem dX4_bitsOfShare_54 : decode cX4_bitsOfShare 54 = .ok (.dload_n 2, 1) := by decide +kernel
theorem dX4_bitsOfShare_55 : decode cX4_bitsOfShare 55 = .ok (.dconst 1, 1) := by decide +kernel
theorem dX4_bitsOfShare_56 : decode cX4_bitsOfShare 56 = .ok (.dsub, 1) := by decide +kernel
theorem dX4_bitsOfShare_57 : decode cX4_bitsOfShare 57 = .ok (.ldc2_w 302, 3) := by decide +kernel
theorem dX4_bitsOfShare_60 : decode cX4_bitsOfShare 60 = .ok (.dmul, 1) := by decide +kernel
theorem dX4_bitsOfShare_61 : decode cX4_bitsOfShare 61 = .ok (.d2l, 1) := by decide +kernel
theorem dX4_bitsOfShare_62 : decode cX4_bitsOfShare 62 = .ok (.ladd, 1) := by decide +kernel
theorem dX4_bitsOfShare_63 : decode cX4_bitsOfShare 63 = .ok (.lreturn, 1) := by decide +kernel
set_option maxRecDepth 20000 in
theorem ggX4_isTooMuchForSomebody_X0_layers : GoodIn wsX4_isTooMuchForSomebody wsX0_layers := goodIn_r _ [7, 8, 49, 50, 51, 52, 53, 54, 55, 56, 57, 58, 59, 60] (by decide +kernel) (by decide +kernel)
set_option maxRecDepth 20000 in
theorem gX4_isTooMuchForSomebody_X0_layers : GoodIn wsX4_isTooMuchForSomebody (wsV RX4 304 RX0 yX0_layers wsX0_layers) := goodIn_app (goodIn_of _ (by decide +kernel)) ggX4_isTooMuchForSomebody_X0_layers
set_option maxRecDepth 20000 in
theorem ggX4_isTooMuchForSomebody_X0_surety : GoodIn wsX4_isTooMuchForSomebody wsX0_surety := goodIn_r _ [12, 13, 49, 50, 51, 52, 53, 54, 55, 56, 57, 58, 59, 60] (by decide +kernel) (by decide +kernel)
set_option maxRecDepth 20000 in
theorem gX4_isTooMuchForSomebody_X0_surety : GoodIn wsX4_isTooMuchForSomebody (wsV RX4 307 RX0 yX0_surety wsX0_surety) := goodIn_app (goodIn_of _ (by decide +kernel)) ggX4_isTooMuchForSomebody_X0_surety
set_option maxRecDepth 20000 in
theorem ggX4_isTooMuchForSomebody_X3_fact : GoodIn wsX4_isTooMuchForSomebody wsX3_fact := goodIn_r _ [18, 19, 61] (by decide +kernel) (by decide +kernel)
set_option maxRecDepth 20000 in
theorem gX4_isTooMuchForSomebody_X3_fact : GoodIn wsX4_isTooMuchForSomebody (wsV RX4 55 RX3 yX3_fact wsX3_fact) := goodIn_app (goodIn_of _ (by decide +kernel)) ggX4_isTooMuchForSomebody_X3_fact
set_option maxRecDepth 20000 in
theorem ggX4_isTooMuchForSomebody_X3_settingValue : GoodIn wsX4_isTooMuchForSomebody wsX3_settingValue := goodIn_r _ [23, 19, 61] (by decide +kernel) (by decide +kernel)
set_option maxRecDepth 20000 in
theorem gX4_isTooMuchForSomebody_X3_settingValue : GoodIn wsX4_isTooMuchForSomebody (wsV RX4 100 RX3 yX3_settingValue wsX3_settingValue) := goodIn_app (goodIn_of _ (by decide +kernel)) ggX4_isTooMuchForSomebody_X3_settingValue
set_option maxRecDepth 20000 in
theorem ggX4_isTooMuchForSomebody_X3_boundFor : GoodIn wsX4_isTooMuchForSomebody wsX3_boundFor := goodIn_r _ [27, 28, 29, 30, 17, 31, 19, 32, 33, 34, 35, 36, 37, 38, 39, 61] (by decide +kernel) (by decide +kernel)
set_option maxRecDepth 20000 in
theorem gX4_isTooMuchForSomebody_X3_boundFor : GoodIn wsX4_isTooMuchForSomebody (wsV RX4 202 RX3 yX3_boundFor wsX3_boundFor) := goodIn_app (goodIn_of _ (by decide +kernel)) ggX4_isTooMuchForSomebody_X3_boundFor
set_option maxRecDepth 20000 in
theorem ggX4_isTooMuchForSomebody_X0_limit : GoodIn wsX4_isTooMuchForSomebody wsX0_limit := goodIn_r _ [43, 44, 49, 50, 51, 52, 53, 54, 55, 56, 57, 58, 59, 60] (by decide +kernel) (by decide +kernel)
set_option maxRecDepth 20000 in
theorem gX4_isTooMuchForSomebody_X0_limit : GoodIn wsX4_isTooMuchForSomebody (wsV RX4 310 RX0 yX0_limit wsX0_limit) := goodIn_app (goodIn_of _ (by decide +kernel)) ggX4_isTooMuchForSomebody_X0_limit
theorem dX4_isTooMuchForSomebody_0 : decode cX4_isTooMuchForSomebody 0 = .ok (.iconst 0, 1) := by decide +kernel
theorem dX4_isTooMuchForSomebody_1 : decode cX4_isTooMuchForSomebody 1 = .ok (.istore_n 1, 1) := by decide +kernel
theorem dX4_isTooMuchForSomebody_2 : decode cX4_isTooMuchForSomebody 2 = .ok (.iload_n 1, 1) := by decide +kernel
theorem dX4_isTooMuchForSomebody_3 : decode cX4_isTooMuchForSomebody 3 = .ok (.aload_n 0, 1) := by decide +kernel
theorem dX4_isTooMuchForSomebody_4 : decode cX4_isTooMuchForSomebody 4 = .ok (.getfield 26, 3) := by decide +kernel
theorem dX4_isTooMuchForSomebody_7 : decode cX4_isTooMuchForSomebody 7 = .ok (.invokevirtual 304, 3) := by decide +kernel
theorem dX4_isTooMuchForSomebody_10 : decode cX4_isTooMuchForSomebody 10 = .ok (.if_icmp .ge 60, 3) := by decide +kernel
theorem dX4_isTooMuchForSomebody_13 : decode cX4_isTooMuchForSomebody 13 = .ok (.aload_n 0, 1) := by decide +kernel
theorem dX4_isTooMuchForSomebody_14 : decode cX4_isTooMuchForSomebody 14 = .ok (.getfield 26, 3) := by decide +kernel
theorem dX4_isTooMuchForSomebody_17 : decode cX4_isTooMuchForSomebody 17 = .ok (.iload_n 1, 1) := by decide +kernel
theorem dX4_isTooMuchForSomebody_18 : decode cX4_isTooMuchForSomebody 18 = .ok (.invokevirtual 307, 3) := by decide +kernel
theorem dX4_isTooMuchForSomebody_21 : decode cX4_isTooMuchForSomebody 21 = .ok (.istore_n 2, 1) := by decide +kernel
theorem dX4_isTooMuchForSomebody_22 : decode cX4_isTooMuchForSomebody 22 = .ok (.aload_n 0, 1) := by decide +kernel
theorem dX4_isTooMuchForSomebody_23 : decode cX4_isTooMuchForSomebody 23 = .ok (.getfield 10, 3) := by decide +kernel
theorem dX4_isTooMuchForSomebody_26 : decode cX4_isTooMuchForSomebody 26 = .ok (.iload_n 2, 1) := by decide +kernel
theorem dX4_isTooMuchForSomebody_27 : decode cX4_isTooMuchForSomebody 27 = .ok (.iconst 0, 1) := by decide +kernel
theorem dX4_isTooMuchForSomebody_28 : decode cX4_isTooMuchForSomebody 28 = .ok (.invokevirtual 55, 3) := by decide +kernel
theorem dX4_isTooMuchForSomebody_31 : decode cX4_isTooMuchForSomebody 31 = .ok (.aload_n 0, 1) := by decide +kernel
theorem dX4_isTooMuchForSomebody_32 : decode cX4_isTooMuchForSomebody 32 = .ok (.getfield 10, 3) := by decide +kernel
theorem dX4_isTooMuchForSomebody_35 : decode cX4_isTooMuchForSomebody 35 = .ok (.iconst 2, 1) := by decide +kernel
theorem dX4_isTooMuchForSomebody_36 : decode cX4_isTooMuchForSomebody 36 = .ok (.invokevirtual 100, 3) := by decide +kernel
theorem dX4_isTooMuchForSomebody_39 : decode cX4_isTooMuchForSomebody 39 = .ok (.imul, 1) := by decide +kernel
theorem dX4_isTooMuchForSomebody_40 : decode cX4_isTooMuchForSomebody 40 = .ok (.istore_n 3, 1) := by decide +kernel
theorem dX4_isTooMuchForSomebody_41 : decode cX4_isTooMuchForSomebody 41 = .ok (.aload_n 0, 1) := by decide +kernel
theorem dX4_isTooMuchForSomebody_42 : decode cX4_isTooMuchForSomebody 42 = .ok (.getfield 10, 3) := by decide +kernel
theorem dX4_isTooMuchForSomebody_45 : decode cX4_isTooMuchForSomebody 45 = .ok (.iload_n 2, 1) := by decide +kernel
theorem dX4_isTooMuchForSomebody_46 : decode cX4_isTooMuchForSomebody 46 = .ok (.invokevirtual 202, 3) := by decide +kernel
theorem dX4_isTooMuchForSomebody_49 : decode cX4_isTooMuchForSomebody 49 = .ok (.aload_n 0, 1) := by decide +kernel
theorem dX4_isTooMuchForSomebody_50 : decode cX4_isTooMuchForSomebody 50 = .ok (.getfield 26, 3) := by decide +kernel
theorem dX4_isTooMuchForSomebody_53 : decode cX4_isTooMuchForSomebody 53 = .ok (.iload_n 1, 1) := by decide +kernel
theorem dX4_isTooMuchForSomebody_54 : decode cX4_isTooMuchForSomebody 54 = .ok (.invokevirtual 310, 3) := by decide +kernel
theorem dX4_isTooMuchForSomebody_57 : decode cX4_isTooMuchForSomebody 57 = .ok (.iadd, 1) := by decide +kernel
theorem dX4_isTooMuchForSomebody_58 : decode cX4_isTooMuchForSomebody 58 = .ok (.iload_n 3, 1) := by decide +kernel
theorem dX4_isTooMuchForSomebody_59 : decode cX4_isTooMuchForSomebody 59 = .ok (.if_icmp .le 5, 3) := by decide +kernel
theorem dX4_isTooMuchForSomebody_62 : decode cX4_isTooMuchForSomebody 62 = .ok (.iconst 1, 1) := by decide +kernel
theorem dX4_isTooMuchForSomebody_63 : decode cX4_isTooMuchForSomebody 63 = .ok (.ireturn, 1) := by decide +kernel
theorem dX4_isTooMuchForSomebody_64 : decode cX4_isTooMuchForSomebody 64 = .ok (.iinc 1 1, 3) := by decide +kernel
theorem dX4_isTooMuchForSomebody_67 : decode cX4_isTooMuchForSomebody 67 = .ok (.goto (-65), 3) := by decide +kernel
theorem dX4_isTooMuchForSomebody_70 : decode cX4_isTooMuchForSomebody 70 = .ok (.iconst 0, 1) := by decide +kernel
theorem dX4_isTooMuchForSomebody_71 : decode cX4_isTooMuchForSomebody 71 = .ok (.ireturn, 1) := by decide +kernel
theorem dX4_leastOfSetting_0 : decode cX4_leastOfSetting 0 = .ok (.iload_n 0, 1) := by decide +kernel
theorem dX4_leastOfSetting_1 : decode cX4_leastOfSetting 1 = .ok (.iconst 2, 1) := by decide +kernel
theorem dX4_leastOfSetting_2 : decode cX4_leastOfSetting 2 = .ok (.if_icmp .ne 7, 3) := by decide +kernel
theorem dX4_leastOfSetting_5 : decode cX4_leastOfSetting 5 = .ok (.iconst 1, 1) := by decide +kernel
theorem dX4_leastOfSetting_6 : decode cX4_leastOfSetting 6 = .ok (.goto 4, 3) := by decide +kernel
theorem dX4_leastOfSetting_9 : decode cX4_leastOfSetting 9 = .ok (.iconst 0, 1) := by decide +kernel
theorem dX4_leastOfSetting_10 : decode cX4_leastOfSetting 10 = .ok (.ireturn, 1) := by decide +kernel
theorem dX4_mostOfSetting_0 : decode cX4_mostOfSetting 0 = .ok (.iload_n 0, 1) := by decide +kernel
theorem dX4_mostOfSetting_1 : decode cX4_mostOfSetting 1 = .ok (.iconst 1, 1) := by decide +kernel
theorem dX4_mostOfSetting_2 : decode cX4_mostOfSetting 2 = .ok (.if_icmp .ne 8, 3) := by decide +kernel
theorem dX4_mostOfSetting_5 : decode cX4_mostOfSetting 5 = .ok (.bipush 100, 2) := by decide +kernel
theorem dX4_mostOfSetting_7 : decode cX4_mostOfSetting 7 = .ok (.goto 5, 3) := by decide +kernel
theorem dX4_mostOfSetting_10 : decode cX4_mostOfSetting 10 = .ok (.bipush 9, 2) := by decide +kernel
theorem dX4_mostOfSetting_12 : decode cX4_mostOfSetting 12 = .ok (.ireturn, 1) := by decide +kernel
theorem dX4_requirePerson_0 : decode cX4_requirePerson 0 = .ok (.iload_n 0, 1) := by decide +kernel
theorem dX4_requirePerson_1 : decode cX4_requirePerson 1 = .ok (.ifCond .lt 9, 3) := by decide +kernel
theorem dX4_requirePerson_4 : decode cX4_requirePerson 4 = .ok (.iload_n 0, 1) := by decide +kernel
theorem dX4_requirePerson_5 : decode cX4_requirePerson 5 = .ok (.bipush 8, 2) := by decide +kernel
theorem dX4_requirePerson_7 : decode cX4_requirePerson 7 = .ok (.if_icmp .lt 14, 3) := by decide +kernel
theorem dX4_requirePerson_10 : decode cX4_requirePerson 10 = .ok (.new 214, 3) := by decide +kernel
theorem dX4_requirePerson_13 : decode cX4_requirePerson 13 = .ok (.dup, 1) := by decide +kernel
theorem dX4_requirePerson_14 : decode cX4_requirePerson 14 = .ok (.ldc_w 313, 3) := by decide +kernel
theorem dX4_requirePerson_17 : decode cX4_requirePerson 17 = .ok (.invokespecial 218, 3) := by decide +kernel
theorem dX4_requirePerson_20 : decode cX4_requirePerson 20 = .ok (.athrow, 1) := by decide +kernel
theorem dX4_requirePerson_21 : decode cX4_requirePerson 21 = .ok (.return_, 1) := by decide +kernel
set_option maxRecDepth 20000 in
theorem ggX4_requireBond_X3_bondCount : GoodIn wsX4_requireBond wsX3_bondCount := goodIn_r _ [8, 9, 14] (by decide +kernel) (by decide +kernel)
set_option maxRecDepth 20000 in
theorem gX4_requireBond_X3_bondCount : GoodIn wsX4_requireBond (wsV RX4 176 RX3 yX3_bondCount wsX3_bondCount) := goodIn_app (goodIn_of _ (by decide +kernel)) ggX4_requireBond_X3_bondCount
theorem dX4_requireBond_0 : decode cX4_requireBond 0 = .ok (.iload_n 1, 1) := by decide +kernel
theorem dX4_requireBond_1 : decode cX4_requireBond 1 = .ok (.ifCond .lt 14, 3) := by decide +kernel
theorem dX4_requireBond_4 : decode cX4_requireBond 4 = .ok (.iload_n 1, 1) := by decide +kernel
theorem dX4_requireBond_5 : decode cX4_requireBond 5 = .ok (.aload_n 0, 1) := by decide +kernel
theorem dX4_requireBond_6 : decode cX4_requireBond 6 = .ok (.getfield 10, 3) := by decide +kernel
theorem dX4_requireBond_9 : decode cX4_requireBond 9 = .ok (.invokevirtual 176, 3) := by decide +kernel
theorem dX4_requireBond_12 : decode cX4_requireBond 12 = .ok (.if_icmp .lt 14, 3) := by decide +kernel
theorem dX4_requireBond_15 : decode cX4_requireBond 15 = .ok (.new 214, 3) := by decide +kernel
theorem dX4_requireBond_18 : decode cX4_requireBond 18 = .ok (.dup, 1) := by decide +kernel
theorem dX4_requireBond_19 : decode cX4_requireBond 19 = .ok (.ldc_w 315, 3) := by decide +kernel
theorem dX4_requireBond_22 : decode cX4_requireBond 22 = .ok (.invokespecial 218, 3) := by decide +kernel
theorem dX4_requireBond_25 : decode cX4_requireBond 25 = .ok (.athrow, 1) := by decide +kernel
theorem dX4_requireBond_26 : decode cX4_requireBond 26 = .ok (.return_, 1) := by decide +kernel
theorem dX4_requireSetting_0 : decode cX4_requireSetting 0 = .ok (.iload_n 0, 1) := by decide +kernel
theorem dX4_requireSetting_1 : decode cX4_requireSetting 1 = .ok (.ifCond .lt 8, 3) := by decide +kernel
theorem dX4_requireSetting_4 : decode cX4_requireSetting 4 = .ok (.iload_n 0, 1) := by decide +kernel
theorem dX4_requireSetting_5 : decode cX4_requireSetting 5 = .ok (.iconst 3, 1) := by decide +kernel
theorem dX4_requireSetting_6 : decode cX4_requireSetting 6 = .ok (.if_icmp .lt 14, 3) := by decide +kernel
theorem dX4_requireSetting_9 : decode cX4_requireSetting 9 = .ok (.new 214, 3) := by decide +kernel
theorem dX4_requireSetting_12 : decode cX4_requireSetting 12 = .ok (.dup, 1) := by decide +kernel
theorem dX4_requireSetting_13 : decode cX4_requireSetting 13 = .ok (.ldc_w 317, 3) := by decide +kernel
theorem dX4_requireSetting_16 : decode cX4_requireSetting 16 = .ok (.invokespecial 218, 3) := by decide +kernel
theorem dX4_requireSetting_19 : decode cX4_requireSetting 19 = .ok (.athrow, 1) := by decide +kernel
theorem dX4_requireSetting_20 : decode cX4_requireSetting 20 = .ok (.return_, 1) := by decide +kernel
set_option maxRecDepth 20000 in
theorem ggX4_requireAmount_X4_requireRange : GoodIn wsX4_requireAmount wsX4_requireRange := goodIn_ca (goodIn_r _ [5, 6, 7] (by decide +kernel) (by decide +kernel)) (goodIn_sub (fun _ h => List.mem_cons_of_mem _ (List.mem_append_right _ h)) (by decide +kernel))
set_option maxRecDepth 20000 in
theorem gX4_requireAmount_X4_requireRange : GoodIn wsX4_requireAmount (va_wsS RX4 70 yX4_requireRange wsX4_requireRange) := goodIn_app (goodIn_of _ (by decide +kernel)) ggX4_requireAmount_X4_requireRange
theorem dX4_requireAmount_0 : decode cX4_requireAmount 0 = .ok (.iload_n 0, 1) := by decide +kernel
theorem dX4_requireAmount_1 : decode cX4_requireAmount 1 = .ok (.iconst 1, 1) := by decide +kernel
theorem dX4_requireAmount_2 : decode cX4_requireAmount 2 = .ok (.ldc_w 319, 3) := by decide +kernel
theorem dX4_requireAmount_5 : decode cX4_requireAmount 5 = .ok (.invokestatic 70, 3) := by decide +kernel
theorem dX4_requireAmount_8 : decode cX4_requireAmount 8 = .ok (.return_, 1) := by decide +kernel
theorem dX4_requireRange_0 : decode cX4_requireRange 0 = .ok (.iload_n 0, 1) := by decide +kernel
theorem dX4_requireRange_1 : decode cX4_requireRange 1 = .ok (.iload_n 1, 1) := by decide +kernel
theorem dX4_requireRange_2 : decode cX4_requireRange 2 = .ok (.if_icmp .lt 8, 3) := by decide +kernel
theorem dX4_requireRange_5 : decode cX4_requireRange 5 = .ok (.iload_n 0, 1) := by decide +kernel
theorem dX4_requireRange_6 : decode cX4_requireRange 6 = .ok (.iload_n 2, 1) := by decide +kernel
theorem dX4_requireRange_7 : decode cX4_requireRange 7 = .ok (.if_icmp .le 14, 3) := by decide +kernel
theorem dX4_requireRange_10 : decode cX4_requireRange 10 = .ok (.new 171, 3) := by decide +kernel
theorem dX4_requireRange_13 : decode cX4_requireRange 13 = .ok (.dup, 1) := by decide +kernel
theorem dX4_requireRange_14 : decode cX4_requireRange 14 = .ok (.ldc_w 320, 3) := by decide +kernel
theorem dX4_requireRange_17 : decode cX4_requireRange 17 = .ok (.invokespecial 175, 3) := by decide +kernel
theorem dX4_requireRange_20 : decode cX4_requireRange 20 = .ok (.athrow, 1) := by decide +kernel
theorem dX4_requireRange_21 : decode cX4_requireRange 21 = .ok (.return_, 1) := by decide +kernel
set_option maxRecDepth 20000 in
theorem ggX4_requireRunning_X3_bondFact : GoodIn wsX4_requireRunning wsX3_bondFact := goodIn_r _ [8, 9, 14] (by decide +kernel) (by decide +kernel)
set_option maxRecDepth 20000 in
theorem gX4_requireRunning_X3_bondFact : GoodIn wsX4_requireRunning (wsV RX4 125 RX3 yX3_bondFact wsX3_bondFact) := goodIn_app (goodIn_of _ (by decide +kernel)) ggX4_requireRunning_X3_bondFact
theorem dX4_requireRunning_0 : decode cX4_requireRunning 0 = .ok (.aload_n 0, 1) := by decide +kernel
theorem dX4_requireRunning_1 : decode cX4_requireRunning 1 = .ok (.getfield 10, 3) := by decide +kernel
theorem dX4_requireRunning_4 : decode cX4_requireRunning 4 = .ok (.iload_n 1, 1) := by decide +kernel
theorem dX4_requireRunning_5 : decode cX4_requireRunning 5 = .ok (.bipush 9, 2) := by decide +kernel
theorem dX4_requireRunning_7 : decode cX4_requireRunning 7 = .ok (.invokevirtual 125, 3) := by decide +kernel
theorem dX4_requireRunning_10 : decode cX4_requireRunning 10 = .ok (.ifCond .ne 14, 3) := by decide +kernel
theorem dX4_requireRunning_13 : decode cX4_requireRunning 13 = .ok (.new 63, 3) := by decide +kernel
theorem dX4_requireRunning_16 : decode cX4_requireRunning 16 = .ok (.dup, 1) := by decide +kernel
theorem dX4_requireRunning_17 : decode cX4_requireRunning 17 = .ok (.ldc_w 322, 3) := by decide +kernel
theorem dX4_requireRunning_20 : decode cX4_requireRunning 20 = .ok (.invokespecial 67, 3) := by decide +kernel
theorem dX4_requireRunning_23 : decode cX4_requireRunning 23 = .ok (.athrow, 1) := by decide +kernel
theorem dX4_requireRunning_24 : decode cX4_requireRunning 24 = .ok (.return_, 1) := by decide +kernel
