theorem dX5_pass_0 : decode cX5_pass 0 = .ok (.iload_n 1, 1) := by decide +kernel
theorem dX5_pass_1 : decode cX5_pass 1 = .ok (.iconst 1, 1) := by decide +kernel
theorem dX5_pass_2 : decode cX5_pass 2 = .ok (.bipush 24, 2) := by decide +kernel
theorem dX5_pass_4 : decode cX5_pass 4 = .ok (.invokestatic 52, 3) := by decide +kernel
theorem dX5_pass_7 : decode cX5_pass 7 = .ok (.iload_n 2, 1) := by decide +kernel
theorem dX5_pass_8 : decode cX5_pass 8 = .ok (.bipush (-50), 2) := by decide +kernel
theorem dX5_pass_10 : decode cX5_pass 10 = .ok (.bipush 30, 2) := by decide +kernel
theorem dX5_pass_12 : decode cX5_pass 12 = .ok (.invokestatic 52, 3) := by decide +kernel
theorem dX5_pass_15 : decode cX5_pass 15 = .ok (.iload_n 3, 1) := by decide +kernel
theorem dX5_pass_16 : decode cX5_pass 16 = .ok (.iconst 0, 1) := by decide +kernel
theorem dX5_pass_17 : decode cX5_pass 17 = .ok (.bipush 9, 2) := by decide +kernel
theorem dX5_pass_19 : decode cX5_pass 19 = .ok (.invokestatic 52, 3) := by decide +kernel
theorem dX5_pass_22 : decode cX5_pass 22 = .ok (.aload_n 0, 1) := by decide +kernel
theorem dX5_pass_23 : decode cX5_pass 23 = .ok (.getfield 82, 3) := by decide +kernel
theorem dX5_pass_26 : decode cX5_pass 26 = .ok (.iload_n 1, 1) := by decide +kernel
theorem dX5_pass_27 : decode cX5_pass 27 = .ok (.iadd, 1) := by decide +kernel
theorem dX5_pass_28 : decode cX5_pass 28 = .ok (.sipush 600, 3) := by decide +kernel
theorem dX5_pass_31 : decode cX5_pass 31 = .ok (.if_icmp .gt 7, 3) := by decide +kernel
theorem dX5_pass_34 : decode cX5_pass 34 = .ok (.iconst 1, 1) := by decide +kernel
theorem dX5_pass_35 : decode cX5_pass 35 = .ok (.goto 4, 3) := by decide +kernel
theorem dX5_pass_38 : decode cX5_pass 38 = .ok (.iconst 0, 1) := by decide +kernel
theorem dX5_pass_39 : decode cX5_pass 39 = .ok (.invokestatic 85, 3) := by decide +kernel
theorem dX5_pass_42 : decode cX5_pass 42 = .ok (.iconst 0, 1) := by decide +kernel
theorem dX5_pass_43 : decode cX5_pass 43 = .ok (.istore 4, 2) := by decide +kernel
theorem dX5_pass_45 : decode cX5_pass 45 = .ok (.iload 4, 2) := by decide +kernel
theorem dX5_pass_47 : decode cX5_pass 47 = .ok (.iload_n 1, 1) := by decide +kernel
theorem dX5_pass_48 : decode cX5_pass 48 = .ok (.if_icmp .ge 15, 3) := by decide +kernel
theorem dX5_pass_51 : decode cX5_pass 51 = .ok (.aload_n 0, 1) := by decide +kernel
theorem dX5_pass_52 : decode cX5_pass 52 = .ok (.iload_n 2, 1) := by decide +kernel
theorem dX5_pass_53 : decode cX5_pass 53 = .ok (.iload_n 3, 1) := by decide +kernel
theorem dX5_pass_54 : decode cX5_pass 54 = .ok (.invokevirtual 89, 3) := by decide +kernel
theorem dX5_pass_57 : decode cX5_pass 57 = .ok (.iinc 4 1, 3) := by decide +kernel
theorem dX5_pass_60 : decode cX5_pass 60 = .ok (.goto (-15), 3) := by decide +kernel
theorem dX5_pass_63 : decode cX5_pass 63 = .ok (.aload_n 0, 1) := by decide +kernel
theorem dX5_pass_64 : decode cX5_pass 64 = .ok (.getfield 82, 3) := by decide +kernel
theorem dX5_pass_67 : decode cX5_pass 67 = .ok (.ireturn, 1) := by decide +kernel
set_option maxRecDepth 20000 in
theorem ggX5_fire_X5_needIndex : GoodIn wsX5_fire wsX5_needIndex := goodIn_ca (goodIn_r _ [10, 11, 12] (by decide +kernel) (by decide +kernel)) (goodIn_sub (fun _ h => List.mem_cons_of_mem _ (List.mem_append_left _ (List.mem_append_right _ h))) (by decide +kernel))
set_option maxRecDepth 20000 in
theorem gX5_fire_X5_needIndex : GoodIn wsX5_fire (va_wsS RX5 48 yX5_needIndex wsX5_needIndex) := goodIn_app (goodIn_of _ (by decide +kernel)) ggX5_fire_X5_needIndex
set_option maxRecDepth 20000 in
theorem ggX5_fire_X1_isLake : GoodIn wsX5_fire wsX1_isLake := goodIn_r _ [17, 18, 34, 35, 36, 37, 38, 39, 40] (by decide +kernel) (by decide +kernel)
set_option maxRecDepth 20000 in
theorem gX5_fire_X1_isLake : GoodIn wsX5_fire (wsV RX5 92 RX1 yX1_isLake wsX1_isLake) := goodIn_app (goodIn_of _ (by decide +kernel)) ggX5_fire_X1_isLake
set_option maxRecDepth 20000 in
theorem ggX5_fire_X5_needState : GoodIn wsX5_fire wsX5_needState := goodIn_ca (goodIn_r _ [21, 22, 23] (by decide +kernel) (by decide +kernel)) (goodIn_sub (fun _ h => List.mem_cons_of_mem _ (List.mem_append_right _ h)) (by decide +kernel))
set_option maxRecDepth 20000 in
theorem gX5_fire_X5_needState : GoodIn wsX5_fire (va_wsS RX5 85 yX5_needState wsX5_needState) := goodIn_app (goodIn_of _ (by decide +kernel)) ggX5_fire_X5_needState
theorem dX5_fire_0 : decode cX5_fire 0 = .ok (.iload_n 1, 1) := by decide +kernel
theorem dX5_fire_1 : decode cX5_fire 1 = .ok (.bipush 25, 2) := by decide +kernel
theorem dX5_fire_3 : decode cX5_fire 3 = .ok (.invokestatic 48, 3) := by decide +kernel
theorem dX5_fire_6 : decode cX5_fire 6 = .ok (.aload_n 0, 1) := by decide +kernel
theorem dX5_fire_7 : decode cX5_fire 7 = .ok (.getfield 11, 3) := by decide +kernel
theorem dX5_fire_10 : decode cX5_fire 10 = .ok (.iload_n 1, 1) := by decide +kernel
theorem dX5_fire_11 : decode cX5_fire 11 = .ok (.aaload, 1) := by decide +kernel
theorem dX5_fire_12 : decode cX5_fire 12 = .ok (.astore_n 2, 1) := by decide +kernel
theorem dX5_fire_13 : decode cX5_fire 13 = .ok (.aload_n 2, 1) := by decide +kernel
theorem dX5_fire_14 : decode cX5_fire 14 = .ok (.invokevirtual 92, 3) := by decide +kernel
theorem dX5_fire_17 : decode cX5_fire 17 = .ok (.ifCond .ne 14, 3) := by decide +kernel
theorem dX5_fire_20 : decode cX5_fire 20 = .ok (.aload_n 2, 1) := by decide +kernel
theorem dX5_fire_21 : decode cX5_fire 21 = .ok (.getfield 96, 3) := by decide +kernel
theorem dX5_fire_24 : decode cX5_fire 24 = .ok (.ifCond .ne 7, 3) := by decide +kernel
theorem dX5_fire_27 : decode cX5_fire 27 = .ok (.iconst 1, 1) := by decide +kernel
theorem dX5_fire_28 : decode cX5_fire 28 = .ok (.goto 4, 3) := by decide +kernel
theorem dX5_fire_31 : decode cX5_fire 31 = .ok (.iconst 0, 1) := by decide +kernel
theorem dX5_fire_32 : decode cX5_fire 32 = .ok (.invokestatic 85, 3) := by decide +kernel
theorem dX5_fire_35 : decode cX5_fire 35 = .ok (.aload_n 2, 1) := by decide +kernel
theorem dX5_fire_36 : decode cX5_fire 36 = .ok (.getfield 56, 3) := by decide +kernel
theorem dX5_fire_39 : decode cX5_fire 39 = .ok (.iconst 0, 1) := by decide +kernel
theorem dX5_fire_40 : decode cX5_fire 40 = .ok (.aaload, 1) := by decide +kernel
theorem dX5_fire_41 : decode cX5_fire 41 = .ok (.astore_n 3, 1) := by decide +kernel
theorem dX5_fire_42 : decode cX5_fire 42 = .ok (.aload_n 3, 1) := by decide +kernel
theorem dX5_fire_43 : decode cX5_fire 43 = .ok (.getfield 76, 3) := by decide +kernel
theorem dX5_fire_46 : decode cX5_fire 46 = .ok (.iconst 2, 1) := by decide +kernel
theorem dX5_fire_47 : decode cX5_fire 47 = .ok (.idiv, 1) := by decide +kernel
theorem dX5_fire_48 : decode cX5_fire 48 = .ok (.istore 4, 2) := by decide +kernel
theorem dX5_fire_50 : decode cX5_fire 50 = .ok (.aload_n 2, 1) := by decide +kernel
theorem dX5_fire_51 : decode cX5_fire 51 = .ok (.iconst 0, 1) := by decide +kernel
theorem dX5_fire_52 : decode cX5_fire 52 = .ok (.putfield 79, 3) := by decide +kernel
theorem dX5_fire_55 : decode cX5_fire 55 = .ok (.aload_n 3, 1) := by decide +kernel
theorem dX5_fire_56 : decode cX5_fire 56 = .ok (.dup, 1) := by decide +kernel
theorem dX5_fire_57 : decode cX5_fire 57 = .ok (.getfield 76, 3) := by decide +kernel
theorem dX5_fire_60 : decode cX5_fire 60 = .ok (.iload 4, 2) := by decide +kernel
theorem dX5_fire_62 : decode cX5_fire 62 = .ok (.isub, 1) := by decide +kernel
theorem dX5_fire_63 : decode cX5_fire 63 = .ok (.putfield 76, 3) := by decide +kernel
theorem dX5_fire_66 : decode cX5_fire 66 = .ok (.aload_n 0, 1) := by decide +kernel
theorem dX5_fire_67 : decode cX5_fire 67 = .ok (.getfield 32, 3) := by decide +kernel
theorem dX5_fire_70 : decode cX5_fire 70 = .ok (.iconst 0, 1) := by decide +kernel
theorem dX5_fire_71 : decode cX5_fire 71 = .ok (.dup2, 1) := by decide +kernel
theorem dX5_fire_72 : decode cX5_fire 72 = .ok (.laload, 1) := by decide +kernel
theorem dX5_fire_73 : decode cX5_fire 73 = .ok (.iload 4, 2) := by decide +kernel
theorem dX5_fire_75 : decode cX5_fire 75 = .ok (.i2l, 1) := by decide +kernel
theorem dX5_fire_76 : decode cX5_fire 76 = .ok (.ladd, 1) := by decide +kernel
theorem dX5_fire_77 : decode cX5_fire 77 = .ok (.lastore, 1) := by decide +kernel
theorem dX5_fire_78 : decode cX5_fire 78 = .ok (.iload 4, 2) := by decide +kernel
theorem dX5_fire_80 : decode cX5_fire 80 = .ok (.ireturn, 1) := by decide +kernel
set_option maxRecDepth 20000 in
theorem ggX5_breach_X5_needIndex : GoodIn wsX5_breach wsX5_needIndex := goodIn_ca (goodIn_r _ [8, 9, 10] (by decide +kernel) (by decide +kernel)) (goodIn_sub (fun _ h => List.mem_cons_of_mem _ (List.mem_append_left _ (List.mem_append_right _ h))) (by decide +kernel))
set_option maxRecDepth 20000 in
theorem gX5_breach_X5_needIndex : GoodIn wsX5_breach (va_wsS RX5 48 yX5_needIndex wsX5_needIndex) := goodIn_app (goodIn_of _ (by decide +kernel)) ggX5_breach_X5_needIndex
set_option maxRecDepth 20000 in
theorem ggX5_breach_X5_needState : GoodIn wsX5_breach wsX5_needState := goodIn_ca (goodIn_r _ [13, 14, 15] (by decide +kernel) (by decide +kernel)) (goodIn_sub (fun _ h => List.mem_cons_of_mem _ (List.mem_append_right _ h)) (by decide +kernel))
set_option maxRecDepth 20000 in
theorem gX5_breach_X5_needState : GoodIn wsX5_breach (va_wsS RX5 85 yX5_needState wsX5_needState) := goodIn_app (goodIn_of _ (by decide +kernel)) ggX5_breach_X5_needState
set_option maxRecDepth 20000 in
theorem ggX5_breach_X5_gatherOneLake : GoodIn wsX5_breach wsX5_gatherOneLake := goodIn_r _ [19, 20, 21, 22, 7, 23, 24, 25, 26, 27, 28, 3, 29, 30, 31, 32, 33, 1, 2, 34, 35, 36, 37, 38, 39, 40, 41, 42, 43, 44, 45, 46, 47, 48, 49, 50, 51, 52, 53] (by decide +kernel) (by decide +kernel)
set_option maxRecDepth 20000 in
theorem gX5_breach_X5_gatherOneLake : GoodIn wsX5_breach (wsV RX5 102 RX5 yX5_gatherOneLake wsX5_gatherOneLake) := goodIn_app (goodIn_of _ (by decide +kernel)) ggX5_breach_X5_gatherOneLake
theorem dX5_breach_0 : decode cX5_breach 0 = .ok (.iload_n 1, 1) := by decide +kernel
theorem dX5_breach_1 : decode cX5_breach 1 = .ok (.bipush 25, 2) := by decide +kernel
theorem dX5_breach_3 : decode cX5_breach 3 = .ok (.invokestatic 48, 3) := by decide +kernel
theorem dX5_breach_6 : decode cX5_breach 6 = .ok (.aload_n 0, 1) := by decide +kernel
theorem dX5_breach_7 : decode cX5_breach 7 = .ok (.getfield 11, 3) := by decide +kernel
theorem dX5_breach_10 : decode cX5_breach 10 = .ok (.iload_n 1, 1) := by decide +kernel
theorem dX5_breach_11 : decode cX5_breach 11 = .ok (.aaload, 1) := by decide +kernel
theorem dX5_breach_12 : decode cX5_breach 12 = .ok (.getfield 99, 3) := by decide +kernel
theorem dX5_breach_15 : decode cX5_breach 15 = .ok (.ifCond .le 7, 3) := by decide +kernel
theorem dX5_breach_18 : decode cX5_breach 18 = .ok (.iconst 1, 1) := by decide +kernel
theorem dX5_breach_19 : decode cX5_breach 19 = .ok (.goto 4, 3) := by decide +kernel
theorem dX5_breach_22 : decode cX5_breach 22 = .ok (.iconst 0, 1) := by decide +kernel
theorem dX5_breach_23 : decode cX5_breach 23 = .ok (.invokestatic 85, 3) := by decide +kernel
theorem dX5_breach_26 : decode cX5_breach 26 = .ok (.aload_n 0, 1) := by decide +kernel
theorem dX5_breach_27 : decode cX5_breach 27 = .ok (.iload_n 1, 1) := by decide +kernel
theorem dX5_breach_28 : decode cX5_breach 28 = .ok (.invokevirtual 102, 3) := by decide +kernel
theorem dX5_breach_31 : decode cX5_breach 31 = .ok (.istore_n 2, 1) := by decide +kernel
theorem dX5_breach_32 : decode cX5_breach 32 = .ok (.iconst 0, 1) := by decide +kernel
theorem dX5_breach_33 : decode cX5_breach 33 = .ok (.istore_n 3, 1) := by decide +kernel
theorem dX5_breach_34 : decode cX5_breach 34 = .ok (.iconst 0, 1) := by decide +kernel
theorem dX5_breach_35 : decode cX5_breach 35 = .ok (.istore 4, 2) := by decide +kernel
theorem dX5_breach_37 : decode cX5_breach 37 = .ok (.iload 4, 2) := by decide +kernel
theorem dX5_breach_39 : decode cX5_breach 39 = .ok (.iload_n 2, 1) := by decide +kernel
theorem dX5_breach_40 : decode cX5_breach 40 = .ok (.if_icmp .ge 37, 3) := by decide +kernel
theorem dX5_breach_43 : decode cX5_breach 43 = .ok (.aload_n 0, 1) := by decide +kernel
theorem dX5_breach_44 : decode cX5_breach 44 = .ok (.getfield 11, 3) := by decide +kernel
theorem dX5_breach_47 : decode cX5_breach 47 = .ok (.aload_n 0, 1) := by decide +kernel
theorem dX5_breach_48 : decode cX5_breach 48 = .ok (.getfield 35, 3) := by decide +kernel
theorem dX5_breach_51 : decode cX5_breach 51 = .ok (.iload 4, 2) := by decide +kernel
theorem dX5_breach_53 : decode cX5_breach 53 = .ok (.iaload, 1) := by decide +kernel
theorem dX5_breach_54 : decode cX5_breach 54 = .ok (.aaload, 1) := by decide +kernel
theorem dX5_breach_55 : decode cX5_breach 55 = .ok (.astore 5, 2) := by decide +kernel
theorem dX5_breach_57 : decode cX5_breach 57 = .ok (.iload_n 3, 1) := by decide +kernel
theorem dX5_breach_58 : decode cX5_breach 58 = .ok (.aload 5, 2) := by decide +kernel
theorem dX5_breach_60 : decode cX5_breach 60 = .ok (.getfield 99, 3) := by decide +kernel
theorem dX5_breach_63 : decode cX5_breach 63 = .ok (.iadd, 1) := by decide +kernel
theorem dX5_breach_64 : decode cX5_breach 64 = .ok (.istore_n 3, 1) := by decide +kernel
theorem dX5_breach_65 : decode cX5_breach 65 = .ok (.aload 5, 2) := by decide +kernel
theorem dX5_breach_67 : decode cX5_breach 67 = .ok (.iconst 0, 1) := by decide +kernel
theorem dX5_breach_68 : decode cX5_breach 68 = .ok (.putfield 99, 3) := by decide +kernel
theorem dX5_breach_71 : decode cX5_breach 71 = .ok (.iinc 4 1, 3) := by decide +kernel
theorem dX5_breach_74 : decode cX5_breach 74 = .ok (.goto (-37), 3) := by decide +kernel
theorem dX5_breach_77 : decode cX5_breach 77 = .ok (.aload_n 0, 1) := by decide +kernel
theorem dX5_breach_78 : decode cX5_breach 78 = .ok (.dup, 1) := by decide +kernel
theorem dX5_breach_79 : decode cX5_breach 79 = .ok (.getfield 105, 3) := by decide +kernel
theorem dX5_breach_82 : decode cX5_breach 82 = .ok (.iload_n 3, 1) := by decide +kernel
theorem dX5_breach_83 : decode cX5_breach 83 = .ok (.i2l, 1) := by decide +kernel
theorem dX5_breach_84 : decode cX5_breach 84 = .ok (.ladd, 1) := by decide +kernel
theorem dX5_breach_85 : decode cX5_breach 85 = .ok (.putfield 105, 3) := by decide +kernel
theorem dX5_breach_88 : decode cX5_breach 88 = .ok (.iload_n 3, 1) := by decide +kernel
theorem dX5_breach_89 : decode cX5_breach 89 = .ok (.ireturn, 1) := by decide +kernel
set_option maxRecDepth 20000 in
theorem ggX5_house_X5_needIndex : GoodIn wsX5_house wsX5_needIndex := goodIn_ca (goodIn_r _ [11, 12, 13] (by decide +kernel) (by decide +kernel)) (goodIn_sub (fun _ h => List.mem_cons_of_mem _ (List.mem_append_left _ (List.mem_append_right _ h))) (by decide +kernel))
set_option maxRecDepth 20000 in
theorem gX5_house_X5_needIndex : GoodIn wsX5_house (va_wsS RX5 48 yX5_needIndex wsX5_needIndex) := goodIn_app (goodIn_of _ (by decide +kernel)) ggX5_house_X5_needIndex
set_option maxRecDepth 20000 in
theorem ggX5_house_X1_isLake : GoodIn wsX5_house wsX1_isLake := goodIn_r _ [18, 19, 105, 106, 107, 108, 109, 110, 111] (by decide +kernel) (by decide +kernel)
set_option maxRecDepth 20000 in
theorem gX5_house_X1_isLake : GoodIn wsX5_house (wsV RX5 92 RX1 yX1_isLake wsX1_isLake) := goodIn_app (goodIn_of _ (by decide +kernel)) ggX5_house_X1_isLake
set_option maxRecDepth 20000 in
theorem ggX5_house_Jx4a65c_size_8abf5 : GoodIn wsX5_house wsJx4a65c_size_8abf5 := goodIn_r _ [24, 25, 117, 118, 119] (by decide +kernel) (by decide +kernel)
set_option maxRecDepth 20000 in
theorem gX5_house_Jx4a65c_size_8abf5 : GoodIn wsX5_house (wsV RX5 112 RJx4a65c yJx4a65c_size_8abf5 wsJx4a65c_size_8abf5) := goodIn_app (goodIn_of _ (by decide +kernel)) ggX5_house_Jx4a65c_size_8abf5
set_option maxRecDepth 20000 in
theorem ggX5_house_X5_needState : GoodIn wsX5_house wsX5_needState := goodIn_ca (goodIn_r _ [28, 29, 30] (by decide +kernel) (by decide +kernel)) (goodIn_sub (fun _ h => List.mem_cons_of_mem _ (List.mem_append_right _ h)) (by decide +kernel))
set_option maxRecDepth 20000 in
theorem gX5_house_X5_needState : GoodIn wsX5_house (va_wsS RX5 85 yX5_needState wsX5_needState) := goodIn_app (goodIn_of _ (by decide +kernel)) ggX5_house_X5_needState
set_option maxRecDepth 20000 in
theorem ggX5_house_X3_init : GoodIn wsX5_house wsX3_init := goodIn_r _ [33, 34, 35, 36, 37, 38, 39, 40, 112, 113, 114, 115, 116] (by decide +kernel) (by decide +kernel)
set_option maxRecDepth 20000 in
theorem gX5_house_X3_init : GoodIn wsX5_house (wsX3_init) := ggX5_house_X3_init
set_option maxRecDepth 20000 in
theorem ggX5_house_Jx4a65c_add_9ea2d : GoodIn wsX5_house wsJx4a65c_add_9ea2d := goodIn_r _ [44, 45, 46, 47, 25, 48, 49, 50, 23, 51, 52, 53, 54, 55, 56, 57, 58, 59, 60, 61, 62, 63, 64, 65, 66, 67, 68, 69, 70, 71, 72, 73, 74, 75, 76, 77, 78, 79, 80, 81, 82, 83, 84, 85, 86, 87, 88, 89, 90, 91, 92, 93, 94, 117, 118, 119] (by decide +kernel) (by decide +kernel)
set_option maxRecDepth 20000 in
theorem gX5_house_Jx4a65c_add_9ea2d : GoodIn wsX5_house (wsV RX5 121 RJx4a65c yJx4a65c_add_9ea2d wsJx4a65c_add_9ea2d) := goodIn_app (goodIn_of _ (by decide +kernel)) ggX5_house_Jx4a65c_add_9ea2d
theorem dX5_house_0 : decode cX5_house 0 = .ok (.iload_n 1, 1) := by decide +kernel
theorem dX5_house_1 : decode cX5_house 1 = .ok (.bipush 25, 2) := by decide +kernel
theorem dX5_house_3 : decode cX5_house 3 = .ok (.invokestatic 48, 3) := by decide +kernel
theorem dX5_house_6 : decode cX5_house 6 = .ok (.iload_n 2, 1) := by decide +kernel
theorem dX5_house_7 : decode cX5_house 7 = .ok (.iconst 1, 1) := by decide +kernel
theorem dX5_house_8 : decode cX5_house 8 = .ok (.isub, 1) := by decide +kernel
theorem dX5_house_9 : decode cX5_house 9 = .ok (.iconst 4, 1) := by decide +kernel
theorem dX5_house_10 : decode cX5_house 10 = .ok (.invokestatic 48, 3) := by decide +kernel
theorem dX5_house_13 : decode cX5_house 13 = .ok (.aload_n 0, 1) := by decide +kernel
theorem dX5_house_14 : decode cX5_house 14 = .ok (.getfield 11, 3) := by decide +kernel
theorem dX5_house_17 : decode cX5_house 17 = .ok (.iload_n 1, 1) := by decide +kernel
theorem dX5_house_18 : decode cX5_house 18 = .ok (.aaload, 1) := by decide +kernel
theorem dX5_house_19 : decode cX5_house 19 = .ok (.astore 4, 2) := by decide +kernel
theorem dX5_house_21 : decode cX5_house 21 = .ok (.aload 4, 2) := by decide +kernel
theorem dX5_house_23 : decode cX5_house 23 = .ok (.getfield 109, 3) := by decide +kernel
theorem dX5_house_26 : decode cX5_house 26 = .ok (.iconst (-1), 1) := by decide +kernel
theorem dX5_house_27 : decode cX5_house 27 = .ok (.if_icmp .ne 27, 3) := by decide +kernel
theorem dX5_house_30 : decode cX5_house 30 = .ok (.aload 4, 2) := by decide +kernel
theorem dX5_house_32 : decode cX5_house 32 = .ok (.invokevirtual 92, 3) := by decide +kernel
theorem dX5_house_35 : decode cX5_house 35 = .ok (.ifCond .ne 19, 3) := by decide +kernel
theorem dX5_house_38 : decode cX5_house 38 = .ok (.aload_n 0, 1) := by decide +kernel
theorem dX5_house_39 : decode cX5_house 39 = .ok (.getfield 18, 3) := by decide +kernel
theorem dX5_house_42 : decode cX5_house 42 = .ok (.invokevirtual 112, 3) := by decide +kernel
theorem dX5_house_45 : decode cX5_house 45 = .ok (.bipush 10, 2) := by decide +kernel
theorem dX5_house_47 : decode cX5_house 47 = .ok (.if_icmp .ge 7, 3) := by decide +kernel
theorem dX5_house_50 : decode cX5_house 50 = .ok (.iconst 1, 1) := by decide +kernel
theorem dX5_house_51 : decode cX5_house 51 = .ok (.goto 4, 3) := by decide +kernel
theorem dX5_house_54 : decode cX5_house 54 = .ok (.iconst 0, 1) := by decide +kernel
theorem dX5_house_55 : decode cX5_house 55 = .ok (.invokestatic 85, 3) := by decide +kernel
theorem dX5_house_58 : decode cX5_house 58 = .ok (.aload 4, 2) := by decide +kernel
theorem dX5_house_60 : decode cX5_house 60 = .ok (.aload_n 0, 1) := by decide +kernel
theorem dX5_house_61 : decode cX5_house 61 = .ok (.getfield 18, 3) := by decide +kernel
theorem dX5_house_64 : decode cX5_house 64 = .ok (.invokevirtual 112, 3) := by decide +kernel
theorem dX5_house_67 : decode cX5_house 67 = .ok (.putfield 109, 3) := by decide +kernel
theorem dX5_house_70 : decode cX5_house 70 = .ok (.aload_n 0, 1) := by decide +kernel
theorem dX5_house_71 : decode cX5_house 71 = .ok (.getfield 18, 3) := by decide +kernel
theorem dX5_house_74 : decode cX5_house 74 = .ok (.new 116, 3) := by decide +kernel
theorem dX5_house_77 : decode cX5_house 77 = .ok (.dup, 1) := by decide +kernel
theorem dX5_house_78 : decode cX5_house 78 = .ok (.iload_n 1, 1) := by decide +kernel
theorem dX5_house_79 : decode cX5_house 79 = .ok (.iload_n 2, 1) := by decide +kernel
theorem dX5_house_80 : decode cX5_house 80 = .ok (.iload_n 3, 1) := by decide +kernel
theorem dX5_house_81 : decode cX5_house 81 = .ok (.aload_n 0, 1) := by decide +kernel
theorem dX5_house_82 : decode cX5_house 82 = .ok (.getfield 82, 3) := by decide +kernel
theorem dX5_house_85 : decode cX5_house 85 = .ok (.invokespecial 118, 3) := by decide +kernel
theorem dX5_house_88 : decode cX5_house 88 = .ok (.invokevirtual 121, 3) := by decide +kernel
theorem dX5_house_91 : decode cX5_house 91 = .ok (.pop, 1) := by decide +kernel
theorem dX5_house_92 : decode cX5_house 92 = .ok (.aload 4, 2) := by decide +kernel
theorem dX5_house_94 : decode cX5_house 94 = .ok (.getfield 109, 3) := by decide +kernel
theorem dX5_house_97 : decode cX5_house 97 = .ok (.ireturn, 1) := by decide +kernel
set_option maxRecDepth 20000 in
theorem ggX5_borehole_X5_needIndex : GoodIn wsX5_borehole wsX5_needIndex := goodIn_ca (goodIn_r _ [9, 10, 11] (by decide +kernel) (by decide +kernel)) (goodIn_sub (fun _ h => List.mem_cons_of_mem _ (List.mem_append_left _ (List.mem_append_left _ (List.mem_append_right _ h)))) (by decide +kernel))
set_option maxRecDepth 20000 in
theorem gX5_borehole_X5_needIndex : GoodIn wsX5_borehole (va_wsS RX5 48 yX5_needIndex wsX5_needIndex) := goodIn_app (goodIn_of _ (by decide +kernel)) ggX5_borehole_X5_needIndex
set_option maxRecDepth 20000 in
theorem ggX5_borehole_X5_needRange : GoodIn wsX5_borehole wsX5_needRange := goodIn_ca (goodIn_r _ [14, 15, 16] (by decide +kernel) (by decide +kernel)) (goodIn_sub (fun _ h => List.mem_cons_of_mem _ (List.mem_append_left _ (List.mem_append_right _ h))) (by decide +kernel))
set_option maxRecDepth 20000 in
theorem gX5_borehole_X5_needRange : GoodIn wsX5_borehole (va_wsS RX5 52 yX5_needRange wsX5_needRange) := goodIn_app (goodIn_of _ (by decide +kernel)) ggX5_borehole_X5_needRange
set_option maxRecDepth 20000 in
theorem ggX5_borehole_Jx4a65c_size_8abf5 : GoodIn wsX5_borehole wsJx4a65c_size_8abf5 := goodIn_r _ [21, 22, 109, 110, 111] (by decide +kernel) (by decide +kernel)
set_option maxRecDepth 20000 in
theorem gX5_borehole_Jx4a65c_size_8abf5 : GoodIn wsX5_borehole (wsV RX5 112 RJx4a65c yJx4a65c_size_8abf5 wsJx4a65c_size_8abf5) := goodIn_app (goodIn_of _ (by decide +kernel)) ggX5_borehole_Jx4a65c_size_8abf5
set_option maxRecDepth 20000 in
theorem ggX5_borehole_X5_needState : GoodIn wsX5_borehole wsX5_needState := goodIn_ca (goodIn_r _ [25, 26, 27] (by decide +kernel) (by decide +kernel)) (goodIn_sub (fun _ h => List.mem_cons_of_mem _ (List.mem_append_right _ h)) (by decide +kernel))
set_option maxRecDepth 20000 in
theorem gX5_borehole_X5_needState : GoodIn wsX5_borehole (va_wsS RX5 85 yX5_needState wsX5_needState) := goodIn_app (goodIn_of _ (by decide +kernel)) ggX5_borehole_X5_needState
set_option maxRecDepth 20000 in
theorem ggX5_borehole_X0_init : GoodIn wsX5_borehole wsX0_init := goodIn_r _ [30, 31, 32, 33, 34, 35, 36, 37, 38, 39, 40, 41, 42, 104, 105, 106, 107, 108] (by decide +kernel) (by decide +kernel)
set_option maxRecDepth 20000 in
theorem gX5_borehole_X0_init : GoodIn wsX5_borehole (wsX0_init) := ggX5_borehole_X0_init
set_option maxRecDepth 20000 in
theorem ggX5_borehole_Jx4a65c_add_9ea2d : GoodIn wsX5_borehole wsJx4a65c_add_9ea2d := goodIn_r _ [46, 47, 48, 49, 22, 50, 51, 52, 20, 53, 54, 55, 56, 57, 58, 59, 60, 61, 62, 63, 38, 39, 40, 64, 65, 66, 67, 68, 69, 70, 71, 72, 73, 74, 75, 76, 77, 78, 79, 80, 81, 82, 83, 84, 85, 86, 87, 88, 89, 90, 91, 92, 93, 109, 110, 111] (by decide +kernel) (by decide +kernel)
set_option maxRecDepth 20000 in
theorem gX5_borehole_Jx4a65c_add_9ea2d : GoodIn wsX5_borehole (wsV RX5 121 RJx4a65c yJx4a65c_add_9ea2d wsJx4a65c_add_9ea2d) := goodIn_app (goodIn_of _ (by decide +kernel)) ggX5_borehole_Jx4a65c_add_9ea2d
theorem dX5_borehole_0 : decode cX5_borehole 0 = .ok (.iload_n 1, 1) := by decide +kernel
theorem dX5_borehole_1 : decode cX5_borehole 1 = .ok (.bipush 25, 2) := by decide +kernel
theorem dX5_borehole_3 : decode cX5_borehole 3 = .ok (.invokestatic 48, 3) := by decide +kernel
theorem dX5_borehole_6 : decode cX5_borehole 6 = .ok (.iload_n 2, 1) := by decide +kernel
theorem dX5_borehole_7 : decode cX5_borehole 7 = .ok (.bipush (-12), 2) := by decide +kernel
theorem dX5_borehole_9 : decode cX5_borehole 9 = .ok (.bipush 12, 2) := by decide +kernel
theorem dX5_borehole_11 : decode cX5_borehole 11 = .ok (.invokestatic 52, 3) := by decide +kernel
theorem dX5_borehole_14 : decode cX5_borehole 14 = .ok (.aload_n 0, 1) := by decide +kernel
theorem dX5_borehole_15 : decode cX5_borehole 15 = .ok (.getfield 22, 3) := by decide +kernel
theorem dX5_borehole_18 : decode cX5_borehole 18 = .ok (.invokevirtual 112, 3) := by decide +kernel
theorem dX5_borehole_21 : decode cX5_borehole 21 = .ok (.bipush 10, 2) := by decide +kernel
theorem dX5_borehole_23 : decode cX5_borehole 23 = .ok (.if_icmp .ge 7, 3) := by decide +kernel
theorem dX5_borehole_26 : decode cX5_borehole 26 = .ok (.iconst 1, 1) := by decide +kernel
theorem dX5_borehole_27 : decode cX5_borehole 27 = .ok (.goto 4, 3) := by decide +kernel
theorem dX5_borehole_30 : decode cX5_borehole 30 = .ok (.iconst 0, 1) := by decide +kernel
theorem dX5_borehole_31 : decode cX5_borehole 31 = .ok (.invokestatic 85, 3) := by decide +kernel
theorem dX5_borehole_34 : decode cX5_borehole 34 = .ok (.aload_n 0, 1) := by decide +kernel
theorem dX5_borehole_35 : decode cX5_borehole 35 = .ok (.getfield 22, 3) := by decide +kernel
theorem dX5_borehole_38 : decode cX5_borehole 38 = .ok (.new 125, 3) := by decide +kernel
theorem dX5_borehole_41 : decode cX5_borehole 41 = .ok (.dup, 1) := by decide +kernel
theorem dX5_borehole_42 : decode cX5_borehole 42 = .ok (.iload_n 1, 1) := by decide +kernel
theorem dX5_borehole_43 : decode cX5_borehole 43 = .ok (.iload_n 2, 1) := by decide +kernel
theorem dX5_borehole_44 : decode cX5_borehole 44 = .ok (.aload_n 0, 1) := by decide +kernel
theorem dX5_borehole_45 : decode cX5_borehole 45 = .ok (.getfield 82, 3) := by decide +kernel
theorem dX5_borehole_48 : decode cX5_borehole 48 = .ok (.invokespecial 127, 3) := by decide +kernel
theorem dX5_borehole_51 : decode cX5_borehole 51 = .ok (.invokevirtual 121, 3) := by decide +kernel
theorem dX5_borehole_54 : decode cX5_borehole 54 = .ok (.pop, 1) := by decide +kernel
theorem dX5_borehole_55 : decode cX5_borehole 55 = .ok (.aload_n 0, 1) := by decide +kernel
theorem dX5_borehole_56 : decode cX5_borehole 56 = .ok (.getfield 22, 3) := by decide +kernel
theorem dX5_borehole_59 : decode cX5_borehole 59 = .ok (.invokevirtual 112, 3) := by decide +kernel
theorem dX5_borehole_62 : decode cX5_borehole 62 = .ok (.iconst 1, 1) := by decide +kernel
theorem dX5_borehole_63 : decode cX5_borehole 63 = .ok (.isub, 1) := by decide +kernel
theorem dX5_borehole_64 : decode cX5_borehole 64 = .ok (.ireturn, 1) := by decide +kernel
set_option maxRecDepth 20000 in
theorem ggX5_claim_Jx4a65c_size_8abf5 : GoodIn wsX5_claim wsJx4a65c_size_8abf5 := goodIn_r _ [13, 14, 157, 158, 159] (by decide +kernel) (by decide +kernel)
set_option maxRecDepth 20000 in
theorem gX5_claim_Jx4a65c_size_8abf5 : GoodIn wsX5_claim (wsV RX5 112 RJx4a65c yJx4a65c_size_8abf5 wsJx4a65c_size_8abf5) := goodIn_app (goodIn_of _ (by decide +kernel)) ggX5_claim_Jx4a65c_size_8abf5
set_option maxRecDepth 20000 in
theorem ggX5_claim_X5_needIndex : GoodIn wsX5_claim wsX5_needIndex := goodIn_ca (goodIn_r _ [18, 19, 20] (by decide +kernel) (by decide +kernel)) (goodIn_sub (fun _ h => List.mem_cons_of_mem _ (List.mem_append_left _ (List.mem_append_right _ h))) (by decide +kernel))
set_option maxRecDepth 20000 in
theorem gX5_claim_X5_needIndex : GoodIn wsX5_claim (va_wsS RX5 48 yX5_needIndex wsX5_needIndex) := goodIn_app (goodIn_of _ (by decide +kernel)) ggX5_claim_X5_needIndex
set_option maxRecDepth 20000 in
theorem ggX5_claim_X5_needState : GoodIn wsX5_claim wsX5_needState := goodIn_ca (goodIn_r _ [23, 24, 25] (by decide +kernel) (by decide +kernel)) (goodIn_sub (fun _ h => List.mem_cons_of_mem _ (List.mem_append_right _ h)) (by decide +kernel))
set_option maxRecDepth 20000 in
theorem gX5_claim_X5_needState : GoodIn wsX5_claim (va_wsS RX5 85 yX5_needState wsX5_needState) := goodIn_app (goodIn_of _ (by decide +kernel)) ggX5_claim_X5_needState
set_option maxRecDepth 20000 in
theorem ggX5_claim_Jx4a65c_get_915e3 : GoodIn wsX5_claim wsJx4a65c_get_915e3 := goodIn_r _ [29, 14, 30, 31, 32, 33, 34, 35, 36, 37, 38, 39, 40, 12, 41, 42, 157, 158, 159] (by decide +kernel) (by decide +kernel)
set_option maxRecDepth 20000 in
theorem gX5_claim_Jx4a65c_get_915e3 : GoodIn wsX5_claim (wsV RX5 129 RJx4a65c yJx4a65c_get_915e3 wsJx4a65c_get_915e3) := goodIn_app (goodIn_of _ (by decide +kernel)) ggX5_claim_Jx4a65c_get_915e3
set_option maxRecDepth 20000 in
theorem ggX5_claim_X5_claimAmount : GoodIn wsX5_claim wsX5_claimAmount := goodIn_r _ [46, 47, 48, 49, 50, 51, 52, 53, 17, 54, 55, 56, 57, 58, 59, 60, 61, 62, 63, 64, 9, 10, 11, 12, 13, 14, 26, 27, 28, 29, 30, 31, 32, 33, 34, 35, 36, 37, 38, 39, 40, 41, 42, 65, 66, 67, 68, 69, 70, 71, 72, 73, 74, 75, 76, 152, 153, 154, 155, 156, 138, 139, 140, 141, 142, 143, 144, 145, 146, 147, 160, 161, 162, 163, 164, 157, 158, 159] (by decide +kernel) (by decide +kernel)
set_option maxRecDepth 20000 in
theorem gX5_claim_X5_claimAmount : GoodIn wsX5_claim (wsV RX5 138 RX5 yX5_claimAmount wsX5_claimAmount) := goodIn_app (goodIn_of _ (by decide +kernel)) ggX5_claim_X5_claimAmount
set_option maxRecDepth 20000 in
theorem ggX5_claim_X2_init : GoodIn wsX5_claim wsX2_init := goodIn_r _ [79, 80, 81, 82, 83, 84, 85, 86, 87, 148, 149, 150, 151, 152, 153, 154, 155, 156] (by decide +kernel) (by decide +kernel)
set_option maxRecDepth 20000 in
theorem gX5_claim_X2_init : GoodIn wsX5_claim (wsX2_init) := ggX5_claim_X2_init
set_option maxRecDepth 20000 in
theorem ggX5_claim_Jx4a65c_add_9ea2d : GoodIn wsX5_claim wsJx4a65c_add_9ea2d := goodIn_r _ [91, 92, 93, 42, 14, 94, 95, 96, 12, 97, 98, 99, 100, 101, 102, 103, 104, 105, 106, 107, 108, 49, 109, 110, 111, 112, 113, 114, 115, 116, 117, 118, 119, 120, 121, 122, 123, 124, 125, 126, 127, 128, 129, 130, 131, 132, 133, 48, 50, 134, 135, 136, 137, 157, 158, 159] (by decide +kernel) (by decide +kernel)
set_option maxRecDepth 20000 in
theorem gX5_claim_Jx4a65c_add_9ea2d : GoodIn wsX5_claim (wsV RX5 121 RJx4a65c yJx4a65c_add_9ea2d wsJx4a65c_add_9ea2d) := goodIn_app (goodIn_of _ (by decide +kernel)) ggX5_claim_Jx4a65c_add_9ea2d
theorem dX5_claim_0 : decode cX5_claim 0 = .ok (.iload_n 1, 1) := by decide +kernel
theorem dX5_claim_1 : decode cX5_claim 1 = .ok (.aload_n 0, 1) := by decide +kernel
theorem dX5_claim_2 : decode cX5_claim 2 = .ok (.getfield 18, 3) := by decide +kernel
theorem dX5_claim_5 : decode cX5_claim 5 = .ok (.invokevirtual 112, 3) := by decide +kernel
theorem dX5_claim_8 : decode cX5_claim 8 = .ok (.invokestatic 48, 3) := by decide +kernel
theorem dX5_claim_11 : decode cX5_claim 11 = .ok (.aload_n 0, 1) := by decide +kernel
theorem dX5_claim_12 : decode cX5_claim 12 = .ok (.getfield 25, 3) := by decide +kernel
theorem dX5_claim_15 : decode cX5_claim 15 = .ok (.invokevirtual 112, 3) := by decide +kernel
theorem dX5_claim_18 : decode cX5_claim 18 = .ok (.bipush 40, 2) := by decide +kernel
theorem dX5_claim_20 : decode cX5_claim 20 = .ok (.if_icmp .ge 7, 3) := by decide +kernel
theorem dX5_claim_23 : decode cX5_claim 23 = .ok (.iconst 1, 1) := by decide +kernel
theorem dX5_claim_24 : decode cX5_claim 24 = .ok (.goto 4, 3) := by decide +kernel
theorem dX5_claim_27 : decode cX5_claim 27 = .ok (.iconst 0, 1) := by decide +kernel
theorem dX5_claim_28 : decode cX5_claim 28 = .ok (.invokestatic 85, 3) := by decide +kernel
theorem dX5_claim_31 : decode cX5_claim 31 = .ok (.aload_n 0, 1) := by decide +kernel
theorem dX5_claim_32 : decode cX5_claim 32 = .ok (.getfield 18, 3) := by decide +kernel
theorem dX5_claim_35 : decode cX5_claim 35 = .ok (.iload_n 1, 1) := by decide +kernel
theorem dX5_claim_36 : decode cX5_claim 36 = .ok (.invokevirtual 129, 3) := by decide +kernel
theorem dX5_claim_39 : decode cX5_claim 39 = .ok (.checkcast 116, 3) := by decide +kernel
theorem dX5_claim_42 : decode cX5_claim 42 = .ok (.astore_n 2, 1) := by decide +kernel
theorem dX5_claim_43 : decode cX5_claim 43 = .ok (.aload_n 0, 1) := by decide +kernel
theorem dX5_claim_44 : decode cX5_claim 44 = .ok (.getfield 25, 3) := by decide +kernel
theorem dX5_claim_47 : decode cX5_claim 47 = .ok (.new 133, 3) := by decide +kernel
theorem dX5_claim_50 : decode cX5_claim 50 = .ok (.dup, 1) := by decide +kernel
theorem dX5_claim_51 : decode cX5_claim 51 = .ok (.aload_n 2, 1) := by decide +kernel
theorem dX5_claim_52 : decode cX5_claim 52 = .ok (.aload_n 0, 1) := by decide +kernel
theorem dX5_claim_53 : decode cX5_claim 53 = .ok (.getfield 82, 3) := by decide +kernel
theorem dX5_claim_56 : decode cX5_claim 56 = .ok (.aload_n 0, 1) := by decide +kernel
theorem dX5_claim_57 : decode cX5_claim 57 = .ok (.aload_n 2, 1) := by decide +kernel
theorem dX5_claim_58 : decode cX5_claim 58 = .ok (.aload_n 2, 1) := by decide +kernel
theorem dX5_claim_59 : decode cX5_claim 59 = .ok (.getfield 135, 3) := by decide +kernel
theorem dX5_claim_62 : decode cX5_claim 62 = .ok (.aload_n 0, 1) := by decide +kernel
theorem dX5_claim_63 : decode cX5_claim 63 = .ok (.getfield 82, 3) := by decide +kernel
theorem dX5_claim_66 : decode cX5_claim 66 = .ok (.invokevirtual 138, 3) := by decide +kernel
theorem dX5_claim_69 : decode cX5_claim 69 = .ok (.invokespecial 142, 3) := by decide +kernel
theorem dX5_claim_72 : decode cX5_claim 72 = .ok (.invokevirtual 121, 3) := by decide +kernel
theorem dX5_claim_75 : decode cX5_claim 75 = .ok (.pop, 1) := by decide +kernel
theorem dX5_claim_76 : decode cX5_claim 76 = .ok (.aload_n 0, 1) := by decide +kernel
theorem dX5_claim_77 : decode cX5_claim 77 = .ok (.getfield 25, 3) := by decide +kernel
theorem dX5_claim_80 : decode cX5_claim 80 = .ok (.invokevirtual 112, 3) := by decide +kernel
theorem dX5_claim_83 : decode cX5_claim 83 = .ok (.iconst 1, 1) := by decide +kernel
theorem dX5_claim_84 : decode cX5_claim 84 = .ok (.isub, 1) := by decide +kernel
theorem dX5_claim_85 : decode cX5_claim 85 = .ok (.ireturn, 1) := by decide +kernel
theorem dX5_month_0 : decode cX5_month 0 = .ok (.aload_n 0, 1) := by decide +kernel
theorem dX5_month_1 : decode cX5_month 1 = .ok (.getfield 82, 3) := by decide +kernel
theorem dX5_month_4 : decode cX5_month 4 = .ok (.ireturn, 1) := by decide +kernel
set_option maxRecDepth 20000 in
theorem ggX5_cellOf_X5_needIndex : GoodIn wsX5_cellOf wsX5_needIndex := goodIn_ca (goodIn_r _ [11, 12, 13] (by decide +kernel) (by decide +kernel)) (goodIn_sub (fun _ h => List.mem_cons_of_mem _ (List.mem_append_left _ (List.mem_append_right _ h))) (by decide +kernel))
set_option maxRecDepth 20000 in
theorem gX5_cellOf_X5_needIndex : GoodIn wsX5_cellOf (va_wsS RX5 48 yX5_needIndex wsX5_needIndex) := goodIn_app (goodIn_of _ (by decide +kernel)) ggX5_cellOf_X5_needIndex
set_option maxRecDepth 20000 in
theorem ggX5_cellOf_X5_needRange : GoodIn wsX5_cellOf wsX5_needRange := goodIn_ca (goodIn_r _ [16, 17, 18] (by decide +kernel) (by decide +kernel)) (goodIn_sub (fun _ h => List.mem_cons_of_mem _ (List.mem_append_right _ h)) (by decide +kernel))
set_option maxRecDepth 20000 in
theorem gX5_cellOf_X5_needRange : GoodIn wsX5_cellOf (va_wsS RX5 52 yX5_needRange wsX5_needRange) := goodIn_app (goodIn_of _ (by decide +kernel)) ggX5_cellOf_X5_needRange
set_option maxRecDepth 20000 in
theorem ggX5_cellOf_X5_gatherOneLake : GoodIn wsX5_cellOf wsX5_gatherOneLake := goodIn_r _ [22, 23, 24, 25, 10, 26, 27, 28, 29, 30, 31, 32, 33, 34, 35, 36, 37, 1, 3, 38, 39, 40, 53, 54, 55, 56, 57, 58, 59, 60, 61, 62, 63, 64, 65, 66, 67, 68, 69] (by decide +kernel) (by decide +kernel)
set_option maxRecDepth 20000 in
theorem gX5_cellOf_X5_gatherOneLake : GoodIn wsX5_cellOf (wsV RX5 102 RX5 yX5_gatherOneLake wsX5_gatherOneLake) := goodIn_app (goodIn_of _ (by decide +kernel)) ggX5_cellOf_X5_gatherOneLake
set_option maxRecDepth 20000 in
theorem ggX5_cellOf_X1_thawedFromAbove : GoodIn wsX5_cellOf wsX1_thawedFromAbove := goodIn_r _ [45, 46, 47, 48, 49, 50, 51, 52, 63, 64, 65, 66, 67, 68, 69, 70, 71, 72, 73] (by decide +kernel) (by decide +kernel)
set_option maxRecDepth 20000 in
theorem gX5_cellOf_X1_thawedFromAbove : GoodIn wsX5_cellOf (wsV RX5 151 RX1 yX1_thawedFromAbove wsX1_thawedFromAbove) := goodIn_app (goodIn_of _ (by decide +kernel)) ggX5_cellOf_X1_thawedFromAbove
theorem dX5_cellOf_0 : decode cX5_cellOf 0 = .ok (.iload_n 1, 1) := by decide +kernel
theorem dX5_cellOf_1 : decode cX5_cellOf 1 = .ok (.bipush 25, 2) := by decide +kernel
theorem dX5_cellOf_3 : decode cX5_cellOf 3 = .ok (.invokestatic 48, 3) := by decide +kernel
theorem dX5_cellOf_6 : decode cX5_cellOf 6 = .ok (.iload_n 2, 1) := by decide +kernel
theorem dX5_cellOf_7 : decode cX5_cellOf 7 = .ok (.iconst 0, 1) := by decide +kernel
theorem dX5_cellOf_8 : decode cX5_cellOf 8 = .ok (.bipush 7, 2) := by decide +kernel
theorem dX5_cellOf_10 : decode cX5_cellOf 10 = .ok (.invokestatic 52, 3) := by decide +kernel
theorem dX5_cellOf_13 : decode cX5_cellOf 13 = .ok (.aload_n 0, 1) := by decide +kernel
theorem dX5_cellOf_14 : decode cX5_cellOf 14 = .ok (.getfield 11, 3) := by decide +kernel
theorem dX5_cellOf_17 : decode cX5_cellOf 17 = .ok (.iload_n 1, 1) := by decide +kernel
theorem dX5_cellOf_18 : decode cX5_cellOf 18 = .ok (.aaload, 1) := by decide +kernel
theorem dX5_cellOf_19 : decode cX5_cellOf 19 = .ok (.astore_n 3, 1) := by decide +kernel
theorem dX5_cellOf_20 : decode cX5_cellOf 20 = .ok (.iload_n 2, 1) := by decide +kernel
theorem dX5_cellOf_21 : decode cX5_cellOf 21 = .ok (.tableswitch 79 0 6 #[43, 48, 53, 58, 63, 68, 73], 43) := by decide +kernel
theorem dX5_cellOf_64 : decode cX5_cellOf 64 = .ok (.aload_n 3, 1) := by decide +kernel
theorem dX5_cellOf_65 : decode cX5_cellOf 65 = .ok (.getfield 145, 3) := by decide +kernel
theorem dX5_cellOf_68 : decode cX5_cellOf 68 = .ok (.ireturn, 1) := by decide +kernel
theorem dX5_cellOf_69 : decode cX5_cellOf 69 = .ok (.aload_n 3, 1) := by decide +kernel
theorem dX5_cellOf_70 : decode cX5_cellOf 70 = .ok (.getfield 99, 3) := by decide +kernel
theorem dX5_cellOf_73 : decode cX5_cellOf 73 = .ok (.ireturn, 1) := by decide +kernel
theorem dX5_cellOf_74 : decode cX5_cellOf 74 = .ok (.aload_n 3, 1) := by decide +kernel
theorem dX5_cellOf_75 : decode cX5_cellOf 75 = .ok (.getfield 96, 3) := by decide +kernel
theorem dX5_cellOf_78 : decode cX5_cellOf 78 = .ok (.ireturn, 1) := by decide +kernel
theorem dX5_cellOf_79 : decode cX5_cellOf 79 = .ok (.aload_n 3, 1) := by decide +kernel
theorem dX5_cellOf_80 : decode cX5_cellOf 80 = .ok (.getfield 79, 3) := by decide +kernel
theorem dX5_cellOf_83 : decode cX5_cellOf 83 = .ok (.ireturn, 1) := by decide +kernel
theorem dX5_cellOf_84 : decode cX5_cellOf 84 = .ok (.aload_n 3, 1) := by decide +kernel
theorem dX5_cellOf_85 : decode cX5_cellOf 85 = .ok (.getfield 148, 3) := by decide +kernel
theorem dX5_cellOf_88 : decode cX5_cellOf 88 = .ok (.ireturn, 1) := by decide +kernel
theorem dX5_cellOf_89 : decode cX5_cellOf 89 = .ok (.aload_n 3, 1) := by decide +kernel
theorem dX5_cellOf_90 : decode cX5_cellOf 90 = .ok (.getfield 109, 3) := by decide +kernel
theorem dX5_cellOf_93 : decode cX5_cellOf 93 = .ok (.ireturn, 1) := by decide +kernel
theorem dX5_cellOf_94 : decode cX5_cellOf 94 = .ok (.aload_n 0, 1) := by decide +kernel
theorem dX5_cellOf_95 : decode cX5_cellOf 95 = .ok (.iload_n 1, 1) := by decide +kernel
theorem dX5_cellOf_96 : decode cX5_cellOf 96 = .ok (.invokevirtual 102, 3) := by decide +kernel
theorem dX5_cellOf_99 : decode cX5_cellOf 99 = .ok (.ireturn, 1) := by decide +kernel
theorem dX5_cellOf_100 : decode cX5_cellOf 100 = .ok (.aload_n 3, 1) := by decide +kernel
theorem dX5_cellOf_101 : decode cX5_cellOf 101 = .ok (.invokevirtual 151, 3) := by decide +kernel
theorem dX5_cellOf_104 : decode cX5_cellOf 104 = .ok (.ireturn, 1) := by decide +kernel
set_option maxRecDepth 20000 in
theorem ggX5_layerOf_X5_needIndex : GoodIn wsX5_layerOf wsX5_needIndex := goodIn_ca (goodIn_r _ [10, 11, 12] (by decide +kernel) (by decide +kernel)) (goodIn_sub (fun _ h => List.mem_cons_of_mem _ (List.mem_append_left _ (List.mem_append_right _ h))) (by decide +kernel))
set_option maxRecDepth 20000 in
theorem gX5_layerOf_X5_needIndex : GoodIn wsX5_layerOf (va_wsS RX5 48 yX5_needIndex wsX5_needIndex) := goodIn_app (goodIn_of _ (by decide +kernel)) ggX5_layerOf_X5_needIndex
set_option maxRecDepth 20000 in
theorem ggX5_layerOf_X5_needRange : GoodIn wsX5_layerOf wsX5_needRange := goodIn_ca (goodIn_r _ [15, 16, 17] (by decide +kernel) (by decide +kernel)) (goodIn_sub (fun _ h => List.mem_cons_of_mem _ (List.mem_append_right _ h)) (by decide +kernel))
set_option maxRecDepth 20000 in
theorem gX5_layerOf_X5_needRange : GoodIn wsX5_layerOf (va_wsS RX5 52 yX5_needRange wsX5_needRange) := goodIn_app (goodIn_of _ (by decide +kernel)) ggX5_layerOf_X5_needRange
set_option maxRecDepth 20000 in
theorem ggX5_layerOf_X4_temperature : GoodIn wsX5_layerOf wsX4_temperature := goodIn_r _ [22, 23, 24, 25, 26, 21, 27, 28, 29, 58, 59, 60, 61] (by decide +kernel) (by decide +kernel)
set_option maxRecDepth 20000 in
theorem gX5_layerOf_X4_temperature : GoodIn wsX5_layerOf (wsV RX5 154 RX4 yX4_temperature wsX4_temperature) := goodIn_app (goodIn_of _ (by decide +kernel)) ggX5_layerOf_X4_temperature
set_option maxRecDepth 20000 in
theorem ggX5_layerOf_X4_melted : GoodIn wsX5_layerOf wsX4_melted := goodIn_r _ [33, 23, 34, 35, 36, 37, 38, 39, 40, 24, 25, 26, 21, 27, 28, 29, 58, 59, 60, 61] (by decide +kernel) (by decide +kernel)
set_option maxRecDepth 20000 in
theorem gX5_layerOf_X4_melted : GoodIn wsX5_layerOf (wsV RX5 157 RX4 yX4_melted wsX4_melted) := goodIn_app (goodIn_of _ (by decide +kernel)) ggX5_layerOf_X4_melted
theorem dX5_layerOf_0 : decode cX5_layerOf 0 = .ok (.iload_n 1, 1) := by decide +kernel
theorem dX5_layerOf_1 : decode cX5_layerOf 1 = .ok (.bipush 25, 2) := by decide +kernel
theorem dX5_layerOf_3 : decode cX5_layerOf 3 = .ok (.invokestatic 48, 3) := by decide +kernel
theorem dX5_layerOf_6 : decode cX5_layerOf 6 = .ok (.iload_n 2, 1) := by decide +kernel
theorem dX5_layerOf_7 : decode cX5_layerOf 7 = .ok (.iconst 5, 1) := by decide +kernel
theorem dX5_layerOf_8 : decode cX5_layerOf 8 = .ok (.invokestatic 48, 3) := by decide +kernel
theorem dX5_layerOf_11 : decode cX5_layerOf 11 = .ok (.iload_n 3, 1) := by decide +kernel
theorem dX5_layerOf_12 : decode cX5_layerOf 12 = .ok (.iconst 0, 1) := by decide +kernel
theorem dX5_layerOf_13 : decode cX5_layerOf 13 = .ok (.iconst 5, 1) := by decide +kernel
theorem dX5_layerOf_14 : decode cX5_layerOf 14 = .ok (.invokestatic 52, 3) := by decide +kernel
theorem dX5_layerOf_17 : decode cX5_layerOf 17 = .ok (.aload_n 0, 1) := by decide +kernel
theorem dX5_layerOf_18 : decode cX5_layerOf 18 = .ok (.getfield 11, 3) := by decide +kernel
theorem dX5_layerOf_21 : decode cX5_layerOf 21 = .ok (.iload_n 1, 1) := by decide +kernel
theorem dX5_layerOf_22 : decode cX5_layerOf 22 = .ok (.aaload, 1) := by decide +kernel
theorem dX5_layerOf_23 : decode cX5_layerOf 23 = .ok (.getfield 56, 3) := by decide +kernel
theorem dX5_layerOf_26 : decode cX5_layerOf 26 = .ok (.iload_n 2, 1) := by decide +kernel
theorem dX5_layerOf_27 : decode cX5_layerOf 27 = .ok (.aaload, 1) := by decide +kernel
theorem dX5_layerOf_28 : decode cX5_layerOf 28 = .ok (.astore 4, 2) := by decide +kernel
theorem dX5_layerOf_30 : decode cX5_layerOf 30 = .ok (.iload_n 3, 1) := by decide +kernel
theorem dX5_layerOf_31 : decode cX5_layerOf 31 = .ok (.tableswitch 63 0 4 #[33, 39, 45, 51, 57], 33) := by decide +kernel
theorem dX5_layerOf_64 : decode cX5_layerOf 64 = .ok (.aload 4, 2) := by decide +kernel
theorem dX5_layerOf_66 : decode cX5_layerOf 66 = .ok (.invokevirtual 154, 3) := by decide +kernel
theorem dX5_layerOf_69 : decode cX5_layerOf 69 = .ok (.ireturn, 1) := by decide +kernel
theorem dX5_layerOf_70 : decode cX5_layerOf 70 = .ok (.aload 4, 2) := by decide +kernel
theorem dX5_layerOf_72 : decode cX5_layerOf 72 = .ok (.getfield 73, 3) := by decide +kernel
theorem dX5_layerOf_75 : decode cX5_layerOf 75 = .ok (.ireturn, 1) := by decide +kernel
theorem dX5_layerOf_76 : decode cX5_layerOf 76 = .ok (.aload 4, 2) := by decide +kernel
theorem dX5_layerOf_78 : decode cX5_layerOf 78 = .ok (.getfield 66, 3) := by decide +kernel
theorem dX5_layerOf_81 : decode cX5_layerOf 81 = .ok (.ireturn, 1) := by decide +kernel
theorem dX5_layerOf_82 : decode cX5_layerOf 82 = .ok (.aload 4, 2) := by decide +kernel
theorem dX5_layerOf_84 : decode cX5_layerOf 84 = .ok (.getfield 70, 3) := by decide +kernel
theorem dX5_layerOf_87 : decode cX5_layerOf 87 = .ok (.ireturn, 1) := by decide +kernel
theorem dX5_layerOf_88 : decode cX5_layerOf 88 = .ok (.aload 4, 2) := by decide +kernel
theorem dX5_layerOf_90 : decode cX5_layerOf 90 = .ok (.getfield 76, 3) := by decide +kernel
theorem dX5_layerOf_93 : decode cX5_layerOf 93 = .ok (.ireturn, 1) := by decide +kernel
theorem dX5_layerOf_94 : decode cX5_layerOf 94 = .ok (.aload 4, 2) := by decide +kernel
theorem dX5_layerOf_96 : decode cX5_layerOf 96 = .ok (.invokevirtual 157, 3) := by decide +kernel
theorem dX5_layerOf_99 : decode cX5_layerOf 99 = .ok (.ireturn, 1) := by decide +kernel
set_option maxRecDepth 20000 in
theorem ggX5_neighbour_X5_needIndex : GoodIn wsX5_neighbour wsX5_needIndex := goodIn_ca (goodIn_r _ [7, 1, 2] (by decide +kernel) (by decide +kernel)) (goodIn_sub (fun _ h => List.mem_cons_of_mem _ (List.mem_append_right _ h)) (by decide +kernel))
set_option maxRecDepth 20000 in
theorem gX5_neighbour_X5_needIndex : GoodIn wsX5_neighbour (va_wsS RX5 48 yX5_needIndex wsX5_needIndex) := goodIn_app (goodIn_of _ (by decide +kernel)) ggX5_neighbour_X5_needIndex
set_option maxRecDepth 20000 in
theorem ggX5_neighbour_X5_stepFrom : GoodIn wsX5_neighbour wsX5_stepFrom := goodIn_r _ [10] (by decide +kernel) (by decide +kernel)
set_option maxRecDepth 20000 in
theorem gX5_neighbour_X5_stepFrom : GoodIn wsX5_neighbour (va_wsS RX5 166 yX5_stepFrom wsX5_stepFrom) := goodIn_app (goodIn_of _ (by decide +kernel)) ggX5_neighbour_X5_stepFrom
theorem dX5_neighbour_0 : decode cX5_neighbour 0 = .ok (.iload_n 1, 1) := by decide +kernel
theorem dX5_neighbour_1 : decode cX5_neighbour 1 = .ok (.bipush 25, 2) := by decide +kernel
theorem dX5_neighbour_3 : decode cX5_neighbour 3 = .ok (.invokestatic 48, 3) := by decide +kernel
theorem dX5_neighbour_6 : decode cX5_neighbour 6 = .ok (.iload_n 2, 1) := by decide +kernel
theorem dX5_neighbour_7 : decode cX5_neighbour 7 = .ok (.ifCond .ge 11, 3) := by decide +kernel
theorem dX5_neighbour_10 : decode cX5_neighbour 10 = .ok (.new 160, 3) := by decide +kernel
theorem dX5_neighbour_13 : decode cX5_neighbour 13 = .ok (.dup, 1) := by decide +kernel
theorem dX5_neighbour_14 : decode cX5_neighbour 14 = .ok (.invokespecial 162, 3) := by decide +kernel
theorem dX5_neighbour_17 : decode cX5_neighbour 17 = .ok (.athrow, 1) := by decide +kernel
theorem dX5_neighbour_18 : decode cX5_neighbour 18 = .ok (.iconst 0, 1) := by decide +kernel
theorem dX5_neighbour_19 : decode cX5_neighbour 19 = .ok (.istore_n 3, 1) := by decide +kernel
theorem dX5_neighbour_20 : decode cX5_neighbour 20 = .ok (.iconst 0, 1) := by decide +kernel
theorem dX5_neighbour_21 : decode cX5_neighbour 21 = .ok (.istore 4, 2) := by decide +kernel
theorem dX5_neighbour_23 : decode cX5_neighbour 23 = .ok (.iload 4, 2) := by decide +kernel
theorem dX5_neighbour_25 : decode cX5_neighbour 25 = .ok (.getstatic 163, 3) := by decide +kernel
theorem dX5_neighbour_28 : decode cX5_neighbour 28 = .ok (.arraylength, 1) := by decide +kernel
theorem dX5_neighbour_29 : decode cX5_neighbour 29 = .ok (.if_icmp .ge 38, 3) := by decide +kernel
theorem dX5_neighbour_32 : decode cX5_neighbour 32 = .ok (.iload_n 1, 1) := by decide +kernel
theorem dX5_neighbour_33 : decode cX5_neighbour 33 = .ok (.getstatic 163, 3) := by decide +kernel
theorem dX5_neighbour_36 : decode cX5_neighbour 36 = .ok (.iload 4, 2) := by decide +kernel
theorem dX5_neighbour_38 : decode cX5_neighbour 38 = .ok (.iaload, 1) := by decide +kernel
theorem dX5_neighbour_39 : decode cX5_neighbour 39 = .ok (.invokestatic 166, 3) := by decide +kernel
theorem dX5_neighbour_42 : decode cX5_neighbour 42 = .ok (.istore 5, 2) := by decide +kernel
theorem dX5_neighbour_44 : decode cX5_neighbour 44 = .ok (.iload 5, 2) := by decide +kernel
theorem dX5_neighbour_46 : decode cX5_neighbour 46 = .ok (.iconst (-1), 1) := by decide +kernel
theorem dX5_neighbour_47 : decode cX5_neighbour 47 = .ok (.if_icmp .eq 14, 3) := by decide +kernel
theorem dX5_neighbour_50 : decode cX5_neighbour 50 = .ok (.iload_n 3, 1) := by decide +kernel
theorem dX5_neighbour_51 : decode cX5_neighbour 51 = .ok (.iload_n 2, 1) := by decide +kernel
theorem dX5_neighbour_52 : decode cX5_neighbour 52 = .ok (.if_icmp .ne 6, 3) := by decide +kernel
theorem dX5_neighbour_55 : decode cX5_neighbour 55 = .ok (.iload 5, 2) := by decide +kernel
theorem dX5_neighbour_57 : decode cX5_neighbour 57 = .ok (.ireturn, 1) := by decide +kernel
theorem dX5_neighbour_58 : decode cX5_neighbour 58 = .ok (.iinc 3 1, 3) := by decide +kernel
theorem dX5_neighbour_61 : decode cX5_neighbour 61 = .ok (.iinc 4 1, 3) := by decide +kernel
theorem dX5_neighbour_64 : decode cX5_neighbour 64 = .ok (.goto (-41), 3) := by decide +kernel
theorem dX5_neighbour_67 : decode cX5_neighbour 67 = .ok (.iconst (-1), 1) := by decide +kernel
theorem dX5_neighbour_68 : decode cX5_neighbour 68 = .ok (.ireturn, 1) := by decide +kernel
set_option maxRecDepth 20000 in
theorem ggX5_lakes_X5_forgetGathered : GoodIn wsX5_lakes wsX5_forgetGathered := goodIn_r _ [5, 6, 32, 33, 34, 35, 36, 37, 38, 39, 40, 41] (by decide +kernel) (by decide +kernel)
set_option maxRecDepth 20000 in
theorem gX5_lakes_X5_forgetGathered : GoodIn wsX5_lakes (wsV RX5 170 RX5 yX5_forgetGathered wsX5_forgetGathered) := goodIn_app (goodIn_of _ (by decide +kernel)) ggX5_lakes_X5_forgetGathered
set_option maxRecDepth 20000 in
theorem ggX5_lakes_X5_gatherLake : GoodIn wsX5_lakes wsX5_gatherLake := goodIn_r _ [10, 11, 12, 13, 14, 15, 4, 16, 17, 18, 6, 19, 20, 21, 32, 33, 34, 35, 36, 37, 38, 39, 40, 41, 42, 43, 44, 45, 46, 47, 48] (by decide +kernel) (by decide +kernel)
set_option maxRecDepth 20000 in
theorem gX5_lakes_X5_gatherLake : GoodIn wsX5_lakes (wsV RX5 173 RX5 yX5_gatherLake wsX5_gatherLake) := goodIn_app (goodIn_of _ (by decide +kernel)) ggX5_lakes_X5_gatherLake
set_option maxRecDepth 20000 in
theorem ggX5_lakes_X5_hasLakeCell : GoodIn wsX5_lakes wsX5_hasLakeCell := goodIn_r _ [25, 17, 11, 26, 27, 28, 29, 30, 31, 32, 33, 34, 35, 36, 37, 38, 39, 40, 41, 42, 43, 44, 45, 46, 47, 48] (by decide +kernel) (by decide +kernel)
set_option maxRecDepth 20000 in
theorem gX5_lakes_X5_hasLakeCell : GoodIn wsX5_lakes (wsV RX5 176 RX5 yX5_hasLakeCell wsX5_hasLakeCell) := goodIn_app (goodIn_of _ (by decide +kernel)) ggX5_lakes_X5_hasLakeCell
theorem dX5_lakes_0 : decode cX5_lakes 0 = .ok (.aload_n 0, 1) := by decide +kernel
theorem dX5_lakes_1 : decode cX5_lakes 1 = .ok (.invokevirtual 170, 3) := by decide +kernel
theorem dX5_lakes_4 : decode cX5_lakes 4 = .ok (.iconst 0, 1) := by decide +kernel
theorem dX5_lakes_5 : decode cX5_lakes 5 = .ok (.istore_n 1, 1) := by decide +kernel
theorem dX5_lakes_6 : decode cX5_lakes 6 = .ok (.iconst 0, 1) := by decide +kernel
theorem dX5_lakes_7 : decode cX5_lakes 7 = .ok (.istore_n 2, 1) := by decide +kernel
theorem dX5_lakes_8 : decode cX5_lakes 8 = .ok (.iload_n 2, 1) := by decide +kernel
theorem dX5_lakes_9 : decode cX5_lakes 9 = .ok (.bipush 25, 2) := by decide +kernel
theorem dX5_lakes_11 : decode cX5_lakes 11 = .ok (.if_icmp .ge 26, 3) := by decide +kernel
theorem dX5_lakes_14 : decode cX5_lakes 14 = .ok (.aload_n 0, 1) := by decide +kernel
theorem dX5_lakes_15 : decode cX5_lakes 15 = .ok (.iload_n 2, 1) := by decide +kernel
theorem dX5_lakes_16 : decode cX5_lakes 16 = .ok (.invokevirtual 173, 3) := by decide +kernel
theorem dX5_lakes_19 : decode cX5_lakes 19 = .ok (.istore_n 3, 1) := by decide +kernel
theorem dX5_lakes_20 : decode cX5_lakes 20 = .ok (.aload_n 0, 1) := by decide +kernel
theorem dX5_lakes_21 : decode cX5_lakes 21 = .ok (.iload_n 3, 1) := by decide +kernel
theorem dX5_lakes_22 : decode cX5_lakes 22 = .ok (.invokevirtual 176, 3) := by decide +kernel
theorem dX5_lakes_25 : decode cX5_lakes 25 = .ok (.ifCond .eq 6, 3) := by decide +kernel
theorem dX5_lakes_28 : decode cX5_lakes 28 = .ok (.iinc 1 1, 3) := by decide +kernel
theorem dX5_lakes_31 : decode cX5_lakes 31 = .ok (.iinc 2 1, 3) := by decide +kernel
theorem dX5_lakes_34 : decode cX5_lakes 34 = .ok (.goto (-26), 3) := by decide +kernel
theorem dX5_lakes_37 : decode cX5_lakes 37 = .ok (.iload_n 1, 1) := by decide +kernel
theorem dX5_lakes_38 : decode cX5_lakes 38 = .ok (.ireturn, 1) := by decide +kernel
set_option maxRecDepth 20000 in
theorem ggX5_houseOf_Jx4a65c_size_8abf5 : GoodIn wsX5_houseOf wsJx4a65c_size_8abf5 := goodIn_r _ [12, 13, 88, 89, 90] (by decide +kernel) (by decide +kernel)
set_option maxRecDepth 20000 in
theorem gX5_houseOf_Jx4a65c_size_8abf5 : GoodIn wsX5_houseOf (wsV RX5 112 RJx4a65c yJx4a65c_size_8abf5 wsJx4a65c_size_8abf5) := goodIn_app (goodIn_of _ (by decide +kernel)) ggX5_houseOf_Jx4a65c_size_8abf5
set_option maxRecDepth 20000 in
theorem ggX5_houseOf_X5_needIndex : GoodIn wsX5_houseOf wsX5_needIndex := goodIn_ca (goodIn_r _ [17, 18, 19] (by decide +kernel) (by decide +kernel)) (goodIn_sub (fun _ h => List.mem_cons_of_mem _ (List.mem_append_left _ (List.mem_append_right _ h))) (by decide +kernel))
set_option maxRecDepth 20000 in
theorem gX5_houseOf_X5_needIndex : GoodIn wsX5_houseOf (va_wsS RX5 48 yX5_needIndex wsX5_needIndex) := goodIn_app (goodIn_of _ (by decide +kernel)) ggX5_houseOf_X5_needIndex
set_option maxRecDepth 20000 in
theorem ggX5_houseOf_X5_needRange : GoodIn wsX5_houseOf wsX5_needRange := goodIn_ca (goodIn_r _ [22, 23, 24] (by decide +kernel) (by decide +kernel)) (goodIn_sub (fun _ h => List.mem_cons_of_mem _ (List.mem_append_right _ h)) (by decide +kernel))
set_option maxRecDepth 20000 in
theorem gX5_houseOf_X5_needRange : GoodIn wsX5_houseOf (va_wsS RX5 52 yX5_needRange wsX5_needRange) := goodIn_app (goodIn_of _ (by decide +kernel)) ggX5_houseOf_X5_needRange
set_option maxRecDepth 20000 in
theorem ggX5_houseOf_Jx4a65c_get_915e3 : GoodIn wsX5_houseOf wsJx4a65c_get_915e3 := goodIn_r _ [28, 13, 29, 30, 31, 32, 33, 34, 35, 36, 37, 38, 39, 11, 40, 41, 88, 89, 90] (by decide +kernel) (by decide +kernel)
set_option maxRecDepth 20000 in
theorem gX5_houseOf_Jx4a65c_get_915e3 : GoodIn wsX5_houseOf (wsV RX5 129 RJx4a65c yJx4a65c_get_915e3 wsJx4a65c_get_915e3) := goodIn_app (goodIn_of _ (by decide +kernel)) ggX5_houseOf_Jx4a65c_get_915e3
set_option maxRecDepth 20000 in
theorem ggX5_houseOf_X5_claimAmount : GoodIn wsX5_houseOf wsX5_claimAmount := goodIn_r _ [45, 46, 47, 48, 49, 50, 51, 52, 16, 53, 6, 54, 55, 56, 57, 58, 59, 60, 3, 4, 8, 9, 10, 11, 12, 13, 25, 26, 27, 28, 29, 30, 31, 32, 33, 34, 35, 36, 37, 38, 39, 40, 41, 61, 62, 63, 64, 65, 66, 67, 68, 69, 70, 71, 72, 83, 84, 85, 86, 87, 73, 74, 75, 76, 77, 78, 79, 80, 81, 82, 91, 92, 93, 94, 95, 88, 89, 90] (by decide +kernel) (by decide +kernel)
set_option maxRecDepth 20000 in
theorem gX5_houseOf_X5_claimAmount : GoodIn wsX5_houseOf (wsV RX5 138 RX5 yX5_claimAmount wsX5_claimAmount) := goodIn_app (goodIn_of _ (by decide +kernel)) ggX5_houseOf_X5_claimAmount
theorem dX5_houseOf_0 : decode cX5_houseOf 0 = .ok (.iload_n 1, 1) := by decide +kernel
theorem dX5_houseOf_1 : decode cX5_houseOf 1 = .ok (.aload_n 0, 1) := by decide +kernel
theorem dX5_houseOf_2 : decode cX5_houseOf 2 = .ok (.getfield 18, 3) := by decide +kernel
theorem dX5_houseOf_5 : decode cX5_houseOf 5 = .ok (.invokevirtual 112, 3) := by decide +kernel
theorem dX5_houseOf_8 : decode cX5_houseOf 8 = .ok (.invokestatic 48, 3) := by decide +kernel
theorem dX5_houseOf_11 : decode cX5_houseOf 11 = .ok (.iload_n 2, 1) := by decide +kernel
theorem dX5_houseOf_12 : decode cX5_houseOf 12 = .ok (.iconst 0, 1) := by decide +kernel
theorem dX5_houseOf_13 : decode cX5_houseOf 13 = .ok (.iconst 4, 1) := by decide +kernel
theorem dX5_houseOf_14 : decode cX5_houseOf 14 = .ok (.invokestatic 52, 3) := by decide +kernel
theorem dX5_houseOf_17 : decode cX5_houseOf 17 = .ok (.aload_n 0, 1) := by decide +kernel
theorem dX5_houseOf_18 : decode cX5_houseOf 18 = .ok (.getfield 18, 3) := by decide +kernel
theorem dX5_houseOf_21 : decode cX5_houseOf 21 = .ok (.iload_n 1, 1) := by decide +kernel
theorem dX5_houseOf_22 : decode cX5_houseOf 22 = .ok (.invokevirtual 129, 3) := by decide +kernel
theorem dX5_houseOf_25 : decode cX5_houseOf 25 = .ok (.checkcast 116, 3) := by decide +kernel
theorem dX5_houseOf_28 : decode cX5_houseOf 28 = .ok (.astore_n 3, 1) := by decide +kernel
theorem dX5_houseOf_29 : decode cX5_houseOf 29 = .ok (.iload_n 2, 1) := by decide +kernel
theorem dX5_houseOf_30 : decode cX5_houseOf 30 = .ok (.tableswitch 50 0 3 #[30, 35, 40, 45], 30) := by decide +kernel
theorem dX5_houseOf_60 : decode cX5_houseOf 60 = .ok (.aload_n 3, 1) := by decide +kernel
theorem dX5_houseOf_61 : decode cX5_houseOf 61 = .ok (.getfield 180, 3) := by decide +kernel
theorem dX5_houseOf_64 : decode cX5_houseOf 64 = .ok (.ireturn, 1) := by decide +kernel
theorem dX5_houseOf_65 : decode cX5_houseOf 65 = .ok (.aload_n 3, 1) := by decide +kernel
theorem dX5_houseOf_66 : decode cX5_houseOf 66 = .ok (.getfield 183, 3) := by decide +kernel
theorem dX5_houseOf_69 : decode cX5_houseOf 69 = .ok (.ireturn, 1) := by decide +kernel
theorem dX5_houseOf_70 : decode cX5_houseOf 70 = .ok (.aload_n 3, 1) := by decide +kernel
theorem dX5_houseOf_71 : decode cX5_houseOf 71 = .ok (.getfield 135, 3) := by decide +kernel
theorem dX5_houseOf_74 : decode cX5_houseOf 74 = .ok (.ireturn, 1) := by decide +kernel
theorem dX5_houseOf_75 : decode cX5_houseOf 75 = .ok (.aload_n 3, 1) := by decide +kernel
theorem dX5_houseOf_76 : decode cX5_houseOf 76 = .ok (.getfield 186, 3) := by decide +kernel
theorem dX5_houseOf_79 : decode cX5_houseOf 79 = .ok (.ireturn, 1) := by decide +kernel
theorem dX5_houseOf_80 : decode cX5_houseOf 80 = .ok (.aload_n 0, 1) := by decide +kernel
theorem dX5_houseOf_81 : decode cX5_houseOf 81 = .ok (.aload_n 3, 1) := by decide +kernel
theorem dX5_houseOf_82 : decode cX5_houseOf 82 = .ok (.aload_n 3, 1) := by decide +kernel
theorem dX5_houseOf_83 : decode cX5_houseOf 83 = .ok (.getfield 135, 3) := by decide +kernel
theorem dX5_houseOf_86 : decode cX5_houseOf 86 = .ok (.aload_n 0, 1) := by decide +kernel
theorem dX5_houseOf_87 : decode cX5_houseOf 87 = .ok (.getfield 82, 3) := by decide +kernel
theorem dX5_houseOf_90 : decode cX5_houseOf 90 = .ok (.invokevirtual 138, 3) := by decide +kernel
theorem dX5_houseOf_93 : decode cX5_houseOf 93 = .ok (.ireturn, 1) := by decide +kernel
set_option maxRecDepth 20000 in
theorem ggX5_reading_Jx4a65c_size_8abf5 : GoodIn wsX5_reading wsJx4a65c_size_8abf5 := goodIn_r _ [9, 10, 54, 55, 56] (by decide +kernel) (by decide +kernel)
set_option maxRecDepth 20000 in
theorem gX5_reading_Jx4a65c_size_8abf5 : GoodIn wsX5_reading (wsV RX5 112 RJx4a65c yJx4a65c_size_8abf5 wsJx4a65c_size_8abf5) := goodIn_app (goodIn_of _ (by decide +kernel)) ggX5_reading_Jx4a65c_size_8abf5
set_option maxRecDepth 20000 in
theorem ggX5_reading_X5_needIndex : GoodIn wsX5_reading wsX5_needIndex := goodIn_ca (goodIn_r _ [14, 1, 2] (by decide +kernel) (by decide +kernel)) (goodIn_sub (fun _ h => List.mem_cons_of_mem _ (List.mem_append_right _ h)) (by decide +kernel))
set_option maxRecDepth 20000 in
theorem gX5_reading_X5_needIndex : GoodIn wsX5_reading (va_wsS RX5 48 yX5_needIndex wsX5_needIndex) := goodIn_app (goodIn_of _ (by decide +kernel)) ggX5_reading_X5_needIndex
set_option maxRecDepth 20000 in
theorem ggX5_reading_Jx4a65c_get_915e3 : GoodIn wsX5_reading wsJx4a65c_get_915e3 := goodIn_r _ [18, 10, 19, 20, 21, 22, 23, 24, 25, 26, 27, 28, 29, 8, 30, 31, 54, 55, 56] (by decide +kernel) (by decide +kernel)
set_option maxRecDepth 20000 in
theorem gX5_reading_Jx4a65c_get_915e3 : GoodIn wsX5_reading (wsV RX5 129 RJx4a65c yJx4a65c_get_915e3 wsJx4a65c_get_915e3) := goodIn_app (goodIn_of _ (by decide +kernel)) ggX5_reading_Jx4a65c_get_915e3
set_option maxRecDepth 20000 in
theorem ggX5_reading_X0_hasRead : GoodIn wsX5_reading wsX0_hasRead := goodIn_r _ [36, 37, 38, 57, 58, 59, 60, 61] (by decide +kernel) (by decide +kernel)
set_option maxRecDepth 20000 in
theorem gX5_reading_X0_hasRead : GoodIn wsX5_reading (wsV RX5 189 RX0 yX0_hasRead wsX0_hasRead) := goodIn_app (goodIn_of _ (by decide +kernel)) ggX5_reading_X0_hasRead
set_option maxRecDepth 20000 in
theorem ggX5_reading_X0_readingAt : GoodIn wsX5_reading wsX0_readingAt := goodIn_r _ [42, 37, 43, 57, 58, 59, 60, 61] (by decide +kernel) (by decide +kernel)
set_option maxRecDepth 20000 in
theorem gX5_reading_X0_readingAt : GoodIn wsX5_reading (wsV RX5 192 RX0 yX0_readingAt wsX0_readingAt) := goodIn_app (goodIn_of _ (by decide +kernel)) ggX5_reading_X0_readingAt
theorem dX5_reading_0 : decode cX5_reading 0 = .ok (.iload_n 1, 1) := by decide +kernel
theorem dX5_reading_1 : decode cX5_reading 1 = .ok (.aload_n 0, 1) := by decide +kernel
theorem dX5_reading_2 : decode cX5_reading 2 = .ok (.getfield 22, 3) := by decide +kernel
theorem dX5_reading_5 : decode cX5_reading 5 = .ok (.invokevirtual 112, 3) := by decide +kernel
theorem dX5_reading_8 : decode cX5_reading 8 = .ok (.invokestatic 48, 3) := by decide +kernel
theorem dX5_reading_11 : decode cX5_reading 11 = .ok (.iload_n 3, 1) := by decide +kernel
theorem dX5_reading_12 : decode cX5_reading 12 = .ok (.iconst 5, 1) := by decide +kernel
theorem dX5_reading_13 : decode cX5_reading 13 = .ok (.invokestatic 48, 3) := by decide +kernel
theorem dX5_reading_16 : decode cX5_reading 16 = .ok (.aload_n 0, 1) := by decide +kernel
theorem dX5_reading_17 : decode cX5_reading 17 = .ok (.getfield 22, 3) := by decide +kernel
theorem dX5_reading_20 : decode cX5_reading 20 = .ok (.iload_n 1, 1) := by decide +kernel
theorem dX5_reading_21 : decode cX5_reading 21 = .ok (.invokevirtual 129, 3) := by decide +kernel
theorem dX5_reading_24 : decode cX5_reading 24 = .ok (.checkcast 125, 3) := by decide +kernel
theorem dX5_reading_27 : decode cX5_reading 27 = .ok (.astore 4, 2) := by decide +kernel
theorem dX5_reading_29 : decode cX5_reading 29 = .ok (.aload 4, 2) := by decide +kernel
theorem dX5_reading_31 : decode cX5_reading 31 = .ok (.iload_n 2, 1) := by decide +kernel
theorem dX5_reading_32 : decode cX5_reading 32 = .ok (.invokevirtual 189, 3) := by decide +kernel
theorem dX5_reading_35 : decode cX5_reading 35 = .ok (.ifCond .ne 11, 3) := by decide +kernel
theorem dX5_reading_38 : decode cX5_reading 38 = .ok (.new 160, 3) := by decide +kernel
theorem dX5_reading_41 : decode cX5_reading 41 = .ok (.dup, 1) := by decide +kernel
theorem dX5_reading_42 : decode cX5_reading 42 = .ok (.invokespecial 162, 3) := by decide +kernel
theorem dX5_reading_45 : decode cX5_reading 45 = .ok (.athrow, 1) := by decide +kernel
theorem dX5_reading_46 : decode cX5_reading 46 = .ok (.aload 4, 2) := by decide +kernel
theorem dX5_reading_48 : decode cX5_reading 48 = .ok (.iload_n 2, 1) := by decide +kernel
theorem dX5_reading_49 : decode cX5_reading 49 = .ok (.iload_n 3, 1) := by decide +kernel
theorem dX5_reading_50 : decode cX5_reading 50 = .ok (.invokevirtual 192, 3) := by decide +kernel
theorem dX5_reading_53 : decode cX5_reading 53 = .ok (.ireturn, 1) := by decide +kernel
set_option maxRecDepth 20000 in
theorem ggX5_claimOf_Jx4a65c_size_8abf5 : GoodIn wsX5_claimOf wsJx4a65c_size_8abf5 := goodIn_r _ [8, 9, 47, 48, 49] (by decide +kernel) (by decide +kernel)
set_option maxRecDepth 20000 in
theorem gX5_claimOf_Jx4a65c_size_8abf5 : GoodIn wsX5_claimOf (wsV RX5 112 RJx4a65c yJx4a65c_size_8abf5 wsJx4a65c_size_8abf5) := goodIn_app (goodIn_of _ (by decide +kernel)) ggX5_claimOf_Jx4a65c_size_8abf5
set_option maxRecDepth 20000 in
theorem ggX5_claimOf_X5_needIndex : GoodIn wsX5_claimOf wsX5_needIndex := goodIn_ca (goodIn_r _ [13, 14, 15] (by decide +kernel) (by decide +kernel)) (goodIn_sub (fun _ h => List.mem_cons_of_mem _ (List.mem_append_right _ h)) (by decide +kernel))
set_option maxRecDepth 20000 in
theorem gX5_claimOf_X5_needIndex : GoodIn wsX5_claimOf (va_wsS RX5 48 yX5_needIndex wsX5_needIndex) := goodIn_app (goodIn_of _ (by decide +kernel)) ggX5_claimOf_X5_needIndex
set_option maxRecDepth 20000 in
theorem ggX5_claimOf_Jx4a65c_get_915e3 : GoodIn wsX5_claimOf wsJx4a65c_get_915e3 := goodIn_r _ [19, 9, 20, 21, 22, 23, 24, 25, 26, 27, 28, 29, 30, 7, 31, 32, 47, 48, 49] (by decide +kernel) (by decide +kernel)
set_option maxRecDepth 20000 in
theorem gX5_claimOf_Jx4a65c_get_915e3 : GoodIn wsX5_claimOf (wsV RX5 129 RJx4a65c yJx4a65c_get_915e3 wsJx4a65c_get_915e3) := goodIn_app (goodIn_of _ (by decide +kernel)) ggX5_claimOf_Jx4a65c_get_915e3
theorem dX5_claimOf_0 : decode cX5_claimOf 0 = .ok (.iload_n 1, 1) := by decide +kernel
theorem dX5_claimOf_1 : decode cX5_claimOf 1 = .ok (.aload_n 0, 1) := by decide +kernel
theorem dX5_claimOf_2 : decode cX5_claimOf 2 = .ok (.getfield 25, 3) := by decide +kernel
theorem dX5_claimOf_5 : decode cX5_claimOf 5 = .ok (.invokevirtual 112, 3) := by decide +kernel
theorem dX5_claimOf_8 : decode cX5_claimOf 8 = .ok (.invokestatic 48, 3) := by decide +kernel
theorem dX5_claimOf_11 : decode cX5_claimOf 11 = .ok (.aload_n 0, 1) := by decide +kernel
theorem dX5_claimOf_12 : decode cX5_claimOf 12 = .ok (.getfield 25, 3) := by decide +kernel
theorem dX5_claimOf_15 : decode cX5_claimOf 15 = .ok (.iload_n 1, 1) := by decide +kernel
theorem dX5_claimOf_16 : decode cX5_claimOf 16 = .ok (.invokevirtual 129, 3) := by decide +kernel
theorem dX5_claimOf_19 : decode cX5_claimOf 19 = .ok (.checkcast 133, 3) := by decide +kernel
theorem dX5_claimOf_22 : decode cX5_claimOf 22 = .ok (.getfield 195, 3) := by decide +kernel
theorem dX5_claimOf_25 : decode cX5_claimOf 25 = .ok (.ireturn, 1) := by decide +kernel
set_option maxRecDepth 20000 in
theorem ggX5_claimAnew_Jx4a65c_size_8abf5 : GoodIn wsX5_claimAnew wsJx4a65c_size_8abf5 := goodIn_r _ [10, 11, 83, 84, 85] (by decide +kernel) (by decide +kernel)
set_option maxRecDepth 20000 in
theorem gX5_claimAnew_Jx4a65c_size_8abf5 : GoodIn wsX5_claimAnew (wsV RX5 112 RJx4a65c yJx4a65c_size_8abf5 wsJx4a65c_size_8abf5) := goodIn_app (goodIn_of _ (by decide +kernel)) ggX5_claimAnew_Jx4a65c_size_8abf5
set_option maxRecDepth 20000 in
theorem ggX5_claimAnew_X5_needIndex : GoodIn wsX5_claimAnew wsX5_needIndex := goodIn_ca (goodIn_r _ [15, 16, 17] (by decide +kernel) (by decide +kernel)) (goodIn_sub (fun _ h => List.mem_cons_of_mem _ (List.mem_append_right _ h)) (by decide +kernel))
set_option maxRecDepth 20000 in
theorem gX5_claimAnew_X5_needIndex : GoodIn wsX5_claimAnew (va_wsS RX5 48 yX5_needIndex wsX5_needIndex) := goodIn_app (goodIn_of _ (by decide +kernel)) ggX5_claimAnew_X5_needIndex
set_option maxRecDepth 20000 in
theorem ggX5_claimAnew_Jx4a65c_get_915e3 : GoodIn wsX5_claimAnew wsJx4a65c_get_915e3 := goodIn_r _ [21, 11, 22, 23, 24, 25, 26, 27, 28, 29, 30, 31, 32, 9, 33, 34, 83, 84, 85] (by decide +kernel) (by decide +kernel)
set_option maxRecDepth 20000 in
theorem gX5_claimAnew_Jx4a65c_get_915e3 : GoodIn wsX5_claimAnew (wsV RX5 129 RJx4a65c yJx4a65c_get_915e3 wsJx4a65c_get_915e3) := goodIn_app (goodIn_of _ (by decide +kernel)) ggX5_claimAnew_Jx4a65c_get_915e3
set_option maxRecDepth 20000 in
theorem ggX5_claimAnew_X5_claimAmount : GoodIn wsX5_claimAnew wsX5_claimAmount := goodIn_r _ [38, 39, 40, 41, 42, 43, 44, 45, 14, 46, 47, 48, 49, 50, 51, 52, 53, 54, 55, 56, 6, 7, 8, 9, 10, 11, 18, 19, 20, 21, 22, 23, 24, 25, 26, 27, 28, 29, 30, 31, 32, 33, 34, 57, 58, 59, 60, 61, 62, 63, 64, 65, 66, 67, 68, 86, 87, 88, 89, 90, 69, 70, 71, 72, 73, 74, 75, 76, 77, 78, 91, 92, 93, 94, 95, 83, 84, 85] (by decide +kernel) (by decide +kernel)
set_option maxRecDepth 20000 in
theorem gX5_claimAnew_X5_claimAmount : GoodIn wsX5_claimAnew (wsV RX5 138 RX5 yX5_claimAmount wsX5_claimAmount) := goodIn_app (goodIn_of _ (by decide +kernel)) ggX5_claimAnew_X5_claimAmount
theorem dX5_claimAnew_0 : decode cX5_claimAnew 0 = .ok (.iload_n 1, 1) := by decide +kernel
theorem dX5_claimAnew_1 : decode cX5_claimAnew 1 = .ok (.aload_n 0, 1) := by decide +kernel
theorem dX5_claimAnew_2 : decode cX5_claimAnew 2 = .ok (.getfield 25, 3) := by decide +kernel
theorem dX5_claimAnew_5 : decode cX5_claimAnew 5 = .ok (.invokevirtual 112, 3) := by decide +kernel
theorem dX5_claimAnew_8 : decode cX5_claimAnew 8 = .ok (.invokestatic 48, 3) := by decide +kernel
theorem dX5_claimAnew_11 : decode cX5_claimAnew 11 = .ok (.aload_n 0, 1) := by decide +kernel
theorem dX5_claimAnew_12 : decode cX5_claimAnew 12 = .ok (.getfield 25, 3) := by decide +kernel
theorem dX5_claimAnew_15 : decode cX5_claimAnew 15 = .ok (.iload_n 1, 1) := by decide +kernel
theorem dX5_claimAnew_16 : decode cX5_claimAnew 16 = .ok (.invokevirtual 129, 3) := by decide +kernel
theorem dX5_claimAnew_19 : decode cX5_claimAnew 19 = .ok (.checkcast 133, 3) := by decide +kernel
theorem dX5_claimAnew_22 : decode cX5_claimAnew 22 = .ok (.astore_n 2, 1) := by decide +kernel
theorem dX5_claimAnew_23 : decode cX5_claimAnew 23 = .ok (.aload_n 0, 1) := by decide +kernel
theorem dX5_claimAnew_24 : decode cX5_claimAnew 24 = .ok (.aload_n 2, 1) := by decide +kernel
theorem dX5_claimAnew_25 : decode cX5_claimAnew 25 = .ok (.getfield 197, 3) := by decide +kernel
theorem dX5_claimAnew_28 : decode cX5_claimAnew 28 = .ok (.aload_n 2, 1) := by decide +kernel
theorem dX5_claimAnew_29 : decode cX5_claimAnew 29 = .ok (.getfield 200, 3) := by decide +kernel
theorem dX5_claimAnew_32 : decode cX5_claimAnew 32 = .ok (.aload_n 2, 1) := by decide +kernel
theorem dX5_claimAnew_33 : decode cX5_claimAnew 33 = .ok (.getfield 201, 3) := by decide +kernel
theorem dX5_claimAnew_36 : decode cX5_claimAnew 36 = .ok (.invokevirtual 138, 3) := by decide +kernel
theorem dX5_claimAnew_39 : decode cX5_claimAnew 39 = .ok (.ireturn, 1) := by decide +kernel
set_option maxRecDepth 20000 in
theorem ggX5_balance_X5_needRange : GoodIn wsX5_balance wsX5_needRange := goodIn_ca (goodIn_r _ [5, 6, 7] (by decide +kernel) (by decide +kernel)) (goodIn_sub (fun _ h => List.mem_cons_of_mem _ (List.mem_append_right _ h)) (by decide +kernel))
set_option maxRecDepth 20000 in
theorem gX5_balance_X5_needRange : GoodIn wsX5_balance (va_wsS RX5 52 yX5_needRange wsX5_needRange) := goodIn_app (goodIn_of _ (by decide +kernel)) ggX5_balance_X5_needRange
set_option maxRecDepth 20000 in
theorem ggX5_balance_X5_amountInLand : GoodIn wsX5_balance wsX5_amountInLand := goodIn_r _ [11, 12, 13, 14, 15, 16, 17, 18, 19, 20, 21, 22, 23, 24, 25, 26, 27, 28, 29, 30, 31, 32, 40, 41, 42, 43, 44, 45, 46, 47, 48, 49, 50, 51, 52, 53, 54, 55, 56, 57, 58, 59, 60] (by decide +kernel) (by decide +kernel)
set_option maxRecDepth 20000 in
theorem gX5_balance_X5_amountInLand : GoodIn wsX5_balance (wsV RX5 44 RX5 yX5_amountInLand wsX5_amountInLand) := goodIn_app (goodIn_of _ (by decide +kernel)) ggX5_balance_X5_amountInLand
set_option maxRecDepth 20000 in
theorem ggX5_balance_X5_amountLeft : GoodIn wsX5_balance wsX5_amountLeft := goodIn_r _ [36, 37, 38, 39, 40, 41, 42, 43, 44, 45, 46, 47, 48, 49] (by decide +kernel) (by decide +kernel)
set_option maxRecDepth 20000 in
theorem gX5_balance_X5_amountLeft : GoodIn wsX5_balance (wsV RX5 204 RX5 yX5_amountLeft wsX5_amountLeft) := goodIn_app (goodIn_of _ (by decide +kernel)) ggX5_balance_X5_amountLeft
theorem dX5_balance_0 : decode cX5_balance 0 = .ok (.iload_n 1, 1) := by decide +kernel
theorem dX5_balance_1 : decode cX5_balance 1 = .ok (.iconst 0, 1) := by decide +kernel
theorem dX5_balance_2 : decode cX5_balance 2 = .ok (.iconst 2, 1) := by decide +kernel
theorem dX5_balance_3 : decode cX5_balance 3 = .ok (.invokestatic 52, 3) := by decide +kernel
theorem dX5_balance_6 : decode cX5_balance 6 = .ok (.iload_n 2, 1) := by decide +kernel
theorem dX5_balance_7 : decode cX5_balance 7 = .ok (.iconst 0, 1) := by decide +kernel
theorem dX5_balance_8 : decode cX5_balance 8 = .ok (.iconst 3, 1) := by decide +kernel
theorem dX5_balance_9 : decode cX5_balance 9 = .ok (.invokestatic 52, 3) := by decide +kernel
theorem dX5_balance_12 : decode cX5_balance 12 = .ok (.iload_n 2, 1) := by decide +kernel
theorem dX5_balance_13 : decode cX5_balance 13 = .ok (.tableswitch 46 0 2 #[27, 33, 40], 27) := by decide +kernel
theorem dX5_balance_40 : decode cX5_balance 40 = .ok (.aload_n 0, 1) := by decide +kernel
theorem dX5_balance_41 : decode cX5_balance 41 = .ok (.iload_n 1, 1) := by decide +kernel
theorem dX5_balance_42 : decode cX5_balance 42 = .ok (.invokevirtual 44, 3) := by decide +kernel
theorem dX5_balance_45 : decode cX5_balance 45 = .ok (.lreturn, 1) := by decide +kernel
theorem dX5_balance_46 : decode cX5_balance 46 = .ok (.aload_n 0, 1) := by decide +kernel
theorem dX5_balance_47 : decode cX5_balance 47 = .ok (.getfield 28, 3) := by decide +kernel
theorem dX5_balance_50 : decode cX5_balance 50 = .ok (.iload_n 1, 1) := by decide +kernel
theorem dX5_balance_51 : decode cX5_balance 51 = .ok (.laload, 1) := by decide +kernel
theorem dX5_balance_52 : decode cX5_balance 52 = .ok (.lreturn, 1) := by decide +kernel
theorem dX5_balance_53 : decode cX5_balance 53 = .ok (.aload_n 0, 1) := by decide +kernel
theorem dX5_balance_54 : decode cX5_balance 54 = .ok (.iload_n 1, 1) := by decide +kernel
theorem dX5_balance_55 : decode cX5_balance 55 = .ok (.invokevirtual 204, 3) := by decide +kernel
theorem dX5_balance_58 : decode cX5_balance 58 = .ok (.lreturn, 1) := by decide +kernel
theorem dX5_balance_59 : decode cX5_balance 59 = .ok (.aload_n 0, 1) := by decide +kernel
theorem dX5_balance_60 : decode cX5_balance 60 = .ok (.getfield 28, 3) := by decide +kernel
theorem dX5_balance_63 : decode cX5_balance 63 = .ok (.iload_n 1, 1) := by decide +kernel
theorem dX5_balance_64 : decode cX5_balance 64 = .ok (.laload, 1) := by decide +kernel
theorem dX5_balance_65 : decode cX5_balance 65 = .ok (.aload_n 0, 1) := by decide +kernel
theorem dX5_balance_66 : decode cX5_balance 66 = .ok (.iload_n 1, 1) := by decide +kernel
theorem dX5_balance_67 : decode cX5_balance 67 = .ok (.invokevirtual 44, 3) := by decide +kernel
theorem dX5_balance_70 : decode cX5_balance 70 = .ok (.lsub, 1) := by decide +kernel
theorem dX5_balance_71 : decode cX5_balance 71 = .ok (.aload_n 0, 1) := by decide +kernel
theorem dX5_balance_72 : decode cX5_balance 72 = .ok (.iload_n 1, 1) := by decide +kernel
theorem dX5_balance_73 : decode cX5_balance 73 = .ok (.invokevirtual 204, 3) := by decide +kernel
theorem dX5_balance_76 : decode cX5_balance 76 = .ok (.lsub, 1) := by decide +kernel
theorem dX5_balance_77 : decode cX5_balance 77 = .ok (.lreturn, 1) := by decide +kernel
set_option maxRecDepth 20000 in
theorem ggX5_air_X5_needRange : GoodIn wsX5_air wsX5_needRange := goodIn_ca (goodIn_r _ [5, 6, 7] (by decide +kernel) (by decide +kernel)) (goodIn_sub (fun _ h => List.mem_cons_of_mem _ (List.mem_append_right _ h)) (by decide +kernel))
set_option maxRecDepth 20000 in
theorem gX5_air_X5_needRange : GoodIn wsX5_air (va_wsS RX5 52 yX5_needRange wsX5_needRange) := goodIn_app (goodIn_of _ (by decide +kernel)) ggX5_air_X5_needRange
theorem dX5_air_0 : decode cX5_air 0 = .ok (.iload_n 1, 1) := by decide +kernel
theorem dX5_air_1 : decode cX5_air 1 = .ok (.iconst 0, 1) := by decide +kernel
theorem dX5_air_2 : decode cX5_air 2 = .ok (.iconst 1, 1) := by decide +kernel
theorem dX5_air_3 : decode cX5_air 3 = .ok (.invokestatic 52, 3) := by decide +kernel
theorem dX5_air_6 : decode cX5_air 6 = .ok (.aload_n 0, 1) := by decide +kernel
theorem dX5_air_7 : decode cX5_air 7 = .ok (.getfield 32, 3) := by decide +kernel
theorem dX5_air_10 : decode cX5_air 10 = .ok (.iload_n 1, 1) := by decide +kernel
theorem dX5_air_11 : decode cX5_air 11 = .ok (.laload, 1) := by decide +kernel
theorem dX5_air_12 : decode cX5_air 12 = .ok (.lreturn, 1) := by decide +kernel
theorem dX5_needIndex_0 : decode cX5_needIndex 0 = .ok (.iload_n 0, 1) := by decide +kernel
theorem dX5_needIndex_1 : decode cX5_needIndex 1 = .ok (.ifCond .lt 8, 3) := by decide +kernel
theorem dX5_needIndex_4 : decode cX5_needIndex 4 = .ok (.iload_n 0, 1) := by decide +kernel
theorem dX5_needIndex_5 : decode cX5_needIndex 5 = .ok (.iload_n 1, 1) := by decide +kernel
theorem dX5_needIndex_6 : decode cX5_needIndex 6 = .ok (.if_icmp .lt 11, 3) := by decide +kernel
theorem dX5_needIndex_9 : decode cX5_needIndex 9 = .ok (.new 160, 3) := by decide +kernel
theorem dX5_needIndex_12 : decode cX5_needIndex 12 = .ok (.dup, 1) := by decide +kernel
theorem dX5_needIndex_13 : decode cX5_needIndex 13 = .ok (.invokespecial 162, 3) := by decide +kernel
theorem dX5_needIndex_16 : decode cX5_needIndex 16 = .ok (.athrow, 1) := by decide +kernel
theorem dX5_needIndex_17 : decode cX5_needIndex 17 = .ok (.return_, 1) := by decide +kernel
theorem dX5_needRange_0 : decode cX5_needRange 0 = .ok (.iload_n 0, 1) := by decide +kernel
theorem dX5_needRange_1 : decode cX5_needRange 1 = .ok (.iload_n 1, 1) := by decide +kernel
theorem dX5_needRange_2 : decode cX5_needRange 2 = .ok (.if_icmp .lt 8, 3) := by decide +kernel
theorem dX5_needRange_5 : decode cX5_needRange 5 = .ok (.iload_n 0, 1) := by decide +kernel
theorem dX5_needRange_6 : decode cX5_needRange 6 = .ok (.iload_n 2, 1) := by decide +kernel
theorem dX5_needRange_7 : decode cX5_needRange 7 = .ok (.if_icmp .le 11, 3) := by decide +kernel
theorem dX5_needRange_10 : decode cX5_needRange 10 = .ok (.new 207, 3) := by decide +kernel
theorem dX5_needRange_13 : decode cX5_needRange 13 = .ok (.dup, 1) := by decide +kernel
theorem dX5_needRange_14 : decode cX5_needRange 14 = .ok (.invokespecial 209, 3) := by decide +kernel
theorem dX5_needRange_17 : decode cX5_needRange 17 = .ok (.athrow, 1) := by decide +kernel
theorem dX5_needRange_18 : decode cX5_needRange 18 = .ok (.return_, 1) := by decide +kernel
theorem dX5_needState_0 : decode cX5_needState 0 = .ok (.iload_n 0, 1) := by decide +kernel
theorem dX5_needState_1 : decode cX5_needState 1 = .ok (.ifCond .ne 11, 3) := by decide +kernel
theorem dX5_needState_4 : decode cX5_needState 4 = .ok (.new 210, 3) := by decide +kernel
theorem dX5_needState_7 : decode cX5_needState 7 = .ok (.dup, 1) := by decide +kernel
theorem dX5_needState_8 : decode cX5_needState 8 = .ok (.invokespecial 212, 3) := by decide +kernel
theorem dX5_needState_11 : decode cX5_needState 11 = .ok (.athrow, 1) := by decide +kernel
theorem dX5_needState_12 : decode cX5_needState 12 = .ok (.return_, 1) := by decide +kernel
set_option maxRecDepth 20000 in
theorem ggX5_passOneMonth_X5_letSnow : GoodIn wsX5_passOneMonth wsX5_letSnow := goodIn_r _ [6, 7, 8, 9, 10, 11, 12, 178, 179, 180, 181, 182, 183, 184, 185, 186, 187, 188, 189, 190, 191, 192, 193, 194] (by decide +kernel) (by decide +kernel)
set_option maxRecDepth 20000 in
theorem gX5_passOneMonth_X5_letSnow : GoodIn wsX5_passOneMonth (wsV RX5 213 RX5 yX5_letSnow wsX5_letSnow) := goodIn_app (goodIn_of _ (by decide +kernel)) ggX5_passOneMonth_X5_letSnow
set_option maxRecDepth 20000 in
theorem ggX5_passOneMonth_X5_leadHeat : GoodIn wsX5_passOneMonth wsX5_leadHeat := goodIn_r _ [16, 7, 17, 18, 19, 20, 21, 22, 23, 24, 25, 11, 26, 27, 28, 29, 30, 31, 32, 33, 34, 35, 36, 37, 38, 39, 40, 41, 42, 43, 44, 45, 46, 47, 48, 49, 50, 178, 179, 180, 181, 182, 183, 184, 185, 186, 187, 188, 189, 190, 191, 192, 193, 194, 195, 196, 197, 198] (by decide +kernel) (by decide +kernel)
set_option maxRecDepth 20000 in
theorem gX5_passOneMonth_X5_leadHeat : GoodIn wsX5_passOneMonth (wsV RX5 216 RX5 yX5_leadHeat wsX5_leadHeat) := goodIn_app (goodIn_of _ (by decide +kernel)) ggX5_passOneMonth_X5_leadHeat
set_option maxRecDepth 20000 in
theorem ggX5_passOneMonth_X5_heatByHouses : GoodIn wsX5_passOneMonth wsX5_heatByHouses := goodIn_r _ [54, 55, 56, 57, 7, 58, 59, 60, 17, 61, 62, 63, 64, 65, 66, 67, 68, 69, 70, 71, 72, 73, 74, 75, 76, 77, 78, 79, 80, 81, 82, 83, 178, 179, 180, 181, 182, 183, 184, 185, 186, 187, 199, 200, 201, 202, 203, 188, 189, 190, 191, 192, 193, 194, 195, 196, 197, 198, 204, 205, 206] (by decide +kernel) (by decide +kernel)
set_option maxRecDepth 20000 in
theorem gX5_passOneMonth_X5_heatByHouses : GoodIn wsX5_passOneMonth (wsV RX5 220 RX5 yX5_heatByHouses wsX5_heatByHouses) := goodIn_app (goodIn_of _ (by decide +kernel)) ggX5_passOneMonth_X5_heatByHouses
set_option maxRecDepth 20000 in
theorem ggX5_passOneMonth_X5_letMeltedExcessOut : GoodIn wsX5_passOneMonth wsX5_letMeltedExcessOut := goodIn_r _ [87, 7, 88, 89, 90, 21, 91, 23, 92, 45, 93, 94, 95, 32, 96, 39, 97, 25, 11, 26, 40, 34, 98, 99, 100, 101, 102, 10, 12, 35, 36, 37, 38, 178, 179, 180, 181, 182, 183, 184, 185, 186, 187, 188, 189, 190, 191, 192, 193, 194, 195, 196, 197, 198] (by decide +kernel) (by decide +kernel)
set_option maxRecDepth 20000 in
theorem gX5_passOneMonth_X5_letMeltedExcessOut : GoodIn wsX5_passOneMonth (wsV RX5 223 RX5 yX5_letMeltedExcessOut wsX5_letMeltedExcessOut) := goodIn_app (goodIn_of _ (by decide +kernel)) ggX5_passOneMonth_X5_letMeltedExcessOut
set_option maxRecDepth 20000 in
theorem ggX5_passOneMonth_X5_letPondsFlow : GoodIn wsX5_passOneMonth wsX5_letPondsFlow := goodIn_r _ [106, 7, 107, 9, 10, 11, 12, 108, 109, 110, 5, 111, 112, 113, 114, 115, 116, 117, 118, 21, 119, 92, 45, 178, 179, 180, 181, 182, 183, 184, 185, 186, 187, 188, 189, 190, 191, 192, 193, 194] (by decide +kernel) (by decide +kernel)
set_option maxRecDepth 20000 in
theorem gX5_passOneMonth_X5_letPondsFlow : GoodIn wsX5_passOneMonth (wsV RX5 226 RX5 yX5_letPondsFlow wsX5_letPondsFlow) := goodIn_app (goodIn_of _ (by decide +kernel)) ggX5_passOneMonth_X5_letPondsFlow
set_option maxRecDepth 20000 in
theorem ggX5_passOneMonth_X5_crackColdest : GoodIn wsX5_passOneMonth wsX5_crackColdest := goodIn_r _ [123, 7, 124, 125, 126, 21, 127, 23, 29, 30, 31, 32, 33, 34, 35, 36, 37, 38, 39, 40, 128, 129, 130, 131, 132, 45, 133, 92, 50, 178, 179, 180, 181, 182, 183, 184, 185, 186, 187, 188, 189, 190, 191, 192, 193, 194, 195, 196, 197, 198] (by decide +kernel) (by decide +kernel)
set_option maxRecDepth 20000 in
theorem gX5_passOneMonth_X5_crackColdest : GoodIn wsX5_passOneMonth (wsV RX5 229 RX5 yX5_crackColdest wsX5_crackColdest) := goodIn_app (goodIn_of _ (by decide +kernel)) ggX5_passOneMonth_X5_crackColdest
set_option maxRecDepth 20000 in
theorem ggX5_passOneMonth_X5_wakeCarbon : GoodIn wsX5_passOneMonth wsX5_wakeCarbon := goodIn_r _ [137, 7, 138, 139, 59, 140, 141, 42, 43, 21, 44, 45, 142, 143, 144, 145, 23, 146, 147, 148, 32, 149, 97, 25, 11, 26, 150, 102, 10, 12, 151, 30, 31, 33, 34, 35, 36, 37, 38, 39, 40, 178, 179, 180, 181, 182, 183, 184, 185, 186, 187, 188, 189, 190, 191, 192, 193, 194, 195, 196, 197, 198] (by decide +kernel) (by decide +kernel)
set_option maxRecDepth 20000 in
theorem gX5_passOneMonth_X5_wakeCarbon : GoodIn wsX5_passOneMonth (wsV RX5 232 RX5 yX5_wakeCarbon wsX5_wakeCarbon) := goodIn_app (goodIn_of _ (by decide +kernel)) ggX5_passOneMonth_X5_wakeCarbon
set_option maxRecDepth 20000 in
theorem ggX5_passOneMonth_X5_tiltHouses : GoodIn wsX5_passOneMonth wsX5_tiltHouses := goodIn_r _ [155, 55, 56, 7, 58, 59, 156, 157, 61, 62, 63, 64, 65, 66, 67, 68, 69, 70, 71, 72, 73, 74, 75, 76, 77, 78, 79, 80, 81, 82, 83, 158, 159, 160, 32, 161, 34, 178, 179, 180, 181, 182, 183, 184, 185, 186, 187, 199, 200, 201, 202, 203, 188, 189, 190, 191, 192, 193, 194, 204, 205, 206, 195, 196, 197, 198] (by decide +kernel) (by decide +kernel)
set_option maxRecDepth 20000 in
theorem gX5_passOneMonth_X5_tiltHouses : GoodIn wsX5_passOneMonth (wsV RX5 235 RX5 yX5_tiltHouses wsX5_tiltHouses) := goodIn_app (goodIn_of _ (by decide +kernel)) ggX5_passOneMonth_X5_tiltHouses
set_option maxRecDepth 20000 in
theorem ggX5_passOneMonth_X5_readBoreholes : GoodIn wsX5_passOneMonth wsX5_readBoreholes := goodIn_r _ [165, 166, 167, 7, 168, 59, 61, 62, 63, 64, 65, 66, 67, 68, 69, 70, 71, 72, 73, 74, 75, 76, 77, 78, 79, 80, 81, 82, 83, 169, 170, 171, 172, 173, 174, 175, 176, 177, 30, 31, 32, 33, 34, 35, 36, 37, 38, 39, 40, 178, 179, 180, 181, 182, 183, 184, 185, 186, 187, 207, 208, 209, 210, 211, 188, 189, 190, 191, 192, 193, 194, 204, 205, 206, 195, 196, 197, 198] (by decide +kernel) (by decide +kernel)
set_option maxRecDepth 20000 in
theorem gX5_passOneMonth_X5_readBoreholes : GoodIn wsX5_passOneMonth (wsV RX5 238 RX5 yX5_readBoreholes wsX5_readBoreholes) := goodIn_app (goodIn_of _ (by decide +kernel)) ggX5_passOneMonth_X5_readBoreholes
theorem dX5_passOneMonth_0 : decode cX5_passOneMonth 0 = .ok (.aload_n 0, 1) := by decide +kernel
theorem dX5_passOneMonth_1 : decode cX5_passOneMonth 1 = .ok (.iload_n 1, 1) := by decide +kernel
theorem dX5_passOneMonth_2 : decode cX5_passOneMonth 2 = .ok (.iload_n 2, 1) := by decide +kernel
theorem dX5_passOneMonth_3 : decode cX5_passOneMonth 3 = .ok (.invokevirtual 213, 3) := by decide +kernel
theorem dX5_passOneMonth_6 : decode cX5_passOneMonth 6 = .ok (.aload_n 0, 1) := by decide +kernel
theorem dX5_passOneMonth_7 : decode cX5_passOneMonth 7 = .ok (.iload_n 1, 1) := by decide +kernel
theorem dX5_passOneMonth_8 : decode cX5_passOneMonth 8 = .ok (.invokevirtual 216, 3) := by decide +kernel
theorem dX5_passOneMonth_11 : decode cX5_passOneMonth 11 = .ok (.aload_n 0, 1) := by decide +kernel
theorem dX5_passOneMonth_12 : decode cX5_passOneMonth 12 = .ok (.iload_n 1, 1) := by decide +kernel
theorem dX5_passOneMonth_13 : decode cX5_passOneMonth 13 = .ok (.invokevirtual 220, 3) := by decide +kernel
theorem dX5_passOneMonth_16 : decode cX5_passOneMonth 16 = .ok (.aload_n 0, 1) := by decide +kernel
