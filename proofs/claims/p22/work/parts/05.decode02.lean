theorem dX5_passOneMonth_17 : decode cX5_passOneMonth 17 = .ok (.invokevirtual 223, 3) := by decide +kernel
theorem dX5_passOneMonth_20 : decode cX5_passOneMonth 20 = .ok (.aload_n 0, 1) := by decide +kernel
theorem dX5_passOneMonth_21 : decode cX5_passOneMonth 21 = .ok (.invokevirtual 226, 3) := by decide +kernel
theorem dX5_passOneMonth_24 : decode cX5_passOneMonth 24 = .ok (.aload_n 0, 1) := by decide +kernel
theorem dX5_passOneMonth_25 : decode cX5_passOneMonth 25 = .ok (.iload_n 1, 1) := by decide +kernel
theorem dX5_passOneMonth_26 : decode cX5_passOneMonth 26 = .ok (.invokevirtual 229, 3) := by decide +kernel
theorem dX5_passOneMonth_29 : decode cX5_passOneMonth 29 = .ok (.aload_n 0, 1) := by decide +kernel
theorem dX5_passOneMonth_30 : decode cX5_passOneMonth 30 = .ok (.iload_n 1, 1) := by decide +kernel
theorem dX5_passOneMonth_31 : decode cX5_passOneMonth 31 = .ok (.invokevirtual 232, 3) := by decide +kernel
theorem dX5_passOneMonth_34 : decode cX5_passOneMonth 34 = .ok (.aload_n 0, 1) := by decide +kernel
theorem dX5_passOneMonth_35 : decode cX5_passOneMonth 35 = .ok (.invokevirtual 235, 3) := by decide +kernel
theorem dX5_passOneMonth_38 : decode cX5_passOneMonth 38 = .ok (.aload_n 0, 1) := by decide +kernel
theorem dX5_passOneMonth_39 : decode cX5_passOneMonth 39 = .ok (.invokevirtual 238, 3) := by decide +kernel
theorem dX5_passOneMonth_42 : decode cX5_passOneMonth 42 = .ok (.aload_n 0, 1) := by decide +kernel
theorem dX5_passOneMonth_43 : decode cX5_passOneMonth 43 = .ok (.dup, 1) := by decide +kernel
theorem dX5_passOneMonth_44 : decode cX5_passOneMonth 44 = .ok (.getfield 82, 3) := by decide +kernel
theorem dX5_passOneMonth_47 : decode cX5_passOneMonth 47 = .ok (.iconst 1, 1) := by decide +kernel
theorem dX5_passOneMonth_48 : decode cX5_passOneMonth 48 = .ok (.iadd, 1) := by decide +kernel
theorem dX5_passOneMonth_49 : decode cX5_passOneMonth 49 = .ok (.putfield 82, 3) := by decide +kernel
theorem dX5_passOneMonth_52 : decode cX5_passOneMonth 52 = .ok (.return_, 1) := by decide +kernel
theorem dX5_letSnow_0 : decode cX5_letSnow 0 = .ok (.iconst 0, 1) := by decide +kernel
theorem dX5_letSnow_1 : decode cX5_letSnow 1 = .ok (.istore_n 3, 1) := by decide +kernel
theorem dX5_letSnow_2 : decode cX5_letSnow 2 = .ok (.iload_n 3, 1) := by decide +kernel
theorem dX5_letSnow_3 : decode cX5_letSnow 3 = .ok (.aload_n 0, 1) := by decide +kernel
theorem dX5_letSnow_4 : decode cX5_letSnow 4 = .ok (.getfield 11, 3) := by decide +kernel
theorem dX5_letSnow_7 : decode cX5_letSnow 7 = .ok (.arraylength, 1) := by decide +kernel
theorem dX5_letSnow_8 : decode cX5_letSnow 8 = .ok (.if_icmp .ge 42, 3) := by decide +kernel
theorem dX5_letSnow_11 : decode cX5_letSnow 11 = .ok (.aload_n 0, 1) := by decide +kernel
theorem dX5_letSnow_12 : decode cX5_letSnow 12 = .ok (.getfield 11, 3) := by decide +kernel
theorem dX5_letSnow_15 : decode cX5_letSnow 15 = .ok (.iload_n 3, 1) := by decide +kernel
theorem dX5_letSnow_16 : decode cX5_letSnow 16 = .ok (.aaload, 1) := by decide +kernel
theorem dX5_letSnow_17 : decode cX5_letSnow 17 = .ok (.iload_n 1, 1) := by decide +kernel
theorem dX5_letSnow_18 : decode cX5_letSnow 18 = .ok (.ifCond .ge 22, 3) := by decide +kernel
theorem dX5_letSnow_21 : decode cX5_letSnow 21 = .ok (.aload_n 0, 1) := by decide +kernel
theorem dX5_letSnow_22 : decode cX5_letSnow 22 = .ok (.getfield 11, 3) := by decide +kernel
theorem dX5_letSnow_25 : decode cX5_letSnow 25 = .ok (.iload_n 3, 1) := by decide +kernel
theorem dX5_letSnow_26 : decode cX5_letSnow 26 = .ok (.aaload, 1) := by decide +kernel
theorem dX5_letSnow_27 : decode cX5_letSnow 27 = .ok (.getfield 96, 3) := by decide +kernel
theorem dX5_letSnow_30 : decode cX5_letSnow 30 = .ok (.iload_n 2, 1) := by decide +kernel
theorem dX5_letSnow_31 : decode cX5_letSnow 31 = .ok (.iadd, 1) := by decide +kernel
theorem dX5_letSnow_32 : decode cX5_letSnow 32 = .ok (.bipush 9, 2) := by decide +kernel
theorem dX5_letSnow_34 : decode cX5_letSnow 34 = .ok (.invokestatic 241, 3) := by decide +kernel
theorem dX5_letSnow_37 : decode cX5_letSnow 37 = .ok (.goto 4, 3) := by decide +kernel
theorem dX5_letSnow_40 : decode cX5_letSnow 40 = .ok (.iconst 0, 1) := by decide +kernel
theorem dX5_letSnow_41 : decode cX5_letSnow 41 = .ok (.putfield 96, 3) := by decide +kernel
theorem dX5_letSnow_44 : decode cX5_letSnow 44 = .ok (.iinc 3 1, 3) := by decide +kernel
theorem dX5_letSnow_47 : decode cX5_letSnow 47 = .ok (.goto (-45), 3) := by decide +kernel
theorem dX5_letSnow_50 : decode cX5_letSnow 50 = .ok (.return_, 1) := by decide +kernel
set_option maxRecDepth 20000 in
theorem ggX5_leadHeat_X1_heatFromAir : GoodIn wsX5_leadHeat wsX1_heatFromAir := goodIn_r _ [7, 8, 9, 10, 11, 12, 13, 14, 15, 16, 17, 18, 19, 20, 21, 22, 23, 24, 25, 26, 27, 28, 29, 6, 30, 31, 47, 48, 49, 50, 51, 52, 53, 54, 55, 56, 57] (by decide +kernel) (by decide +kernel)
set_option maxRecDepth 20000 in
theorem gX5_leadHeat_X1_heatFromAir : GoodIn wsX5_leadHeat (wsV RX5 246 RX1 yX1_heatFromAir wsX1_heatFromAir) := goodIn_app (goodIn_of _ (by decide +kernel)) ggX5_leadHeat_X1_heatFromAir
set_option maxRecDepth 20000 in
theorem ggX5_leadHeat_X1_leadDown : GoodIn wsX5_leadHeat wsX1_leadDown := goodIn_r _ [35, 8, 36, 15, 16, 17, 18, 19, 20, 21, 22, 23, 24, 25, 26, 47, 48, 49, 50, 51, 52, 53, 54, 55, 56, 57] (by decide +kernel) (by decide +kernel)
set_option maxRecDepth 20000 in
theorem gX5_leadHeat_X1_leadDown : GoodIn wsX5_leadHeat (wsV RX5 249 RX1 yX1_leadDown wsX1_leadDown) := goodIn_app (goodIn_of _ (by decide +kernel)) ggX5_leadHeat_X1_leadDown
theorem dX5_leadHeat_0 : decode cX5_leadHeat 0 = .ok (.iconst 0, 1) := by decide +kernel
theorem dX5_leadHeat_1 : decode cX5_leadHeat 1 = .ok (.istore_n 2, 1) := by decide +kernel
theorem dX5_leadHeat_2 : decode cX5_leadHeat 2 = .ok (.iload_n 2, 1) := by decide +kernel
theorem dX5_leadHeat_3 : decode cX5_leadHeat 3 = .ok (.aload_n 0, 1) := by decide +kernel
theorem dX5_leadHeat_4 : decode cX5_leadHeat 4 = .ok (.getfield 11, 3) := by decide +kernel
theorem dX5_leadHeat_7 : decode cX5_leadHeat 7 = .ok (.arraylength, 1) := by decide +kernel
theorem dX5_leadHeat_8 : decode cX5_leadHeat 8 = .ok (.if_icmp .ge 46, 3) := by decide +kernel
theorem dX5_leadHeat_11 : decode cX5_leadHeat 11 = .ok (.aload_n 0, 1) := by decide +kernel
theorem dX5_leadHeat_12 : decode cX5_leadHeat 12 = .ok (.getfield 11, 3) := by decide +kernel
theorem dX5_leadHeat_15 : decode cX5_leadHeat 15 = .ok (.iload_n 2, 1) := by decide +kernel
theorem dX5_leadHeat_16 : decode cX5_leadHeat 16 = .ok (.aaload, 1) := by decide +kernel
theorem dX5_leadHeat_17 : decode cX5_leadHeat 17 = .ok (.iload_n 1, 1) := by decide +kernel
theorem dX5_leadHeat_18 : decode cX5_leadHeat 18 = .ok (.invokevirtual 246, 3) := by decide +kernel
theorem dX5_leadHeat_21 : decode cX5_leadHeat 21 = .ok (.istore_n 3, 1) := by decide +kernel
theorem dX5_leadHeat_22 : decode cX5_leadHeat 22 = .ok (.aload_n 0, 1) := by decide +kernel
theorem dX5_leadHeat_23 : decode cX5_leadHeat 23 = .ok (.getfield 11, 3) := by decide +kernel
theorem dX5_leadHeat_26 : decode cX5_leadHeat 26 = .ok (.iload_n 2, 1) := by decide +kernel
theorem dX5_leadHeat_27 : decode cX5_leadHeat 27 = .ok (.aaload, 1) := by decide +kernel
theorem dX5_leadHeat_28 : decode cX5_leadHeat 28 = .ok (.iload_n 3, 1) := by decide +kernel
theorem dX5_leadHeat_29 : decode cX5_leadHeat 29 = .ok (.bipush 10, 2) := by decide +kernel
theorem dX5_leadHeat_31 : decode cX5_leadHeat 31 = .ok (.invokevirtual 249, 3) := by decide +kernel
theorem dX5_leadHeat_34 : decode cX5_leadHeat 34 = .ok (.aload_n 0, 1) := by decide +kernel
theorem dX5_leadHeat_35 : decode cX5_leadHeat 35 = .ok (.getfield 28, 3) := by decide +kernel
theorem dX5_leadHeat_38 : decode cX5_leadHeat 38 = .ok (.iconst 0, 1) := by decide +kernel
theorem dX5_leadHeat_39 : decode cX5_leadHeat 39 = .ok (.dup2, 1) := by decide +kernel
theorem dX5_leadHeat_40 : decode cX5_leadHeat 40 = .ok (.laload, 1) := by decide +kernel
theorem dX5_leadHeat_41 : decode cX5_leadHeat 41 = .ok (.iload_n 3, 1) := by decide +kernel
theorem dX5_leadHeat_42 : decode cX5_leadHeat 42 = .ok (.bipush 10, 2) := by decide +kernel
theorem dX5_leadHeat_44 : decode cX5_leadHeat 44 = .ok (.iadd, 1) := by decide +kernel
theorem dX5_leadHeat_45 : decode cX5_leadHeat 45 = .ok (.i2l, 1) := by decide +kernel
theorem dX5_leadHeat_46 : decode cX5_leadHeat 46 = .ok (.ladd, 1) := by decide +kernel
theorem dX5_leadHeat_47 : decode cX5_leadHeat 47 = .ok (.lastore, 1) := by decide +kernel
theorem dX5_leadHeat_48 : decode cX5_leadHeat 48 = .ok (.iinc 2 1, 3) := by decide +kernel
theorem dX5_leadHeat_51 : decode cX5_leadHeat 51 = .ok (.goto (-49), 3) := by decide +kernel
theorem dX5_leadHeat_54 : decode cX5_leadHeat 54 = .ok (.return_, 1) := by decide +kernel
set_option maxRecDepth 20000 in
theorem ggX5_heatByHouses_Jx4a65c_size_8abf5 : GoodIn wsX5_heatByHouses wsJx4a65c_size_8abf5 := goodIn_r _ [13, 14, 58, 59, 60] (by decide +kernel) (by decide +kernel)
set_option maxRecDepth 20000 in
theorem gX5_heatByHouses_Jx4a65c_size_8abf5 : GoodIn wsX5_heatByHouses (wsV RX5 112 RJx4a65c yJx4a65c_size_8abf5 wsJx4a65c_size_8abf5) := goodIn_app (goodIn_of _ (by decide +kernel)) ggX5_heatByHouses_Jx4a65c_size_8abf5
set_option maxRecDepth 20000 in
theorem ggX5_heatByHouses_Jx4a65c_get_915e3 : GoodIn wsX5_heatByHouses wsJx4a65c_get_915e3 := goodIn_r _ [18, 14, 19, 20, 21, 22, 23, 24, 25, 26, 27, 28, 29, 12, 30, 31, 58, 59, 60] (by decide +kernel) (by decide +kernel)
set_option maxRecDepth 20000 in
theorem gX5_heatByHouses_Jx4a65c_get_915e3 : GoodIn wsX5_heatByHouses (wsV RX5 129 RJx4a65c yJx4a65c_get_915e3 wsJx4a65c_get_915e3) := goodIn_app (goodIn_of _ (by decide +kernel)) ggX5_heatByHouses_Jx4a65c_get_915e3
theorem dX5_heatByHouses_0 : decode cX5_heatByHouses 0 = .ok (.iconst 0, 1) := by decide +kernel
theorem dX5_heatByHouses_1 : decode cX5_heatByHouses 1 = .ok (.istore_n 2, 1) := by decide +kernel
theorem dX5_heatByHouses_2 : decode cX5_heatByHouses 2 = .ok (.iload_n 2, 1) := by decide +kernel
theorem dX5_heatByHouses_3 : decode cX5_heatByHouses 3 = .ok (.aload_n 0, 1) := by decide +kernel
theorem dX5_heatByHouses_4 : decode cX5_heatByHouses 4 = .ok (.getfield 18, 3) := by decide +kernel
theorem dX5_heatByHouses_7 : decode cX5_heatByHouses 7 = .ok (.invokevirtual 112, 3) := by decide +kernel
theorem dX5_heatByHouses_10 : decode cX5_heatByHouses 10 = .ok (.if_icmp .ge 79, 3) := by decide +kernel
theorem dX5_heatByHouses_13 : decode cX5_heatByHouses 13 = .ok (.aload_n 0, 1) := by decide +kernel
theorem dX5_heatByHouses_14 : decode cX5_heatByHouses 14 = .ok (.getfield 18, 3) := by decide +kernel
theorem dX5_heatByHouses_17 : decode cX5_heatByHouses 17 = .ok (.iload_n 2, 1) := by decide +kernel
theorem dX5_heatByHouses_18 : decode cX5_heatByHouses 18 = .ok (.invokevirtual 129, 3) := by decide +kernel
theorem dX5_heatByHouses_21 : decode cX5_heatByHouses 21 = .ok (.checkcast 116, 3) := by decide +kernel
theorem dX5_heatByHouses_24 : decode cX5_heatByHouses 24 = .ok (.astore_n 3, 1) := by decide +kernel
theorem dX5_heatByHouses_25 : decode cX5_heatByHouses 25 = .ok (.sipush 300, 3) := by decide +kernel
theorem dX5_heatByHouses_28 : decode cX5_heatByHouses 28 = .ok (.istore 4, 2) := by decide +kernel
theorem dX5_heatByHouses_30 : decode cX5_heatByHouses 30 = .ok (.aload_n 3, 1) := by decide +kernel
theorem dX5_heatByHouses_31 : decode cX5_heatByHouses 31 = .ok (.getfield 252, 3) := by decide +kernel
theorem dX5_heatByHouses_34 : decode cX5_heatByHouses 34 = .ok (.ifCond .eq 13, 3) := by decide +kernel
theorem dX5_heatByHouses_37 : decode cX5_heatByHouses 37 = .ok (.iload_n 1, 1) := by decide +kernel
theorem dX5_heatByHouses_38 : decode cX5_heatByHouses 38 = .ok (.ifCond .ge 9, 3) := by decide +kernel
theorem dX5_heatByHouses_41 : decode cX5_heatByHouses 41 = .ok (.iinc 4 (-300), 6) := by decide +kernel
theorem dX5_heatByHouses_47 : decode cX5_heatByHouses 47 = .ok (.aload_n 0, 1) := by decide +kernel
theorem dX5_heatByHouses_48 : decode cX5_heatByHouses 48 = .ok (.getfield 11, 3) := by decide +kernel
theorem dX5_heatByHouses_51 : decode cX5_heatByHouses 51 = .ok (.aload_n 3, 1) := by decide +kernel
theorem dX5_heatByHouses_52 : decode cX5_heatByHouses 52 = .ok (.getfield 180, 3) := by decide +kernel
theorem dX5_heatByHouses_55 : decode cX5_heatByHouses 55 = .ok (.aaload, 1) := by decide +kernel
theorem dX5_heatByHouses_56 : decode cX5_heatByHouses 56 = .ok (.getfield 56, 3) := by decide +kernel
theorem dX5_heatByHouses_59 : decode cX5_heatByHouses 59 = .ok (.iconst 0, 1) := by decide +kernel
theorem dX5_heatByHouses_60 : decode cX5_heatByHouses 60 = .ok (.aaload, 1) := by decide +kernel
theorem dX5_heatByHouses_61 : decode cX5_heatByHouses 61 = .ok (.dup, 1) := by decide +kernel
theorem dX5_heatByHouses_62 : decode cX5_heatByHouses 62 = .ok (.getfield 73, 3) := by decide +kernel
theorem dX5_heatByHouses_65 : decode cX5_heatByHouses 65 = .ok (.iload 4, 2) := by decide +kernel
theorem dX5_heatByHouses_67 : decode cX5_heatByHouses 67 = .ok (.iadd, 1) := by decide +kernel
theorem dX5_heatByHouses_68 : decode cX5_heatByHouses 68 = .ok (.putfield 73, 3) := by decide +kernel
theorem dX5_heatByHouses_71 : decode cX5_heatByHouses 71 = .ok (.aload_n 0, 1) := by decide +kernel
theorem dX5_heatByHouses_72 : decode cX5_heatByHouses 72 = .ok (.getfield 28, 3) := by decide +kernel
theorem dX5_heatByHouses_75 : decode cX5_heatByHouses 75 = .ok (.iconst 0, 1) := by decide +kernel
theorem dX5_heatByHouses_76 : decode cX5_heatByHouses 76 = .ok (.dup2, 1) := by decide +kernel
theorem dX5_heatByHouses_77 : decode cX5_heatByHouses 77 = .ok (.laload, 1) := by decide +kernel
theorem dX5_heatByHouses_78 : decode cX5_heatByHouses 78 = .ok (.iload 4, 2) := by decide +kernel
theorem dX5_heatByHouses_80 : decode cX5_heatByHouses 80 = .ok (.i2l, 1) := by decide +kernel
theorem dX5_heatByHouses_81 : decode cX5_heatByHouses 81 = .ok (.ladd, 1) := by decide +kernel
theorem dX5_heatByHouses_82 : decode cX5_heatByHouses 82 = .ok (.lastore, 1) := by decide +kernel
theorem dX5_heatByHouses_83 : decode cX5_heatByHouses 83 = .ok (.iinc 2 1, 3) := by decide +kernel
theorem dX5_heatByHouses_86 : decode cX5_heatByHouses 86 = .ok (.goto (-84), 3) := by decide +kernel
theorem dX5_heatByHouses_89 : decode cX5_heatByHouses 89 = .ok (.return_, 1) := by decide +kernel
set_option maxRecDepth 20000 in
theorem ggX5_letMeltedExcessOut_X1_letMeltedExcessOut : GoodIn wsX5_letMeltedExcessOut wsX1_letMeltedExcessOut := goodIn_r _ [6, 7, 8, 9, 10, 11, 12, 13, 14, 15, 16, 17, 18, 19, 20, 21, 22, 23, 24, 25, 26, 27, 28, 29, 30, 31, 32, 43, 44, 45, 46, 47, 48, 49, 50, 51, 52, 53] (by decide +kernel) (by decide +kernel)
set_option maxRecDepth 20000 in
theorem gX5_letMeltedExcessOut_X1_letMeltedExcessOut : GoodIn wsX5_letMeltedExcessOut (wsV RX5 256 RX1 yX1_letMeltedExcessOut wsX1_letMeltedExcessOut) := goodIn_app (goodIn_of _ (by decide +kernel)) ggX5_letMeltedExcessOut_X1_letMeltedExcessOut
theorem dX5_letMeltedExcessOut_0 : decode cX5_letMeltedExcessOut 0 = .ok (.iconst 0, 1) := by decide +kernel
theorem dX5_letMeltedExcessOut_1 : decode cX5_letMeltedExcessOut 1 = .ok (.istore_n 1, 1) := by decide +kernel
theorem dX5_letMeltedExcessOut_2 : decode cX5_letMeltedExcessOut 2 = .ok (.iload_n 1, 1) := by decide +kernel
theorem dX5_letMeltedExcessOut_3 : decode cX5_letMeltedExcessOut 3 = .ok (.aload_n 0, 1) := by decide +kernel
theorem dX5_letMeltedExcessOut_4 : decode cX5_letMeltedExcessOut 4 = .ok (.getfield 11, 3) := by decide +kernel
theorem dX5_letMeltedExcessOut_7 : decode cX5_letMeltedExcessOut 7 = .ok (.arraylength, 1) := by decide +kernel
theorem dX5_letMeltedExcessOut_8 : decode cX5_letMeltedExcessOut 8 = .ok (.if_icmp .ge 18, 3) := by decide +kernel
theorem dX5_letMeltedExcessOut_11 : decode cX5_letMeltedExcessOut 11 = .ok (.aload_n 0, 1) := by decide +kernel
theorem dX5_letMeltedExcessOut_12 : decode cX5_letMeltedExcessOut 12 = .ok (.getfield 11, 3) := by decide +kernel
theorem dX5_letMeltedExcessOut_15 : decode cX5_letMeltedExcessOut 15 = .ok (.iload_n 1, 1) := by decide +kernel
theorem dX5_letMeltedExcessOut_16 : decode cX5_letMeltedExcessOut 16 = .ok (.aaload, 1) := by decide +kernel
theorem dX5_letMeltedExcessOut_17 : decode cX5_letMeltedExcessOut 17 = .ok (.invokevirtual 256, 3) := by decide +kernel
theorem dX5_letMeltedExcessOut_20 : decode cX5_letMeltedExcessOut 20 = .ok (.iinc 1 1, 3) := by decide +kernel
theorem dX5_letMeltedExcessOut_23 : decode cX5_letMeltedExcessOut 23 = .ok (.goto (-21), 3) := by decide +kernel
theorem dX5_letMeltedExcessOut_26 : decode cX5_letMeltedExcessOut 26 = .ok (.return_, 1) := by decide +kernel
set_option maxRecDepth 20000 in
theorem ggX5_letPondsFlow_X5_lowestNeighbour : GoodIn wsX5_letPondsFlow wsX5_lowestNeighbour := goodIn_r _ [11, 12, 1, 13, 14, 10, 15, 16, 17, 18, 19, 20, 21, 22, 23, 24, 25, 26, 27, 28, 29, 30, 31, 32, 33, 34, 35, 36, 37, 38, 39] (by decide +kernel) (by decide +kernel)
set_option maxRecDepth 20000 in
theorem gX5_letPondsFlow_X5_lowestNeighbour : GoodIn wsX5_letPondsFlow (wsV RX5 257 RX5 yX5_lowestNeighbour wsX5_lowestNeighbour) := goodIn_app (goodIn_of _ (by decide +kernel)) ggX5_letPondsFlow_X5_lowestNeighbour
set_option maxRecDepth 20000 in
theorem ggX5_letPondsFlow_X1_level : GoodIn wsX5_letPondsFlow wsX1_level := goodIn_r _ [20, 21, 22, 33, 34, 35, 36, 37, 38, 39] (by decide +kernel) (by decide +kernel)
set_option maxRecDepth 20000 in
theorem gX5_letPondsFlow_X1_level : GoodIn wsX5_letPondsFlow (wsV RX5 260 RX1 yX1_level wsX1_level) := goodIn_app (goodIn_of _ (by decide +kernel)) ggX5_letPondsFlow_X1_level
theorem dX5_letPondsFlow_0 : decode cX5_letPondsFlow 0 = .ok (.iconst 0, 1) := by decide +kernel
theorem dX5_letPondsFlow_1 : decode cX5_letPondsFlow 1 = .ok (.istore_n 1, 1) := by decide +kernel
theorem dX5_letPondsFlow_2 : decode cX5_letPondsFlow 2 = .ok (.iload_n 1, 1) := by decide +kernel
theorem dX5_letPondsFlow_3 : decode cX5_letPondsFlow 3 = .ok (.bipush 25, 2) := by decide +kernel
theorem dX5_letPondsFlow_5 : decode cX5_letPondsFlow 5 = .ok (.if_icmp .ge 94, 3) := by decide +kernel
theorem dX5_letPondsFlow_8 : decode cX5_letPondsFlow 8 = .ok (.aload_n 0, 1) := by decide +kernel
theorem dX5_letPondsFlow_9 : decode cX5_letPondsFlow 9 = .ok (.iload_n 1, 1) := by decide +kernel
theorem dX5_letPondsFlow_10 : decode cX5_letPondsFlow 10 = .ok (.invokevirtual 257, 3) := by decide +kernel
theorem dX5_letPondsFlow_13 : decode cX5_letPondsFlow 13 = .ok (.istore_n 2, 1) := by decide +kernel
theorem dX5_letPondsFlow_14 : decode cX5_letPondsFlow 14 = .ok (.iload_n 2, 1) := by decide +kernel
theorem dX5_letPondsFlow_15 : decode cX5_letPondsFlow 15 = .ok (.iconst (-1), 1) := by decide +kernel
theorem dX5_letPondsFlow_16 : decode cX5_letPondsFlow 16 = .ok (.if_icmp .eq 77, 3) := by decide +kernel
theorem dX5_letPondsFlow_19 : decode cX5_letPondsFlow 19 = .ok (.aload_n 0, 1) := by decide +kernel
theorem dX5_letPondsFlow_20 : decode cX5_letPondsFlow 20 = .ok (.getfield 11, 3) := by decide +kernel
theorem dX5_letPondsFlow_23 : decode cX5_letPondsFlow 23 = .ok (.iload_n 1, 1) := by decide +kernel
theorem dX5_letPondsFlow_24 : decode cX5_letPondsFlow 24 = .ok (.aaload, 1) := by decide +kernel
theorem dX5_letPondsFlow_25 : decode cX5_letPondsFlow 25 = .ok (.invokevirtual 260, 3) := by decide +kernel
theorem dX5_letPondsFlow_28 : decode cX5_letPondsFlow 28 = .ok (.aload_n 0, 1) := by decide +kernel
theorem dX5_letPondsFlow_29 : decode cX5_letPondsFlow 29 = .ok (.getfield 11, 3) := by decide +kernel
theorem dX5_letPondsFlow_32 : decode cX5_letPondsFlow 32 = .ok (.iload_n 2, 1) := by decide +kernel
theorem dX5_letPondsFlow_33 : decode cX5_letPondsFlow 33 = .ok (.aaload, 1) := by decide +kernel
theorem dX5_letPondsFlow_34 : decode cX5_letPondsFlow 34 = .ok (.invokevirtual 260, 3) := by decide +kernel
theorem dX5_letPondsFlow_37 : decode cX5_letPondsFlow 37 = .ok (.isub, 1) := by decide +kernel
theorem dX5_letPondsFlow_38 : decode cX5_letPondsFlow 38 = .ok (.istore_n 3, 1) := by decide +kernel
theorem dX5_letPondsFlow_39 : decode cX5_letPondsFlow 39 = .ok (.iload_n 3, 1) := by decide +kernel
theorem dX5_letPondsFlow_40 : decode cX5_letPondsFlow 40 = .ok (.iconst 2, 1) := by decide +kernel
theorem dX5_letPondsFlow_41 : decode cX5_letPondsFlow 41 = .ok (.if_icmp .lt 52, 3) := by decide +kernel
theorem dX5_letPondsFlow_44 : decode cX5_letPondsFlow 44 = .ok (.iload_n 3, 1) := by decide +kernel
theorem dX5_letPondsFlow_45 : decode cX5_letPondsFlow 45 = .ok (.iconst 2, 1) := by decide +kernel
theorem dX5_letPondsFlow_46 : decode cX5_letPondsFlow 46 = .ok (.idiv, 1) := by decide +kernel
theorem dX5_letPondsFlow_47 : decode cX5_letPondsFlow 47 = .ok (.aload_n 0, 1) := by decide +kernel
theorem dX5_letPondsFlow_48 : decode cX5_letPondsFlow 48 = .ok (.getfield 11, 3) := by decide +kernel
theorem dX5_letPondsFlow_51 : decode cX5_letPondsFlow 51 = .ok (.iload_n 1, 1) := by decide +kernel
theorem dX5_letPondsFlow_52 : decode cX5_letPondsFlow 52 = .ok (.aaload, 1) := by decide +kernel
theorem dX5_letPondsFlow_53 : decode cX5_letPondsFlow 53 = .ok (.getfield 99, 3) := by decide +kernel
theorem dX5_letPondsFlow_56 : decode cX5_letPondsFlow 56 = .ok (.invokestatic 241, 3) := by decide +kernel
theorem dX5_letPondsFlow_59 : decode cX5_letPondsFlow 59 = .ok (.istore 4, 2) := by decide +kernel
theorem dX5_letPondsFlow_61 : decode cX5_letPondsFlow 61 = .ok (.aload_n 0, 1) := by decide +kernel
theorem dX5_letPondsFlow_62 : decode cX5_letPondsFlow 62 = .ok (.getfield 11, 3) := by decide +kernel
theorem dX5_letPondsFlow_65 : decode cX5_letPondsFlow 65 = .ok (.iload_n 1, 1) := by decide +kernel
theorem dX5_letPondsFlow_66 : decode cX5_letPondsFlow 66 = .ok (.aaload, 1) := by decide +kernel
theorem dX5_letPondsFlow_67 : decode cX5_letPondsFlow 67 = .ok (.dup, 1) := by decide +kernel
theorem dX5_letPondsFlow_68 : decode cX5_letPondsFlow 68 = .ok (.getfield 99, 3) := by decide +kernel
theorem dX5_letPondsFlow_71 : decode cX5_letPondsFlow 71 = .ok (.iload 4, 2) := by decide +kernel
theorem dX5_letPondsFlow_73 : decode cX5_letPondsFlow 73 = .ok (.isub, 1) := by decide +kernel
theorem dX5_letPondsFlow_74 : decode cX5_letPondsFlow 74 = .ok (.putfield 99, 3) := by decide +kernel
theorem dX5_letPondsFlow_77 : decode cX5_letPondsFlow 77 = .ok (.aload_n 0, 1) := by decide +kernel
theorem dX5_letPondsFlow_78 : decode cX5_letPondsFlow 78 = .ok (.getfield 11, 3) := by decide +kernel
theorem dX5_letPondsFlow_81 : decode cX5_letPondsFlow 81 = .ok (.iload_n 2, 1) := by decide +kernel
theorem dX5_letPondsFlow_82 : decode cX5_letPondsFlow 82 = .ok (.aaload, 1) := by decide +kernel
theorem dX5_letPondsFlow_83 : decode cX5_letPondsFlow 83 = .ok (.dup, 1) := by decide +kernel
theorem dX5_letPondsFlow_84 : decode cX5_letPondsFlow 84 = .ok (.getfield 99, 3) := by decide +kernel
theorem dX5_letPondsFlow_87 : decode cX5_letPondsFlow 87 = .ok (.iload 4, 2) := by decide +kernel
theorem dX5_letPondsFlow_89 : decode cX5_letPondsFlow 89 = .ok (.iadd, 1) := by decide +kernel
theorem dX5_letPondsFlow_90 : decode cX5_letPondsFlow 90 = .ok (.putfield 99, 3) := by decide +kernel
theorem dX5_letPondsFlow_93 : decode cX5_letPondsFlow 93 = .ok (.iinc 1 1, 3) := by decide +kernel
theorem dX5_letPondsFlow_96 : decode cX5_letPondsFlow 96 = .ok (.goto (-94), 3) := by decide +kernel
theorem dX5_letPondsFlow_99 : decode cX5_letPondsFlow 99 = .ok (.return_, 1) := by decide +kernel
set_option maxRecDepth 20000 in
theorem ggX5_lowestNeighbour_X5_stepFrom : GoodIn wsX5_lowestNeighbour wsX5_stepFrom := goodIn_r _ [6] (by decide +kernel) (by decide +kernel)
set_option maxRecDepth 20000 in
theorem gX5_lowestNeighbour_X5_stepFrom : GoodIn wsX5_lowestNeighbour (va_wsS RX5 166 yX5_stepFrom wsX5_stepFrom) := goodIn_app (goodIn_of _ (by decide +kernel)) ggX5_lowestNeighbour_X5_stepFrom
set_option maxRecDepth 20000 in
theorem ggX5_lowestNeighbour_X1_level : GoodIn wsX5_lowestNeighbour wsX1_level := goodIn_r _ [11, 12, 13, 24, 25, 26, 27, 28, 29, 30] (by decide +kernel) (by decide +kernel)
set_option maxRecDepth 20000 in
theorem gX5_lowestNeighbour_X1_level : GoodIn wsX5_lowestNeighbour (wsV RX5 260 RX1 yX1_level wsX1_level) := goodIn_app (goodIn_of _ (by decide +kernel)) ggX5_lowestNeighbour_X1_level
theorem dX5_lowestNeighbour_0 : decode cX5_lowestNeighbour 0 = .ok (.iconst (-1), 1) := by decide +kernel
theorem dX5_lowestNeighbour_1 : decode cX5_lowestNeighbour 1 = .ok (.istore_n 2, 1) := by decide +kernel
theorem dX5_lowestNeighbour_2 : decode cX5_lowestNeighbour 2 = .ok (.iconst 0, 1) := by decide +kernel
theorem dX5_lowestNeighbour_3 : decode cX5_lowestNeighbour 3 = .ok (.istore_n 3, 1) := by decide +kernel
theorem dX5_lowestNeighbour_4 : decode cX5_lowestNeighbour 4 = .ok (.iload_n 3, 1) := by decide +kernel
theorem dX5_lowestNeighbour_5 : decode cX5_lowestNeighbour 5 = .ok (.getstatic 163, 3) := by decide +kernel
theorem dX5_lowestNeighbour_8 : decode cX5_lowestNeighbour 8 = .ok (.arraylength, 1) := by decide +kernel
theorem dX5_lowestNeighbour_9 : decode cX5_lowestNeighbour 9 = .ok (.if_icmp .ge 56, 3) := by decide +kernel
theorem dX5_lowestNeighbour_12 : decode cX5_lowestNeighbour 12 = .ok (.iload_n 1, 1) := by decide +kernel
theorem dX5_lowestNeighbour_13 : decode cX5_lowestNeighbour 13 = .ok (.getstatic 163, 3) := by decide +kernel
theorem dX5_lowestNeighbour_16 : decode cX5_lowestNeighbour 16 = .ok (.iload_n 3, 1) := by decide +kernel
theorem dX5_lowestNeighbour_17 : decode cX5_lowestNeighbour 17 = .ok (.iaload, 1) := by decide +kernel
theorem dX5_lowestNeighbour_18 : decode cX5_lowestNeighbour 18 = .ok (.invokestatic 166, 3) := by decide +kernel
theorem dX5_lowestNeighbour_21 : decode cX5_lowestNeighbour 21 = .ok (.istore 4, 2) := by decide +kernel
theorem dX5_lowestNeighbour_23 : decode cX5_lowestNeighbour 23 = .ok (.iload 4, 2) := by decide +kernel
theorem dX5_lowestNeighbour_25 : decode cX5_lowestNeighbour 25 = .ok (.iconst (-1), 1) := by decide +kernel
theorem dX5_lowestNeighbour_26 : decode cX5_lowestNeighbour 26 = .ok (.if_icmp .eq 33, 3) := by decide +kernel
theorem dX5_lowestNeighbour_29 : decode cX5_lowestNeighbour 29 = .ok (.iload_n 2, 1) := by decide +kernel
theorem dX5_lowestNeighbour_30 : decode cX5_lowestNeighbour 30 = .ok (.iconst (-1), 1) := by decide +kernel
theorem dX5_lowestNeighbour_31 : decode cX5_lowestNeighbour 31 = .ok (.if_icmp .eq 25, 3) := by decide +kernel
theorem dX5_lowestNeighbour_34 : decode cX5_lowestNeighbour 34 = .ok (.aload_n 0, 1) := by decide +kernel
theorem dX5_lowestNeighbour_35 : decode cX5_lowestNeighbour 35 = .ok (.getfield 11, 3) := by decide +kernel
theorem dX5_lowestNeighbour_38 : decode cX5_lowestNeighbour 38 = .ok (.iload 4, 2) := by decide +kernel
theorem dX5_lowestNeighbour_40 : decode cX5_lowestNeighbour 40 = .ok (.aaload, 1) := by decide +kernel
theorem dX5_lowestNeighbour_41 : decode cX5_lowestNeighbour 41 = .ok (.invokevirtual 260, 3) := by decide +kernel
theorem dX5_lowestNeighbour_44 : decode cX5_lowestNeighbour 44 = .ok (.aload_n 0, 1) := by decide +kernel
theorem dX5_lowestNeighbour_45 : decode cX5_lowestNeighbour 45 = .ok (.getfield 11, 3) := by decide +kernel
theorem dX5_lowestNeighbour_48 : decode cX5_lowestNeighbour 48 = .ok (.iload_n 2, 1) := by decide +kernel
theorem dX5_lowestNeighbour_49 : decode cX5_lowestNeighbour 49 = .ok (.aaload, 1) := by decide +kernel
theorem dX5_lowestNeighbour_50 : decode cX5_lowestNeighbour 50 = .ok (.invokevirtual 260, 3) := by decide +kernel
theorem dX5_lowestNeighbour_53 : decode cX5_lowestNeighbour 53 = .ok (.if_icmp .ge 6, 3) := by decide +kernel
theorem dX5_lowestNeighbour_56 : decode cX5_lowestNeighbour 56 = .ok (.iload 4, 2) := by decide +kernel
theorem dX5_lowestNeighbour_58 : decode cX5_lowestNeighbour 58 = .ok (.istore_n 2, 1) := by decide +kernel
theorem dX5_lowestNeighbour_59 : decode cX5_lowestNeighbour 59 = .ok (.iinc 3 1, 3) := by decide +kernel
theorem dX5_lowestNeighbour_62 : decode cX5_lowestNeighbour 62 = .ok (.goto (-58), 3) := by decide +kernel
theorem dX5_lowestNeighbour_65 : decode cX5_lowestNeighbour 65 = .ok (.iload_n 2, 1) := by decide +kernel
theorem dX5_lowestNeighbour_66 : decode cX5_lowestNeighbour 66 = .ok (.ireturn, 1) := by decide +kernel
set_option maxRecDepth 20000 in
theorem ggX5_crackColdest_X1_crackingTemperature : GoodIn wsX5_crackColdest wsX1_crackingTemperature := goodIn_r _ [6, 7, 8, 9, 10, 11, 12, 13, 14, 15, 16, 17, 18, 19, 39, 40, 41, 42, 43, 44, 45, 46, 47, 48, 49] (by decide +kernel) (by decide +kernel)
set_option maxRecDepth 20000 in
theorem gX5_crackColdest_X1_crackingTemperature : GoodIn wsX5_crackColdest (wsV RX5 263 RX1 yX1_crackingTemperature wsX1_crackingTemperature) := goodIn_app (goodIn_of _ (by decide +kernel)) ggX5_crackColdest_X1_crackingTemperature
set_option maxRecDepth 20000 in
theorem ggX5_crackColdest_X1_crack : GoodIn wsX5_crackColdest wsX1_crack := goodIn_r _ [23, 24, 7, 25, 26, 27, 28, 39, 40, 41, 42, 43, 44, 45, 46, 47, 48, 49] (by decide +kernel) (by decide +kernel)
set_option maxRecDepth 20000 in
theorem gX5_crackColdest_X1_crack : GoodIn wsX5_crackColdest (wsV RX5 266 RX1 yX1_crack wsX1_crack) := goodIn_app (goodIn_of _ (by decide +kernel)) ggX5_crackColdest_X1_crack
theorem dX5_crackColdest_0 : decode cX5_crackColdest 0 = .ok (.iload_n 1, 1) := by decide +kernel
theorem dX5_crackColdest_1 : decode cX5_crackColdest 1 = .ok (.bipush (-20), 2) := by decide +kernel
theorem dX5_crackColdest_3 : decode cX5_crackColdest 3 = .ok (.if_icmp .le 4, 3) := by decide +kernel
theorem dX5_crackColdest_6 : decode cX5_crackColdest 6 = .ok (.return_, 1) := by decide +kernel
theorem dX5_crackColdest_7 : decode cX5_crackColdest 7 = .ok (.aload_n 0, 1) := by decide +kernel
theorem dX5_crackColdest_8 : decode cX5_crackColdest 8 = .ok (.getfield 11, 3) := by decide +kernel
theorem dX5_crackColdest_11 : decode cX5_crackColdest 11 = .ok (.iconst 0, 1) := by decide +kernel
theorem dX5_crackColdest_12 : decode cX5_crackColdest 12 = .ok (.aaload, 1) := by decide +kernel
theorem dX5_crackColdest_13 : decode cX5_crackColdest 13 = .ok (.astore_n 2, 1) := by decide +kernel
theorem dX5_crackColdest_14 : decode cX5_crackColdest 14 = .ok (.iconst 1, 1) := by decide +kernel
theorem dX5_crackColdest_15 : decode cX5_crackColdest 15 = .ok (.istore_n 3, 1) := by decide +kernel
theorem dX5_crackColdest_16 : decode cX5_crackColdest 16 = .ok (.iload_n 3, 1) := by decide +kernel
theorem dX5_crackColdest_17 : decode cX5_crackColdest 17 = .ok (.aload_n 0, 1) := by decide +kernel
theorem dX5_crackColdest_18 : decode cX5_crackColdest 18 = .ok (.getfield 11, 3) := by decide +kernel
theorem dX5_crackColdest_21 : decode cX5_crackColdest 21 = .ok (.arraylength, 1) := by decide +kernel
theorem dX5_crackColdest_22 : decode cX5_crackColdest 22 = .ok (.if_icmp .ge 32, 3) := by decide +kernel
theorem dX5_crackColdest_25 : decode cX5_crackColdest 25 = .ok (.aload_n 0, 1) := by decide +kernel
theorem dX5_crackColdest_26 : decode cX5_crackColdest 26 = .ok (.getfield 11, 3) := by decide +kernel
theorem dX5_crackColdest_29 : decode cX5_crackColdest 29 = .ok (.iload_n 3, 1) := by decide +kernel
theorem dX5_crackColdest_30 : decode cX5_crackColdest 30 = .ok (.aaload, 1) := by decide +kernel
theorem dX5_crackColdest_31 : decode cX5_crackColdest 31 = .ok (.invokevirtual 263, 3) := by decide +kernel
theorem dX5_crackColdest_34 : decode cX5_crackColdest 34 = .ok (.aload_n 2, 1) := by decide +kernel
theorem dX5_crackColdest_35 : decode cX5_crackColdest 35 = .ok (.invokevirtual 263, 3) := by decide +kernel
theorem dX5_crackColdest_38 : decode cX5_crackColdest 38 = .ok (.if_icmp .ge 10, 3) := by decide +kernel
theorem dX5_crackColdest_41 : decode cX5_crackColdest 41 = .ok (.aload_n 0, 1) := by decide +kernel
theorem dX5_crackColdest_42 : decode cX5_crackColdest 42 = .ok (.getfield 11, 3) := by decide +kernel
theorem dX5_crackColdest_45 : decode cX5_crackColdest 45 = .ok (.iload_n 3, 1) := by decide +kernel
theorem dX5_crackColdest_46 : decode cX5_crackColdest 46 = .ok (.aaload, 1) := by decide +kernel
theorem dX5_crackColdest_47 : decode cX5_crackColdest 47 = .ok (.astore_n 2, 1) := by decide +kernel
theorem dX5_crackColdest_48 : decode cX5_crackColdest 48 = .ok (.iinc 3 1, 3) := by decide +kernel
theorem dX5_crackColdest_51 : decode cX5_crackColdest 51 = .ok (.goto (-35), 3) := by decide +kernel
theorem dX5_crackColdest_54 : decode cX5_crackColdest 54 = .ok (.aload_n 2, 1) := by decide +kernel
theorem dX5_crackColdest_55 : decode cX5_crackColdest 55 = .ok (.invokevirtual 263, 3) := by decide +kernel
theorem dX5_crackColdest_58 : decode cX5_crackColdest 58 = .ok (.bipush (-10), 2) := by decide +kernel
theorem dX5_crackColdest_60 : decode cX5_crackColdest 60 = .ok (.if_icmp .gt 7, 3) := by decide +kernel
theorem dX5_crackColdest_63 : decode cX5_crackColdest 63 = .ok (.aload_n 2, 1) := by decide +kernel
theorem dX5_crackColdest_64 : decode cX5_crackColdest 64 = .ok (.invokevirtual 266, 3) := by decide +kernel
theorem dX5_crackColdest_67 : decode cX5_crackColdest 67 = .ok (.return_, 1) := by decide +kernel
set_option maxRecDepth 20000 in
theorem ggX5_wakeCarbon_X1_isLake : GoodIn wsX5_wakeCarbon wsX1_isLake := goodIn_r _ [10, 11, 51, 52, 53, 54, 55, 56, 57] (by decide +kernel) (by decide +kernel)
set_option maxRecDepth 20000 in
theorem gX5_wakeCarbon_X1_isLake : GoodIn wsX5_wakeCarbon (wsV RX5 92 RX1 yX1_isLake wsX1_isLake) := goodIn_app (goodIn_of _ (by decide +kernel)) ggX5_wakeCarbon_X1_isLake
set_option maxRecDepth 20000 in
theorem ggX5_wakeCarbon_X1_wakeCarbon : GoodIn wsX5_wakeCarbon wsX1_wakeCarbon := goodIn_r _ [15, 16, 17, 18, 19, 20, 21, 22, 23, 24, 25, 26, 27, 28, 29, 30, 31, 32, 33, 34, 35, 36, 37, 38, 39, 40, 51, 52, 53, 54, 55, 56, 57, 58, 59, 60, 61] (by decide +kernel) (by decide +kernel)
set_option maxRecDepth 20000 in
theorem gX5_wakeCarbon_X1_wakeCarbon : GoodIn wsX5_wakeCarbon (wsV RX5 269 RX1 yX1_wakeCarbon wsX1_wakeCarbon) := goodIn_app (goodIn_of _ (by decide +kernel)) ggX5_wakeCarbon_X1_wakeCarbon
theorem dX5_wakeCarbon_0 : decode cX5_wakeCarbon 0 = .ok (.iconst 0, 1) := by decide +kernel
theorem dX5_wakeCarbon_1 : decode cX5_wakeCarbon 1 = .ok (.istore_n 2, 1) := by decide +kernel
theorem dX5_wakeCarbon_2 : decode cX5_wakeCarbon 2 = .ok (.iload_n 2, 1) := by decide +kernel
theorem dX5_wakeCarbon_3 : decode cX5_wakeCarbon 3 = .ok (.aload_n 0, 1) := by decide +kernel
theorem dX5_wakeCarbon_4 : decode cX5_wakeCarbon 4 = .ok (.getfield 11, 3) := by decide +kernel
theorem dX5_wakeCarbon_7 : decode cX5_wakeCarbon 7 = .ok (.arraylength, 1) := by decide +kernel
theorem dX5_wakeCarbon_8 : decode cX5_wakeCarbon 8 = .ok (.if_icmp .ge 84, 3) := by decide +kernel
theorem dX5_wakeCarbon_11 : decode cX5_wakeCarbon 11 = .ok (.aload_n 0, 1) := by decide +kernel
theorem dX5_wakeCarbon_12 : decode cX5_wakeCarbon 12 = .ok (.getfield 11, 3) := by decide +kernel
theorem dX5_wakeCarbon_15 : decode cX5_wakeCarbon 15 = .ok (.iload_n 2, 1) := by decide +kernel
theorem dX5_wakeCarbon_16 : decode cX5_wakeCarbon 16 = .ok (.aaload, 1) := by decide +kernel
theorem dX5_wakeCarbon_17 : decode cX5_wakeCarbon 17 = .ok (.astore_n 3, 1) := by decide +kernel
theorem dX5_wakeCarbon_18 : decode cX5_wakeCarbon 18 = .ok (.aload_n 0, 1) := by decide +kernel
theorem dX5_wakeCarbon_19 : decode cX5_wakeCarbon 19 = .ok (.getfield 32, 3) := by decide +kernel
theorem dX5_wakeCarbon_22 : decode cX5_wakeCarbon 22 = .ok (.aload_n 3, 1) := by decide +kernel
theorem dX5_wakeCarbon_23 : decode cX5_wakeCarbon 23 = .ok (.invokevirtual 92, 3) := by decide +kernel
theorem dX5_wakeCarbon_26 : decode cX5_wakeCarbon 26 = .ok (.ifCond .eq 7, 3) := by decide +kernel
theorem dX5_wakeCarbon_29 : decode cX5_wakeCarbon 29 = .ok (.iconst 1, 1) := by decide +kernel
theorem dX5_wakeCarbon_30 : decode cX5_wakeCarbon 30 = .ok (.goto 4, 3) := by decide +kernel
theorem dX5_wakeCarbon_33 : decode cX5_wakeCarbon 33 = .ok (.iconst 0, 1) := by decide +kernel
theorem dX5_wakeCarbon_34 : decode cX5_wakeCarbon 34 = .ok (.dup2, 1) := by decide +kernel
theorem dX5_wakeCarbon_35 : decode cX5_wakeCarbon 35 = .ok (.laload, 1) := by decide +kernel
theorem dX5_wakeCarbon_36 : decode cX5_wakeCarbon 36 = .ok (.aload_n 3, 1) := by decide +kernel
theorem dX5_wakeCarbon_37 : decode cX5_wakeCarbon 37 = .ok (.invokevirtual 269, 3) := by decide +kernel
theorem dX5_wakeCarbon_40 : decode cX5_wakeCarbon 40 = .ok (.i2l, 1) := by decide +kernel
theorem dX5_wakeCarbon_41 : decode cX5_wakeCarbon 41 = .ok (.ladd, 1) := by decide +kernel
theorem dX5_wakeCarbon_42 : decode cX5_wakeCarbon 42 = .ok (.lastore, 1) := by decide +kernel
theorem dX5_wakeCarbon_43 : decode cX5_wakeCarbon 43 = .ok (.iload_n 1, 1) := by decide +kernel
theorem dX5_wakeCarbon_44 : decode cX5_wakeCarbon 44 = .ok (.ifCond .le 42, 3) := by decide +kernel
theorem dX5_wakeCarbon_47 : decode cX5_wakeCarbon 47 = .ok (.aload_n 3, 1) := by decide +kernel
theorem dX5_wakeCarbon_48 : decode cX5_wakeCarbon 48 = .ok (.invokevirtual 92, 3) := by decide +kernel
theorem dX5_wakeCarbon_51 : decode cX5_wakeCarbon 51 = .ok (.ifCond .ne 35, 3) := by decide +kernel
theorem dX5_wakeCarbon_54 : decode cX5_wakeCarbon 54 = .ok (.aload_n 0, 1) := by decide +kernel
theorem dX5_wakeCarbon_55 : decode cX5_wakeCarbon 55 = .ok (.getfield 32, 3) := by decide +kernel
theorem dX5_wakeCarbon_58 : decode cX5_wakeCarbon 58 = .ok (.iconst 0, 1) := by decide +kernel
theorem dX5_wakeCarbon_59 : decode cX5_wakeCarbon 59 = .ok (.dup2, 1) := by decide +kernel
theorem dX5_wakeCarbon_60 : decode cX5_wakeCarbon 60 = .ok (.laload, 1) := by decide +kernel
theorem dX5_wakeCarbon_61 : decode cX5_wakeCarbon 61 = .ok (.aload_n 3, 1) := by decide +kernel
theorem dX5_wakeCarbon_62 : decode cX5_wakeCarbon 62 = .ok (.getfield 79, 3) := by decide +kernel
theorem dX5_wakeCarbon_65 : decode cX5_wakeCarbon 65 = .ok (.i2l, 1) := by decide +kernel
theorem dX5_wakeCarbon_66 : decode cX5_wakeCarbon 66 = .ok (.lsub, 1) := by decide +kernel
theorem dX5_wakeCarbon_67 : decode cX5_wakeCarbon 67 = .ok (.lastore, 1) := by decide +kernel
theorem dX5_wakeCarbon_68 : decode cX5_wakeCarbon 68 = .ok (.aload_n 3, 1) := by decide +kernel
theorem dX5_wakeCarbon_69 : decode cX5_wakeCarbon 69 = .ok (.getfield 56, 3) := by decide +kernel
theorem dX5_wakeCarbon_72 : decode cX5_wakeCarbon 72 = .ok (.iconst 0, 1) := by decide +kernel
theorem dX5_wakeCarbon_73 : decode cX5_wakeCarbon 73 = .ok (.aaload, 1) := by decide +kernel
theorem dX5_wakeCarbon_74 : decode cX5_wakeCarbon 74 = .ok (.dup, 1) := by decide +kernel
theorem dX5_wakeCarbon_75 : decode cX5_wakeCarbon 75 = .ok (.getfield 76, 3) := by decide +kernel
theorem dX5_wakeCarbon_78 : decode cX5_wakeCarbon 78 = .ok (.aload_n 3, 1) := by decide +kernel
theorem dX5_wakeCarbon_79 : decode cX5_wakeCarbon 79 = .ok (.getfield 79, 3) := by decide +kernel
theorem dX5_wakeCarbon_82 : decode cX5_wakeCarbon 82 = .ok (.iadd, 1) := by decide +kernel
theorem dX5_wakeCarbon_83 : decode cX5_wakeCarbon 83 = .ok (.putfield 76, 3) := by decide +kernel
theorem dX5_wakeCarbon_86 : decode cX5_wakeCarbon 86 = .ok (.iinc 2 1, 3) := by decide +kernel
theorem dX5_wakeCarbon_89 : decode cX5_wakeCarbon 89 = .ok (.goto (-87), 3) := by decide +kernel
theorem dX5_wakeCarbon_92 : decode cX5_wakeCarbon 92 = .ok (.return_, 1) := by decide +kernel
set_option maxRecDepth 20000 in
theorem ggX5_tiltHouses_Jx4a65c_size_8abf5 : GoodIn wsX5_tiltHouses wsJx4a65c_size_8abf5 := goodIn_r _ [12, 13, 59, 60, 61] (by decide +kernel) (by decide +kernel)
set_option maxRecDepth 20000 in
theorem gX5_tiltHouses_Jx4a65c_size_8abf5 : GoodIn wsX5_tiltHouses (wsV RX5 112 RJx4a65c yJx4a65c_size_8abf5 wsJx4a65c_size_8abf5) := goodIn_app (goodIn_of _ (by decide +kernel)) ggX5_tiltHouses_Jx4a65c_size_8abf5
set_option maxRecDepth 20000 in
theorem ggX5_tiltHouses_Jx4a65c_get_915e3 : GoodIn wsX5_tiltHouses wsJx4a65c_get_915e3 := goodIn_r _ [17, 13, 18, 19, 20, 21, 22, 23, 24, 25, 26, 27, 28, 11, 29, 30, 59, 60, 61] (by decide +kernel) (by decide +kernel)
set_option maxRecDepth 20000 in
theorem gX5_tiltHouses_Jx4a65c_get_915e3 : GoodIn wsX5_tiltHouses (wsV RX5 129 RJx4a65c yJx4a65c_get_915e3 wsJx4a65c_get_915e3) := goodIn_app (goodIn_of _ (by decide +kernel)) ggX5_tiltHouses_Jx4a65c_get_915e3
set_option maxRecDepth 20000 in
theorem ggX5_tiltHouses_X4_isThawed : GoodIn wsX5_tiltHouses wsX4_isThawed := goodIn_r _ [35, 36, 62, 63, 64, 65] (by decide +kernel) (by decide +kernel)
set_option maxRecDepth 20000 in
theorem gX5_tiltHouses_X4_isThawed : GoodIn wsX5_tiltHouses (wsV RX5 271 RX4 yX4_isThawed wsX4_isThawed) := goodIn_app (goodIn_of _ (by decide +kernel)) ggX5_tiltHouses_X4_isThawed
theorem dX5_tiltHouses_0 : decode cX5_tiltHouses 0 = .ok (.iconst 0, 1) := by decide +kernel
theorem dX5_tiltHouses_1 : decode cX5_tiltHouses 1 = .ok (.istore_n 1, 1) := by decide +kernel
theorem dX5_tiltHouses_2 : decode cX5_tiltHouses 2 = .ok (.iload_n 1, 1) := by decide +kernel
theorem dX5_tiltHouses_3 : decode cX5_tiltHouses 3 = .ok (.aload_n 0, 1) := by decide +kernel
theorem dX5_tiltHouses_4 : decode cX5_tiltHouses 4 = .ok (.getfield 18, 3) := by decide +kernel
theorem dX5_tiltHouses_7 : decode cX5_tiltHouses 7 = .ok (.invokevirtual 112, 3) := by decide +kernel
theorem dX5_tiltHouses_10 : decode cX5_tiltHouses 10 = .ok (.if_icmp .ge 54, 3) := by decide +kernel
theorem dX5_tiltHouses_13 : decode cX5_tiltHouses 13 = .ok (.aload_n 0, 1) := by decide +kernel
theorem dX5_tiltHouses_14 : decode cX5_tiltHouses 14 = .ok (.getfield 18, 3) := by decide +kernel
theorem dX5_tiltHouses_17 : decode cX5_tiltHouses 17 = .ok (.iload_n 1, 1) := by decide +kernel
theorem dX5_tiltHouses_18 : decode cX5_tiltHouses 18 = .ok (.invokevirtual 129, 3) := by decide +kernel
theorem dX5_tiltHouses_21 : decode cX5_tiltHouses 21 = .ok (.checkcast 116, 3) := by decide +kernel
theorem dX5_tiltHouses_24 : decode cX5_tiltHouses 24 = .ok (.astore_n 2, 1) := by decide +kernel
theorem dX5_tiltHouses_25 : decode cX5_tiltHouses 25 = .ok (.aload_n 0, 1) := by decide +kernel
theorem dX5_tiltHouses_26 : decode cX5_tiltHouses 26 = .ok (.getfield 11, 3) := by decide +kernel
theorem dX5_tiltHouses_29 : decode cX5_tiltHouses 29 = .ok (.aload_n 2, 1) := by decide +kernel
theorem dX5_tiltHouses_30 : decode cX5_tiltHouses 30 = .ok (.getfield 180, 3) := by decide +kernel
theorem dX5_tiltHouses_33 : decode cX5_tiltHouses 33 = .ok (.aaload, 1) := by decide +kernel
theorem dX5_tiltHouses_34 : decode cX5_tiltHouses 34 = .ok (.getfield 56, 3) := by decide +kernel
theorem dX5_tiltHouses_37 : decode cX5_tiltHouses 37 = .ok (.aload_n 2, 1) := by decide +kernel
theorem dX5_tiltHouses_38 : decode cX5_tiltHouses 38 = .ok (.getfield 183, 3) := by decide +kernel
theorem dX5_tiltHouses_41 : decode cX5_tiltHouses 41 = .ok (.aaload, 1) := by decide +kernel
theorem dX5_tiltHouses_42 : decode cX5_tiltHouses 42 = .ok (.invokevirtual 271, 3) := by decide +kernel
theorem dX5_tiltHouses_45 : decode cX5_tiltHouses 45 = .ok (.ifCond .eq 13, 3) := by decide +kernel
theorem dX5_tiltHouses_48 : decode cX5_tiltHouses 48 = .ok (.aload_n 2, 1) := by decide +kernel
theorem dX5_tiltHouses_49 : decode cX5_tiltHouses 49 = .ok (.dup, 1) := by decide +kernel
theorem dX5_tiltHouses_50 : decode cX5_tiltHouses 50 = .ok (.getfield 135, 3) := by decide +kernel
theorem dX5_tiltHouses_53 : decode cX5_tiltHouses 53 = .ok (.iconst 1, 1) := by decide +kernel
theorem dX5_tiltHouses_54 : decode cX5_tiltHouses 54 = .ok (.iadd, 1) := by decide +kernel
theorem dX5_tiltHouses_55 : decode cX5_tiltHouses 55 = .ok (.putfield 135, 3) := by decide +kernel
theorem dX5_tiltHouses_58 : decode cX5_tiltHouses 58 = .ok (.iinc 1 1, 3) := by decide +kernel
theorem dX5_tiltHouses_61 : decode cX5_tiltHouses 61 = .ok (.goto (-59), 3) := by decide +kernel
theorem dX5_tiltHouses_64 : decode cX5_tiltHouses 64 = .ok (.return_, 1) := by decide +kernel
set_option maxRecDepth 20000 in
theorem ggX5_readBoreholes_Jx4a65c_size_8abf5 : GoodIn wsX5_readBoreholes wsJx4a65c_size_8abf5 := goodIn_r _ [10, 11, 71, 72, 73] (by decide +kernel) (by decide +kernel)
set_option maxRecDepth 20000 in
theorem gX5_readBoreholes_Jx4a65c_size_8abf5 : GoodIn wsX5_readBoreholes (wsV RX5 112 RJx4a65c yJx4a65c_size_8abf5 wsJx4a65c_size_8abf5) := goodIn_app (goodIn_of _ (by decide +kernel)) ggX5_readBoreholes_Jx4a65c_size_8abf5
set_option maxRecDepth 20000 in
theorem ggX5_readBoreholes_Jx4a65c_get_915e3 : GoodIn wsX5_readBoreholes wsJx4a65c_get_915e3 := goodIn_r _ [15, 11, 16, 17, 18, 19, 20, 21, 22, 23, 24, 25, 26, 9, 27, 28, 71, 72, 73] (by decide +kernel) (by decide +kernel)
set_option maxRecDepth 20000 in
theorem gX5_readBoreholes_Jx4a65c_get_915e3 : GoodIn wsX5_readBoreholes (wsV RX5 129 RJx4a65c yJx4a65c_get_915e3 wsJx4a65c_get_915e3) := goodIn_app (goodIn_of _ (by decide +kernel)) ggX5_readBoreholes_Jx4a65c_get_915e3
set_option maxRecDepth 20000 in
theorem ggX5_readBoreholes_X0_readLayers : GoodIn wsX5_readBoreholes wsX0_readLayers := goodIn_r _ [33, 34, 35, 36, 37, 38, 39, 40, 41, 42, 43, 44, 45, 46, 47, 48, 59, 60, 61, 62, 63, 74, 75, 76, 77] (by decide +kernel) (by decide +kernel)
set_option maxRecDepth 20000 in
theorem gX5_readBoreholes_X0_readLayers : GoodIn wsX5_readBoreholes (wsV RX5 275 RX0 yX0_readLayers wsX0_readLayers) := goodIn_app (goodIn_of _ (by decide +kernel)) ggX5_readBoreholes_X0_readLayers
theorem dX5_readBoreholes_0 : decode cX5_readBoreholes 0 = .ok (.iconst 0, 1) := by decide +kernel
theorem dX5_readBoreholes_1 : decode cX5_readBoreholes 1 = .ok (.istore_n 1, 1) := by decide +kernel
theorem dX5_readBoreholes_2 : decode cX5_readBoreholes 2 = .ok (.iload_n 1, 1) := by decide +kernel
theorem dX5_readBoreholes_3 : decode cX5_readBoreholes 3 = .ok (.aload_n 0, 1) := by decide +kernel
theorem dX5_readBoreholes_4 : decode cX5_readBoreholes 4 = .ok (.getfield 22, 3) := by decide +kernel
theorem dX5_readBoreholes_7 : decode cX5_readBoreholes 7 = .ok (.invokevirtual 112, 3) := by decide +kernel
theorem dX5_readBoreholes_10 : decode cX5_readBoreholes 10 = .ok (.if_icmp .ge 37, 3) := by decide +kernel
theorem dX5_readBoreholes_13 : decode cX5_readBoreholes 13 = .ok (.aload_n 0, 1) := by decide +kernel
theorem dX5_readBoreholes_14 : decode cX5_readBoreholes 14 = .ok (.getfield 22, 3) := by decide +kernel
theorem dX5_readBoreholes_17 : decode cX5_readBoreholes 17 = .ok (.iload_n 1, 1) := by decide +kernel
theorem dX5_readBoreholes_18 : decode cX5_readBoreholes 18 = .ok (.invokevirtual 129, 3) := by decide +kernel
theorem dX5_readBoreholes_21 : decode cX5_readBoreholes 21 = .ok (.checkcast 125, 3) := by decide +kernel
theorem dX5_readBoreholes_24 : decode cX5_readBoreholes 24 = .ok (.astore_n 2, 1) := by decide +kernel
theorem dX5_readBoreholes_25 : decode cX5_readBoreholes 25 = .ok (.aload_n 2, 1) := by decide +kernel
theorem dX5_readBoreholes_26 : decode cX5_readBoreholes 26 = .ok (.aload_n 0, 1) := by decide +kernel
theorem dX5_readBoreholes_27 : decode cX5_readBoreholes 27 = .ok (.getfield 11, 3) := by decide +kernel
theorem dX5_readBoreholes_30 : decode cX5_readBoreholes 30 = .ok (.aload_n 2, 1) := by decide +kernel
theorem dX5_readBoreholes_31 : decode cX5_readBoreholes 31 = .ok (.getfield 274, 3) := by decide +kernel
theorem dX5_readBoreholes_34 : decode cX5_readBoreholes 34 = .ok (.aaload, 1) := by decide +kernel
theorem dX5_readBoreholes_35 : decode cX5_readBoreholes 35 = .ok (.getfield 56, 3) := by decide +kernel
theorem dX5_readBoreholes_38 : decode cX5_readBoreholes 38 = .ok (.invokevirtual 275, 3) := by decide +kernel
theorem dX5_readBoreholes_41 : decode cX5_readBoreholes 41 = .ok (.iinc 1 1, 3) := by decide +kernel
theorem dX5_readBoreholes_44 : decode cX5_readBoreholes 44 = .ok (.goto (-42), 3) := by decide +kernel
theorem dX5_readBoreholes_47 : decode cX5_readBoreholes 47 = .ok (.return_, 1) := by decide +kernel
theorem dX5_stepFrom_0 : decode cX5_stepFrom 0 = .ok (.iload_n 0, 1) := by decide +kernel
theorem dX5_stepFrom_1 : decode cX5_stepFrom 1 = .ok (.iload_n 1, 1) := by decide +kernel
theorem dX5_stepFrom_2 : decode cX5_stepFrom 2 = .ok (.iadd, 1) := by decide +kernel
theorem dX5_stepFrom_3 : decode cX5_stepFrom 3 = .ok (.istore_n 2, 1) := by decide +kernel
theorem dX5_stepFrom_4 : decode cX5_stepFrom 4 = .ok (.iload_n 2, 1) := by decide +kernel
theorem dX5_stepFrom_5 : decode cX5_stepFrom 5 = .ok (.ifCond .lt 9, 3) := by decide +kernel
theorem dX5_stepFrom_8 : decode cX5_stepFrom 8 = .ok (.iload_n 2, 1) := by decide +kernel
theorem dX5_stepFrom_9 : decode cX5_stepFrom 9 = .ok (.bipush 25, 2) := by decide +kernel
theorem dX5_stepFrom_11 : decode cX5_stepFrom 11 = .ok (.if_icmp .lt 5, 3) := by decide +kernel
theorem dX5_stepFrom_14 : decode cX5_stepFrom 14 = .ok (.iconst (-1), 1) := by decide +kernel
theorem dX5_stepFrom_15 : decode cX5_stepFrom 15 = .ok (.ireturn, 1) := by decide +kernel
theorem dX5_stepFrom_16 : decode cX5_stepFrom 16 = .ok (.iload_n 1, 1) := by decide +kernel
theorem dX5_stepFrom_17 : decode cX5_stepFrom 17 = .ok (.iconst (-1), 1) := by decide +kernel
theorem dX5_stepFrom_18 : decode cX5_stepFrom 18 = .ok (.if_icmp .eq 8, 3) := by decide +kernel
theorem dX5_stepFrom_21 : decode cX5_stepFrom 21 = .ok (.iload_n 1, 1) := by decide +kernel
theorem dX5_stepFrom_22 : decode cX5_stepFrom 22 = .ok (.iconst 1, 1) := by decide +kernel
theorem dX5_stepFrom_23 : decode cX5_stepFrom 23 = .ok (.if_icmp .ne 7, 3) := by decide +kernel
theorem dX5_stepFrom_26 : decode cX5_stepFrom 26 = .ok (.iconst 1, 1) := by decide +kernel
theorem dX5_stepFrom_27 : decode cX5_stepFrom 27 = .ok (.goto 4, 3) := by decide +kernel
theorem dX5_stepFrom_30 : decode cX5_stepFrom 30 = .ok (.iconst 0, 1) := by decide +kernel
theorem dX5_stepFrom_31 : decode cX5_stepFrom 31 = .ok (.istore_n 3, 1) := by decide +kernel
theorem dX5_stepFrom_32 : decode cX5_stepFrom 32 = .ok (.iload_n 3, 1) := by decide +kernel
theorem dX5_stepFrom_33 : decode cX5_stepFrom 33 = .ok (.ifCond .eq 16, 3) := by decide +kernel
theorem dX5_stepFrom_36 : decode cX5_stepFrom 36 = .ok (.iload_n 2, 1) := by decide +kernel
theorem dX5_stepFrom_37 : decode cX5_stepFrom 37 = .ok (.iconst 5, 1) := by decide +kernel
theorem dX5_stepFrom_38 : decode cX5_stepFrom 38 = .ok (.idiv, 1) := by decide +kernel
theorem dX5_stepFrom_39 : decode cX5_stepFrom 39 = .ok (.iload_n 0, 1) := by decide +kernel
theorem dX5_stepFrom_40 : decode cX5_stepFrom 40 = .ok (.iconst 5, 1) := by decide +kernel
theorem dX5_stepFrom_41 : decode cX5_stepFrom 41 = .ok (.idiv, 1) := by decide +kernel
theorem dX5_stepFrom_42 : decode cX5_stepFrom 42 = .ok (.if_icmp .eq 7, 3) := by decide +kernel
theorem dX5_stepFrom_45 : decode cX5_stepFrom 45 = .ok (.iconst (-1), 1) := by decide +kernel
theorem dX5_stepFrom_46 : decode cX5_stepFrom 46 = .ok (.goto 4, 3) := by decide +kernel
theorem dX5_stepFrom_49 : decode cX5_stepFrom 49 = .ok (.iload_n 2, 1) := by decide +kernel
theorem dX5_stepFrom_50 : decode cX5_stepFrom 50 = .ok (.ireturn, 1) := by decide +kernel
theorem dX5_forgetGathered_0 : decode cX5_forgetGathered 0 = .ok (.iconst 0, 1) := by decide +kernel
theorem dX5_forgetGathered_1 : decode cX5_forgetGathered 1 = .ok (.istore_n 1, 1) := by decide +kernel
theorem dX5_forgetGathered_2 : decode cX5_forgetGathered 2 = .ok (.iload_n 1, 1) := by decide +kernel
theorem dX5_forgetGathered_3 : decode cX5_forgetGathered 3 = .ok (.aload_n 0, 1) := by decide +kernel
theorem dX5_forgetGathered_4 : decode cX5_forgetGathered 4 = .ok (.getfield 39, 3) := by decide +kernel
theorem dX5_forgetGathered_7 : decode cX5_forgetGathered 7 = .ok (.arraylength, 1) := by decide +kernel
theorem dX5_forgetGathered_8 : decode cX5_forgetGathered 8 = .ok (.if_icmp .ge 16, 3) := by decide +kernel
theorem dX5_forgetGathered_11 : decode cX5_forgetGathered 11 = .ok (.aload_n 0, 1) := by decide +kernel
theorem dX5_forgetGathered_12 : decode cX5_forgetGathered 12 = .ok (.getfield 39, 3) := by decide +kernel
theorem dX5_forgetGathered_15 : decode cX5_forgetGathered 15 = .ok (.iload_n 1, 1) := by decide +kernel
theorem dX5_forgetGathered_16 : decode cX5_forgetGathered 16 = .ok (.iconst 0, 1) := by decide +kernel
theorem dX5_forgetGathered_17 : decode cX5_forgetGathered 17 = .ok (.bastore, 1) := by decide +kernel
theorem dX5_forgetGathered_18 : decode cX5_forgetGathered 18 = .ok (.iinc 1 1, 3) := by decide +kernel
theorem dX5_forgetGathered_21 : decode cX5_forgetGathered 21 = .ok (.goto (-19), 3) := by decide +kernel
theorem dX5_forgetGathered_24 : decode cX5_forgetGathered 24 = .ok (.return_, 1) := by decide +kernel
set_option maxRecDepth 20000 in
theorem ggX5_gatherOneLake_X5_forgetGathered : GoodIn wsX5_gatherOneLake wsX5_forgetGathered := goodIn_r _ [5, 6, 22, 23, 24, 25, 26, 27, 28, 29, 30, 31] (by decide +kernel) (by decide +kernel)
set_option maxRecDepth 20000 in
theorem gX5_gatherOneLake_X5_forgetGathered : GoodIn wsX5_gatherOneLake (wsV RX5 170 RX5 yX5_forgetGathered wsX5_forgetGathered) := goodIn_app (goodIn_of _ (by decide +kernel)) ggX5_gatherOneLake_X5_forgetGathered
set_option maxRecDepth 20000 in
theorem ggX5_gatherOneLake_X5_gatherLake : GoodIn wsX5_gatherOneLake wsX5_gatherLake := goodIn_r _ [10, 11, 12, 13, 14, 15, 4, 16, 17, 18, 6, 19, 20, 21, 22, 23, 24, 25, 26, 27, 28, 29, 30, 31, 32, 33, 34, 35, 36, 37, 38] (by decide +kernel) (by decide +kernel)
set_option maxRecDepth 20000 in
theorem gX5_gatherOneLake_X5_gatherLake : GoodIn wsX5_gatherOneLake (wsV RX5 173 RX5 yX5_gatherLake wsX5_gatherLake) := goodIn_app (goodIn_of _ (by decide +kernel)) ggX5_gatherOneLake_X5_gatherLake
theorem dX5_gatherOneLake_0 : decode cX5_gatherOneLake 0 = .ok (.aload_n 0, 1) := by decide +kernel
theorem dX5_gatherOneLake_1 : decode cX5_gatherOneLake 1 = .ok (.invokevirtual 170, 3) := by decide +kernel
theorem dX5_gatherOneLake_4 : decode cX5_gatherOneLake 4 = .ok (.aload_n 0, 1) := by decide +kernel
theorem dX5_gatherOneLake_5 : decode cX5_gatherOneLake 5 = .ok (.iload_n 1, 1) := by decide +kernel
theorem dX5_gatherOneLake_6 : decode cX5_gatherOneLake 6 = .ok (.invokevirtual 173, 3) := by decide +kernel
theorem dX5_gatherOneLake_9 : decode cX5_gatherOneLake 9 = .ok (.ireturn, 1) := by decide +kernel
set_option maxRecDepth 20000 in
theorem ggX5_gatherLake_X5_gatherCell : GoodIn wsX5_gatherLake wsX5_gatherCell := goodIn_r _ [7, 8, 9, 10, 1, 14, 15, 16, 17, 18, 19, 20, 21, 22, 23, 24, 25, 26, 27, 28, 29, 30] (by decide +kernel) (by decide +kernel)
set_option maxRecDepth 20000 in
theorem gX5_gatherLake_X5_gatherCell : GoodIn wsX5_gatherLake (wsV RX5 279 RX5 yX5_gatherCell wsX5_gatherCell) := goodIn_app (goodIn_of _ (by decide +kernel)) ggX5_gatherLake_X5_gatherCell
set_option maxRecDepth 20000 in
theorem ggX5_gatherLake_X5_stepFrom : GoodIn wsX5_gatherLake wsX5_stepFrom := goodIn_r _ [13] (by decide +kernel) (by decide +kernel)
set_option maxRecDepth 20000 in
theorem gX5_gatherLake_X5_stepFrom : GoodIn wsX5_gatherLake (va_wsS RX5 166 yX5_stepFrom wsX5_stepFrom) := goodIn_app (goodIn_of _ (by decide +kernel)) ggX5_gatherLake_X5_stepFrom
theorem dX5_gatherLake_0 : decode cX5_gatherLake 0 = .ok (.aload_n 0, 1) := by decide +kernel
theorem dX5_gatherLake_1 : decode cX5_gatherLake 1 = .ok (.iload_n 1, 1) := by decide +kernel
theorem dX5_gatherLake_2 : decode cX5_gatherLake 2 = .ok (.iconst 0, 1) := by decide +kernel
theorem dX5_gatherLake_3 : decode cX5_gatherLake 3 = .ok (.invokevirtual 279, 3) := by decide +kernel
theorem dX5_gatherLake_6 : decode cX5_gatherLake 6 = .ok (.istore_n 2, 1) := by decide +kernel
theorem dX5_gatherLake_7 : decode cX5_gatherLake 7 = .ok (.iconst 0, 1) := by decide +kernel
theorem dX5_gatherLake_8 : decode cX5_gatherLake 8 = .ok (.istore_n 3, 1) := by decide +kernel
theorem dX5_gatherLake_9 : decode cX5_gatherLake 9 = .ok (.iload_n 3, 1) := by decide +kernel
theorem dX5_gatherLake_10 : decode cX5_gatherLake 10 = .ok (.iload_n 2, 1) := by decide +kernel
theorem dX5_gatherLake_11 : decode cX5_gatherLake 11 = .ok (.if_icmp .ge 57, 3) := by decide +kernel
theorem dX5_gatherLake_14 : decode cX5_gatherLake 14 = .ok (.iload_n 3, 1) := by decide +kernel
theorem dX5_gatherLake_15 : decode cX5_gatherLake 15 = .ok (.aload_n 0, 1) := by decide +kernel
theorem dX5_gatherLake_16 : decode cX5_gatherLake 16 = .ok (.getfield 35, 3) := by decide +kernel
theorem dX5_gatherLake_19 : decode cX5_gatherLake 19 = .ok (.arraylength, 1) := by decide +kernel
theorem dX5_gatherLake_20 : decode cX5_gatherLake 20 = .ok (.if_icmp .ge 48, 3) := by decide +kernel
theorem dX5_gatherLake_23 : decode cX5_gatherLake 23 = .ok (.iconst 0, 1) := by decide +kernel
theorem dX5_gatherLake_24 : decode cX5_gatherLake 24 = .ok (.istore 4, 2) := by decide +kernel
theorem dX5_gatherLake_26 : decode cX5_gatherLake 26 = .ok (.iload 4, 2) := by decide +kernel
theorem dX5_gatherLake_28 : decode cX5_gatherLake 28 = .ok (.getstatic 163, 3) := by decide +kernel
theorem dX5_gatherLake_31 : decode cX5_gatherLake 31 = .ok (.arraylength, 1) := by decide +kernel
theorem dX5_gatherLake_32 : decode cX5_gatherLake 32 = .ok (.if_icmp .ge 30, 3) := by decide +kernel
theorem dX5_gatherLake_35 : decode cX5_gatherLake 35 = .ok (.aload_n 0, 1) := by decide +kernel
theorem dX5_gatherLake_36 : decode cX5_gatherLake 36 = .ok (.aload_n 0, 1) := by decide +kernel
theorem dX5_gatherLake_37 : decode cX5_gatherLake 37 = .ok (.getfield 35, 3) := by decide +kernel
theorem dX5_gatherLake_40 : decode cX5_gatherLake 40 = .ok (.iload_n 3, 1) := by decide +kernel
theorem dX5_gatherLake_41 : decode cX5_gatherLake 41 = .ok (.iaload, 1) := by decide +kernel
theorem dX5_gatherLake_42 : decode cX5_gatherLake 42 = .ok (.getstatic 163, 3) := by decide +kernel
theorem dX5_gatherLake_45 : decode cX5_gatherLake 45 = .ok (.iload 4, 2) := by decide +kernel
theorem dX5_gatherLake_47 : decode cX5_gatherLake 47 = .ok (.iaload, 1) := by decide +kernel
theorem dX5_gatherLake_48 : decode cX5_gatherLake 48 = .ok (.invokestatic 166, 3) := by decide +kernel
theorem dX5_gatherLake_51 : decode cX5_gatherLake 51 = .ok (.iload_n 2, 1) := by decide +kernel
theorem dX5_gatherLake_52 : decode cX5_gatherLake 52 = .ok (.invokevirtual 279, 3) := by decide +kernel
theorem dX5_gatherLake_55 : decode cX5_gatherLake 55 = .ok (.istore_n 2, 1) := by decide +kernel
theorem dX5_gatherLake_56 : decode cX5_gatherLake 56 = .ok (.iinc 4 1, 3) := by decide +kernel
theorem dX5_gatherLake_59 : decode cX5_gatherLake 59 = .ok (.goto (-33), 3) := by decide +kernel
theorem dX5_gatherLake_62 : decode cX5_gatherLake 62 = .ok (.iinc 3 1, 3) := by decide +kernel
theorem dX5_gatherLake_65 : decode cX5_gatherLake 65 = .ok (.goto (-56), 3) := by decide +kernel
theorem dX5_gatherLake_68 : decode cX5_gatherLake 68 = .ok (.iload_n 2, 1) := by decide +kernel
theorem dX5_gatherLake_69 : decode cX5_gatherLake 69 = .ok (.ireturn, 1) := by decide +kernel
theorem dX5_gatherCell_0 : decode cX5_gatherCell 0 = .ok (.iload_n 1, 1) := by decide +kernel
theorem dX5_gatherCell_1 : decode cX5_gatherCell 1 = .ok (.iconst (-1), 1) := by decide +kernel
theorem dX5_gatherCell_2 : decode cX5_gatherCell 2 = .ok (.if_icmp .eq 33, 3) := by decide +kernel
theorem dX5_gatherCell_5 : decode cX5_gatherCell 5 = .ok (.aload_n 0, 1) := by decide +kernel
theorem dX5_gatherCell_6 : decode cX5_gatherCell 6 = .ok (.getfield 11, 3) := by decide +kernel
theorem dX5_gatherCell_9 : decode cX5_gatherCell 9 = .ok (.iload_n 1, 1) := by decide +kernel
theorem dX5_gatherCell_10 : decode cX5_gatherCell 10 = .ok (.aaload, 1) := by decide +kernel
theorem dX5_gatherCell_11 : decode cX5_gatherCell 11 = .ok (.getfield 99, 3) := by decide +kernel
theorem dX5_gatherCell_14 : decode cX5_gatherCell 14 = .ok (.ifCond .le 21, 3) := by decide +kernel
theorem dX5_gatherCell_17 : decode cX5_gatherCell 17 = .ok (.aload_n 0, 1) := by decide +kernel
theorem dX5_gatherCell_18 : decode cX5_gatherCell 18 = .ok (.getfield 39, 3) := by decide +kernel
theorem dX5_gatherCell_21 : decode cX5_gatherCell 21 = .ok (.iload_n 1, 1) := by decide +kernel
theorem dX5_gatherCell_22 : decode cX5_gatherCell 22 = .ok (.baload, 1) := by decide +kernel
theorem dX5_gatherCell_23 : decode cX5_gatherCell 23 = .ok (.ifCond .ne 12, 3) := by decide +kernel
theorem dX5_gatherCell_26 : decode cX5_gatherCell 26 = .ok (.iload_n 2, 1) := by decide +kernel
theorem dX5_gatherCell_27 : decode cX5_gatherCell 27 = .ok (.aload_n 0, 1) := by decide +kernel
theorem dX5_gatherCell_28 : decode cX5_gatherCell 28 = .ok (.getfield 35, 3) := by decide +kernel
theorem dX5_gatherCell_31 : decode cX5_gatherCell 31 = .ok (.arraylength, 1) := by decide +kernel
theorem dX5_gatherCell_32 : decode cX5_gatherCell 32 = .ok (.if_icmp .lt 5, 3) := by decide +kernel
theorem dX5_gatherCell_35 : decode cX5_gatherCell 35 = .ok (.iload_n 2, 1) := by decide +kernel
theorem dX5_gatherCell_36 : decode cX5_gatherCell 36 = .ok (.ireturn, 1) := by decide +kernel
theorem dX5_gatherCell_37 : decode cX5_gatherCell 37 = .ok (.aload_n 0, 1) := by decide +kernel
theorem dX5_gatherCell_38 : decode cX5_gatherCell 38 = .ok (.getfield 39, 3) := by decide +kernel
theorem dX5_gatherCell_41 : decode cX5_gatherCell 41 = .ok (.iload_n 1, 1) := by decide +kernel
theorem dX5_gatherCell_42 : decode cX5_gatherCell 42 = .ok (.iconst 1, 1) := by decide +kernel
theorem dX5_gatherCell_43 : decode cX5_gatherCell 43 = .ok (.bastore, 1) := by decide +kernel
theorem dX5_gatherCell_44 : decode cX5_gatherCell 44 = .ok (.aload_n 0, 1) := by decide +kernel
theorem dX5_gatherCell_45 : decode cX5_gatherCell 45 = .ok (.getfield 35, 3) := by decide +kernel
theorem dX5_gatherCell_48 : decode cX5_gatherCell 48 = .ok (.iload_n 2, 1) := by decide +kernel
theorem dX5_gatherCell_49 : decode cX5_gatherCell 49 = .ok (.iload_n 1, 1) := by decide +kernel
theorem dX5_gatherCell_50 : decode cX5_gatherCell 50 = .ok (.iastore, 1) := by decide +kernel
theorem dX5_gatherCell_51 : decode cX5_gatherCell 51 = .ok (.iload_n 2, 1) := by decide +kernel
theorem dX5_gatherCell_52 : decode cX5_gatherCell 52 = .ok (.iconst 1, 1) := by decide +kernel
theorem dX5_gatherCell_53 : decode cX5_gatherCell 53 = .ok (.iadd, 1) := by decide +kernel
theorem dX5_gatherCell_54 : decode cX5_gatherCell 54 = .ok (.ireturn, 1) := by decide +kernel
set_option maxRecDepth 20000 in
theorem ggX5_hasLakeCell_X1_isLake : GoodIn wsX5_hasLakeCell wsX1_isLake := goodIn_r _ [7, 8, 19, 20, 21, 22, 23, 24, 25] (by decide +kernel) (by decide +kernel)
set_option maxRecDepth 20000 in
theorem gX5_hasLakeCell_X1_isLake : GoodIn wsX5_hasLakeCell (wsV RX5 92 RX1 yX1_isLake wsX1_isLake) := goodIn_app (goodIn_of _ (by decide +kernel)) ggX5_hasLakeCell_X1_isLake
theorem dX5_hasLakeCell_0 : decode cX5_hasLakeCell 0 = .ok (.iconst 0, 1) := by decide +kernel
theorem dX5_hasLakeCell_1 : decode cX5_hasLakeCell 1 = .ok (.istore_n 2, 1) := by decide +kernel
theorem dX5_hasLakeCell_2 : decode cX5_hasLakeCell 2 = .ok (.iload_n 2, 1) := by decide +kernel
theorem dX5_hasLakeCell_3 : decode cX5_hasLakeCell 3 = .ok (.iload_n 1, 1) := by decide +kernel
theorem dX5_hasLakeCell_4 : decode cX5_hasLakeCell 4 = .ok (.if_icmp .ge 28, 3) := by decide +kernel
theorem dX5_hasLakeCell_7 : decode cX5_hasLakeCell 7 = .ok (.aload_n 0, 1) := by decide +kernel
theorem dX5_hasLakeCell_8 : decode cX5_hasLakeCell 8 = .ok (.getfield 11, 3) := by decide +kernel
theorem dX5_hasLakeCell_11 : decode cX5_hasLakeCell 11 = .ok (.aload_n 0, 1) := by decide +kernel
theorem dX5_hasLakeCell_12 : decode cX5_hasLakeCell 12 = .ok (.getfield 35, 3) := by decide +kernel
theorem dX5_hasLakeCell_15 : decode cX5_hasLakeCell 15 = .ok (.iload_n 2, 1) := by decide +kernel
theorem dX5_hasLakeCell_16 : decode cX5_hasLakeCell 16 = .ok (.iaload, 1) := by decide +kernel
theorem dX5_hasLakeCell_17 : decode cX5_hasLakeCell 17 = .ok (.aaload, 1) := by decide +kernel
theorem dX5_hasLakeCell_18 : decode cX5_hasLakeCell 18 = .ok (.invokevirtual 92, 3) := by decide +kernel
theorem dX5_hasLakeCell_21 : decode cX5_hasLakeCell 21 = .ok (.ifCond .eq 5, 3) := by decide +kernel
theorem dX5_hasLakeCell_24 : decode cX5_hasLakeCell 24 = .ok (.iconst 1, 1) := by decide +kernel
theorem dX5_hasLakeCell_25 : decode cX5_hasLakeCell 25 = .ok (.ireturn, 1) := by decide +kernel
theorem dX5_hasLakeCell_26 : decode cX5_hasLakeCell 26 = .ok (.iinc 2 1, 3) := by decide +kernel
theorem dX5_hasLakeCell_29 : decode cX5_hasLakeCell 29 = .ok (.goto (-27), 3) := by decide +kernel
theorem dX5_hasLakeCell_32 : decode cX5_hasLakeCell 32 = .ok (.iconst 0, 1) := by decide +kernel
theorem dX5_hasLakeCell_33 : decode cX5_hasLakeCell 33 = .ok (.ireturn, 1) := by decide +kernel
set_option maxRecDepth 20000 in
theorem ggX5_claimAmount_X5_monthsReadThawed : GoodIn wsX5_claimAmount wsX5_monthsReadThawed := goodIn_r _ [9, 10, 11, 12, 13, 8, 14, 15, 16, 17, 18, 19, 20, 21, 22, 23, 24, 25, 26, 27, 28, 29, 30, 31, 32, 33, 34, 35, 36, 37, 38, 39, 40, 41, 42, 43, 44, 45, 46, 47, 48, 49, 50, 51, 52, 53, 54, 55, 56, 57, 58, 59, 60, 61, 62, 63, 64, 65, 66, 67, 68, 69, 70, 71, 72, 73, 74, 75, 76, 77] (by decide +kernel) (by decide +kernel)
set_option maxRecDepth 20000 in
theorem gX5_claimAmount_X5_monthsReadThawed : GoodIn wsX5_claimAmount (wsV RX5 282 RX5 yX5_monthsReadThawed wsX5_monthsReadThawed) := goodIn_app (goodIn_of _ (by decide +kernel)) ggX5_claimAmount_X5_monthsReadThawed
theorem dX5_claimAmount_0 : decode cX5_claimAmount 0 = .ok (.bipush 100, 2) := by decide +kernel
theorem dX5_claimAmount_2 : decode cX5_claimAmount 2 = .ok (.iload_n 2, 1) := by decide +kernel
theorem dX5_claimAmount_3 : decode cX5_claimAmount 3 = .ok (.aload_n 0, 1) := by decide +kernel
theorem dX5_claimAmount_4 : decode cX5_claimAmount 4 = .ok (.aload_n 1, 1) := by decide +kernel
theorem dX5_claimAmount_5 : decode cX5_claimAmount 5 = .ok (.iload_n 3, 1) := by decide +kernel
theorem dX5_claimAmount_6 : decode cX5_claimAmount 6 = .ok (.invokevirtual 282, 3) := by decide +kernel
theorem dX5_claimAmount_9 : decode cX5_claimAmount 9 = .ok (.invokestatic 241, 3) := by decide +kernel
theorem dX5_claimAmount_12 : decode cX5_claimAmount 12 = .ok (.imul, 1) := by decide +kernel
theorem dX5_claimAmount_13 : decode cX5_claimAmount 13 = .ok (.ireturn, 1) := by decide +kernel
set_option maxRecDepth 20000 in
theorem ggX5_monthsReadThawed_X5_wasReadThawed : GoodIn wsX5_monthsReadThawed wsX5_wasReadThawed := goodIn_r _ [6, 7, 8, 9, 10, 11, 12, 13, 14, 15, 16, 17, 18, 19, 20, 21, 22, 23, 24, 25, 26, 27, 28, 29, 30, 31, 32, 33, 34, 35, 36, 37, 38, 39, 40, 41, 42, 43, 44, 45, 46, 52, 53, 54, 55, 56, 57, 58, 59, 60, 61, 62, 63, 64, 65, 66, 47, 48, 49, 50, 51, 67, 68, 69] (by decide +kernel) (by decide +kernel)
set_option maxRecDepth 20000 in
theorem gX5_monthsReadThawed_X5_wasReadThawed : GoodIn wsX5_monthsReadThawed (wsV RX5 286 RX5 yX5_wasReadThawed wsX5_wasReadThawed) := goodIn_app (goodIn_of _ (by decide +kernel)) ggX5_monthsReadThawed_X5_wasReadThawed
theorem dX5_monthsReadThawed_0 : decode cX5_monthsReadThawed 0 = .ok (.iconst 0, 1) := by decide +kernel
theorem dX5_monthsReadThawed_1 : decode cX5_monthsReadThawed 1 = .ok (.istore_n 3, 1) := by decide +kernel
theorem dX5_monthsReadThawed_2 : decode cX5_monthsReadThawed 2 = .ok (.aload_n 1, 1) := by decide +kernel
theorem dX5_monthsReadThawed_3 : decode cX5_monthsReadThawed 3 = .ok (.getfield 186, 3) := by decide +kernel
theorem dX5_monthsReadThawed_6 : decode cX5_monthsReadThawed 6 = .ok (.istore 4, 2) := by decide +kernel
theorem dX5_monthsReadThawed_8 : decode cX5_monthsReadThawed 8 = .ok (.iload 4, 2) := by decide +kernel
theorem dX5_monthsReadThawed_10 : decode cX5_monthsReadThawed 10 = .ok (.iload_n 2, 1) := by decide +kernel
theorem dX5_monthsReadThawed_11 : decode cX5_monthsReadThawed 11 = .ok (.if_icmp .ge 22, 3) := by decide +kernel
theorem dX5_monthsReadThawed_14 : decode cX5_monthsReadThawed 14 = .ok (.aload_n 0, 1) := by decide +kernel
theorem dX5_monthsReadThawed_15 : decode cX5_monthsReadThawed 15 = .ok (.aload_n 1, 1) := by decide +kernel
theorem dX5_monthsReadThawed_16 : decode cX5_monthsReadThawed 16 = .ok (.iload 4, 2) := by decide +kernel
theorem dX5_monthsReadThawed_18 : decode cX5_monthsReadThawed 18 = .ok (.invokevirtual 286, 3) := by decide +kernel
theorem dX5_monthsReadThawed_21 : decode cX5_monthsReadThawed 21 = .ok (.ifCond .eq 6, 3) := by decide +kernel
theorem dX5_monthsReadThawed_24 : decode cX5_monthsReadThawed 24 = .ok (.iinc 3 1, 3) := by decide +kernel
theorem dX5_monthsReadThawed_27 : decode cX5_monthsReadThawed 27 = .ok (.iinc 4 1, 3) := by decide +kernel
theorem dX5_monthsReadThawed_30 : decode cX5_monthsReadThawed 30 = .ok (.goto (-22), 3) := by decide +kernel
theorem dX5_monthsReadThawed_33 : decode cX5_monthsReadThawed 33 = .ok (.iload_n 3, 1) := by decide +kernel
theorem dX5_monthsReadThawed_34 : decode cX5_monthsReadThawed 34 = .ok (.ireturn, 1) := by decide +kernel
set_option maxRecDepth 20000 in
theorem ggX5_wasReadThawed_Jx4a65c_size_8abf5 : GoodIn wsX5_wasReadThawed wsJx4a65c_size_8abf5 := goodIn_r _ [10, 11, 61, 62, 63] (by decide +kernel) (by decide +kernel)
set_option maxRecDepth 20000 in
theorem gX5_wasReadThawed_Jx4a65c_size_8abf5 : GoodIn wsX5_wasReadThawed (wsV RX5 112 RJx4a65c yJx4a65c_size_8abf5 wsJx4a65c_size_8abf5) := goodIn_app (goodIn_of _ (by decide +kernel)) ggX5_wasReadThawed_Jx4a65c_size_8abf5
set_option maxRecDepth 20000 in
theorem ggX5_wasReadThawed_Jx4a65c_get_915e3 : GoodIn wsX5_wasReadThawed wsJx4a65c_get_915e3 := goodIn_r _ [15, 11, 16, 17, 18, 19, 20, 21, 22, 23, 24, 25, 26, 9, 27, 28, 61, 62, 63] (by decide +kernel) (by decide +kernel)
set_option maxRecDepth 20000 in
theorem gX5_wasReadThawed_Jx4a65c_get_915e3 : GoodIn wsX5_wasReadThawed (wsV RX5 129 RJx4a65c yJx4a65c_get_915e3 wsJx4a65c_get_915e3) := goodIn_app (goodIn_of _ (by decide +kernel)) ggX5_wasReadThawed_Jx4a65c_get_915e3
set_option maxRecDepth 20000 in
theorem ggX5_wasReadThawed_X0_hasRead : GoodIn wsX5_wasReadThawed wsX0_hasRead := goodIn_r _ [33, 34, 35, 51, 52, 53, 54, 55] (by decide +kernel) (by decide +kernel)
set_option maxRecDepth 20000 in
theorem gX5_wasReadThawed_X0_hasRead : GoodIn wsX5_wasReadThawed (wsV RX5 189 RX0 yX0_hasRead wsX0_hasRead) := goodIn_app (goodIn_of _ (by decide +kernel)) ggX5_wasReadThawed_X0_hasRead
set_option maxRecDepth 20000 in
theorem ggX5_wasReadThawed_X0_readingAt : GoodIn wsX5_wasReadThawed wsX0_readingAt := goodIn_r _ [39, 34, 40, 51, 52, 53, 54, 55] (by decide +kernel) (by decide +kernel)
set_option maxRecDepth 20000 in
theorem gX5_wasReadThawed_X0_readingAt : GoodIn wsX5_wasReadThawed (wsV RX5 192 RX0 yX0_readingAt wsX0_readingAt) := goodIn_app (goodIn_of _ (by decide +kernel)) ggX5_wasReadThawed_X0_readingAt
theorem dX5_wasReadThawed_0 : decode cX5_wasReadThawed 0 = .ok (.iconst 0, 1) := by decide +kernel
theorem dX5_wasReadThawed_1 : decode cX5_wasReadThawed 1 = .ok (.istore_n 3, 1) := by decide +kernel
theorem dX5_wasReadThawed_2 : decode cX5_wasReadThawed 2 = .ok (.iload_n 3, 1) := by decide +kernel
theorem dX5_wasReadThawed_3 : decode cX5_wasReadThawed 3 = .ok (.aload_n 0, 1) := by decide +kernel
theorem dX5_wasReadThawed_4 : decode cX5_wasReadThawed 4 = .ok (.getfield 22, 3) := by decide +kernel
theorem dX5_wasReadThawed_7 : decode cX5_wasReadThawed 7 = .ok (.invokevirtual 112, 3) := by decide +kernel
theorem dX5_wasReadThawed_10 : decode cX5_wasReadThawed 10 = .ok (.if_icmp .ge 58, 3) := by decide +kernel
theorem dX5_wasReadThawed_13 : decode cX5_wasReadThawed 13 = .ok (.aload_n 0, 1) := by decide +kernel
theorem dX5_wasReadThawed_14 : decode cX5_wasReadThawed 14 = .ok (.getfield 22, 3) := by decide +kernel
theorem dX5_wasReadThawed_17 : decode cX5_wasReadThawed 17 = .ok (.iload_n 3, 1) := by decide +kernel
theorem dX5_wasReadThawed_18 : decode cX5_wasReadThawed 18 = .ok (.invokevirtual 129, 3) := by decide +kernel
theorem dX5_wasReadThawed_21 : decode cX5_wasReadThawed 21 = .ok (.checkcast 125, 3) := by decide +kernel
theorem dX5_wasReadThawed_24 : decode cX5_wasReadThawed 24 = .ok (.astore 4, 2) := by decide +kernel
theorem dX5_wasReadThawed_26 : decode cX5_wasReadThawed 26 = .ok (.aload 4, 2) := by decide +kernel
theorem dX5_wasReadThawed_28 : decode cX5_wasReadThawed 28 = .ok (.getfield 274, 3) := by decide +kernel
theorem dX5_wasReadThawed_31 : decode cX5_wasReadThawed 31 = .ok (.aload_n 1, 1) := by decide +kernel
theorem dX5_wasReadThawed_32 : decode cX5_wasReadThawed 32 = .ok (.getfield 180, 3) := by decide +kernel
theorem dX5_wasReadThawed_35 : decode cX5_wasReadThawed 35 = .ok (.if_icmp .ne 27, 3) := by decide +kernel
theorem dX5_wasReadThawed_38 : decode cX5_wasReadThawed 38 = .ok (.aload 4, 2) := by decide +kernel
theorem dX5_wasReadThawed_40 : decode cX5_wasReadThawed 40 = .ok (.iload_n 2, 1) := by decide +kernel
theorem dX5_wasReadThawed_41 : decode cX5_wasReadThawed 41 = .ok (.invokevirtual 189, 3) := by decide +kernel
theorem dX5_wasReadThawed_44 : decode cX5_wasReadThawed 44 = .ok (.ifCond .eq 18, 3) := by decide +kernel
theorem dX5_wasReadThawed_47 : decode cX5_wasReadThawed 47 = .ok (.aload 4, 2) := by decide +kernel
theorem dX5_wasReadThawed_49 : decode cX5_wasReadThawed 49 = .ok (.iload_n 2, 1) := by decide +kernel
theorem dX5_wasReadThawed_50 : decode cX5_wasReadThawed 50 = .ok (.aload_n 1, 1) := by decide +kernel
theorem dX5_wasReadThawed_51 : decode cX5_wasReadThawed 51 = .ok (.getfield 183, 3) := by decide +kernel
theorem dX5_wasReadThawed_54 : decode cX5_wasReadThawed 54 = .ok (.invokevirtual 192, 3) := by decide +kernel
theorem dX5_wasReadThawed_57 : decode cX5_wasReadThawed 57 = .ok (.ifCond .lt 5, 3) := by decide +kernel
theorem dX5_wasReadThawed_60 : decode cX5_wasReadThawed 60 = .ok (.iconst 1, 1) := by decide +kernel
theorem dX5_wasReadThawed_61 : decode cX5_wasReadThawed 61 = .ok (.ireturn, 1) := by decide +kernel
theorem dX5_wasReadThawed_62 : decode cX5_wasReadThawed 62 = .ok (.iinc 3 1, 3) := by decide +kernel
theorem dX5_wasReadThawed_65 : decode cX5_wasReadThawed 65 = .ok (.goto (-63), 3) := by decide +kernel
theorem dX5_wasReadThawed_68 : decode cX5_wasReadThawed 68 = .ok (.iconst 0, 1) := by decide +kernel
theorem dX5_wasReadThawed_69 : decode cX5_wasReadThawed 69 = .ok (.ireturn, 1) := by decide +kernel
set_option maxRecDepth 20000 in
theorem ggX5_amountInLand_X1_amount : GoodIn wsX5_amountInLand wsX1_amount := goodIn_r _ [6, 7, 8, 9, 10, 11, 12, 13, 14, 15, 16, 17, 18, 19, 20, 21, 32, 33, 34, 35, 36, 37, 38, 39, 40, 41, 42] (by decide +kernel) (by decide +kernel)
set_option maxRecDepth 20000 in
theorem gX5_amountInLand_X1_amount : GoodIn wsX5_amountInLand (wsV RX5 290 RX1 yX1_amount wsX1_amount) := goodIn_app (goodIn_of _ (by decide +kernel)) ggX5_amountInLand_X1_amount
theorem dX5_amountInLand_0 : decode cX5_amountInLand 0 = .ok (.lconst 0, 1) := by decide +kernel
theorem dX5_amountInLand_1 : decode cX5_amountInLand 1 = .ok (.lstore_n 2, 1) := by decide +kernel
theorem dX5_amountInLand_2 : decode cX5_amountInLand 2 = .ok (.iconst 0, 1) := by decide +kernel
theorem dX5_amountInLand_3 : decode cX5_amountInLand 3 = .ok (.istore 4, 2) := by decide +kernel
theorem dX5_amountInLand_5 : decode cX5_amountInLand 5 = .ok (.iload 4, 2) := by decide +kernel
theorem dX5_amountInLand_7 : decode cX5_amountInLand 7 = .ok (.aload_n 0, 1) := by decide +kernel
theorem dX5_amountInLand_8 : decode cX5_amountInLand 8 = .ok (.getfield 11, 3) := by decide +kernel
theorem dX5_amountInLand_11 : decode cX5_amountInLand 11 = .ok (.arraylength, 1) := by decide +kernel
theorem dX5_amountInLand_12 : decode cX5_amountInLand 12 = .ok (.if_icmp .ge 23, 3) := by decide +kernel
theorem dX5_amountInLand_15 : decode cX5_amountInLand 15 = .ok (.lload_n 2, 1) := by decide +kernel
theorem dX5_amountInLand_16 : decode cX5_amountInLand 16 = .ok (.aload_n 0, 1) := by decide +kernel
theorem dX5_amountInLand_17 : decode cX5_amountInLand 17 = .ok (.getfield 11, 3) := by decide +kernel
theorem dX5_amountInLand_20 : decode cX5_amountInLand 20 = .ok (.iload 4, 2) := by decide +kernel
theorem dX5_amountInLand_22 : decode cX5_amountInLand 22 = .ok (.aaload, 1) := by decide +kernel
theorem dX5_amountInLand_23 : decode cX5_amountInLand 23 = .ok (.iload_n 1, 1) := by decide +kernel
theorem dX5_amountInLand_24 : decode cX5_amountInLand 24 = .ok (.invokevirtual 290, 3) := by decide +kernel
theorem dX5_amountInLand_27 : decode cX5_amountInLand 27 = .ok (.ladd, 1) := by decide +kernel
theorem dX5_amountInLand_28 : decode cX5_amountInLand 28 = .ok (.lstore_n 2, 1) := by decide +kernel
theorem dX5_amountInLand_29 : decode cX5_amountInLand 29 = .ok (.iinc 4 1, 3) := by decide +kernel
theorem dX5_amountInLand_32 : decode cX5_amountInLand 32 = .ok (.goto (-27), 3) := by decide +kernel
theorem dX5_amountInLand_35 : decode cX5_amountInLand 35 = .ok (.lload_n 2, 1) := by decide +kernel
theorem dX5_amountInLand_36 : decode cX5_amountInLand 36 = .ok (.lreturn, 1) := by decide +kernel
theorem dX5_amountLeft_0 : decode cX5_amountLeft 0 = .ok (.iload_n 1, 1) := by decide +kernel
theorem dX5_amountLeft_1 : decode cX5_amountLeft 1 = .ok (.ifCond .ne 12, 3) := by decide +kernel
theorem dX5_amountLeft_4 : decode cX5_amountLeft 4 = .ok (.ldc2_w 292, 3) := by decide +kernel
theorem dX5_amountLeft_7 : decode cX5_amountLeft 7 = .ok (.aload_n 0, 1) := by decide +kernel
theorem dX5_amountLeft_8 : decode cX5_amountLeft 8 = .ok (.getfield 105, 3) := by decide +kernel
theorem dX5_amountLeft_11 : decode cX5_amountLeft 11 = .ok (.lmul, 1) := by decide +kernel
theorem dX5_amountLeft_12 : decode cX5_amountLeft 12 = .ok (.lreturn, 1) := by decide +kernel
theorem dX5_amountLeft_13 : decode cX5_amountLeft 13 = .ok (.iload_n 1, 1) := by decide +kernel
theorem dX5_amountLeft_14 : decode cX5_amountLeft 14 = .ok (.iconst 1, 1) := by decide +kernel
theorem dX5_amountLeft_15 : decode cX5_amountLeft 15 = .ok (.if_icmp .ne 10, 3) := by decide +kernel
theorem dX5_amountLeft_18 : decode cX5_amountLeft 18 = .ok (.aload_n 0, 1) := by decide +kernel
theorem dX5_amountLeft_19 : decode cX5_amountLeft 19 = .ok (.getfield 105, 3) := by decide +kernel
theorem dX5_amountLeft_22 : decode cX5_amountLeft 22 = .ok (.goto 16, 3) := by decide +kernel
theorem dX5_amountLeft_25 : decode cX5_amountLeft 25 = .ok (.aload_n 0, 1) := by decide +kernel
theorem dX5_amountLeft_26 : decode cX5_amountLeft 26 = .ok (.getfield 32, 3) := by decide +kernel
theorem dX5_amountLeft_29 : decode cX5_amountLeft 29 = .ok (.iconst 0, 1) := by decide +kernel
theorem dX5_amountLeft_30 : decode cX5_amountLeft 30 = .ok (.laload, 1) := by decide +kernel
theorem dX5_amountLeft_31 : decode cX5_amountLeft 31 = .ok (.aload_n 0, 1) := by decide +kernel
theorem dX5_amountLeft_32 : decode cX5_amountLeft 32 = .ok (.getfield 32, 3) := by decide +kernel
theorem dX5_amountLeft_35 : decode cX5_amountLeft 35 = .ok (.iconst 1, 1) := by decide +kernel
theorem dX5_amountLeft_36 : decode cX5_amountLeft 36 = .ok (.laload, 1) := by decide +kernel
theorem dX5_amountLeft_37 : decode cX5_amountLeft 37 = .ok (.ladd, 1) := by decide +kernel
theorem dX5_amountLeft_38 : decode cX5_amountLeft 38 = .ok (.lreturn, 1) := by decide +kernel
theorem dJ9_max_7cf53_0 : decode cJ9_max_7cf53 0 = .ok (.iload_n 0, 1) := by decide +kernel
theorem dJ9_max_7cf53_1 : decode cJ9_max_7cf53 1 = .ok (.iload_n 1, 1) := by decide +kernel
theorem dJ9_max_7cf53_2 : decode cJ9_max_7cf53 2 = .ok (.if_icmp .lt 7, 3) := by decide +kernel
theorem dJ9_max_7cf53_5 : decode cJ9_max_7cf53 5 = .ok (.iload_n 0, 1) := by decide +kernel
theorem dJ9_max_7cf53_6 : decode cJ9_max_7cf53 6 = .ok (.goto 4, 3) := by decide +kernel
theorem dJ9_max_7cf53_9 : decode cJ9_max_7cf53 9 = .ok (.iload_n 1, 1) := by decide +kernel
theorem dJ9_max_7cf53_10 : decode cJ9_max_7cf53 10 = .ok (.ireturn, 1) := by decide +kernel
theorem dJ9_min_7cf53_0 : decode cJ9_min_7cf53 0 = .ok (.iload_n 0, 1) := by decide +kernel
theorem dJ9_min_7cf53_1 : decode cJ9_min_7cf53 1 = .ok (.iload_n 1, 1) := by decide +kernel
theorem dJ9_min_7cf53_2 : decode cJ9_min_7cf53 2 = .ok (.if_icmp .gt 7, 3) := by decide +kernel
theorem dJ9_min_7cf53_5 : decode cJ9_min_7cf53 5 = .ok (.iload_n 0, 1) := by decide +kernel
theorem dJ9_min_7cf53_6 : decode cJ9_min_7cf53 6 = .ok (.goto 4, 3) := by decide +kernel
theorem dJ9_min_7cf53_9 : decode cJ9_min_7cf53 9 = .ok (.iload_n 1, 1) := by decide +kernel
theorem dJ9_min_7cf53_10 : decode cJ9_min_7cf53 10 = .ok (.ireturn, 1) := by decide +kernel
theorem dJxa1e45_init_da8c8_0 : decode cJxa1e45_init_da8c8 0 = .ok (.aload_n 0, 1) := by decide +kernel
theorem dJxa1e45_init_da8c8_1 : decode cJxa1e45_init_da8c8 1 = .ok (.invokespecial 1, 3) := by decide +kernel
theorem dJxa1e45_init_da8c8_4 : decode cJxa1e45_init_da8c8 4 = .ok (.return_, 1) := by decide +kernel
set_option maxRecDepth 20000 in
theorem ggJxc12de_init_da8c8_Jxa1e45_init_da8c8 : GoodIn wsJxc12de_init_da8c8 wsJxa1e45_init_da8c8 := goodIn_r _ [5, 6, 7, 8] (by decide +kernel) (by decide +kernel)
set_option maxRecDepth 20000 in
theorem gJxc12de_init_da8c8_Jxa1e45_init_da8c8 : GoodIn wsJxc12de_init_da8c8 (wsJxa1e45_init_da8c8) := ggJxc12de_init_da8c8_Jxa1e45_init_da8c8
theorem dJxc12de_init_da8c8_0 : decode cJxc12de_init_da8c8 0 = .ok (.aload_n 0, 1) := by decide +kernel
theorem dJxc12de_init_da8c8_1 : decode cJxc12de_init_da8c8 1 = .ok (.invokespecial 1, 3) := by decide +kernel
theorem dJxc12de_init_da8c8_4 : decode cJxc12de_init_da8c8 4 = .ok (.aload_n 0, 1) := by decide +kernel
theorem dJxc12de_init_da8c8_5 : decode cJxc12de_init_da8c8 5 = .ok (.iconst 0, 1) := by decide +kernel
theorem dJxc12de_init_da8c8_6 : decode cJxc12de_init_da8c8 6 = .ok (.putfield 7, 3) := by decide +kernel
theorem dJxc12de_init_da8c8_9 : decode cJxc12de_init_da8c8 9 = .ok (.return_, 1) := by decide +kernel
set_option maxRecDepth 20000 in
theorem ggJx4a65c_init_da8c8_Jxc12de_init_da8c8 : GoodIn wsJx4a65c_init_da8c8 wsJxc12de_init_da8c8 := goodIn_r _ [6, 7, 8, 9, 10, 11, 12, 13, 14, 15, 16, 17] (by decide +kernel) (by decide +kernel)
set_option maxRecDepth 20000 in
theorem gJx4a65c_init_da8c8_Jxc12de_init_da8c8 : GoodIn wsJx4a65c_init_da8c8 (wsJxc12de_init_da8c8) := ggJx4a65c_init_da8c8_Jxc12de_init_da8c8
theorem dJx4a65c_init_da8c8_0 : decode cJx4a65c_init_da8c8 0 = .ok (.aload_n 0, 1) := by decide +kernel
theorem dJx4a65c_init_da8c8_1 : decode cJx4a65c_init_da8c8 1 = .ok (.invokespecial 1, 3) := by decide +kernel
theorem dJx4a65c_init_da8c8_4 : decode cJx4a65c_init_da8c8 4 = .ok (.aload_n 0, 1) := by decide +kernel
theorem dJx4a65c_init_da8c8_5 : decode cJx4a65c_init_da8c8 5 = .ok (.getstatic 39, 3) := by decide +kernel
theorem dJx4a65c_init_da8c8_8 : decode cJx4a65c_init_da8c8 8 = .ok (.putfield 9, 3) := by decide +kernel
theorem dJx4a65c_init_da8c8_11 : decode cJx4a65c_init_da8c8 11 = .ok (.return_, 1) := by decide +kernel
set_option maxRecDepth 20000 in
theorem ggJx4a65c_grow_92f84_J8_newLength_cabcc : GoodIn wsJx4a65c_grow_92f84 wsJ8_newLength_cabcc := goodIn_r _ [11, 12, 4, 5, 6, 13, 14, 15, 10, 16] (by decide +kernel) (by decide +kernel)
set_option maxRecDepth 20000 in
theorem gJx4a65c_grow_92f84_J8_newLength_cabcc : GoodIn wsJx4a65c_grow_92f84 (va_wsS RJx4a65c 73 yJ8_newLength_cabcc wsJ8_newLength_cabcc) := goodIn_app (goodIn_of _ (by decide +kernel)) ggJx4a65c_grow_92f84_J8_newLength_cabcc
set_option maxRecDepth 20000 in
theorem ggJx4a65c_grow_92f84_J7_copyOf_1904c : GoodIn wsJx4a65c_grow_92f84 wsJ7_copyOf_1904c := goodIn_r _ [20, 21, 22, 23, 24, 25, 26, 19, 27, 28, 29, 30, 31, 5, 32, 33, 34, 35, 36] (by decide +kernel) (by decide +kernel)
set_option maxRecDepth 20000 in
theorem gJx4a65c_grow_92f84_J7_copyOf_1904c : GoodIn wsJx4a65c_grow_92f84 (va_wsS RJx4a65c 66 yJ7_copyOf_1904c wsJ7_copyOf_1904c) := goodIn_app (goodIn_of _ (by decide +kernel)) ggJx4a65c_grow_92f84_J7_copyOf_1904c
theorem dJx4a65c_grow_92f84_0 : decode cJx4a65c_grow_92f84 0 = .ok (.aload_n 0, 1) := by decide +kernel
theorem dJx4a65c_grow_92f84_1 : decode cJx4a65c_grow_92f84 1 = .ok (.getfield 9, 3) := by decide +kernel
theorem dJx4a65c_grow_92f84_4 : decode cJx4a65c_grow_92f84 4 = .ok (.arraylength, 1) := by decide +kernel
theorem dJx4a65c_grow_92f84_5 : decode cJx4a65c_grow_92f84 5 = .ok (.istore_n 2, 1) := by decide +kernel
theorem dJx4a65c_grow_92f84_6 : decode cJx4a65c_grow_92f84 6 = .ok (.iload_n 2, 1) := by decide +kernel
theorem dJx4a65c_grow_92f84_7 : decode cJx4a65c_grow_92f84 7 = .ok (.ifCond .gt 13, 3) := by decide +kernel
theorem dJx4a65c_grow_92f84_10 : decode cJx4a65c_grow_92f84 10 = .ok (.aload_n 0, 1) := by decide +kernel
theorem dJx4a65c_grow_92f84_11 : decode cJx4a65c_grow_92f84 11 = .ok (.getfield 9, 3) := by decide +kernel
theorem dJx4a65c_grow_92f84_14 : decode cJx4a65c_grow_92f84 14 = .ok (.getstatic 39, 3) := by decide +kernel
theorem dJx4a65c_grow_92f84_17 : decode cJx4a65c_grow_92f84 17 = .ok (.if_acmp .eq 28, 3) := by decide +kernel
theorem dJx4a65c_grow_92f84_20 : decode cJx4a65c_grow_92f84 20 = .ok (.iload_n 2, 1) := by decide +kernel
theorem dJx4a65c_grow_92f84_21 : decode cJx4a65c_grow_92f84 21 = .ok (.iload_n 1, 1) := by decide +kernel
theorem dJx4a65c_grow_92f84_22 : decode cJx4a65c_grow_92f84 22 = .ok (.iload_n 2, 1) := by decide +kernel
theorem dJx4a65c_grow_92f84_23 : decode cJx4a65c_grow_92f84 23 = .ok (.isub, 1) := by decide +kernel
theorem dJx4a65c_grow_92f84_24 : decode cJx4a65c_grow_92f84 24 = .ok (.iload_n 2, 1) := by decide +kernel
theorem dJx4a65c_grow_92f84_25 : decode cJx4a65c_grow_92f84 25 = .ok (.iconst 1, 1) := by decide +kernel
theorem dJx4a65c_grow_92f84_26 : decode cJx4a65c_grow_92f84 26 = .ok (.ishr, 1) := by decide +kernel
theorem dJx4a65c_grow_92f84_27 : decode cJx4a65c_grow_92f84 27 = .ok (.invokestatic 73, 3) := by decide +kernel
theorem dJx4a65c_grow_92f84_30 : decode cJx4a65c_grow_92f84 30 = .ok (.istore_n 3, 1) := by decide +kernel
theorem dJx4a65c_grow_92f84_31 : decode cJx4a65c_grow_92f84 31 = .ok (.aload_n 0, 1) := by decide +kernel
theorem dJx4a65c_grow_92f84_32 : decode cJx4a65c_grow_92f84 32 = .ok (.aload_n 0, 1) := by decide +kernel
theorem dJx4a65c_grow_92f84_33 : decode cJx4a65c_grow_92f84 33 = .ok (.getfield 9, 3) := by decide +kernel
theorem dJx4a65c_grow_92f84_36 : decode cJx4a65c_grow_92f84 36 = .ok (.iload_n 3, 1) := by decide +kernel
theorem dJx4a65c_grow_92f84_37 : decode cJx4a65c_grow_92f84 37 = .ok (.invokestatic 66, 3) := by decide +kernel
theorem dJx4a65c_grow_92f84_40 : decode cJx4a65c_grow_92f84 40 = .ok (.dup_x1, 1) := by decide +kernel
theorem dJx4a65c_grow_92f84_41 : decode cJx4a65c_grow_92f84 41 = .ok (.putfield 9, 3) := by decide +kernel
theorem dJx4a65c_grow_92f84_44 : decode cJx4a65c_grow_92f84 44 = .ok (.areturn, 1) := by decide +kernel
theorem dJx4a65c_grow_92f84_45 : decode cJx4a65c_grow_92f84 45 = .ok (.aload_n 0, 1) := by decide +kernel
theorem dJx4a65c_grow_92f84_46 : decode cJx4a65c_grow_92f84 46 = .ok (.bipush 10, 2) := by decide +kernel
theorem dJx4a65c_grow_92f84_48 : decode cJx4a65c_grow_92f84 48 = .ok (.iload_n 1, 1) := by decide +kernel
theorem dJx4a65c_grow_92f84_49 : decode cJx4a65c_grow_92f84 49 = .ok (.invokestatic 79, 3) := by decide +kernel
theorem dJx4a65c_grow_92f84_52 : decode cJx4a65c_grow_92f84 52 = .ok (.anewarray 7, 3) := by decide +kernel
theorem dJx4a65c_grow_92f84_55 : decode cJx4a65c_grow_92f84 55 = .ok (.dup_x1, 1) := by decide +kernel
theorem dJx4a65c_grow_92f84_56 : decode cJx4a65c_grow_92f84 56 = .ok (.putfield 9, 3) := by decide +kernel
theorem dJx4a65c_grow_92f84_59 : decode cJx4a65c_grow_92f84 59 = .ok (.areturn, 1) := by decide +kernel
set_option maxRecDepth 20000 in
theorem ggJx4a65c_grow_d5877_Jx4a65c_grow_92f84 : GoodIn wsJx4a65c_grow_d5877 wsJx4a65c_grow_92f84 := goodIn_r _ [6, 7, 8, 9, 10, 11, 12, 13, 14, 15, 16, 17, 18, 19, 20, 21, 22, 23, 24, 25, 26, 27, 28, 29, 30, 31, 32, 33, 34, 35, 36, 37, 38, 39, 40, 41, 42, 43, 44, 45] (by decide +kernel) (by decide +kernel)
