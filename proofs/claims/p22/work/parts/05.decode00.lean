theorem dX0_init_0 : decode cX0_init 0 = .ok (.aload_n 0, 1) := by decide +kernel
theorem dX0_init_1 : decode cX0_init 1 = .ok (.invokespecial 3, 3) := by decide +kernel
theorem dX0_init_4 : decode cX0_init 4 = .ok (.aload_n 0, 1) := by decide +kernel
theorem dX0_init_5 : decode cX0_init 5 = .ok (.iload_n 1, 1) := by decide +kernel
theorem dX0_init_6 : decode cX0_init 6 = .ok (.putfield 9, 3) := by decide +kernel
theorem dX0_init_9 : decode cX0_init 9 = .ok (.aload_n 0, 1) := by decide +kernel
theorem dX0_init_10 : decode cX0_init 10 = .ok (.iload_n 2, 1) := by decide +kernel
theorem dX0_init_11 : decode cX0_init 11 = .ok (.putfield 15, 3) := by decide +kernel
theorem dX0_init_14 : decode cX0_init 14 = .ok (.aload_n 0, 1) := by decide +kernel
theorem dX0_init_15 : decode cX0_init 15 = .ok (.iload_n 3, 1) := by decide +kernel
theorem dX0_init_16 : decode cX0_init 16 = .ok (.putfield 18, 3) := by decide +kernel
theorem dX0_init_19 : decode cX0_init 19 = .ok (.aload_n 0, 1) := by decide +kernel
theorem dX0_init_20 : decode cX0_init 20 = .ok (.sipush 600, 3) := by decide +kernel
theorem dX0_init_23 : decode cX0_init 23 = .ok (.iload_n 3, 1) := by decide +kernel
theorem dX0_init_24 : decode cX0_init 24 = .ok (.isub, 1) := by decide +kernel
theorem dX0_init_25 : decode cX0_init 25 = .ok (.iconst 0, 1) := by decide +kernel
theorem dX0_init_26 : decode cX0_init 26 = .ok (.invokestatic 21, 3) := by decide +kernel
theorem dX0_init_29 : decode cX0_init 29 = .ok (.iconst 5, 1) := by decide +kernel
theorem dX0_init_30 : decode cX0_init 30 = .ok (.imul, 1) := by decide +kernel
theorem dX0_init_31 : decode cX0_init 31 = .ok (.newarray .int, 2) := by decide +kernel
theorem dX0_init_33 : decode cX0_init 33 = .ok (.putfield 27, 3) := by decide +kernel
theorem dX0_init_36 : decode cX0_init 36 = .ok (.return_, 1) := by decide +kernel
theorem dX0_hasRead_0 : decode cX0_hasRead 0 = .ok (.iload_n 1, 1) := by decide +kernel
theorem dX0_hasRead_1 : decode cX0_hasRead 1 = .ok (.aload_n 0, 1) := by decide +kernel
theorem dX0_hasRead_2 : decode cX0_hasRead 2 = .ok (.getfield 18, 3) := by decide +kernel
theorem dX0_hasRead_5 : decode cX0_hasRead 5 = .ok (.if_icmp .lt 20, 3) := by decide +kernel
theorem dX0_hasRead_8 : decode cX0_hasRead 8 = .ok (.iload_n 1, 1) := by decide +kernel
theorem dX0_hasRead_9 : decode cX0_hasRead 9 = .ok (.aload_n 0, 1) := by decide +kernel
theorem dX0_hasRead_10 : decode cX0_hasRead 10 = .ok (.getfield 18, 3) := by decide +kernel
theorem dX0_hasRead_13 : decode cX0_hasRead 13 = .ok (.aload_n 0, 1) := by decide +kernel
theorem dX0_hasRead_14 : decode cX0_hasRead 14 = .ok (.getfield 31, 3) := by decide +kernel
theorem dX0_hasRead_17 : decode cX0_hasRead 17 = .ok (.iadd, 1) := by decide +kernel
theorem dX0_hasRead_18 : decode cX0_hasRead 18 = .ok (.if_icmp .ge 7, 3) := by decide +kernel
theorem dX0_hasRead_21 : decode cX0_hasRead 21 = .ok (.iconst 1, 1) := by decide +kernel
theorem dX0_hasRead_22 : decode cX0_hasRead 22 = .ok (.goto 4, 3) := by decide +kernel
theorem dX0_hasRead_25 : decode cX0_hasRead 25 = .ok (.iconst 0, 1) := by decide +kernel
theorem dX0_hasRead_26 : decode cX0_hasRead 26 = .ok (.ireturn, 1) := by decide +kernel
theorem dX0_readingAt_0 : decode cX0_readingAt 0 = .ok (.iload_n 1, 1) := by decide +kernel
theorem dX0_readingAt_1 : decode cX0_readingAt 1 = .ok (.aload_n 0, 1) := by decide +kernel
theorem dX0_readingAt_2 : decode cX0_readingAt 2 = .ok (.getfield 18, 3) := by decide +kernel
theorem dX0_readingAt_5 : decode cX0_readingAt 5 = .ok (.isub, 1) := by decide +kernel
theorem dX0_readingAt_6 : decode cX0_readingAt 6 = .ok (.iconst 5, 1) := by decide +kernel
theorem dX0_readingAt_7 : decode cX0_readingAt 7 = .ok (.imul, 1) := by decide +kernel
theorem dX0_readingAt_8 : decode cX0_readingAt 8 = .ok (.iload_n 2, 1) := by decide +kernel
theorem dX0_readingAt_9 : decode cX0_readingAt 9 = .ok (.iadd, 1) := by decide +kernel
theorem dX0_readingAt_10 : decode cX0_readingAt 10 = .ok (.istore_n 3, 1) := by decide +kernel
theorem dX0_readingAt_11 : decode cX0_readingAt 11 = .ok (.iload_n 3, 1) := by decide +kernel
theorem dX0_readingAt_12 : decode cX0_readingAt 12 = .ok (.ifCond .lt 21, 3) := by decide +kernel
theorem dX0_readingAt_15 : decode cX0_readingAt 15 = .ok (.iload_n 3, 1) := by decide +kernel
theorem dX0_readingAt_16 : decode cX0_readingAt 16 = .ok (.aload_n 0, 1) := by decide +kernel
theorem dX0_readingAt_17 : decode cX0_readingAt 17 = .ok (.getfield 27, 3) := by decide +kernel
theorem dX0_readingAt_20 : decode cX0_readingAt 20 = .ok (.arraylength, 1) := by decide +kernel
theorem dX0_readingAt_21 : decode cX0_readingAt 21 = .ok (.if_icmp .ge 12, 3) := by decide +kernel
theorem dX0_readingAt_24 : decode cX0_readingAt 24 = .ok (.aload_n 0, 1) := by decide +kernel
theorem dX0_readingAt_25 : decode cX0_readingAt 25 = .ok (.getfield 27, 3) := by decide +kernel
theorem dX0_readingAt_28 : decode cX0_readingAt 28 = .ok (.iload_n 3, 1) := by decide +kernel
theorem dX0_readingAt_29 : decode cX0_readingAt 29 = .ok (.iaload, 1) := by decide +kernel
theorem dX0_readingAt_30 : decode cX0_readingAt 30 = .ok (.goto 4, 3) := by decide +kernel
theorem dX0_readingAt_33 : decode cX0_readingAt 33 = .ok (.iconst 0, 1) := by decide +kernel
theorem dX0_readingAt_34 : decode cX0_readingAt 34 = .ok (.ireturn, 1) := by decide +kernel
set_option maxRecDepth 20000 in
theorem ggX0_readLayers_X4_temperature : GoodIn wsX0_readLayers wsX4_temperature := goodIn_r _ [8, 9, 10, 11, 12, 7, 13, 14, 15, 21, 22, 23, 24] (by decide +kernel) (by decide +kernel)
set_option maxRecDepth 20000 in
theorem gX0_readLayers_X4_temperature : GoodIn wsX0_readLayers (wsV RX0 34 RX4 yX4_temperature wsX4_temperature) := goodIn_app (goodIn_of _ (by decide +kernel)) ggX0_readLayers_X4_temperature
theorem dX0_readLayers_0 : decode cX0_readLayers 0 = .ok (.aload_n 0, 1) := by decide +kernel
theorem dX0_readLayers_1 : decode cX0_readLayers 1 = .ok (.getfield 31, 3) := by decide +kernel
theorem dX0_readLayers_4 : decode cX0_readLayers 4 = .ok (.iconst 5, 1) := by decide +kernel
theorem dX0_readLayers_5 : decode cX0_readLayers 5 = .ok (.imul, 1) := by decide +kernel
theorem dX0_readLayers_6 : decode cX0_readLayers 6 = .ok (.istore_n 2, 1) := by decide +kernel
theorem dX0_readLayers_7 : decode cX0_readLayers 7 = .ok (.aload_n 0, 1) := by decide +kernel
theorem dX0_readLayers_8 : decode cX0_readLayers 8 = .ok (.dup, 1) := by decide +kernel
theorem dX0_readLayers_9 : decode cX0_readLayers 9 = .ok (.getfield 31, 3) := by decide +kernel
theorem dX0_readLayers_12 : decode cX0_readLayers 12 = .ok (.iconst 1, 1) := by decide +kernel
theorem dX0_readLayers_13 : decode cX0_readLayers 13 = .ok (.iadd, 1) := by decide +kernel
theorem dX0_readLayers_14 : decode cX0_readLayers 14 = .ok (.putfield 31, 3) := by decide +kernel
theorem dX0_readLayers_17 : decode cX0_readLayers 17 = .ok (.aload_n 0, 1) := by decide +kernel
theorem dX0_readLayers_18 : decode cX0_readLayers 18 = .ok (.getfield 15, 3) := by decide +kernel
theorem dX0_readLayers_21 : decode cX0_readLayers 21 = .ok (.aload_n 0, 1) := by decide +kernel
theorem dX0_readLayers_22 : decode cX0_readLayers 22 = .ok (.getfield 31, 3) := by decide +kernel
theorem dX0_readLayers_25 : decode cX0_readLayers 25 = .ok (.imul, 1) := by decide +kernel
theorem dX0_readLayers_26 : decode cX0_readLayers 26 = .ok (.bipush 12, 2) := by decide +kernel
theorem dX0_readLayers_28 : decode cX0_readLayers 28 = .ok (.idiv, 1) := by decide +kernel
theorem dX0_readLayers_29 : decode cX0_readLayers 29 = .ok (.istore_n 3, 1) := by decide +kernel
theorem dX0_readLayers_30 : decode cX0_readLayers 30 = .ok (.iconst 0, 1) := by decide +kernel
theorem dX0_readLayers_31 : decode cX0_readLayers 31 = .ok (.istore 4, 2) := by decide +kernel
theorem dX0_readLayers_33 : decode cX0_readLayers 33 = .ok (.iload 4, 2) := by decide +kernel
theorem dX0_readLayers_35 : decode cX0_readLayers 35 = .ok (.aload_n 1, 1) := by decide +kernel
theorem dX0_readLayers_36 : decode cX0_readLayers 36 = .ok (.arraylength, 1) := by decide +kernel
theorem dX0_readLayers_37 : decode cX0_readLayers 37 = .ok (.if_icmp .ge 39, 3) := by decide +kernel
theorem dX0_readLayers_40 : decode cX0_readLayers 40 = .ok (.iload_n 2, 1) := by decide +kernel
theorem dX0_readLayers_41 : decode cX0_readLayers 41 = .ok (.iload 4, 2) := by decide +kernel
theorem dX0_readLayers_43 : decode cX0_readLayers 43 = .ok (.iadd, 1) := by decide +kernel
theorem dX0_readLayers_44 : decode cX0_readLayers 44 = .ok (.aload_n 0, 1) := by decide +kernel
theorem dX0_readLayers_45 : decode cX0_readLayers 45 = .ok (.getfield 27, 3) := by decide +kernel
theorem dX0_readLayers_48 : decode cX0_readLayers 48 = .ok (.arraylength, 1) := by decide +kernel
theorem dX0_readLayers_49 : decode cX0_readLayers 49 = .ok (.if_icmp .ge 27, 3) := by decide +kernel
theorem dX0_readLayers_52 : decode cX0_readLayers 52 = .ok (.aload_n 0, 1) := by decide +kernel
theorem dX0_readLayers_53 : decode cX0_readLayers 53 = .ok (.getfield 27, 3) := by decide +kernel
theorem dX0_readLayers_56 : decode cX0_readLayers 56 = .ok (.iload_n 2, 1) := by decide +kernel
theorem dX0_readLayers_57 : decode cX0_readLayers 57 = .ok (.iload 4, 2) := by decide +kernel
theorem dX0_readLayers_59 : decode cX0_readLayers 59 = .ok (.iadd, 1) := by decide +kernel
theorem dX0_readLayers_60 : decode cX0_readLayers 60 = .ok (.aload_n 1, 1) := by decide +kernel
theorem dX0_readLayers_61 : decode cX0_readLayers 61 = .ok (.iload 4, 2) := by decide +kernel
theorem dX0_readLayers_63 : decode cX0_readLayers 63 = .ok (.aaload, 1) := by decide +kernel
theorem dX0_readLayers_64 : decode cX0_readLayers 64 = .ok (.invokevirtual 34, 3) := by decide +kernel
theorem dX0_readLayers_67 : decode cX0_readLayers 67 = .ok (.iload_n 3, 1) := by decide +kernel
theorem dX0_readLayers_68 : decode cX0_readLayers 68 = .ok (.iadd, 1) := by decide +kernel
theorem dX0_readLayers_69 : decode cX0_readLayers 69 = .ok (.iastore, 1) := by decide +kernel
theorem dX0_readLayers_70 : decode cX0_readLayers 70 = .ok (.iinc 4 1, 3) := by decide +kernel
theorem dX0_readLayers_73 : decode cX0_readLayers 73 = .ok (.goto (-40), 3) := by decide +kernel
theorem dX0_readLayers_76 : decode cX0_readLayers 76 = .ok (.return_, 1) := by decide +kernel
set_option maxRecDepth 20000 in
theorem ggX1_init_X4_init : GoodIn wsX1_init wsX4_init := goodIn_r _ [13, 14, 2, 3, 15, 16, 17, 18, 19, 20, 21, 22] (by decide +kernel) (by decide +kernel)
set_option maxRecDepth 20000 in
theorem gX1_init_X4_init : GoodIn wsX1_init (wsX4_init) := ggX1_init_X4_init
theorem dX1_init_0 : decode cX1_init 0 = .ok (.aload_n 0, 1) := by decide +kernel
theorem dX1_init_1 : decode cX1_init 1 = .ok (.invokespecial 3, 3) := by decide +kernel
theorem dX1_init_4 : decode cX1_init 4 = .ok (.aload_n 0, 1) := by decide +kernel
theorem dX1_init_5 : decode cX1_init 5 = .ok (.iconst 5, 1) := by decide +kernel
theorem dX1_init_6 : decode cX1_init 6 = .ok (.anewarray 9, 3) := by decide +kernel
theorem dX1_init_9 : decode cX1_init 9 = .ok (.dup, 1) := by decide +kernel
theorem dX1_init_10 : decode cX1_init 10 = .ok (.iconst 0, 1) := by decide +kernel
theorem dX1_init_11 : decode cX1_init 11 = .ok (.new 9, 3) := by decide +kernel
theorem dX1_init_14 : decode cX1_init 14 = .ok (.dup, 1) := by decide +kernel
theorem dX1_init_15 : decode cX1_init 15 = .ok (.iconst 0, 1) := by decide +kernel
theorem dX1_init_16 : decode cX1_init 16 = .ok (.invokespecial 11, 3) := by decide +kernel
theorem dX1_init_19 : decode cX1_init 19 = .ok (.aastore, 1) := by decide +kernel
theorem dX1_init_20 : decode cX1_init 20 = .ok (.dup, 1) := by decide +kernel
theorem dX1_init_21 : decode cX1_init 21 = .ok (.iconst 1, 1) := by decide +kernel
theorem dX1_init_22 : decode cX1_init 22 = .ok (.new 9, 3) := by decide +kernel
theorem dX1_init_25 : decode cX1_init 25 = .ok (.dup, 1) := by decide +kernel
theorem dX1_init_26 : decode cX1_init 26 = .ok (.iconst 2, 1) := by decide +kernel
theorem dX1_init_27 : decode cX1_init 27 = .ok (.invokespecial 11, 3) := by decide +kernel
theorem dX1_init_30 : decode cX1_init 30 = .ok (.aastore, 1) := by decide +kernel
theorem dX1_init_31 : decode cX1_init 31 = .ok (.dup, 1) := by decide +kernel
theorem dX1_init_32 : decode cX1_init 32 = .ok (.iconst 2, 1) := by decide +kernel
theorem dX1_init_33 : decode cX1_init 33 = .ok (.new 9, 3) := by decide +kernel
theorem dX1_init_36 : decode cX1_init 36 = .ok (.dup, 1) := by decide +kernel
theorem dX1_init_37 : decode cX1_init 37 = .ok (.iconst 3, 1) := by decide +kernel
theorem dX1_init_38 : decode cX1_init 38 = .ok (.invokespecial 11, 3) := by decide +kernel
theorem dX1_init_41 : decode cX1_init 41 = .ok (.aastore, 1) := by decide +kernel
theorem dX1_init_42 : decode cX1_init 42 = .ok (.dup, 1) := by decide +kernel
theorem dX1_init_43 : decode cX1_init 43 = .ok (.iconst 3, 1) := by decide +kernel
theorem dX1_init_44 : decode cX1_init 44 = .ok (.new 9, 3) := by decide +kernel
theorem dX1_init_47 : decode cX1_init 47 = .ok (.dup, 1) := by decide +kernel
theorem dX1_init_48 : decode cX1_init 48 = .ok (.iconst 2, 1) := by decide +kernel
theorem dX1_init_49 : decode cX1_init 49 = .ok (.invokespecial 11, 3) := by decide +kernel
theorem dX1_init_52 : decode cX1_init 52 = .ok (.aastore, 1) := by decide +kernel
theorem dX1_init_53 : decode cX1_init 53 = .ok (.dup, 1) := by decide +kernel
theorem dX1_init_54 : decode cX1_init 54 = .ok (.iconst 4, 1) := by decide +kernel
theorem dX1_init_55 : decode cX1_init 55 = .ok (.new 9, 3) := by decide +kernel
theorem dX1_init_58 : decode cX1_init 58 = .ok (.dup, 1) := by decide +kernel
theorem dX1_init_59 : decode cX1_init 59 = .ok (.iconst 0, 1) := by decide +kernel
theorem dX1_init_60 : decode cX1_init 60 = .ok (.invokespecial 11, 3) := by decide +kernel
theorem dX1_init_63 : decode cX1_init 63 = .ok (.aastore, 1) := by decide +kernel
theorem dX1_init_64 : decode cX1_init 64 = .ok (.putfield 14, 3) := by decide +kernel
theorem dX1_init_67 : decode cX1_init 67 = .ok (.aload_n 0, 1) := by decide +kernel
theorem dX1_init_68 : decode cX1_init 68 = .ok (.bipush 100, 2) := by decide +kernel
theorem dX1_init_70 : decode cX1_init 70 = .ok (.putfield 20, 3) := by decide +kernel
theorem dX1_init_73 : decode cX1_init 73 = .ok (.aload_n 0, 1) := by decide +kernel
theorem dX1_init_74 : decode cX1_init 74 = .ok (.iconst 2, 1) := by decide +kernel
theorem dX1_init_75 : decode cX1_init 75 = .ok (.putfield 24, 3) := by decide +kernel
theorem dX1_init_78 : decode cX1_init 78 = .ok (.aload_n 0, 1) := by decide +kernel
theorem dX1_init_79 : decode cX1_init 79 = .ok (.iconst (-1), 1) := by decide +kernel
theorem dX1_init_80 : decode cX1_init 80 = .ok (.putfield 27, 3) := by decide +kernel
theorem dX1_init_83 : decode cX1_init 83 = .ok (.return_, 1) := by decide +kernel
theorem dX1_isLake_0 : decode cX1_isLake 0 = .ok (.aload_n 0, 1) := by decide +kernel
theorem dX1_isLake_1 : decode cX1_isLake 1 = .ok (.getfield 30, 3) := by decide +kernel
theorem dX1_isLake_4 : decode cX1_isLake 4 = .ok (.iconst 3, 1) := by decide +kernel
theorem dX1_isLake_5 : decode cX1_isLake 5 = .ok (.if_icmp .lt 7, 3) := by decide +kernel
theorem dX1_isLake_8 : decode cX1_isLake 8 = .ok (.iconst 1, 1) := by decide +kernel
theorem dX1_isLake_9 : decode cX1_isLake 9 = .ok (.goto 4, 3) := by decide +kernel
theorem dX1_isLake_12 : decode cX1_isLake 12 = .ok (.iconst 0, 1) := by decide +kernel
theorem dX1_isLake_13 : decode cX1_isLake 13 = .ok (.ireturn, 1) := by decide +kernel
theorem dX1_level_0 : decode cX1_level 0 = .ok (.aload_n 0, 1) := by decide +kernel
theorem dX1_level_1 : decode cX1_level 1 = .ok (.getfield 20, 3) := by decide +kernel
theorem dX1_level_4 : decode cX1_level 4 = .ok (.aload_n 0, 1) := by decide +kernel
theorem dX1_level_5 : decode cX1_level 5 = .ok (.getfield 30, 3) := by decide +kernel
theorem dX1_level_8 : decode cX1_level 8 = .ok (.iadd, 1) := by decide +kernel
theorem dX1_level_9 : decode cX1_level 9 = .ok (.ireturn, 1) := by decide +kernel
set_option maxRecDepth 20000 in
theorem ggX1_thawedFromAbove_X4_isThawed : GoodIn wsX1_thawedFromAbove wsX4_isThawed := goodIn_r _ [6, 7, 15, 16, 17, 18] (by decide +kernel) (by decide +kernel)
set_option maxRecDepth 20000 in
theorem gX1_thawedFromAbove_X4_isThawed : GoodIn wsX1_thawedFromAbove (wsV RX1 33 RX4 yX4_isThawed wsX4_isThawed) := goodIn_app (goodIn_of _ (by decide +kernel)) ggX1_thawedFromAbove_X4_isThawed
theorem dX1_thawedFromAbove_0 : decode cX1_thawedFromAbove 0 = .ok (.iconst 0, 1) := by decide +kernel
theorem dX1_thawedFromAbove_1 : decode cX1_thawedFromAbove 1 = .ok (.istore_n 1, 1) := by decide +kernel
theorem dX1_thawedFromAbove_2 : decode cX1_thawedFromAbove 2 = .ok (.iload_n 1, 1) := by decide +kernel
theorem dX1_thawedFromAbove_3 : decode cX1_thawedFromAbove 3 = .ok (.aload_n 0, 1) := by decide +kernel
theorem dX1_thawedFromAbove_4 : decode cX1_thawedFromAbove 4 = .ok (.getfield 14, 3) := by decide +kernel
theorem dX1_thawedFromAbove_7 : decode cX1_thawedFromAbove 7 = .ok (.arraylength, 1) := by decide +kernel
theorem dX1_thawedFromAbove_8 : decode cX1_thawedFromAbove 8 = .ok (.if_icmp .ge 21, 3) := by decide +kernel
theorem dX1_thawedFromAbove_11 : decode cX1_thawedFromAbove 11 = .ok (.aload_n 0, 1) := by decide +kernel
theorem dX1_thawedFromAbove_12 : decode cX1_thawedFromAbove 12 = .ok (.getfield 14, 3) := by decide +kernel
theorem dX1_thawedFromAbove_15 : decode cX1_thawedFromAbove 15 = .ok (.iload_n 1, 1) := by decide +kernel
theorem dX1_thawedFromAbove_16 : decode cX1_thawedFromAbove 16 = .ok (.aaload, 1) := by decide +kernel
theorem dX1_thawedFromAbove_17 : decode cX1_thawedFromAbove 17 = .ok (.invokevirtual 33, 3) := by decide +kernel
theorem dX1_thawedFromAbove_20 : decode cX1_thawedFromAbove 20 = .ok (.ifCond .eq 9, 3) := by decide +kernel
theorem dX1_thawedFromAbove_23 : decode cX1_thawedFromAbove 23 = .ok (.iinc 1 1, 3) := by decide +kernel
theorem dX1_thawedFromAbove_26 : decode cX1_thawedFromAbove 26 = .ok (.goto (-24), 3) := by decide +kernel
theorem dX1_thawedFromAbove_29 : decode cX1_thawedFromAbove 29 = .ok (.iload_n 1, 1) := by decide +kernel
theorem dX1_thawedFromAbove_30 : decode cX1_thawedFromAbove 30 = .ok (.ireturn, 1) := by decide +kernel
set_option maxRecDepth 20000 in
theorem ggX1_crackingTemperature_X4_temperature : GoodIn wsX1_crackingTemperature wsX4_temperature := goodIn_r _ [6, 7, 8, 9, 10, 5, 11, 12, 13, 21, 22, 23, 24] (by decide +kernel) (by decide +kernel)
set_option maxRecDepth 20000 in
theorem gX1_crackingTemperature_X4_temperature : GoodIn wsX1_crackingTemperature (wsV RX1 37 RX4 yX4_temperature wsX4_temperature) := goodIn_app (goodIn_of _ (by decide +kernel)) ggX1_crackingTemperature_X4_temperature
theorem dX1_crackingTemperature_0 : decode cX1_crackingTemperature 0 = .ok (.aload_n 0, 1) := by decide +kernel
theorem dX1_crackingTemperature_1 : decode cX1_crackingTemperature 1 = .ok (.getfield 14, 3) := by decide +kernel
theorem dX1_crackingTemperature_4 : decode cX1_crackingTemperature 4 = .ok (.iconst 1, 1) := by decide +kernel
theorem dX1_crackingTemperature_5 : decode cX1_crackingTemperature 5 = .ok (.aaload, 1) := by decide +kernel
theorem dX1_crackingTemperature_6 : decode cX1_crackingTemperature 6 = .ok (.invokevirtual 37, 3) := by decide +kernel
theorem dX1_crackingTemperature_9 : decode cX1_crackingTemperature 9 = .ok (.ireturn, 1) := by decide +kernel
set_option maxRecDepth 20000 in
theorem ggX1_heatFromAir_X4_temperature : GoodIn wsX1_heatFromAir wsX4_temperature := goodIn_r _ [12, 13, 14, 15, 16, 11, 17, 18, 19, 33, 34, 35, 36] (by decide +kernel) (by decide +kernel)
set_option maxRecDepth 20000 in
theorem gX1_heatFromAir_X4_temperature : GoodIn wsX1_heatFromAir (wsV RX1 37 RX4 yX4_temperature wsX4_temperature) := goodIn_app (goodIn_of _ (by decide +kernel)) ggX1_heatFromAir_X4_temperature
set_option maxRecDepth 20000 in
theorem ggX1_heatFromAir_X1_isLake : GoodIn wsX1_heatFromAir wsX1_isLake := goodIn_r _ [24, 25, 26, 27, 28, 29, 30, 31, 32] (by decide +kernel) (by decide +kernel)
set_option maxRecDepth 20000 in
theorem gX1_heatFromAir_X1_isLake : GoodIn wsX1_heatFromAir (wsV RX1 41 RX1 yX1_isLake wsX1_isLake) := goodIn_app (goodIn_of _ (by decide +kernel)) ggX1_heatFromAir_X1_isLake
theorem dX1_heatFromAir_0 : decode cX1_heatFromAir 0 = .ok (.aload_n 0, 1) := by decide +kernel
theorem dX1_heatFromAir_1 : decode cX1_heatFromAir 1 = .ok (.getfield 14, 3) := by decide +kernel
theorem dX1_heatFromAir_4 : decode cX1_heatFromAir 4 = .ok (.iconst 0, 1) := by decide +kernel
theorem dX1_heatFromAir_5 : decode cX1_heatFromAir 5 = .ok (.aaload, 1) := by decide +kernel
theorem dX1_heatFromAir_6 : decode cX1_heatFromAir 6 = .ok (.invokevirtual 37, 3) := by decide +kernel
theorem dX1_heatFromAir_9 : decode cX1_heatFromAir 9 = .ok (.istore_n 2, 1) := by decide +kernel
theorem dX1_heatFromAir_10 : decode cX1_heatFromAir 10 = .ok (.aload_n 0, 1) := by decide +kernel
theorem dX1_heatFromAir_11 : decode cX1_heatFromAir 11 = .ok (.invokevirtual 41, 3) := by decide +kernel
theorem dX1_heatFromAir_14 : decode cX1_heatFromAir 14 = .ok (.ifCond .eq 14, 3) := by decide +kernel
theorem dX1_heatFromAir_17 : decode cX1_heatFromAir 17 = .ok (.bipush 30, 2) := by decide +kernel
theorem dX1_heatFromAir_19 : decode cX1_heatFromAir 19 = .ok (.iload_n 1, 1) := by decide +kernel
theorem dX1_heatFromAir_20 : decode cX1_heatFromAir 20 = .ok (.iconst 0, 1) := by decide +kernel
theorem dX1_heatFromAir_21 : decode cX1_heatFromAir 21 = .ok (.invokestatic 44, 3) := by decide +kernel
theorem dX1_heatFromAir_24 : decode cX1_heatFromAir 24 = .ok (.iload_n 2, 1) := by decide +kernel
theorem dX1_heatFromAir_25 : decode cX1_heatFromAir 25 = .ok (.isub, 1) := by decide +kernel
theorem dX1_heatFromAir_26 : decode cX1_heatFromAir 26 = .ok (.imul, 1) := by decide +kernel
theorem dX1_heatFromAir_27 : decode cX1_heatFromAir 27 = .ok (.ireturn, 1) := by decide +kernel
theorem dX1_heatFromAir_28 : decode cX1_heatFromAir 28 = .ok (.iconst 2, 1) := by decide +kernel
theorem dX1_heatFromAir_29 : decode cX1_heatFromAir 29 = .ok (.aload_n 0, 1) := by decide +kernel
theorem dX1_heatFromAir_30 : decode cX1_heatFromAir 30 = .ok (.getfield 50, 3) := by decide +kernel
theorem dX1_heatFromAir_33 : decode cX1_heatFromAir 33 = .ok (.iadd, 1) := by decide +kernel
theorem dX1_heatFromAir_34 : decode cX1_heatFromAir 34 = .ok (.iconst 2, 1) := by decide +kernel
theorem dX1_heatFromAir_35 : decode cX1_heatFromAir 35 = .ok (.aload_n 0, 1) := by decide +kernel
theorem dX1_heatFromAir_36 : decode cX1_heatFromAir 36 = .ok (.getfield 24, 3) := by decide +kernel
theorem dX1_heatFromAir_39 : decode cX1_heatFromAir 39 = .ok (.imul, 1) := by decide +kernel
theorem dX1_heatFromAir_40 : decode cX1_heatFromAir 40 = .ok (.iadd, 1) := by decide +kernel
theorem dX1_heatFromAir_41 : decode cX1_heatFromAir 41 = .ok (.istore_n 3, 1) := by decide +kernel
theorem dX1_heatFromAir_42 : decode cX1_heatFromAir 42 = .ok (.iload_n 3, 1) := by decide +kernel
theorem dX1_heatFromAir_43 : decode cX1_heatFromAir 43 = .ok (.ifCond .le 14, 3) := by decide +kernel
theorem dX1_heatFromAir_46 : decode cX1_heatFromAir 46 = .ok (.bipush 60, 2) := by decide +kernel
theorem dX1_heatFromAir_48 : decode cX1_heatFromAir 48 = .ok (.iload_n 3, 1) := by decide +kernel
theorem dX1_heatFromAir_49 : decode cX1_heatFromAir 49 = .ok (.idiv, 1) := by decide +kernel
theorem dX1_heatFromAir_50 : decode cX1_heatFromAir 50 = .ok (.iload_n 1, 1) := by decide +kernel
theorem dX1_heatFromAir_51 : decode cX1_heatFromAir 51 = .ok (.iload_n 2, 1) := by decide +kernel
theorem dX1_heatFromAir_52 : decode cX1_heatFromAir 52 = .ok (.isub, 1) := by decide +kernel
theorem dX1_heatFromAir_53 : decode cX1_heatFromAir 53 = .ok (.imul, 1) := by decide +kernel
theorem dX1_heatFromAir_54 : decode cX1_heatFromAir 54 = .ok (.goto 4, 3) := by decide +kernel
theorem dX1_heatFromAir_57 : decode cX1_heatFromAir 57 = .ok (.iconst 0, 1) := by decide +kernel
theorem dX1_heatFromAir_58 : decode cX1_heatFromAir 58 = .ok (.ireturn, 1) := by decide +kernel
set_option maxRecDepth 20000 in
theorem ggX1_leadDown_X4_temperature : GoodIn wsX1_leadDown wsX4_temperature := goodIn_r _ [7, 8, 9, 10, 11, 6, 12, 13, 14, 22, 23, 24, 25] (by decide +kernel) (by decide +kernel)
set_option maxRecDepth 20000 in
theorem gX1_leadDown_X4_temperature : GoodIn wsX1_leadDown (wsV RX1 37 RX4 yX4_temperature wsX4_temperature) := goodIn_app (goodIn_of _ (by decide +kernel)) ggX1_leadDown_X4_temperature
theorem dX1_leadDown_0 : decode cX1_leadDown 0 = .ok (.iload_n 1, 1) := by decide +kernel
theorem dX1_leadDown_1 : decode cX1_leadDown 1 = .ok (.istore_n 3, 1) := by decide +kernel
theorem dX1_leadDown_2 : decode cX1_leadDown 2 = .ok (.iconst 0, 1) := by decide +kernel
theorem dX1_leadDown_3 : decode cX1_leadDown 3 = .ok (.istore 4, 2) := by decide +kernel
theorem dX1_leadDown_5 : decode cX1_leadDown 5 = .ok (.iload 4, 2) := by decide +kernel
theorem dX1_leadDown_7 : decode cX1_leadDown 7 = .ok (.aload_n 0, 1) := by decide +kernel
theorem dX1_leadDown_8 : decode cX1_leadDown 8 = .ok (.getfield 14, 3) := by decide +kernel
theorem dX1_leadDown_11 : decode cX1_leadDown 11 = .ok (.arraylength, 1) := by decide +kernel
theorem dX1_leadDown_12 : decode cX1_leadDown 12 = .ok (.if_icmp .ge 75, 3) := by decide +kernel
theorem dX1_leadDown_15 : decode cX1_leadDown 15 = .ok (.iload_n 2, 1) := by decide +kernel
theorem dX1_leadDown_16 : decode cX1_leadDown 16 = .ok (.ineg, 1) := by decide +kernel
theorem dX1_leadDown_17 : decode cX1_leadDown 17 = .ok (.istore 5, 2) := by decide +kernel
theorem dX1_leadDown_19 : decode cX1_leadDown 19 = .ok (.iload 4, 2) := by decide +kernel
theorem dX1_leadDown_21 : decode cX1_leadDown 21 = .ok (.iconst 1, 1) := by decide +kernel
theorem dX1_leadDown_22 : decode cX1_leadDown 22 = .ok (.iadd, 1) := by decide +kernel
theorem dX1_leadDown_23 : decode cX1_leadDown 23 = .ok (.aload_n 0, 1) := by decide +kernel
theorem dX1_leadDown_24 : decode cX1_leadDown 24 = .ok (.getfield 14, 3) := by decide +kernel
theorem dX1_leadDown_27 : decode cX1_leadDown 27 = .ok (.arraylength, 1) := by decide +kernel
theorem dX1_leadDown_28 : decode cX1_leadDown 28 = .ok (.if_icmp .ge 31, 3) := by decide +kernel
theorem dX1_leadDown_31 : decode cX1_leadDown 31 = .ok (.bipush 20, 2) := by decide +kernel
theorem dX1_leadDown_33 : decode cX1_leadDown 33 = .ok (.aload_n 0, 1) := by decide +kernel
theorem dX1_leadDown_34 : decode cX1_leadDown 34 = .ok (.getfield 14, 3) := by decide +kernel
theorem dX1_leadDown_37 : decode cX1_leadDown 37 = .ok (.iload 4, 2) := by decide +kernel
theorem dX1_leadDown_39 : decode cX1_leadDown 39 = .ok (.aaload, 1) := by decide +kernel
theorem dX1_leadDown_40 : decode cX1_leadDown 40 = .ok (.invokevirtual 37, 3) := by decide +kernel
theorem dX1_leadDown_43 : decode cX1_leadDown 43 = .ok (.aload_n 0, 1) := by decide +kernel
theorem dX1_leadDown_44 : decode cX1_leadDown 44 = .ok (.getfield 14, 3) := by decide +kernel
theorem dX1_leadDown_47 : decode cX1_leadDown 47 = .ok (.iload 4, 2) := by decide +kernel
theorem dX1_leadDown_49 : decode cX1_leadDown 49 = .ok (.iconst 1, 1) := by decide +kernel
theorem dX1_leadDown_50 : decode cX1_leadDown 50 = .ok (.iadd, 1) := by decide +kernel
theorem dX1_leadDown_51 : decode cX1_leadDown 51 = .ok (.aaload, 1) := by decide +kernel
theorem dX1_leadDown_52 : decode cX1_leadDown 52 = .ok (.invokevirtual 37, 3) := by decide +kernel
theorem dX1_leadDown_55 : decode cX1_leadDown 55 = .ok (.isub, 1) := by decide +kernel
theorem dX1_leadDown_56 : decode cX1_leadDown 56 = .ok (.imul, 1) := by decide +kernel
theorem dX1_leadDown_57 : decode cX1_leadDown 57 = .ok (.istore 5, 2) := by decide +kernel
theorem dX1_leadDown_59 : decode cX1_leadDown 59 = .ok (.aload_n 0, 1) := by decide +kernel
theorem dX1_leadDown_60 : decode cX1_leadDown 60 = .ok (.getfield 14, 3) := by decide +kernel
theorem dX1_leadDown_63 : decode cX1_leadDown 63 = .ok (.iload 4, 2) := by decide +kernel
theorem dX1_leadDown_65 : decode cX1_leadDown 65 = .ok (.aaload, 1) := by decide +kernel
theorem dX1_leadDown_66 : decode cX1_leadDown 66 = .ok (.dup, 1) := by decide +kernel
theorem dX1_leadDown_67 : decode cX1_leadDown 67 = .ok (.getfield 53, 3) := by decide +kernel
theorem dX1_leadDown_70 : decode cX1_leadDown 70 = .ok (.iload_n 3, 1) := by decide +kernel
theorem dX1_leadDown_71 : decode cX1_leadDown 71 = .ok (.iload 5, 2) := by decide +kernel
theorem dX1_leadDown_73 : decode cX1_leadDown 73 = .ok (.isub, 1) := by decide +kernel
theorem dX1_leadDown_74 : decode cX1_leadDown 74 = .ok (.iadd, 1) := by decide +kernel
theorem dX1_leadDown_75 : decode cX1_leadDown 75 = .ok (.putfield 53, 3) := by decide +kernel
theorem dX1_leadDown_78 : decode cX1_leadDown 78 = .ok (.iload 5, 2) := by decide +kernel
theorem dX1_leadDown_80 : decode cX1_leadDown 80 = .ok (.istore_n 3, 1) := by decide +kernel
theorem dX1_leadDown_81 : decode cX1_leadDown 81 = .ok (.iinc 4 1, 3) := by decide +kernel
theorem dX1_leadDown_84 : decode cX1_leadDown 84 = .ok (.goto (-79), 3) := by decide +kernel
theorem dX1_leadDown_87 : decode cX1_leadDown 87 = .ok (.return_, 1) := by decide +kernel
set_option maxRecDepth 20000 in
theorem ggX1_letMeltedExcessOut_X4_letMeltedExcessOut : GoodIn wsX1_letMeltedExcessOut wsX4_letMeltedExcessOut := goodIn_r _ [8, 9, 10, 11, 12, 13, 14, 15, 16, 17, 18, 7, 19, 20, 21, 22, 23, 24, 25, 26, 34, 35, 36, 37] (by decide +kernel) (by decide +kernel)
set_option maxRecDepth 20000 in
theorem gX1_letMeltedExcessOut_X4_letMeltedExcessOut : GoodIn wsX1_letMeltedExcessOut (wsV RX1 56 RX4 yX4_letMeltedExcessOut wsX4_letMeltedExcessOut) := goodIn_app (goodIn_of _ (by decide +kernel)) ggX1_letMeltedExcessOut_X4_letMeltedExcessOut
theorem dX1_letMeltedExcessOut_0 : decode cX1_letMeltedExcessOut 0 = .ok (.iconst 0, 1) := by decide +kernel
theorem dX1_letMeltedExcessOut_1 : decode cX1_letMeltedExcessOut 1 = .ok (.istore_n 1, 1) := by decide +kernel
theorem dX1_letMeltedExcessOut_2 : decode cX1_letMeltedExcessOut 2 = .ok (.iload_n 1, 1) := by decide +kernel
theorem dX1_letMeltedExcessOut_3 : decode cX1_letMeltedExcessOut 3 = .ok (.aload_n 0, 1) := by decide +kernel
theorem dX1_letMeltedExcessOut_4 : decode cX1_letMeltedExcessOut 4 = .ok (.getfield 14, 3) := by decide +kernel
theorem dX1_letMeltedExcessOut_7 : decode cX1_letMeltedExcessOut 7 = .ok (.arraylength, 1) := by decide +kernel
theorem dX1_letMeltedExcessOut_8 : decode cX1_letMeltedExcessOut 8 = .ok (.if_icmp .ge 39, 3) := by decide +kernel
theorem dX1_letMeltedExcessOut_11 : decode cX1_letMeltedExcessOut 11 = .ok (.aload_n 0, 1) := by decide +kernel
theorem dX1_letMeltedExcessOut_12 : decode cX1_letMeltedExcessOut 12 = .ok (.getfield 14, 3) := by decide +kernel
theorem dX1_letMeltedExcessOut_15 : decode cX1_letMeltedExcessOut 15 = .ok (.iload_n 1, 1) := by decide +kernel
theorem dX1_letMeltedExcessOut_16 : decode cX1_letMeltedExcessOut 16 = .ok (.aaload, 1) := by decide +kernel
theorem dX1_letMeltedExcessOut_17 : decode cX1_letMeltedExcessOut 17 = .ok (.invokevirtual 56, 3) := by decide +kernel
theorem dX1_letMeltedExcessOut_20 : decode cX1_letMeltedExcessOut 20 = .ok (.istore_n 2, 1) := by decide +kernel
theorem dX1_letMeltedExcessOut_21 : decode cX1_letMeltedExcessOut 21 = .ok (.aload_n 0, 1) := by decide +kernel
theorem dX1_letMeltedExcessOut_22 : decode cX1_letMeltedExcessOut 22 = .ok (.dup, 1) := by decide +kernel
theorem dX1_letMeltedExcessOut_23 : decode cX1_letMeltedExcessOut 23 = .ok (.getfield 20, 3) := by decide +kernel
theorem dX1_letMeltedExcessOut_26 : decode cX1_letMeltedExcessOut 26 = .ok (.iload_n 2, 1) := by decide +kernel
theorem dX1_letMeltedExcessOut_27 : decode cX1_letMeltedExcessOut 27 = .ok (.isub, 1) := by decide +kernel
theorem dX1_letMeltedExcessOut_28 : decode cX1_letMeltedExcessOut 28 = .ok (.putfield 20, 3) := by decide +kernel
theorem dX1_letMeltedExcessOut_31 : decode cX1_letMeltedExcessOut 31 = .ok (.aload_n 0, 1) := by decide +kernel
theorem dX1_letMeltedExcessOut_32 : decode cX1_letMeltedExcessOut 32 = .ok (.dup, 1) := by decide +kernel
theorem dX1_letMeltedExcessOut_33 : decode cX1_letMeltedExcessOut 33 = .ok (.getfield 30, 3) := by decide +kernel
theorem dX1_letMeltedExcessOut_36 : decode cX1_letMeltedExcessOut 36 = .ok (.iload_n 2, 1) := by decide +kernel
theorem dX1_letMeltedExcessOut_37 : decode cX1_letMeltedExcessOut 37 = .ok (.iadd, 1) := by decide +kernel
theorem dX1_letMeltedExcessOut_38 : decode cX1_letMeltedExcessOut 38 = .ok (.putfield 30, 3) := by decide +kernel
theorem dX1_letMeltedExcessOut_41 : decode cX1_letMeltedExcessOut 41 = .ok (.iinc 1 1, 3) := by decide +kernel
theorem dX1_letMeltedExcessOut_44 : decode cX1_letMeltedExcessOut 44 = .ok (.goto (-42), 3) := by decide +kernel
theorem dX1_letMeltedExcessOut_47 : decode cX1_letMeltedExcessOut 47 = .ok (.return_, 1) := by decide +kernel
theorem dX1_crack_0 : decode cX1_crack 0 = .ok (.aload_n 0, 1) := by decide +kernel
theorem dX1_crack_1 : decode cX1_crack 1 = .ok (.dup, 1) := by decide +kernel
theorem dX1_crack_2 : decode cX1_crack 2 = .ok (.getfield 59, 3) := by decide +kernel
theorem dX1_crack_5 : decode cX1_crack 5 = .ok (.iconst 1, 1) := by decide +kernel
theorem dX1_crack_6 : decode cX1_crack 6 = .ok (.iadd, 1) := by decide +kernel
theorem dX1_crack_7 : decode cX1_crack 7 = .ok (.putfield 59, 3) := by decide +kernel
theorem dX1_crack_10 : decode cX1_crack 10 = .ok (.aload_n 0, 1) := by decide +kernel
theorem dX1_crack_11 : decode cX1_crack 11 = .ok (.getfield 14, 3) := by decide +kernel
theorem dX1_crack_14 : decode cX1_crack 14 = .ok (.iconst 1, 1) := by decide +kernel
theorem dX1_crack_15 : decode cX1_crack 15 = .ok (.aaload, 1) := by decide +kernel
theorem dX1_crack_16 : decode cX1_crack 16 = .ok (.astore_n 1, 1) := by decide +kernel
theorem dX1_crack_17 : decode cX1_crack 17 = .ok (.aload_n 0, 1) := by decide +kernel
theorem dX1_crack_18 : decode cX1_crack 18 = .ok (.getfield 30, 3) := by decide +kernel
theorem dX1_crack_21 : decode cX1_crack 21 = .ok (.ifCond .le 54, 3) := by decide +kernel
theorem dX1_crack_24 : decode cX1_crack 24 = .ok (.aload_n 1, 1) := by decide +kernel
theorem dX1_crack_25 : decode cX1_crack 25 = .ok (.getfield 62, 3) := by decide +kernel
theorem dX1_crack_28 : decode cX1_crack 28 = .ok (.bipush 9, 2) := by decide +kernel
theorem dX1_crack_30 : decode cX1_crack 30 = .ok (.if_icmp .ge 45, 3) := by decide +kernel
theorem dX1_crack_33 : decode cX1_crack 33 = .ok (.aload_n 0, 1) := by decide +kernel
theorem dX1_crack_34 : decode cX1_crack 34 = .ok (.dup, 1) := by decide +kernel
theorem dX1_crack_35 : decode cX1_crack 35 = .ok (.getfield 30, 3) := by decide +kernel
theorem dX1_crack_38 : decode cX1_crack 38 = .ok (.iconst 1, 1) := by decide +kernel
theorem dX1_crack_39 : decode cX1_crack 39 = .ok (.isub, 1) := by decide +kernel
theorem dX1_crack_40 : decode cX1_crack 40 = .ok (.putfield 30, 3) := by decide +kernel
theorem dX1_crack_43 : decode cX1_crack 43 = .ok (.aload_n 0, 1) := by decide +kernel
theorem dX1_crack_44 : decode cX1_crack 44 = .ok (.dup, 1) := by decide +kernel
theorem dX1_crack_45 : decode cX1_crack 45 = .ok (.getfield 20, 3) := by decide +kernel
theorem dX1_crack_48 : decode cX1_crack 48 = .ok (.iconst 1, 1) := by decide +kernel
theorem dX1_crack_49 : decode cX1_crack 49 = .ok (.iadd, 1) := by decide +kernel
theorem dX1_crack_50 : decode cX1_crack 50 = .ok (.putfield 20, 3) := by decide +kernel
theorem dX1_crack_53 : decode cX1_crack 53 = .ok (.aload_n 1, 1) := by decide +kernel
theorem dX1_crack_54 : decode cX1_crack 54 = .ok (.dup, 1) := by decide +kernel
theorem dX1_crack_55 : decode cX1_crack 55 = .ok (.getfield 62, 3) := by decide +kernel
theorem dX1_crack_58 : decode cX1_crack 58 = .ok (.iconst 1, 1) := by decide +kernel
theorem dX1_crack_59 : decode cX1_crack 59 = .ok (.iadd, 1) := by decide +kernel
theorem dX1_crack_60 : decode cX1_crack 60 = .ok (.putfield 62, 3) := by decide +kernel
theorem dX1_crack_63 : decode cX1_crack 63 = .ok (.aload_n 1, 1) := by decide +kernel
theorem dX1_crack_64 : decode cX1_crack 64 = .ok (.dup, 1) := by decide +kernel
theorem dX1_crack_65 : decode cX1_crack 65 = .ok (.getfield 53, 3) := by decide +kernel
theorem dX1_crack_68 : decode cX1_crack 68 = .ok (.sipush 1000, 3) := by decide +kernel
theorem dX1_crack_71 : decode cX1_crack 71 = .ok (.iadd, 1) := by decide +kernel
theorem dX1_crack_72 : decode cX1_crack 72 = .ok (.putfield 53, 3) := by decide +kernel
theorem dX1_crack_75 : decode cX1_crack 75 = .ok (.return_, 1) := by decide +kernel
set_option maxRecDepth 20000 in
theorem ggX1_wakeCarbon_X4_wakeCarbon : GoodIn wsX1_wakeCarbon wsX4_wakeCarbon := goodIn_r _ [6, 7, 8, 9, 10, 11, 12, 13, 14, 15, 16, 17, 5, 18, 19, 20, 21, 22, 23, 24, 25, 33, 34, 35, 36] (by decide +kernel) (by decide +kernel)
set_option maxRecDepth 20000 in
theorem gX1_wakeCarbon_X4_wakeCarbon : GoodIn wsX1_wakeCarbon (wsV RX1 65 RX4 yX4_wakeCarbon wsX4_wakeCarbon) := goodIn_app (goodIn_of _ (by decide +kernel)) ggX1_wakeCarbon_X4_wakeCarbon
theorem dX1_wakeCarbon_0 : decode cX1_wakeCarbon 0 = .ok (.iconst 0, 1) := by decide +kernel
theorem dX1_wakeCarbon_1 : decode cX1_wakeCarbon 1 = .ok (.istore_n 1, 1) := by decide +kernel
theorem dX1_wakeCarbon_2 : decode cX1_wakeCarbon 2 = .ok (.iconst 0, 1) := by decide +kernel
theorem dX1_wakeCarbon_3 : decode cX1_wakeCarbon 3 = .ok (.istore_n 2, 1) := by decide +kernel
theorem dX1_wakeCarbon_4 : decode cX1_wakeCarbon 4 = .ok (.iload_n 2, 1) := by decide +kernel
theorem dX1_wakeCarbon_5 : decode cX1_wakeCarbon 5 = .ok (.aload_n 0, 1) := by decide +kernel
theorem dX1_wakeCarbon_6 : decode cX1_wakeCarbon 6 = .ok (.getfield 14, 3) := by decide +kernel
theorem dX1_wakeCarbon_9 : decode cX1_wakeCarbon 9 = .ok (.arraylength, 1) := by decide +kernel
theorem dX1_wakeCarbon_10 : decode cX1_wakeCarbon 10 = .ok (.if_icmp .ge 21, 3) := by decide +kernel
theorem dX1_wakeCarbon_13 : decode cX1_wakeCarbon 13 = .ok (.iload_n 1, 1) := by decide +kernel
theorem dX1_wakeCarbon_14 : decode cX1_wakeCarbon 14 = .ok (.aload_n 0, 1) := by decide +kernel
theorem dX1_wakeCarbon_15 : decode cX1_wakeCarbon 15 = .ok (.getfield 14, 3) := by decide +kernel
theorem dX1_wakeCarbon_18 : decode cX1_wakeCarbon 18 = .ok (.iload_n 2, 1) := by decide +kernel
theorem dX1_wakeCarbon_19 : decode cX1_wakeCarbon 19 = .ok (.aaload, 1) := by decide +kernel
theorem dX1_wakeCarbon_20 : decode cX1_wakeCarbon 20 = .ok (.invokevirtual 65, 3) := by decide +kernel
theorem dX1_wakeCarbon_23 : decode cX1_wakeCarbon 23 = .ok (.iadd, 1) := by decide +kernel
theorem dX1_wakeCarbon_24 : decode cX1_wakeCarbon 24 = .ok (.istore_n 1, 1) := by decide +kernel
theorem dX1_wakeCarbon_25 : decode cX1_wakeCarbon 25 = .ok (.iinc 2 1, 3) := by decide +kernel
theorem dX1_wakeCarbon_28 : decode cX1_wakeCarbon 28 = .ok (.goto (-24), 3) := by decide +kernel
theorem dX1_wakeCarbon_31 : decode cX1_wakeCarbon 31 = .ok (.iload_n 1, 1) := by decide +kernel
theorem dX1_wakeCarbon_32 : decode cX1_wakeCarbon 32 = .ok (.ireturn, 1) := by decide +kernel
set_option maxRecDepth 20000 in
theorem ggX1_amount_X4_amount : GoodIn wsX1_amount wsX4_amount := goodIn_r _ [7, 8, 9, 10, 11, 12, 6, 13, 14, 15, 23, 24, 25, 26] (by decide +kernel) (by decide +kernel)
set_option maxRecDepth 20000 in
theorem gX1_amount_X4_amount : GoodIn wsX1_amount (wsV RX1 68 RX4 yX4_amount wsX4_amount) := goodIn_app (goodIn_of _ (by decide +kernel)) ggX1_amount_X4_amount
theorem dX1_amount_0 : decode cX1_amount 0 = .ok (.lconst 0, 1) := by decide +kernel
theorem dX1_amount_1 : decode cX1_amount 1 = .ok (.lstore_n 2, 1) := by decide +kernel
theorem dX1_amount_2 : decode cX1_amount 2 = .ok (.iload_n 1, 1) := by decide +kernel
theorem dX1_amount_3 : decode cX1_amount 3 = .ok (.ifCond .ne 16, 3) := by decide +kernel
theorem dX1_amount_6 : decode cX1_amount 6 = .ok (.sipush 1000, 3) := by decide +kernel
theorem dX1_amount_9 : decode cX1_amount 9 = .ok (.aload_n 0, 1) := by decide +kernel
theorem dX1_amount_10 : decode cX1_amount 10 = .ok (.getfield 30, 3) := by decide +kernel
theorem dX1_amount_13 : decode cX1_amount 13 = .ok (.imul, 1) := by decide +kernel
theorem dX1_amount_14 : decode cX1_amount 14 = .ok (.i2l, 1) := by decide +kernel
theorem dX1_amount_15 : decode cX1_amount 15 = .ok (.lstore_n 2, 1) := by decide +kernel
theorem dX1_amount_16 : decode cX1_amount 16 = .ok (.goto 14, 3) := by decide +kernel
theorem dX1_amount_19 : decode cX1_amount 19 = .ok (.iload_n 1, 1) := by decide +kernel
theorem dX1_amount_20 : decode cX1_amount 20 = .ok (.iconst 1, 1) := by decide +kernel
theorem dX1_amount_21 : decode cX1_amount 21 = .ok (.if_icmp .ne 9, 3) := by decide +kernel
theorem dX1_amount_24 : decode cX1_amount 24 = .ok (.aload_n 0, 1) := by decide +kernel
theorem dX1_amount_25 : decode cX1_amount 25 = .ok (.getfield 30, 3) := by decide +kernel
theorem dX1_amount_28 : decode cX1_amount 28 = .ok (.i2l, 1) := by decide +kernel
theorem dX1_amount_29 : decode cX1_amount 29 = .ok (.lstore_n 2, 1) := by decide +kernel
theorem dX1_amount_30 : decode cX1_amount 30 = .ok (.iconst 0, 1) := by decide +kernel
theorem dX1_amount_31 : decode cX1_amount 31 = .ok (.istore 4, 2) := by decide +kernel
theorem dX1_amount_33 : decode cX1_amount 33 = .ok (.iload 4, 2) := by decide +kernel
theorem dX1_amount_35 : decode cX1_amount 35 = .ok (.aload_n 0, 1) := by decide +kernel
theorem dX1_amount_36 : decode cX1_amount 36 = .ok (.getfield 14, 3) := by decide +kernel
theorem dX1_amount_39 : decode cX1_amount 39 = .ok (.arraylength, 1) := by decide +kernel
theorem dX1_amount_40 : decode cX1_amount 40 = .ok (.if_icmp .ge 24, 3) := by decide +kernel
theorem dX1_amount_43 : decode cX1_amount 43 = .ok (.lload_n 2, 1) := by decide +kernel
theorem dX1_amount_44 : decode cX1_amount 44 = .ok (.aload_n 0, 1) := by decide +kernel
theorem dX1_amount_45 : decode cX1_amount 45 = .ok (.getfield 14, 3) := by decide +kernel
theorem dX1_amount_48 : decode cX1_amount 48 = .ok (.iload 4, 2) := by decide +kernel
theorem dX1_amount_50 : decode cX1_amount 50 = .ok (.aaload, 1) := by decide +kernel
theorem dX1_amount_51 : decode cX1_amount 51 = .ok (.iload_n 1, 1) := by decide +kernel
theorem dX1_amount_52 : decode cX1_amount 52 = .ok (.invokevirtual 68, 3) := by decide +kernel
theorem dX1_amount_55 : decode cX1_amount 55 = .ok (.i2l, 1) := by decide +kernel
theorem dX1_amount_56 : decode cX1_amount 56 = .ok (.ladd, 1) := by decide +kernel
theorem dX1_amount_57 : decode cX1_amount 57 = .ok (.lstore_n 2, 1) := by decide +kernel
theorem dX1_amount_58 : decode cX1_amount 58 = .ok (.iinc 4 1, 3) := by decide +kernel
theorem dX1_amount_61 : decode cX1_amount 61 = .ok (.goto (-28), 3) := by decide +kernel
theorem dX1_amount_64 : decode cX1_amount 64 = .ok (.lload_n 2, 1) := by decide +kernel
theorem dX1_amount_65 : decode cX1_amount 65 = .ok (.lreturn, 1) := by decide +kernel
theorem dX2_init_0 : decode cX2_init 0 = .ok (.aload_n 0, 1) := by decide +kernel
theorem dX2_init_1 : decode cX2_init 1 = .ok (.invokespecial 1, 3) := by decide +kernel
theorem dX2_init_4 : decode cX2_init 4 = .ok (.aload_n 0, 1) := by decide +kernel
theorem dX2_init_5 : decode cX2_init 5 = .ok (.aload_n 1, 1) := by decide +kernel
theorem dX2_init_6 : decode cX2_init 6 = .ok (.putfield 7, 3) := by decide +kernel
theorem dX2_init_9 : decode cX2_init 9 = .ok (.aload_n 0, 1) := by decide +kernel
theorem dX2_init_10 : decode cX2_init 10 = .ok (.aload_n 1, 1) := by decide +kernel
theorem dX2_init_11 : decode cX2_init 11 = .ok (.getfield 13, 3) := by decide +kernel
theorem dX2_init_14 : decode cX2_init 14 = .ok (.putfield 19, 3) := by decide +kernel
theorem dX2_init_17 : decode cX2_init 17 = .ok (.aload_n 0, 1) := by decide +kernel
theorem dX2_init_18 : decode cX2_init 18 = .ok (.iload_n 2, 1) := by decide +kernel
theorem dX2_init_19 : decode cX2_init 19 = .ok (.putfield 20, 3) := by decide +kernel
theorem dX2_init_22 : decode cX2_init 22 = .ok (.aload_n 0, 1) := by decide +kernel
theorem dX2_init_23 : decode cX2_init 23 = .ok (.iload_n 3, 1) := by decide +kernel
theorem dX2_init_24 : decode cX2_init 24 = .ok (.putfield 23, 3) := by decide +kernel
theorem dX2_init_27 : decode cX2_init 27 = .ok (.return_, 1) := by decide +kernel
theorem dX3_init_0 : decode cX3_init 0 = .ok (.aload_n 0, 1) := by decide +kernel
theorem dX3_init_1 : decode cX3_init 1 = .ok (.invokespecial 1, 3) := by decide +kernel
theorem dX3_init_4 : decode cX3_init 4 = .ok (.aload_n 0, 1) := by decide +kernel
theorem dX3_init_5 : decode cX3_init 5 = .ok (.iload_n 1, 1) := by decide +kernel
theorem dX3_init_6 : decode cX3_init 6 = .ok (.putfield 7, 3) := by decide +kernel
theorem dX3_init_9 : decode cX3_init 9 = .ok (.aload_n 0, 1) := by decide +kernel
theorem dX3_init_10 : decode cX3_init 10 = .ok (.iload_n 2, 1) := by decide +kernel
theorem dX3_init_11 : decode cX3_init 11 = .ok (.putfield 13, 3) := by decide +kernel
theorem dX3_init_14 : decode cX3_init 14 = .ok (.aload_n 0, 1) := by decide +kernel
theorem dX3_init_15 : decode cX3_init 15 = .ok (.iload_n 3, 1) := by decide +kernel
theorem dX3_init_16 : decode cX3_init 16 = .ok (.putfield 16, 3) := by decide +kernel
theorem dX3_init_19 : decode cX3_init 19 = .ok (.aload_n 0, 1) := by decide +kernel
theorem dX3_init_20 : decode cX3_init 20 = .ok (.iload 4, 2) := by decide +kernel
theorem dX3_init_22 : decode cX3_init 22 = .ok (.putfield 20, 3) := by decide +kernel
theorem dX3_init_25 : decode cX3_init 25 = .ok (.return_, 1) := by decide +kernel
theorem dX4_init_0 : decode cX4_init 0 = .ok (.aload_n 0, 1) := by decide +kernel
theorem dX4_init_1 : decode cX4_init 1 = .ok (.invokespecial 3, 3) := by decide +kernel
theorem dX4_init_4 : decode cX4_init 4 = .ok (.aload_n 0, 1) := by decide +kernel
theorem dX4_init_5 : decode cX4_init 5 = .ok (.iconst 5, 1) := by decide +kernel
theorem dX4_init_6 : decode cX4_init 6 = .ok (.putfield 9, 3) := by decide +kernel
theorem dX4_init_9 : decode cX4_init 9 = .ok (.aload_n 0, 1) := by decide +kernel
theorem dX4_init_10 : decode cX4_init 10 = .ok (.sipush (-1000), 3) := by decide +kernel
theorem dX4_init_13 : decode cX4_init 13 = .ok (.putfield 15, 3) := by decide +kernel
theorem dX4_init_16 : decode cX4_init 16 = .ok (.aload_n 0, 1) := by decide +kernel
theorem dX4_init_17 : decode cX4_init 17 = .ok (.sipush 400, 3) := by decide +kernel
theorem dX4_init_20 : decode cX4_init 20 = .ok (.putfield 18, 3) := by decide +kernel
theorem dX4_init_23 : decode cX4_init 23 = .ok (.aload_n 0, 1) := by decide +kernel
theorem dX4_init_24 : decode cX4_init 24 = .ok (.iload_n 1, 1) := by decide +kernel
theorem dX4_init_25 : decode cX4_init 25 = .ok (.putfield 21, 3) := by decide +kernel
theorem dX4_init_28 : decode cX4_init 28 = .ok (.return_, 1) := by decide +kernel
theorem dX4_units_0 : decode cX4_units 0 = .ok (.aload_n 0, 1) := by decide +kernel
theorem dX4_units_1 : decode cX4_units 1 = .ok (.getfield 9, 3) := by decide +kernel
theorem dX4_units_4 : decode cX4_units 4 = .ok (.aload_n 0, 1) := by decide +kernel
theorem dX4_units_5 : decode cX4_units 5 = .ok (.getfield 21, 3) := by decide +kernel
theorem dX4_units_8 : decode cX4_units 8 = .ok (.iadd, 1) := by decide +kernel
theorem dX4_units_9 : decode cX4_units 9 = .ok (.ireturn, 1) := by decide +kernel
set_option maxRecDepth 20000 in
theorem ggX4_temperature_X4_units : GoodIn wsX4_temperature wsX4_units := goodIn_r _ [6, 7, 8, 9, 10, 11, 12] (by decide +kernel) (by decide +kernel)
set_option maxRecDepth 20000 in
theorem gX4_temperature_X4_units : GoodIn wsX4_temperature (wsV RX4 24 RX4 yX4_units wsX4_units) := goodIn_app (goodIn_of _ (by decide +kernel)) ggX4_temperature_X4_units
theorem dX4_temperature_0 : decode cX4_temperature 0 = .ok (.aload_n 0, 1) := by decide +kernel
theorem dX4_temperature_1 : decode cX4_temperature 1 = .ok (.getfield 15, 3) := by decide +kernel
theorem dX4_temperature_4 : decode cX4_temperature 4 = .ok (.ifCond .ge 11, 3) := by decide +kernel
theorem dX4_temperature_7 : decode cX4_temperature 7 = .ok (.aload_n 0, 1) := by decide +kernel
theorem dX4_temperature_8 : decode cX4_temperature 8 = .ok (.getfield 15, 3) := by decide +kernel
theorem dX4_temperature_11 : decode cX4_temperature 11 = .ok (.bipush 100, 2) := by decide +kernel
theorem dX4_temperature_13 : decode cX4_temperature 13 = .ok (.idiv, 1) := by decide +kernel
theorem dX4_temperature_14 : decode cX4_temperature 14 = .ok (.ireturn, 1) := by decide +kernel
theorem dX4_temperature_15 : decode cX4_temperature 15 = .ok (.sipush 1000, 3) := by decide +kernel
theorem dX4_temperature_18 : decode cX4_temperature 18 = .ok (.aload_n 0, 1) := by decide +kernel
theorem dX4_temperature_19 : decode cX4_temperature 19 = .ok (.invokevirtual 24, 3) := by decide +kernel
theorem dX4_temperature_22 : decode cX4_temperature 22 = .ok (.imul, 1) := by decide +kernel
theorem dX4_temperature_23 : decode cX4_temperature 23 = .ok (.istore_n 1, 1) := by decide +kernel
theorem dX4_temperature_24 : decode cX4_temperature 24 = .ok (.aload_n 0, 1) := by decide +kernel
theorem dX4_temperature_25 : decode cX4_temperature 25 = .ok (.getfield 15, 3) := by decide +kernel
theorem dX4_temperature_28 : decode cX4_temperature 28 = .ok (.iload_n 1, 1) := by decide +kernel
theorem dX4_temperature_29 : decode cX4_temperature 29 = .ok (.if_icmp .le 15, 3) := by decide +kernel
theorem dX4_temperature_32 : decode cX4_temperature 32 = .ok (.aload_n 0, 1) := by decide +kernel
theorem dX4_temperature_33 : decode cX4_temperature 33 = .ok (.getfield 15, 3) := by decide +kernel
theorem dX4_temperature_36 : decode cX4_temperature 36 = .ok (.iload_n 1, 1) := by decide +kernel
theorem dX4_temperature_37 : decode cX4_temperature 37 = .ok (.isub, 1) := by decide +kernel
theorem dX4_temperature_38 : decode cX4_temperature 38 = .ok (.bipush 100, 2) := by decide +kernel
theorem dX4_temperature_40 : decode cX4_temperature 40 = .ok (.idiv, 1) := by decide +kernel
theorem dX4_temperature_41 : decode cX4_temperature 41 = .ok (.goto 4, 3) := by decide +kernel
theorem dX4_temperature_44 : decode cX4_temperature 44 = .ok (.iconst 0, 1) := by decide +kernel
theorem dX4_temperature_45 : decode cX4_temperature 45 = .ok (.ireturn, 1) := by decide +kernel
theorem dX4_isThawed_0 : decode cX4_isThawed 0 = .ok (.aload_n 0, 1) := by decide +kernel
theorem dX4_isThawed_1 : decode cX4_isThawed 1 = .ok (.getfield 15, 3) := by decide +kernel
theorem dX4_isThawed_4 : decode cX4_isThawed 4 = .ok (.ifCond .lt 7, 3) := by decide +kernel
theorem dX4_isThawed_7 : decode cX4_isThawed 7 = .ok (.iconst 1, 1) := by decide +kernel
theorem dX4_isThawed_8 : decode cX4_isThawed 8 = .ok (.goto 4, 3) := by decide +kernel
theorem dX4_isThawed_11 : decode cX4_isThawed 11 = .ok (.iconst 0, 1) := by decide +kernel
theorem dX4_isThawed_12 : decode cX4_isThawed 12 = .ok (.ireturn, 1) := by decide +kernel
set_option maxRecDepth 20000 in
theorem ggX4_melted_X4_units : GoodIn wsX4_melted wsX4_units := goodIn_r _ [13, 14, 15, 16, 17, 18, 19] (by decide +kernel) (by decide +kernel)
set_option maxRecDepth 20000 in
theorem gX4_melted_X4_units : GoodIn wsX4_melted (wsV RX4 24 RX4 yX4_units wsX4_units) := goodIn_app (goodIn_of _ (by decide +kernel)) ggX4_melted_X4_units
theorem dX4_melted_0 : decode cX4_melted 0 = .ok (.aload_n 0, 1) := by decide +kernel
theorem dX4_melted_1 : decode cX4_melted 1 = .ok (.getfield 15, 3) := by decide +kernel
theorem dX4_melted_4 : decode cX4_melted 4 = .ok (.iconst 0, 1) := by decide +kernel
theorem dX4_melted_5 : decode cX4_melted 5 = .ok (.invokestatic 28, 3) := by decide +kernel
theorem dX4_melted_8 : decode cX4_melted 8 = .ok (.sipush 1000, 3) := by decide +kernel
theorem dX4_melted_11 : decode cX4_melted 11 = .ok (.idiv, 1) := by decide +kernel
theorem dX4_melted_12 : decode cX4_melted 12 = .ok (.aload_n 0, 1) := by decide +kernel
theorem dX4_melted_13 : decode cX4_melted 13 = .ok (.invokevirtual 24, 3) := by decide +kernel
theorem dX4_melted_16 : decode cX4_melted 16 = .ok (.invokestatic 34, 3) := by decide +kernel
theorem dX4_melted_19 : decode cX4_melted 19 = .ok (.ireturn, 1) := by decide +kernel
set_option maxRecDepth 20000 in
theorem ggX4_letMeltedExcessOut_X4_melted : GoodIn wsX4_letMeltedExcessOut wsX4_melted := goodIn_r _ [12, 7, 2, 3, 4, 5, 13, 14, 15, 16, 17, 18, 11, 19, 1, 6, 20, 21, 22, 23] (by decide +kernel) (by decide +kernel)
set_option maxRecDepth 20000 in
theorem gX4_letMeltedExcessOut_X4_melted : GoodIn wsX4_letMeltedExcessOut (wsV RX4 37 RX4 yX4_melted wsX4_melted) := goodIn_app (goodIn_of _ (by decide +kernel)) ggX4_letMeltedExcessOut_X4_melted
theorem dX4_letMeltedExcessOut_0 : decode cX4_letMeltedExcessOut 0 = .ok (.aload_n 0, 1) := by decide +kernel
theorem dX4_letMeltedExcessOut_1 : decode cX4_letMeltedExcessOut 1 = .ok (.invokevirtual 37, 3) := by decide +kernel
theorem dX4_letMeltedExcessOut_4 : decode cX4_letMeltedExcessOut 4 = .ok (.aload_n 0, 1) := by decide +kernel
theorem dX4_letMeltedExcessOut_5 : decode cX4_letMeltedExcessOut 5 = .ok (.getfield 9, 3) := by decide +kernel
theorem dX4_letMeltedExcessOut_8 : decode cX4_letMeltedExcessOut 8 = .ok (.isub, 1) := by decide +kernel
theorem dX4_letMeltedExcessOut_9 : decode cX4_letMeltedExcessOut 9 = .ok (.iconst 0, 1) := by decide +kernel
theorem dX4_letMeltedExcessOut_10 : decode cX4_letMeltedExcessOut 10 = .ok (.invokestatic 28, 3) := by decide +kernel
theorem dX4_letMeltedExcessOut_13 : decode cX4_letMeltedExcessOut 13 = .ok (.istore_n 1, 1) := by decide +kernel
theorem dX4_letMeltedExcessOut_14 : decode cX4_letMeltedExcessOut 14 = .ok (.aload_n 0, 1) := by decide +kernel
theorem dX4_letMeltedExcessOut_15 : decode cX4_letMeltedExcessOut 15 = .ok (.dup, 1) := by decide +kernel
theorem dX4_letMeltedExcessOut_16 : decode cX4_letMeltedExcessOut 16 = .ok (.getfield 21, 3) := by decide +kernel
theorem dX4_letMeltedExcessOut_19 : decode cX4_letMeltedExcessOut 19 = .ok (.iload_n 1, 1) := by decide +kernel
theorem dX4_letMeltedExcessOut_20 : decode cX4_letMeltedExcessOut 20 = .ok (.isub, 1) := by decide +kernel
theorem dX4_letMeltedExcessOut_21 : decode cX4_letMeltedExcessOut 21 = .ok (.putfield 21, 3) := by decide +kernel
theorem dX4_letMeltedExcessOut_24 : decode cX4_letMeltedExcessOut 24 = .ok (.aload_n 0, 1) := by decide +kernel
theorem dX4_letMeltedExcessOut_25 : decode cX4_letMeltedExcessOut 25 = .ok (.dup, 1) := by decide +kernel
theorem dX4_letMeltedExcessOut_26 : decode cX4_letMeltedExcessOut 26 = .ok (.getfield 15, 3) := by decide +kernel
theorem dX4_letMeltedExcessOut_29 : decode cX4_letMeltedExcessOut 29 = .ok (.sipush 1000, 3) := by decide +kernel
theorem dX4_letMeltedExcessOut_32 : decode cX4_letMeltedExcessOut 32 = .ok (.iload_n 1, 1) := by decide +kernel
theorem dX4_letMeltedExcessOut_33 : decode cX4_letMeltedExcessOut 33 = .ok (.imul, 1) := by decide +kernel
theorem dX4_letMeltedExcessOut_34 : decode cX4_letMeltedExcessOut 34 = .ok (.isub, 1) := by decide +kernel
theorem dX4_letMeltedExcessOut_35 : decode cX4_letMeltedExcessOut 35 = .ok (.putfield 15, 3) := by decide +kernel
theorem dX4_letMeltedExcessOut_38 : decode cX4_letMeltedExcessOut 38 = .ok (.iload_n 1, 1) := by decide +kernel
theorem dX4_letMeltedExcessOut_39 : decode cX4_letMeltedExcessOut 39 = .ok (.ireturn, 1) := by decide +kernel
set_option maxRecDepth 20000 in
theorem ggX4_wakeCarbon_X4_temperature : GoodIn wsX4_wakeCarbon wsX4_temperature := goodIn_r _ [13, 14, 15, 16, 17, 12, 18, 19, 20, 21, 22, 23, 24] (by decide +kernel) (by decide +kernel)
set_option maxRecDepth 20000 in
theorem gX4_wakeCarbon_X4_temperature : GoodIn wsX4_wakeCarbon (wsV RX4 40 RX4 yX4_temperature wsX4_temperature) := goodIn_app (goodIn_of _ (by decide +kernel)) ggX4_wakeCarbon_X4_temperature
theorem dX4_wakeCarbon_0 : decode cX4_wakeCarbon 0 = .ok (.aload_n 0, 1) := by decide +kernel
theorem dX4_wakeCarbon_1 : decode cX4_wakeCarbon 1 = .ok (.invokevirtual 40, 3) := by decide +kernel
theorem dX4_wakeCarbon_4 : decode cX4_wakeCarbon 4 = .ok (.iconst 0, 1) := by decide +kernel
theorem dX4_wakeCarbon_5 : decode cX4_wakeCarbon 5 = .ok (.invokestatic 28, 3) := by decide +kernel
theorem dX4_wakeCarbon_8 : decode cX4_wakeCarbon 8 = .ok (.istore_n 1, 1) := by decide +kernel
theorem dX4_wakeCarbon_9 : decode cX4_wakeCarbon 9 = .ok (.iload_n 1, 1) := by decide +kernel
theorem dX4_wakeCarbon_10 : decode cX4_wakeCarbon 10 = .ok (.aload_n 0, 1) := by decide +kernel
theorem dX4_wakeCarbon_11 : decode cX4_wakeCarbon 11 = .ok (.getfield 18, 3) := by decide +kernel
theorem dX4_wakeCarbon_14 : decode cX4_wakeCarbon 14 = .ok (.imul, 1) := by decide +kernel
theorem dX4_wakeCarbon_15 : decode cX4_wakeCarbon 15 = .ok (.sipush 1000, 3) := by decide +kernel
theorem dX4_wakeCarbon_18 : decode cX4_wakeCarbon 18 = .ok (.idiv, 1) := by decide +kernel
theorem dX4_wakeCarbon_19 : decode cX4_wakeCarbon 19 = .ok (.aload_n 0, 1) := by decide +kernel
theorem dX4_wakeCarbon_20 : decode cX4_wakeCarbon 20 = .ok (.getfield 18, 3) := by decide +kernel
theorem dX4_wakeCarbon_23 : decode cX4_wakeCarbon 23 = .ok (.invokestatic 34, 3) := by decide +kernel
theorem dX4_wakeCarbon_26 : decode cX4_wakeCarbon 26 = .ok (.istore_n 2, 1) := by decide +kernel
theorem dX4_wakeCarbon_27 : decode cX4_wakeCarbon 27 = .ok (.aload_n 0, 1) := by decide +kernel
theorem dX4_wakeCarbon_28 : decode cX4_wakeCarbon 28 = .ok (.dup, 1) := by decide +kernel
theorem dX4_wakeCarbon_29 : decode cX4_wakeCarbon 29 = .ok (.getfield 18, 3) := by decide +kernel
theorem dX4_wakeCarbon_32 : decode cX4_wakeCarbon 32 = .ok (.iload_n 2, 1) := by decide +kernel
theorem dX4_wakeCarbon_33 : decode cX4_wakeCarbon 33 = .ok (.isub, 1) := by decide +kernel
theorem dX4_wakeCarbon_34 : decode cX4_wakeCarbon 34 = .ok (.putfield 18, 3) := by decide +kernel
theorem dX4_wakeCarbon_37 : decode cX4_wakeCarbon 37 = .ok (.iload_n 2, 1) := by decide +kernel
theorem dX4_wakeCarbon_38 : decode cX4_wakeCarbon 38 = .ok (.ireturn, 1) := by decide +kernel
set_option maxRecDepth 20000 in
theorem ggX4_amount_X4_units : GoodIn wsX4_amount wsX4_units := goodIn_r _ [7, 8, 9, 10, 11, 12, 13] (by decide +kernel) (by decide +kernel)
set_option maxRecDepth 20000 in
theorem gX4_amount_X4_units : GoodIn wsX4_amount (wsV RX4 24 RX4 yX4_units wsX4_units) := goodIn_app (goodIn_of _ (by decide +kernel)) ggX4_amount_X4_units
theorem dX4_amount_0 : decode cX4_amount 0 = .ok (.iload_n 1, 1) := by decide +kernel
theorem dX4_amount_1 : decode cX4_amount 1 = .ok (.ifCond .ne 8, 3) := by decide +kernel
theorem dX4_amount_4 : decode cX4_amount 4 = .ok (.aload_n 0, 1) := by decide +kernel
theorem dX4_amount_5 : decode cX4_amount 5 = .ok (.getfield 15, 3) := by decide +kernel
theorem dX4_amount_8 : decode cX4_amount 8 = .ok (.ireturn, 1) := by decide +kernel
theorem dX4_amount_9 : decode cX4_amount 9 = .ok (.iload_n 1, 1) := by decide +kernel
theorem dX4_amount_10 : decode cX4_amount 10 = .ok (.iconst 1, 1) := by decide +kernel
theorem dX4_amount_11 : decode cX4_amount 11 = .ok (.if_icmp .ne 10, 3) := by decide +kernel
theorem dX4_amount_14 : decode cX4_amount 14 = .ok (.aload_n 0, 1) := by decide +kernel
theorem dX4_amount_15 : decode cX4_amount 15 = .ok (.invokevirtual 24, 3) := by decide +kernel
theorem dX4_amount_18 : decode cX4_amount 18 = .ok (.goto 7, 3) := by decide +kernel
theorem dX4_amount_21 : decode cX4_amount 21 = .ok (.aload_n 0, 1) := by decide +kernel
theorem dX4_amount_22 : decode cX4_amount 22 = .ok (.getfield 18, 3) := by decide +kernel
theorem dX4_amount_25 : decode cX4_amount 25 = .ok (.ireturn, 1) := by decide +kernel
set_option maxRecDepth 20000 in
theorem ggX5_init_Jx4a65c_init_da8c8 : GoodIn wsX5_init wsJx4a65c_init_da8c8 := goodIn_r _ [23, 24, 25, 26, 27, 28, 29, 30, 31, 32, 33, 34, 35, 2, 3, 82, 83, 84] (by decide +kernel) (by decide +kernel)
set_option maxRecDepth 20000 in
theorem gX5_init_Jx4a65c_init_da8c8 : GoodIn wsX5_init (wsJx4a65c_init_da8c8) := ggX5_init_Jx4a65c_init_da8c8
set_option maxRecDepth 20000 in
theorem ggX5_init_X1_init : GoodIn wsX5_init wsX1_init := goodIn_r _ [37, 38, 2, 3, 39, 40, 41, 42, 43, 44, 45, 46, 47, 48, 49, 50, 51, 52, 53, 92, 93, 94, 95, 85, 86, 87, 88, 89, 90, 91] (by decide +kernel) (by decide +kernel)
set_option maxRecDepth 20000 in
theorem gX5_init_X1_init_n43 : GoodIn wsX5_init (wsX1_init) := ggX5_init_X1_init
set_option maxRecDepth 20000 in
theorem ggX5_init_X5_amountInLand : GoodIn wsX5_init wsX5_amountInLand := goodIn_r _ [58, 5, 59, 60, 61, 20, 62, 63, 42, 64, 65, 66, 41, 67, 51, 52, 68, 69, 70, 71, 50, 53, 72, 73, 74, 75, 76, 77, 78, 79, 80, 81, 85, 86, 87, 88, 89, 90, 91, 92, 93, 94, 95] (by decide +kernel) (by decide +kernel)
set_option maxRecDepth 20000 in
theorem gX5_init_X5_amountInLand : GoodIn wsX5_init (wsV RX5 44 RX5 yX5_amountInLand wsX5_amountInLand) := goodIn_app (goodIn_of _ (by decide +kernel)) ggX5_init_X5_amountInLand
theorem dX5_init_0 : decode cX5_init 0 = .ok (.aload_n 0, 1) := by decide +kernel
theorem dX5_init_1 : decode cX5_init 1 = .ok (.invokespecial 3, 3) := by decide +kernel
theorem dX5_init_4 : decode cX5_init 4 = .ok (.aload_n 0, 1) := by decide +kernel
theorem dX5_init_5 : decode cX5_init 5 = .ok (.bipush 25, 2) := by decide +kernel
theorem dX5_init_7 : decode cX5_init 7 = .ok (.anewarray 9, 3) := by decide +kernel
theorem dX5_init_10 : decode cX5_init 10 = .ok (.putfield 11, 3) := by decide +kernel
theorem dX5_init_13 : decode cX5_init 13 = .ok (.aload_n 0, 1) := by decide +kernel
theorem dX5_init_14 : decode cX5_init 14 = .ok (.new 15, 3) := by decide +kernel
theorem dX5_init_17 : decode cX5_init 17 = .ok (.dup, 1) := by decide +kernel
theorem dX5_init_18 : decode cX5_init 18 = .ok (.invokespecial 17, 3) := by decide +kernel
theorem dX5_init_21 : decode cX5_init 21 = .ok (.putfield 18, 3) := by decide +kernel
theorem dX5_init_24 : decode cX5_init 24 = .ok (.aload_n 0, 1) := by decide +kernel
theorem dX5_init_25 : decode cX5_init 25 = .ok (.new 15, 3) := by decide +kernel
theorem dX5_init_28 : decode cX5_init 28 = .ok (.dup, 1) := by decide +kernel
theorem dX5_init_29 : decode cX5_init 29 = .ok (.invokespecial 17, 3) := by decide +kernel
theorem dX5_init_32 : decode cX5_init 32 = .ok (.putfield 22, 3) := by decide +kernel
theorem dX5_init_35 : decode cX5_init 35 = .ok (.aload_n 0, 1) := by decide +kernel
theorem dX5_init_36 : decode cX5_init 36 = .ok (.new 15, 3) := by decide +kernel
theorem dX5_init_39 : decode cX5_init 39 = .ok (.dup, 1) := by decide +kernel
theorem dX5_init_40 : decode cX5_init 40 = .ok (.invokespecial 17, 3) := by decide +kernel
theorem dX5_init_43 : decode cX5_init 43 = .ok (.putfield 25, 3) := by decide +kernel
theorem dX5_init_46 : decode cX5_init 46 = .ok (.aload_n 0, 1) := by decide +kernel
theorem dX5_init_47 : decode cX5_init 47 = .ok (.iconst 3, 1) := by decide +kernel
theorem dX5_init_48 : decode cX5_init 48 = .ok (.newarray .long, 2) := by decide +kernel
theorem dX5_init_50 : decode cX5_init 50 = .ok (.putfield 28, 3) := by decide +kernel
theorem dX5_init_53 : decode cX5_init 53 = .ok (.aload_n 0, 1) := by decide +kernel
theorem dX5_init_54 : decode cX5_init 54 = .ok (.iconst 2, 1) := by decide +kernel
theorem dX5_init_55 : decode cX5_init 55 = .ok (.newarray .long, 2) := by decide +kernel
theorem dX5_init_57 : decode cX5_init 57 = .ok (.putfield 32, 3) := by decide +kernel
theorem dX5_init_60 : decode cX5_init 60 = .ok (.aload_n 0, 1) := by decide +kernel
theorem dX5_init_61 : decode cX5_init 61 = .ok (.bipush 25, 2) := by decide +kernel
theorem dX5_init_63 : decode cX5_init 63 = .ok (.newarray .int, 2) := by decide +kernel
theorem dX5_init_65 : decode cX5_init 65 = .ok (.putfield 35, 3) := by decide +kernel
theorem dX5_init_68 : decode cX5_init 68 = .ok (.aload_n 0, 1) := by decide +kernel
theorem dX5_init_69 : decode cX5_init 69 = .ok (.bipush 25, 2) := by decide +kernel
theorem dX5_init_71 : decode cX5_init 71 = .ok (.newarray .boolean, 2) := by decide +kernel
theorem dX5_init_73 : decode cX5_init 73 = .ok (.putfield 39, 3) := by decide +kernel
theorem dX5_init_76 : decode cX5_init 76 = .ok (.iconst 0, 1) := by decide +kernel
theorem dX5_init_77 : decode cX5_init 77 = .ok (.istore_n 1, 1) := by decide +kernel
theorem dX5_init_78 : decode cX5_init 78 = .ok (.iload_n 1, 1) := by decide +kernel
theorem dX5_init_79 : decode cX5_init 79 = .ok (.aload_n 0, 1) := by decide +kernel
theorem dX5_init_80 : decode cX5_init 80 = .ok (.getfield 11, 3) := by decide +kernel
theorem dX5_init_83 : decode cX5_init 83 = .ok (.arraylength, 1) := by decide +kernel
theorem dX5_init_84 : decode cX5_init 84 = .ok (.if_icmp .ge 22, 3) := by decide +kernel
theorem dX5_init_87 : decode cX5_init 87 = .ok (.aload_n 0, 1) := by decide +kernel
theorem dX5_init_88 : decode cX5_init 88 = .ok (.getfield 11, 3) := by decide +kernel
theorem dX5_init_91 : decode cX5_init 91 = .ok (.iload_n 1, 1) := by decide +kernel
theorem dX5_init_92 : decode cX5_init 92 = .ok (.new 9, 3) := by decide +kernel
theorem dX5_init_95 : decode cX5_init 95 = .ok (.dup, 1) := by decide +kernel
theorem dX5_init_96 : decode cX5_init 96 = .ok (.invokespecial 43, 3) := by decide +kernel
theorem dX5_init_99 : decode cX5_init 99 = .ok (.aastore, 1) := by decide +kernel
theorem dX5_init_100 : decode cX5_init 100 = .ok (.iinc 1 1, 3) := by decide +kernel
theorem dX5_init_103 : decode cX5_init 103 = .ok (.goto (-25), 3) := by decide +kernel
theorem dX5_init_106 : decode cX5_init 106 = .ok (.iconst 0, 1) := by decide +kernel
theorem dX5_init_107 : decode cX5_init 107 = .ok (.istore_n 1, 1) := by decide +kernel
theorem dX5_init_108 : decode cX5_init 108 = .ok (.iload_n 1, 1) := by decide +kernel
theorem dX5_init_109 : decode cX5_init 109 = .ok (.aload_n 0, 1) := by decide +kernel
theorem dX5_init_110 : decode cX5_init 110 = .ok (.getfield 28, 3) := by decide +kernel
theorem dX5_init_113 : decode cX5_init 113 = .ok (.arraylength, 1) := by decide +kernel
theorem dX5_init_114 : decode cX5_init 114 = .ok (.if_icmp .ge 20, 3) := by decide +kernel
theorem dX5_init_117 : decode cX5_init 117 = .ok (.aload_n 0, 1) := by decide +kernel
theorem dX5_init_118 : decode cX5_init 118 = .ok (.getfield 28, 3) := by decide +kernel
theorem dX5_init_121 : decode cX5_init 121 = .ok (.iload_n 1, 1) := by decide +kernel
theorem dX5_init_122 : decode cX5_init 122 = .ok (.aload_n 0, 1) := by decide +kernel
theorem dX5_init_123 : decode cX5_init 123 = .ok (.iload_n 1, 1) := by decide +kernel
theorem dX5_init_124 : decode cX5_init 124 = .ok (.invokevirtual 44, 3) := by decide +kernel
theorem dX5_init_127 : decode cX5_init 127 = .ok (.lastore, 1) := by decide +kernel
theorem dX5_init_128 : decode cX5_init 128 = .ok (.iinc 1 1, 3) := by decide +kernel
theorem dX5_init_131 : decode cX5_init 131 = .ok (.goto (-23), 3) := by decide +kernel
theorem dX5_init_134 : decode cX5_init 134 = .ok (.return_, 1) := by decide +kernel
set_option maxRecDepth 20000 in
theorem ggX5_ground_X5_needIndex : GoodIn wsX5_ground wsX5_needIndex := goodIn_ca (goodIn_r _ [11, 12, 13] (by decide +kernel) (by decide +kernel)) (goodIn_sub (fun _ h => List.mem_cons_of_mem _ (List.mem_append_left _ (List.mem_append_right _ h))) (by decide +kernel))
set_option maxRecDepth 20000 in
theorem gX5_ground_X5_needIndex : GoodIn wsX5_ground (va_wsS RX5 48 yX5_needIndex wsX5_needIndex) := goodIn_app (goodIn_of _ (by decide +kernel)) ggX5_ground_X5_needIndex
set_option maxRecDepth 20000 in
theorem ggX5_ground_X5_needRange : GoodIn wsX5_ground wsX5_needRange := goodIn_ca (goodIn_r _ [16, 17, 18] (by decide +kernel) (by decide +kernel)) (goodIn_sub (fun _ h => List.mem_cons_of_mem _ (List.mem_append_right _ h)) (by decide +kernel))
set_option maxRecDepth 20000 in
theorem gX5_ground_X5_needRange : GoodIn wsX5_ground (va_wsS RX5 52 yX5_needRange wsX5_needRange) := goodIn_app (goodIn_of _ (by decide +kernel)) ggX5_ground_X5_needRange
set_option maxRecDepth 20000 in
theorem ggX5_ground_X4_amount : GoodIn wsX5_ground wsX4_amount := goodIn_r _ [23, 24, 25, 26, 27, 28, 22, 29, 30, 31, 49, 50, 51, 52] (by decide +kernel) (by decide +kernel)
set_option maxRecDepth 20000 in
theorem gX5_ground_X4_amount : GoodIn wsX5_ground (wsV RX5 60 RX4 yX4_amount wsX4_amount) := goodIn_app (goodIn_of _ (by decide +kernel)) ggX5_ground_X4_amount
theorem dX5_ground_0 : decode cX5_ground 0 = .ok (.iload_n 1, 1) := by decide +kernel
theorem dX5_ground_1 : decode cX5_ground 1 = .ok (.bipush 25, 2) := by decide +kernel
theorem dX5_ground_3 : decode cX5_ground 3 = .ok (.invokestatic 48, 3) := by decide +kernel
theorem dX5_ground_6 : decode cX5_ground 6 = .ok (.iload_n 2, 1) := by decide +kernel
theorem dX5_ground_7 : decode cX5_ground 7 = .ok (.iconst 5, 1) := by decide +kernel
theorem dX5_ground_8 : decode cX5_ground 8 = .ok (.invokestatic 48, 3) := by decide +kernel
theorem dX5_ground_11 : decode cX5_ground 11 = .ok (.iload_n 3, 1) := by decide +kernel
theorem dX5_ground_12 : decode cX5_ground 12 = .ok (.iconst 0, 1) := by decide +kernel
theorem dX5_ground_13 : decode cX5_ground 13 = .ok (.bipush 9, 2) := by decide +kernel
theorem dX5_ground_15 : decode cX5_ground 15 = .ok (.invokestatic 52, 3) := by decide +kernel
theorem dX5_ground_18 : decode cX5_ground 18 = .ok (.iload 4, 2) := by decide +kernel
theorem dX5_ground_20 : decode cX5_ground 20 = .ok (.iconst 0, 1) := by decide +kernel
theorem dX5_ground_21 : decode cX5_ground 21 = .ok (.bipush 9, 2) := by decide +kernel
theorem dX5_ground_23 : decode cX5_ground 23 = .ok (.invokestatic 52, 3) := by decide +kernel
theorem dX5_ground_26 : decode cX5_ground 26 = .ok (.iload 5, 2) := by decide +kernel
theorem dX5_ground_28 : decode cX5_ground 28 = .ok (.sipush (-5000), 3) := by decide +kernel
theorem dX5_ground_31 : decode cX5_ground 31 = .ok (.sipush 30000, 3) := by decide +kernel
theorem dX5_ground_34 : decode cX5_ground 34 = .ok (.invokestatic 52, 3) := by decide +kernel
theorem dX5_ground_37 : decode cX5_ground 37 = .ok (.iload 6, 2) := by decide +kernel
theorem dX5_ground_39 : decode cX5_ground 39 = .ok (.iconst 0, 1) := by decide +kernel
theorem dX5_ground_40 : decode cX5_ground 40 = .ok (.sipush 1000, 3) := by decide +kernel
theorem dX5_ground_43 : decode cX5_ground 43 = .ok (.invokestatic 52, 3) := by decide +kernel
theorem dX5_ground_46 : decode cX5_ground 46 = .ok (.aload_n 0, 1) := by decide +kernel
theorem dX5_ground_47 : decode cX5_ground 47 = .ok (.getfield 11, 3) := by decide +kernel
theorem dX5_ground_50 : decode cX5_ground 50 = .ok (.iload_n 1, 1) := by decide +kernel
theorem dX5_ground_51 : decode cX5_ground 51 = .ok (.aaload, 1) := by decide +kernel
theorem dX5_ground_52 : decode cX5_ground 52 = .ok (.getfield 56, 3) := by decide +kernel
theorem dX5_ground_55 : decode cX5_ground 55 = .ok (.iload_n 2, 1) := by decide +kernel
theorem dX5_ground_56 : decode cX5_ground 56 = .ok (.aaload, 1) := by decide +kernel
theorem dX5_ground_57 : decode cX5_ground 57 = .ok (.astore 7, 2) := by decide +kernel
theorem dX5_ground_59 : decode cX5_ground 59 = .ok (.iconst 0, 1) := by decide +kernel
theorem dX5_ground_60 : decode cX5_ground 60 = .ok (.istore 8, 2) := by decide +kernel
theorem dX5_ground_62 : decode cX5_ground 62 = .ok (.iload 8, 2) := by decide +kernel
theorem dX5_ground_64 : decode cX5_ground 64 = .ok (.aload_n 0, 1) := by decide +kernel
theorem dX5_ground_65 : decode cX5_ground 65 = .ok (.getfield 28, 3) := by decide +kernel
theorem dX5_ground_68 : decode cX5_ground 68 = .ok (.arraylength, 1) := by decide +kernel
theorem dX5_ground_69 : decode cX5_ground 69 = .ok (.if_icmp .ge 27, 3) := by decide +kernel
theorem dX5_ground_72 : decode cX5_ground 72 = .ok (.aload_n 0, 1) := by decide +kernel
theorem dX5_ground_73 : decode cX5_ground 73 = .ok (.getfield 28, 3) := by decide +kernel
theorem dX5_ground_76 : decode cX5_ground 76 = .ok (.iload 8, 2) := by decide +kernel
theorem dX5_ground_78 : decode cX5_ground 78 = .ok (.dup2, 1) := by decide +kernel
theorem dX5_ground_79 : decode cX5_ground 79 = .ok (.laload, 1) := by decide +kernel
theorem dX5_ground_80 : decode cX5_ground 80 = .ok (.aload 7, 2) := by decide +kernel
theorem dX5_ground_82 : decode cX5_ground 82 = .ok (.iload 8, 2) := by decide +kernel
theorem dX5_ground_84 : decode cX5_ground 84 = .ok (.invokevirtual 60, 3) := by decide +kernel
theorem dX5_ground_87 : decode cX5_ground 87 = .ok (.i2l, 1) := by decide +kernel
theorem dX5_ground_88 : decode cX5_ground 88 = .ok (.lsub, 1) := by decide +kernel
theorem dX5_ground_89 : decode cX5_ground 89 = .ok (.lastore, 1) := by decide +kernel
theorem dX5_ground_90 : decode cX5_ground 90 = .ok (.iinc 8 1, 3) := by decide +kernel
theorem dX5_ground_93 : decode cX5_ground 93 = .ok (.goto (-31), 3) := by decide +kernel
theorem dX5_ground_96 : decode cX5_ground 96 = .ok (.aload 7, 2) := by decide +kernel
theorem dX5_ground_98 : decode cX5_ground 98 = .ok (.iload_n 3, 1) := by decide +kernel
theorem dX5_ground_99 : decode cX5_ground 99 = .ok (.putfield 66, 3) := by decide +kernel
theorem dX5_ground_102 : decode cX5_ground 102 = .ok (.aload 7, 2) := by decide +kernel
theorem dX5_ground_104 : decode cX5_ground 104 = .ok (.iload 4, 2) := by decide +kernel
theorem dX5_ground_106 : decode cX5_ground 106 = .ok (.putfield 70, 3) := by decide +kernel
theorem dX5_ground_109 : decode cX5_ground 109 = .ok (.aload 7, 2) := by decide +kernel
theorem dX5_ground_111 : decode cX5_ground 111 = .ok (.iload 5, 2) := by decide +kernel
theorem dX5_ground_113 : decode cX5_ground 113 = .ok (.putfield 73, 3) := by decide +kernel
theorem dX5_ground_116 : decode cX5_ground 116 = .ok (.aload 7, 2) := by decide +kernel
theorem dX5_ground_118 : decode cX5_ground 118 = .ok (.iload 6, 2) := by decide +kernel
theorem dX5_ground_120 : decode cX5_ground 120 = .ok (.putfield 76, 3) := by decide +kernel
theorem dX5_ground_123 : decode cX5_ground 123 = .ok (.iconst 0, 1) := by decide +kernel
theorem dX5_ground_124 : decode cX5_ground 124 = .ok (.istore 8, 2) := by decide +kernel
theorem dX5_ground_126 : decode cX5_ground 126 = .ok (.iload 8, 2) := by decide +kernel
theorem dX5_ground_128 : decode cX5_ground 128 = .ok (.aload_n 0, 1) := by decide +kernel
theorem dX5_ground_129 : decode cX5_ground 129 = .ok (.getfield 28, 3) := by decide +kernel
theorem dX5_ground_132 : decode cX5_ground 132 = .ok (.arraylength, 1) := by decide +kernel
theorem dX5_ground_133 : decode cX5_ground 133 = .ok (.if_icmp .ge 27, 3) := by decide +kernel
theorem dX5_ground_136 : decode cX5_ground 136 = .ok (.aload_n 0, 1) := by decide +kernel
theorem dX5_ground_137 : decode cX5_ground 137 = .ok (.getfield 28, 3) := by decide +kernel
theorem dX5_ground_140 : decode cX5_ground 140 = .ok (.iload 8, 2) := by decide +kernel
theorem dX5_ground_142 : decode cX5_ground 142 = .ok (.dup2, 1) := by decide +kernel
theorem dX5_ground_143 : decode cX5_ground 143 = .ok (.laload, 1) := by decide +kernel
theorem dX5_ground_144 : decode cX5_ground 144 = .ok (.aload 7, 2) := by decide +kernel
theorem dX5_ground_146 : decode cX5_ground 146 = .ok (.iload 8, 2) := by decide +kernel
theorem dX5_ground_148 : decode cX5_ground 148 = .ok (.invokevirtual 60, 3) := by decide +kernel
theorem dX5_ground_151 : decode cX5_ground 151 = .ok (.i2l, 1) := by decide +kernel
theorem dX5_ground_152 : decode cX5_ground 152 = .ok (.ladd, 1) := by decide +kernel
theorem dX5_ground_153 : decode cX5_ground 153 = .ok (.lastore, 1) := by decide +kernel
theorem dX5_ground_154 : decode cX5_ground 154 = .ok (.iinc 8 1, 3) := by decide +kernel
theorem dX5_ground_157 : decode cX5_ground 157 = .ok (.goto (-31), 3) := by decide +kernel
theorem dX5_ground_160 : decode cX5_ground 160 = .ok (.return_, 1) := by decide +kernel
set_option maxRecDepth 20000 in
theorem ggX5_moss_X5_needIndex : GoodIn wsX5_moss wsX5_needIndex := goodIn_ca (goodIn_r _ [6, 7, 8] (by decide +kernel) (by decide +kernel)) (goodIn_sub (fun _ h => List.mem_cons_of_mem _ (List.mem_append_left _ (List.mem_append_right _ h))) (by decide +kernel))
set_option maxRecDepth 20000 in
theorem gX5_moss_X5_needIndex : GoodIn wsX5_moss (va_wsS RX5 48 yX5_needIndex wsX5_needIndex) := goodIn_app (goodIn_of _ (by decide +kernel)) ggX5_moss_X5_needIndex
set_option maxRecDepth 20000 in
theorem ggX5_moss_X5_needRange : GoodIn wsX5_moss wsX5_needRange := goodIn_ca (goodIn_r _ [11, 12, 13] (by decide +kernel) (by decide +kernel)) (goodIn_sub (fun _ h => List.mem_cons_of_mem _ (List.mem_append_right _ h)) (by decide +kernel))
set_option maxRecDepth 20000 in
theorem gX5_moss_X5_needRange : GoodIn wsX5_moss (va_wsS RX5 52 yX5_needRange wsX5_needRange) := goodIn_app (goodIn_of _ (by decide +kernel)) ggX5_moss_X5_needRange
theorem dX5_moss_0 : decode cX5_moss 0 = .ok (.iload_n 1, 1) := by decide +kernel
theorem dX5_moss_1 : decode cX5_moss 1 = .ok (.bipush 25, 2) := by decide +kernel
theorem dX5_moss_3 : decode cX5_moss 3 = .ok (.invokestatic 48, 3) := by decide +kernel
theorem dX5_moss_6 : decode cX5_moss 6 = .ok (.iload_n 2, 1) := by decide +kernel
theorem dX5_moss_7 : decode cX5_moss 7 = .ok (.iconst 0, 1) := by decide +kernel
theorem dX5_moss_8 : decode cX5_moss 8 = .ok (.iconst 3, 1) := by decide +kernel
theorem dX5_moss_9 : decode cX5_moss 9 = .ok (.invokestatic 52, 3) := by decide +kernel
theorem dX5_moss_12 : decode cX5_moss 12 = .ok (.aload_n 0, 1) := by decide +kernel
theorem dX5_moss_13 : decode cX5_moss 13 = .ok (.getfield 11, 3) := by decide +kernel
theorem dX5_moss_16 : decode cX5_moss 16 = .ok (.iload_n 1, 1) := by decide +kernel
theorem dX5_moss_17 : decode cX5_moss 17 = .ok (.aaload, 1) := by decide +kernel
theorem dX5_moss_18 : decode cX5_moss 18 = .ok (.getfield 79, 3) := by decide +kernel
theorem dX5_moss_21 : decode cX5_moss 21 = .ok (.istore_n 3, 1) := by decide +kernel
theorem dX5_moss_22 : decode cX5_moss 22 = .ok (.aload_n 0, 1) := by decide +kernel
theorem dX5_moss_23 : decode cX5_moss 23 = .ok (.getfield 11, 3) := by decide +kernel
theorem dX5_moss_26 : decode cX5_moss 26 = .ok (.iload_n 1, 1) := by decide +kernel
theorem dX5_moss_27 : decode cX5_moss 27 = .ok (.aaload, 1) := by decide +kernel
theorem dX5_moss_28 : decode cX5_moss 28 = .ok (.iload_n 2, 1) := by decide +kernel
theorem dX5_moss_29 : decode cX5_moss 29 = .ok (.putfield 79, 3) := by decide +kernel
theorem dX5_moss_32 : decode cX5_moss 32 = .ok (.iload_n 3, 1) := by decide +kernel
theorem dX5_moss_33 : decode cX5_moss 33 = .ok (.ireturn, 1) := by decide +kernel
set_option maxRecDepth 20000 in
theorem ggX5_pass_X5_needRange : GoodIn wsX5_pass wsX5_needRange := goodIn_ca (goodIn_r _ [5, 6, 7] (by decide +kernel) (by decide +kernel)) (goodIn_sub (fun _ h => List.mem_cons_of_mem _ (List.mem_append_left _ (List.mem_append_right _ h))) (by decide +kernel))
set_option maxRecDepth 20000 in
theorem gX5_pass_X5_needRange : GoodIn wsX5_pass (va_wsS RX5 52 yX5_needRange wsX5_needRange) := goodIn_app (goodIn_of _ (by decide +kernel)) ggX5_pass_X5_needRange
set_option maxRecDepth 20000 in
theorem ggX5_pass_X5_needState : GoodIn wsX5_pass wsX5_needState := goodIn_ca (goodIn_r _ [10, 11, 12] (by decide +kernel) (by decide +kernel)) (goodIn_sub (fun _ h => List.mem_cons_of_mem _ (List.mem_append_right _ h)) (by decide +kernel))
set_option maxRecDepth 20000 in
theorem gX5_pass_X5_needState : GoodIn wsX5_pass (va_wsS RX5 85 yX5_needState wsX5_needState) := goodIn_app (goodIn_of _ (by decide +kernel)) ggX5_pass_X5_needState
set_option maxRecDepth 20000 in
theorem ggX5_pass_X5_passOneMonth : GoodIn wsX5_pass wsX5_passOneMonth := goodIn_r _ [16, 1, 17, 18, 19, 4, 20, 21, 22, 23, 24, 25, 26, 27, 28, 29, 30, 31, 32, 33, 34, 35, 36, 37, 38, 39, 40, 41, 42, 43, 44, 45, 46, 47, 48, 49, 50, 51, 52, 53, 54, 55, 56, 57, 58, 59, 60, 61, 62, 63, 64, 65, 66, 67, 68, 69, 70, 71, 72, 73, 74, 75, 76, 77, 78, 79, 80, 81, 82, 83, 84, 85, 86, 87, 88, 89, 90, 91, 92, 93, 94, 95, 96, 97, 98, 99, 100, 101, 102, 103, 104, 105, 106, 107, 108, 109, 110, 111, 112, 113, 114, 115, 116, 117, 118, 119, 120, 121, 122, 123, 124, 125, 126, 127, 128, 129, 130, 131, 132, 133, 134, 135, 136, 137, 138, 139, 140, 141, 142, 143, 144, 145, 146, 147, 148, 149, 150, 151, 152, 153, 154, 155, 156, 157, 158, 159, 160, 161, 162, 163, 164, 165, 166, 167, 168, 169, 170, 171, 172, 173, 174, 175, 176, 177, 178, 179, 180, 181, 182, 183, 184, 185, 186, 187, 188, 189, 190, 191, 192, 193, 194, 195, 196, 197, 198, 199, 200, 201, 202, 203, 204, 205, 206, 207, 208, 209, 210, 211, 212, 213, 214, 215, 216, 217, 218, 219, 220, 221, 222, 223, 224, 225] (by decide +kernel) (by decide +kernel)
set_option maxRecDepth 20000 in
theorem gX5_pass_X5_passOneMonth : GoodIn wsX5_pass (wsV RX5 89 RX5 yX5_passOneMonth wsX5_passOneMonth) := goodIn_app (goodIn_of _ (by decide +kernel)) ggX5_pass_X5_passOneMonth
